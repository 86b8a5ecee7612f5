/** Promises 39 to 42: the audit. */
public final class AuditTest {
    public static void main(String[] args) {
        auditCount();
        audit();
        permitShare();
        clearAudit();
        Check.end("AuditTest");
    }

    private static PolicyEngine decided(int decisions) {
        PolicyEngine x = Check.engine("0+a<10:5;0-a>10:5;");
        Check.request(x, 0, 0, 0, 0, 0, 0);
        for (int number = 0; number < decisions; number++) {
            x.setValue(0, number % 16);
            x.decide();
            x.tick(1);
        }
        return x;
    }

    private static void auditCount() {
        Check.is("39: none", decided(0).auditCount(), 0);
        Check.is("39: one", decided(1).auditCount(), 1);
        Check.is("39: 30", decided(30).auditCount(), 30);
        Check.is("39: no more than 30", decided(31).auditCount(), 30);
    }

    private static void audit() {
        PolicyEngine x = decided(30);
        Check.is("40: the oldest", x.audit(0, 0), 0);
        Check.is("40: the newest", x.audit(29, 0), 29);
        PolicyEngine y = decided(37);
        Check.is("40: the oldest of the last 30", y.audit(0, 0), 7);
        Check.is("40: its decision", y.audit(3, 2), 1);
        Check.is("40: its rule", y.audit(3, 3), 1);
        Check.is("40: the newest of them", y.audit(29, 0), 36);
        Check.is("40: the decision of the newest", y.audit(29, 2), 0);
        y.setSubject(8);
        y.decide();
        Check.is("40: subject", y.audit(29, 1), 8);
        Check.is("40: none", y.audit(29, 2), 2);
        Check.is("40: no rule", y.audit(29, 3), -1);
        y.removeRule(0);
        Check.is("40: numbers as they were, of a removed rule", y.audit(1, 3), 0);
        Check.is("40: numbers as they were, of a later rule", y.audit(2, 3), 1);
        Check.fails("40: index 30", Check.INDEX, () -> y.audit(30, 4));
        Check.fails("40: index -1", Check.INDEX, () -> y.audit(-1, 0));
        Check.fails("40: what 4", Check.ARGUMENT, () -> y.audit(29, 4));
        Check.fails("40: what -1", Check.ARGUMENT, () -> y.audit(29, -1));
        Check.fails("40: empty", Check.INDEX, () -> new PolicyEngine().audit(0, 0));
    }

    private static void permitShare() {
        Check.fails("41: empty", Check.ARITHMETIC, () -> new PolicyEngine().permitShare());
        Check.is("41: all", decided(10).permitShare(), 1.0);
        Check.is("41: 10 of 11", decided(11).permitShare(), 10.0 / 11.0);
        PolicyEngine x = decided(3);
        x.setSubject(1);
        x.decide();
        Check.is("41: none is no permit", x.permitShare(), 0.75);
        x.clearAudit();
        Check.fails("41: empty again", Check.ARITHMETIC, x::permitShare);
        x.decide();
        Check.is("41: no permit", x.permitShare(), 0.0);
    }

    private static void clearAudit() {
        PolicyEngine x = decided(33);
        Check.is("42: 30", x.clearAudit(), 30);
        Check.is("42: empty", x.auditCount(), 0);
        Check.is("42: nothing", x.clearAudit(), 0);
        Check.fails("42: gone", Check.INDEX, () -> x.audit(0, 0));
        x.decide();
        Check.is("42: from its start", x.audit(0, 0), 33);
    }
}
