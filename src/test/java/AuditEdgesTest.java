/** The boundary cases of promises 39 to 42: a test for each sentence. */
public final class AuditEdgesTest {
    public static void main(String[] args) {
        lastThirty();
        counts();
        oldestFirst();
        numbersAsTheyWere();
        subjectsOfEntries();
        noRule();
        lastRule();
        onlyDecide();
        indexes();
        whats();
        shares();
        emptyShare();
        cleared();
        Check.end("AuditEdgesTest");
    }

    /** Policy 0 permits value 0 of attribute 0, denies 1, and knows no others; two rules meet at 3. */
    private static PolicyEngine engine() {
        PolicyEngine x = Check.engine("0+a=0:0;0-a=1:0;0+a=3:0;0+a=3:0;");
        x.setWay(0, 3);
        Check.request(x, 0, 0, 0, 0, 0, 0);
        return x;
    }

    private static void decide(PolicyEngine x, int value, int times) {
        x.setValue(0, value);
        for (int number = 0; number < times; number++) {
            x.decide();
        }
    }

    private static void lastThirty() {
        Check.sentence("The audit holds the last 30 decisions that decide made");
        PolicyEngine x = engine();
        for (int number = 0; number < 65; number++) {
            decide(x, 0, 1);
            x.tick(1);
            int count = Math.min(30, number + 1);
            Check.is("39: after " + number, x.auditCount(), count);
            Check.is("40: the newest after " + number, x.audit(count - 1, 0), number);
            Check.is("40: the oldest after " + number, x.audit(0, 0), Math.max(0, number - 29));
        }
        for (int index = 0; index < 30; index++) {
            Check.is("40: entry " + index, x.audit(index, 0), 35 + index);
        }
    }

    private static void counts() {
        Check.sentence("Returns 0 to 30.");
        PolicyEngine x = engine();
        Check.is("39: none", x.auditCount(), 0);
        decide(x, 0, 29);
        Check.is("39: 29", x.auditCount(), 29);
        decide(x, 0, 1);
        Check.is("39: 30", x.auditCount(), 30);
        decide(x, 0, 1);
        Check.is("39: 30 of 31", x.auditCount(), 30);
        decide(x, 0, 100);
        Check.is("39: 30 of 131", x.auditCount(), 30);
    }

    private static void oldestFirst() {
        Check.sentence("The audit tells its oldest entry first");
        PolicyEngine x = engine();
        decide(x, 0, 1);
        decide(x, 1, 1);
        decide(x, 2, 1);
        decide(x, 3, 1);
        int[][] due = {{0, 0}, {1, 1}, {2, -1}, {3, -1}};
        for (int index = 0; index < 4; index++) {
            Check.is("40: decision " + index, x.audit(index, 2), due[index][0]);
            Check.is("40: rule " + index, x.audit(index, 3), due[index][1]);
        }
        decide(x, 0, 26);
        Check.is("40: the oldest of 30", x.audit(1, 2), 1);
        decide(x, 1, 1);
        Check.is("40: the oldest of 31 is gone", x.audit(0, 2), 1);
        Check.is("40: the newest", x.audit(29, 2), 1);
        Check.is("40: the one before it", x.audit(28, 2), 0);
    }

    private static void numbersAsTheyWere() {
        Check.sentence("each with the numbers as they were then.");
        PolicyEngine x = engine();
        x.tick(5);
        decide(x, 1, 1);
        x.removeRule(0);
        decide(x, 1, 1);
        x.tick(100);
        x.setSubject(1);
        x.setWay(0, 0);
        x.specialize(0, 1);
        x.removeRule(0);
        Check.is("8: no rules", x.ruleCount(), 0);
        int[][] due = {{5, 0, 1, 1}, {5, 0, 1, 0}};
        for (int index = 0; index < 2; index++) {
            for (int what = 0; what < 4; what++) {
                Check.is("40: " + what + " of " + index, x.audit(index, what), due[index][what]);
            }
        }
    }

    private static void subjectsOfEntries() {
        Check.sentence("the clock, the subject, the decision, and the deciding rule");
        PolicyEngine x = engine();
        x.grant(0, 9, 0, 0, 1000);
        for (int subject = 9; subject >= 0; subject--) {
            x.setSubject(subject);
            decide(x, 0, 1);
            Check.is("40: subject " + subject, x.audit(9 - subject, 1), subject);
            Check.is("40: decision of " + subject, x.audit(9 - subject, 2), subject % 9 == 0 ? 0 : 2);
        }
        for (int number = 0; number < 20; number++) {
            x.tick(100);
        }
        x.decide();
        Check.is("40: the last clock", x.audit(10, 0), 2000);
        Check.is("40: the first clock", x.audit(9, 0), 0);
    }

    private static void noRule() {
        Check.sentence("or -1 if there was none.");
        PolicyEngine x = engine();
        decide(x, 2, 1);
        decide(x, 3, 1);
        decide(x, 0, 1);
        Check.is("40: none", x.audit(0, 3), -1);
        Check.is("40: conflict", x.audit(1, 3), -1);
        Check.is("40: permit by rule 0", x.audit(2, 3), 0);
        Check.is("40: it is none", x.audit(0, 2), 2);
        Check.is("40: it is a conflict", x.audit(1, 2), 3);
    }

    private static void lastRule() {
        Check.sentence("Makes the decision for the request, and puts it into the audit.");
        PolicyEngine x = new PolicyEngine();
        Check.request(x, 15, 15, 15, 15, 15, 15);
        for (int rule = 0; rule < 24; rule++) {
            x.addRule(3, true, rule / 3);
        }
        x.setPriority(23, 9);
        Check.is("26: deny", x.decide(), 1);
        Check.is("40: rule 23", x.audit(0, 3), 23);
        Check.is("27: rule 23", x.decidingRule(), 23);
    }

    private static void onlyDecide() {
        Check.sentence("decisions that decide made");
        PolicyEngine x = engine();
        x.decidingRule();
        x.policyDecision(0);
        x.possible();
        x.completions(0);
        x.valuesFor(0, 0);
        Check.is("39: no other calls", x.auditCount(), 0);
        x.setValue(0, -1);
        Check.fails("26: not complete", Check.STATE, x::decide);
        Check.is("39: no refused ones", x.auditCount(), 0);
    }

    private static void indexes() {
        Check.sentence("if there is no such decision");
        PolicyEngine x = engine();
        Check.fails("40: 0 of none", Check.INDEX, () -> x.audit(0, 0));
        Check.fails("40: -1 of none", Check.INDEX, () -> x.audit(-1, 0));
        for (int count = 1; count <= 32; count++) {
            decide(x, 0, 1);
            int behind = Math.min(30, count);
            Check.is("40: the last of " + count, x.audit(behind - 1, 2), 0);
            Check.fails("40: behind the last of " + count, Check.INDEX, () -> x.audit(behind, 0));
            Check.fails("40: -1 of " + count, Check.INDEX, () -> x.audit(-1, 0));
        }
    }

    private static void whats() {
        Check.sentence("0 for the clock, 1 for the subject, 2 for the decision, 3 for the deciding rule");
        PolicyEngine x = engine();
        x.grant(0, 4, 0, 0, 50);
        x.tick(6);
        x.setSubject(4);
        decide(x, 1, 1);
        x.setPriority(0, 9);
        x.setValue(0, 0);
        int[] due = {6, 4, 1, 1};
        for (int what = 0; what < 4; what++) {
            Check.is("40: " + what, x.audit(0, what), due[what]);
        }
        Check.fails("40: -1", Check.ARGUMENT, () -> x.audit(0, -1));
        Check.fails("40: 4", Check.ARGUMENT, () -> x.audit(0, 4));
        Check.fails("40: no decision, before 4", Check.INDEX, () -> x.audit(1, 4));
    }

    private static void shares() {
        Check.sentence("their number divided by the number of decisions in it, both converted to double.");
        PolicyEngine x = engine();
        decide(x, 0, 1);
        Check.is("41: one of one", x.permitShare(), 1.0);
        decide(x, 1, 1);
        Check.is("41: one of two", x.permitShare(), 0.5);
        decide(x, 2, 1);
        Check.is("41: one of three", x.permitShare(), 1.0 / 3.0);
        decide(x, 3, 1);
        Check.is("41: a conflict is no permit", x.permitShare(), 0.25);
        decide(x, 0, 26);
        Check.is("41: 27 of 30", x.permitShare(), 27.0 / 30.0);
        decide(x, 1, 1);
        Check.is("41: 26 of the last 30", x.permitShare(), 26.0 / 30.0);
        decide(x, 2, 30);
        Check.is("41: none of 30", x.permitShare(), 0.0);
        decide(x, 0, 30);
        Check.is("41: 30 of 30", x.permitShare(), 1.0);
    }

    private static void emptyShare() {
        Check.sentence("if the audit is empty");
        PolicyEngine x = engine();
        Check.fails("41: at first", Check.ARITHMETIC, x::permitShare);
        decide(x, 1, 1);
        Check.is("41: a deny", x.permitShare(), 0.0);
        x.clearAudit();
        Check.fails("41: cleared", Check.ARITHMETIC, x::permitShare);
        decide(x, 0, 1);
        Check.is("41: a permit", x.permitShare(), 1.0);
    }

    private static void cleared() {
        Check.sentence("Returns the number of decisions that it had.");
        PolicyEngine x = engine();
        Check.is("42: none", x.clearAudit(), 0);
        decide(x, 0, 1);
        Check.is("42: one", x.clearAudit(), 1);
        Check.is("42: none again", x.clearAudit(), 0);
        Check.is("39: empty", x.auditCount(), 0);
        decide(x, 0, 30);
        Check.is("42: 30", x.clearAudit(), 30);
        decide(x, 0, 31);
        Check.is("42: 30 of 31", x.clearAudit(), 30);
        Check.fails("40: nothing there", Check.INDEX, () -> x.audit(0, 0));
        decide(x, 1, 1);
        Check.is("40: the first of the new ones", x.audit(0, 2), 1);
        Check.is("39: one", x.auditCount(), 1);
    }
}
