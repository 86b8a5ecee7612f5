import java.util.List;

/** What calls that return leave and what they alter, of the whole state. */
public final class StateTest {
    private static final List<Snapshot.Recipe> ENGINES =
            List.of(Engines::some, Engines::complete, Engines::full);

    public static void main(String[] args) {
        questions();
        questionsOfAComplete();
        changes();
        changesWithoutADifference();
        others();
        undoAndRestore();
        lastCall();
        Check.end("StateTest");
    }

    private static void alters(String what, Snapshot.Recipe recipe, String due, Snapshot.Change change) {
        Check.is(what, Snapshot.after(recipe, change).differences(Snapshot.of(recipe)), due);
    }

    private static void asks(String what, Snapshot.Change question) {
        for (Snapshot.Recipe recipe : ENGINES) {
            alters(what + ", engine " + ENGINES.indexOf(recipe), recipe, "", question);
        }
    }

    private static void questions() {
        Check.sentence("Methods whose documentation does not mention a change only answer a question.");
        asks("8: ruleCount", PolicyEngine::ruleCount);
        asks("9: rule", x -> x.rule(0, 2));
        asks("10: condition", x -> x.condition(x.ruleCount() - 1, 3, 2));
        asks("14: grantCount", x -> x.grantCount(true));
        asks("14: grantCount of all", x -> x.grantCount(false));
        asks("15: grantAt", x -> x.grantAt(x.grantCount(false) - 1, 4));
        asks("16: policies", x -> x.policies(4));
        asks("17: chainLength", x -> x.chainLength(0, 1));
        asks("18: chain", x -> x.chain(0, 1, 0));
        alters("17: chainLength of another", Engines::some, "", x -> x.chainLength(4, 1));
        alters("18: chain of another", Engines::some, "", x -> x.chain(4, 1, 1));
        alters("19: lastsUntil", Engines::some, "", x -> x.lastsUntil(4, 1));
        asks("23: unknown", PolicyEngine::unknown);
        asks("24: applies", x -> x.applies(1));
        alters("25: failing", Engines::complete, "", x -> x.failing(4));
        asks("32: extent", x -> x.extent(0));
        asks("33: overlap", x -> x.overlap(0, 1));
        asks("34: covers", x -> x.covers(1, 0));
        asks("35: clashes", x -> x.clashes(0));
        asks("36: neverDeciding", x -> x.neverDeciding(0));
        alters("37: witness", Engines::some, "", x -> x.witness(2, 5));
        alters("38: blocker", StateTest::blocked, "", x -> Check.is("38: blocker", x.blocker(1), 5));
        asks("39: auditCount", PolicyEngine::auditCount);
        asks("40: audit", x -> x.audit(1, 3));
        asks("41: permitShare", PolicyEngine::permitShare);
        alters("45: errorPosition", Engines::some, "", PolicyEngine::errorPosition);
        asks("46: describe", x -> x.describe(0, 0));
        asks("46: describe, length", x -> x.describe(0, -1));
    }

    private static PolicyEngine blocked() {
        PolicyEngine x = Engines.some();
        x.addRule(0, true, 9);
        return x;
    }

    private static void questionsOfAComplete() {
        alters("27: decidingRule", Engines::complete, "", PolicyEngine::decidingRule);
        for (int policy = 0; policy < 4; policy++) {
            int each = policy;
            alters("28: policyDecision", Engines::complete, "", x -> x.policyDecision(each));
        }
        alters("29: possible", Engines::complete, "", PolicyEngine::possible);
        Snapshot.Recipe three = () -> {
            PolicyEngine x = Engines.complete();
            Check.request(x, -1, 3, -1, 4, 0, -1);
            return x;
        };
        alters("29: possible with three unknown", three, "", PolicyEngine::possible);
        for (int decision = 0; decision < 4; decision++) {
            int each = decision;
            alters("30: completions", three, "", x -> x.completions(each));
            for (int attribute = 0; attribute < 6; attribute++) {
                int other = attribute;
                alters("31: valuesFor", Engines::complete, "", x -> x.valuesFor(other, each));
            }
            alters("31: valuesFor with three unknown", three, "", x -> x.valuesFor(5, each));
        }
    }

    private static void changes() {
        Check.sentence("A change is a call of addRule, addCondition, removeRule, setPriority, setWay, setTopWay, "
                + "specialize, grant, revoke or read that returns without an exception.");
        alters("2: addRule", Engines::some, "history rules", x -> x.addRule(3, true, 0));
        alters("3: addCondition", Engines::some, "history rules", x -> x.addCondition(0, 5, 4, 1));
        alters("4: removeRule", Engines::some, "history rules", x -> x.removeRule(4));
        alters("5: setPriority", Engines::some, "history rules", x -> x.setPriority(0, 7));
        alters("6: setWay", Engines::some, "history ways", x -> x.setWay(0, 3));
        alters("7: setTopWay", Engines::some, "history ways", x -> x.setTopWay(3));
        alters("11: specialize", Engines::some, "history rules", x -> x.specialize(1, 9));
        alters("12: grant", Engines::some, "grants history", x -> x.grant(0, 5, 0, 0, 0));
        alters("12: grant in place", Engines::some, "grants history", x -> x.grant(0, 4, 1, 0, 0));
        alters("13: revoke", Engines::some, "grants history", x -> x.revoke(0, 7, 3));
        alters("44: read", Engines::some, "history input rules", PolicyEngine::read);
        alters("4: removeRule of 24", Engines::full, "history rules", x -> x.removeRule(0));
        alters("13: revoke of 30", Engines::full, "grants history", x -> x.revoke(0, 9, 0));
    }

    private static void changesWithoutADifference() {
        Check.sentence("A call that is named under History is a change also if nothing is different then.");
        alters("5: the same priority", Engines::some, "history", x -> x.setPriority(0, 6));
        alters("6: the same way", Engines::some, "history", x -> x.setWay(1, 2));
        alters("7: the same top way", Engines::some, "history", x -> x.setTopWay(2));
        alters("11: a value that all rules allow", Engines::full, "history", x -> x.specialize(5, 0));
        alters("12: the same grant", Engines::some, "history", x -> x.grant(0, 4, 1, 2, 50));
        PolicyEngine x = new PolicyEngine();
        x.setWay(0, 0);
        x.setTopWay(0);
        x.specialize(0, 0);
        x.addRule(0, false, 0);
        x.setPriority(0, 0);
        x.grant(0, 1, 0, 0, 0);
        x.grant(0, 1, 0, 0, 0);
        for (int left = 6; left >= 0; left--) {
            Check.is("47: each of seven was a change", x.undo(), left);
            Check.is("47: the grant, with " + left + " left", x.grantCount(false), left > 5 ? 1 : 0);
            Check.is("47: the rule, with " + left + " left", x.ruleCount(), left > 3 ? 1 : 0);
        }
        Check.fails("47: no more", Check.ELEMENT, x::undo);
    }

    /** Calls that alter something, but are no changes. */
    private static void others() {
        Check.sentence("Methods whose documentation does not mention a change only answer a question.");
        alters("20: tick", Engines::some, "clock", x -> x.tick(1));
        alters("20: tick, when all grants expire", Engines::some, "clock", x -> {
            for (int number = 0; number < 19; number++) {
                x.tick(100);
            }
        });
        alters("21: setSubject", Engines::some, "subject", x -> x.setSubject(6));
        alters("21: the same subject", Engines::some, "", x -> x.setSubject(4));
        alters("22: setValue", Engines::some, "values", x -> x.setValue(2, 0));
        alters("22: no value", Engines::some, "values", x -> x.setValue(0, -1));
        alters("22: the same value", Engines::some, "", x -> x.setValue(0, 1));
        alters("26: decide", Engines::complete, "audit", PolicyEngine::decide);
        alters("42: clearAudit", Engines::some, "audit", PolicyEngine::clearAudit);
        alters("42: clearAudit of 30", Engines::full, "audit", PolicyEngine::clearAudit);
        alters("43: append", Engines::some, "input", x -> x.append('x'));
        alters("48: save", Engines::some, "saved", PolicyEngine::save);
        alters("48: save of the first", Engines::full, "saved", PolicyEngine::save);
    }

    private static void undoAndRestore() {
        Check.sentence("undo and restore leave the clock, the request, the audit, the input and the error position; "
                + "undo also leaves what was saved.");
        alters("47: undo of setTopWay", Engines::some, "history ways", PolicyEngine::undo);
        alters("47: undo of all", Engines::some, "grants history rules ways", x -> {
            for (int number = 0; number < 8; number++) {
                x.undo();
            }
        });
        alters("47: undo of a grant", Engines::full, "grants history", PolicyEngine::undo);
        alters("49: restore", Engines::some, "grants history rules ways", PolicyEngine::restore);
        alters("49: restore twice", Engines::some, "grants history rules ways", x -> {
            x.restore();
            x.restore();
        });
    }

    private static void lastCall() {
        Check.sentence("An object is used for at most 512 calls after it has been made");
        PolicyEngine x = new PolicyEngine();
        for (int call = 1; call < 503; call++) {
            x.setTopWay(call % 4);
        }
        for (int left = 7; left >= 0; left--) {
            Check.is("47: after 502 changes", x.undo(), left);
        }
        Check.fails("47: call 511", Check.ELEMENT, x::undo);
        Check.is("7: call 512", x.setTopWay(0), 494 % 4);
        PolicyEngine y = new PolicyEngine();
        Check.request(y, 0, 0, 0, 0, 0, 0);
        for (int call = 7; call < 512; call++) {
            y.decide();
        }
        Check.is("39: call 512", y.auditCount(), 30);
    }
}
