/** Promises 47 to 49: undo, save and restore. */
public final class HistoryTest {
    public static void main(String[] args) {
        undo();
        undoEachChange();
        undoForgets();
        undoLeaves();
        save();
        restore();
        Check.end("HistoryTest");
    }

    /** The rules, ways and grants, as far as calls tell them without changes. */
    private static String shape(PolicyEngine x) {
        StringBuilder text = new StringBuilder(Check.texts(x)).append('|').append(Check.grants(x)).append('|');
        return text.append(ways(x)).toString();
    }

    /** Ways are told by what they decide, so that asking is no change. */
    private static String ways(PolicyEngine x) {
        StringBuilder text = new StringBuilder();
        for (int policy = 0; policy < 4; policy++) {
            text.append(x.policyDecision(policy));
        }
        return text.append(x.completions(0)).append(x.completions(1)).append(x.completions(3)).toString();
    }

    private static void undo() {
        PolicyEngine x = new PolicyEngine();
        Check.fails("47: nothing", Check.ELEMENT, x::undo);
        x.addRule(0, true, 1);
        x.addRule(1, true, 1);
        Check.is("47: one left", x.undo(), 1);
        Check.is("47: one rule", x.ruleCount(), 1);
        Check.is("47: none left", x.undo(), 0);
        Check.is("47: no rule", x.ruleCount(), 0);
        Check.fails("47: nothing any more", Check.ELEMENT, x::undo);
        for (int rule = 0; rule < 12; rule++) {
            x.addRule(0, false, rule % 10);
        }
        for (int left = 7; left >= 0; left--) {
            Check.is("47: left " + left, x.undo(), left);
            Check.is("47: rules with " + left, x.ruleCount(), 4 + left);
        }
        Check.fails("47: only eight", Check.ELEMENT, x::undo);
        Check.is("47: four rules stay", Check.texts(x), "0+:0;0+:1;0+:2;0+:3;");
    }

    private interface Change {
        void make(PolicyEngine x);
    }

    private static PolicyEngine full() {
        PolicyEngine x = Check.engine("0+a=1:5;0-a=1:4;1+a=1:5;1-a=1:6;2-a#0&b<9:7;");
        Check.request(x, 1, 2, 3, 4, 5, 6);
        x.grant(0, 4, 1, 2, 50);
        x.grant(4, 6, 1, 2, 50);
        return x;
    }

    private static void undone(String what, Change change) {
        PolicyEngine x = full();
        String before = shape(x);
        change.make(x);
        String after = shape(x);
        Check.is("47: there is a change by " + what, before.equals(after), false);
        Check.is("47: remembered after " + what, x.undo(), 3);
        Check.is("47: undone " + what, shape(x), before);
        x.undo();
        Check.is("47: and the one before " + what, x.grantCount(false), 1);
    }

    private static void undoEachChange() {
        undone("addRule", x -> x.addRule(3, true, 3));
        undone("addCondition", x -> x.addCondition(4, 5, 4, 77));
        undone("removeRule", x -> x.removeRule(0));
        undone("setPriority", x -> x.setPriority(1, 9));
        undone("setWay", x -> x.setWay(1, 1));
        undone("setTopWay", x -> x.setTopWay(3));
        undone("specialize", x -> x.specialize(1, 8));
        undone("grant", x -> x.grant(0, 4, 1, 3, 60));
        undone("revoke", x -> x.revoke(0, 4, 1));
        undone("read", x -> {
            Check.type(x, "3+:1;3-:2;");
            x.read();
        });
        // A change is one also if nothing is different then.
        PolicyEngine x = full();
        x.setWay(0, 0);
        x.setTopWay(0);
        x.setPriority(0, 5);
        x.specialize(5, 0);
        x.grant(0, 4, 1, 2, 50);
        Check.is("47: changes without a difference", x.undo(), 7);
        Check.is("47: grants stay", x.grantCount(false), 2);
    }

    private static void undoForgets() {
        PolicyEngine x = full();
        Check.fails("47: addRule", Check.ARGUMENT, () -> x.addRule(0, true, 10));
        Check.fails("47: addCondition", Check.ARGUMENT, () -> x.addCondition(0, 0, 0, 16));
        Check.fails("47: removeRule", Check.INDEX, () -> x.removeRule(5));
        Check.fails("47: setPriority", Check.ARGUMENT, () -> x.setPriority(0, 10));
        Check.fails("47: setWay", Check.ARGUMENT, () -> x.setWay(0, 4));
        Check.fails("47: setTopWay", Check.ARGUMENT, () -> x.setTopWay(4));
        Check.fails("47: specialize", Check.ARGUMENT, () -> x.specialize(0, 16));
        Check.fails("47: grant", Check.ARGUMENT, () -> x.grant(0, 0, 0, 0, 0));
        Check.fails("47: revoke", Check.ELEMENT, () -> x.revoke(0, 0, 0));
        Check.fails("47: read", Check.ARGUMENT, x::read);
        x.setSubject(1);
        x.setValue(0, 3);
        x.tick(1);
        x.decide();
        x.clearAudit();
        x.append('0');
        x.save();
        Check.is("47: none of these is a change", x.undo(), 2);
        Check.is("47: the last grant is undone", x.grantCount(false), 1);
    }

    private static void undoLeaves() {
        PolicyEngine x = full();
        x.tick(7);
        x.setSubject(4);
        x.setValue(3, 12);
        x.decide();
        Check.fails("47: an error", Check.ARGUMENT, x::read);
        x.append('0');
        x.undo();
        x.undo();
        Check.is("47: subject", x.setSubject(4), 4);
        Check.is("47: value", x.setValue(3, 12), 12);
        Check.is("47: audit", x.auditCount(), 1);
        Check.is("47: input", x.append('+'), 2);
        Check.is("47: error position", x.errorPosition(), 0);
        x.decide();
        Check.is("47: clock", x.audit(1, 0), 7);
    }

    private static void save() {
        PolicyEngine x = full();
        Check.is("48: five rules", x.save(), 5);
        x.removeRule(0);
        Check.is("48: four rules", x.save(), 4);
        String before = shape(x);
        x.addRule(3, false, 0);
        x.setWay(0, 3);
        x.setTopWay(3);
        x.revoke(0, 4, 1);
        x.restore();
        Check.is("48: the last one saved", shape(x), before);
        Check.is("48: nothing", new PolicyEngine().save(), 0);
    }

    private static void restore() {
        PolicyEngine x = full();
        Check.fails("49: nothing saved", Check.STATE, x::restore);
        Check.is("49: changes are still remembered", x.undo(), 2);
        x.save();
        String before = shape(x);
        for (int time = 0; time < 2; time++) {
            x.addRule(2, true, 2);
            x.setWay(1, 3);
            x.setTopWay(3);
            x.grant(0, 7, 2, 2, 2);
            x.undo();
            x.tick(3);
            x.setValue(4, 2);
            x.setSubject(4);
            x.decide();
            x.append('0');
            Check.is("49: rules", x.restore(), 5);
            Check.fails("49: changes are forgotten", Check.ELEMENT, x::undo);
            Check.is("49: value stays", x.setValue(4, 5), 2);
            Check.is("49: subject stays", x.setSubject(0), 4);
            Check.is("49: audit stays", x.auditCount(), time + 1);
            Check.is("49: input stays", x.append('0'), 2 * time + 2);
            Check.is("49: restored", shape(x), before);
        }
        x.decide();
        Check.is("49: clock stays", x.audit(2, 0), 6);
        x.addRule(3, true, 3);
        Check.is("49: remembers again", x.undo(), 0);
        Check.is("49: undo leaves what was saved", x.restore(), 5);
        PolicyEngine y = new PolicyEngine();
        y.save();
        y.addRule(0, true, 0);
        Check.is("49: a state without rules", y.restore(), 0);
    }
}
