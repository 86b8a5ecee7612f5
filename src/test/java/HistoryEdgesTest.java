/** The boundary cases of undo, save and restore, promises 47 to 49: a test for each sentence. */
public final class HistoryEdgesTest {
    public static void main(String[] args) {
        eightChanges();
        nineChanges();
        manyChanges();
        eachKindOfChange();
        waysRemembered();
        grantsRemembered();
        fullStates();
        refusedCallsAreNone();
        otherCallsAreNone();
        sameIsAChange();
        noChange();
        undoIsNoChange();
        returnsOfUndo();
        conditionsComeBack();
        undoLeaves();
        undoLeavesSaved();
        restoreForgets();
        staysSaved();
        replacedBySave();
        savedIsApart();
        savedEmpty();
        savedFull();
        restoreLeaves();
        nothingSaved();
        restoreOfAll();
        returnsOfSaveAndRestore();
        Check.end("HistoryEdgesTest");
    }

    private static void eightChanges() {
        Check.sentence("The object remembers the rules, the ways and the grants before the last 8 changes.");
        PolicyEngine x = new PolicyEngine();
        for (int rule = 0; rule < 8; rule++) {
            x.addRule(0, false, rule);
        }
        for (int left = 7; left >= 0; left--) {
            Check.is("47: left", x.undo(), left);
            Check.is("8: rules", x.ruleCount(), left);
        }
        Check.fails("47: a ninth", Check.ELEMENT, x::undo);
    }

    private static void nineChanges() {
        Check.sentence("before the last 8 changes.");
        PolicyEngine x = new PolicyEngine();
        for (int rule = 0; rule < 9; rule++) {
            x.addRule(0, false, rule);
        }
        for (int left = 7; left >= 0; left--) {
            Check.is("47: left", x.undo(), left);
            Check.is("8: rules", x.ruleCount(), left + 1);
        }
        Check.fails("47: the first is not remembered", Check.ELEMENT, x::undo);
        Check.is("46: it stays", Check.texts(x), "0+:0;");
    }

    private static void manyChanges() {
        Check.sentence("Undoes the latest change that is remembered.");
        PolicyEngine x = Check.engine("0+:0;");
        for (int number = 0; number < 100; number++) {
            x.setPriority(0, number % 10);
            if (number % 7 == 0) {
                x.undo();
                x.setPriority(0, number % 10);
            }
        }
        for (int left = 7; left >= 0; left--) {
            Check.is("47: left", x.undo(), left);
            Check.is("9: priority", x.rule(0, 2), (left + 1) % 10);
        }
        Check.fails("47: no more", Check.ELEMENT, x::undo);
    }

    private static void eachKindOfChange() {
        Check.sentence("A change is a call of addRule, addCondition, removeRule, setPriority, setWay, setTopWay, "
                + "specialize, grant, revoke or read that returns without an exception.");
        PolicyEngine x = new PolicyEngine();
        x.addRule(1, true, 3);
        x.addCondition(0, 2, 4, 5);
        x.addCondition(0, 3, 0, 5);
        x.setPriority(0, 8);
        Check.type(x, "0+f=1:1;2-:2;");
        x.read();
        x.specialize(3, 5);
        x.removeRule(1);
        x.removeRule(0);
        Check.is("46: at last", Check.texts(x), "2-:2;");
        String[] due = {"1-c{0,2}:8;2-:2;", "1-c{0,2}:8;0+f=1:1;2-:2;", "1-c{0,2}&d=5:8;0+f=1:1;2-:2;",
                "1-c{0,2}&d=5:8;", "1-c{0,2}&d=5:3;", "1-c{0,2}:3;", "1-:3;", ""};
        for (int index = 0; index < 8; index++) {
            Check.is("47: left", x.undo(), 7 - index);
            Check.is("46: undone " + index, Check.texts(x), due[index]);
        }
        Check.fails("47: no more", Check.ELEMENT, x::undo);
    }

    private static void waysRemembered() {
        Check.sentence("remembers the rules, the ways and the grants");
        PolicyEngine x = new PolicyEngine();
        for (int policy = 0; policy < 4; policy++) {
            x.setWay(policy, policy % 3 + 1);
        }
        x.setTopWay(3);
        x.setTopWay(2);
        Check.is("47: the top way", x.undo(), 5);
        Check.is("7: it is back", x.setTopWay(1), 3);
        x.undo();
        x.undo();
        Check.is("7: at first", x.setTopWay(0), 0);
        x.undo();
        for (int policy = 3; policy >= 0; policy--) {
            Check.is("6: still set", x.setWay(policy, 0), policy % 3 + 1);
            x.undo();
            Check.is("47: way of " + policy, x.undo(), policy);
            Check.is("6: at first", x.setWay(policy, 3), 0);
            x.undo();
        }
        Check.fails("47: no more", Check.ELEMENT, x::undo);
    }

    private static void grantsRemembered() {
        Check.sentence("and the grants before the last 8 changes");
        PolicyEngine x = new PolicyEngine();
        x.grant(0, 1, 0, 1, 10);
        x.grant(0, 2, 0, 2, 20);
        x.grant(0, 1, 0, 3, 30);
        x.revoke(0, 1, 0);
        x.grant(0, 1, 0, 4, 40);
        x.revoke(0, 2, 0);
        Check.is("15: at last", Check.grants(x), "0,1,0,4,40;");
        String[] due = {"0,2,0,2,20;0,1,0,4,40;", "0,2,0,2,20;", "0,1,0,3,30;0,2,0,2,20;", "0,1,0,1,10;0,2,0,2,20;",
                "0,1,0,1,10;", ""};
        for (int index = 0; index < 6; index++) {
            Check.is("47: left", x.undo(), 5 - index);
            Check.is("15: undone " + index, Check.grants(x), due[index]);
        }
        Check.is("16: none may use it", x.policies(1), 0);
    }

    private static void fullStates() {
        Check.sentence("Undoes the latest change");
        PolicyEngine x = Engines.full();
        String rules = Check.texts(x);
        x.specialize(0, 0);
        Check.is("8: one is removed", x.ruleCount(), 23);
        x.undo();
        Check.is("46: all 24 are back", Check.texts(x), rules);
        PolicyEngine y = Engines.full();
        String grants = Check.grants(y);
        y.revoke(0, 9, 0);
        y.grant(5, 8, 3, 0, 0);
        y.undo();
        y.undo();
        Check.is("15: all 30 are back", Check.grants(y), grants);
    }

    private static void refusedCallsAreNone() {
        Check.sentence("that returns without an exception");
        PolicyEngine x = new PolicyEngine();
        x.addRule(0, false, 1);
        x.grant(0, 1, 0, 0, 0);
        Check.fails("2: refused", Check.INDEX, () -> x.addRule(4, false, 0));
        Check.fails("3: refused", Check.ARGUMENT, () -> x.addCondition(0, 0, 5, 0));
        Check.fails("4: refused", Check.INDEX, () -> x.removeRule(1));
        Check.fails("5: refused", Check.ARGUMENT, () -> x.setPriority(0, -1));
        Check.fails("6: refused", Check.ARGUMENT, () -> x.setWay(0, -1));
        Check.fails("7: refused", Check.ARGUMENT, () -> x.setTopWay(-1));
        Check.fails("11: refused", Check.ARGUMENT, () -> x.specialize(0, -1));
        Check.fails("12: refused", Check.ARGUMENT, () -> x.grant(1, 1, 0, 0, 0));
        Check.fails("13: refused", Check.ELEMENT, () -> x.revoke(1, 0, 0));
        Check.fails("44: refused", Check.ARGUMENT, x::read);
        Check.is("47: the grant", x.undo(), 1);
        Check.is("14: the grant", x.grantCount(false), 0);
        Check.is("47: the rule", x.undo(), 0);
        Check.is("8: the rule", x.ruleCount(), 0);
        Check.fails("47: no more", Check.ELEMENT, x::undo);
        Check.fails("47: a refused undo is no change", Check.ELEMENT, x::undo);
    }

    private static void otherCallsAreNone() {
        Check.sentence("A change is a call of");
        PolicyEngine x = Engines.complete();
        x.restore();
        Check.fails("47: restore is none", Check.ELEMENT, x::undo);
        x.save();
        x.tick(1);
        x.setSubject(5);
        x.setValue(3, 3);
        x.decide();
        x.clearAudit();
        x.append('x');
        x.witness(0, 0);
        Check.fails("47: nor one of these", Check.ELEMENT, x::undo);
    }

    private static void sameIsAChange() {
        Check.sentence("is a change also if nothing is different then.");
        PolicyEngine x = Check.engine("0+a=1:1;");
        x.grant(0, 1, 2, 3, 4);
        x.setPriority(0, 1);
        x.setWay(3, 0);
        x.setTopWay(0);
        x.specialize(1, 1);
        x.grant(0, 1, 2, 3, 4);
        for (int left = 6; left >= 2; left--) {
            Check.is("47: left", x.undo(), left);
            Check.is("46: the rule", Check.texts(x), "0+a=1:1;");
            Check.is("15: the grant", Check.grants(x), "0,1,2,3,4;");
        }
        Check.is("47: the grant", x.undo(), 1);
        Check.is("14: no grant", x.grantCount(false), 0);
    }

    private static void noChange() {
        Check.sentence("if no change is remembered");
        PolicyEngine x = new PolicyEngine();
        Check.fails("47: at first", Check.ELEMENT, x::undo);
        x.addRule(0, true, 0);
        Check.is("47: one", x.undo(), 0);
        Check.fails("47: none", Check.ELEMENT, x::undo);
        x.addRule(0, true, 0);
        Check.is("47: one again", x.undo(), 0);
        Check.is("8: no rule", x.ruleCount(), 0);
    }

    private static void undoIsNoChange() {
        Check.sentence("Undoes the latest change that is remembered.");
        PolicyEngine x = new PolicyEngine();
        x.addRule(0, false, 1);
        x.addRule(0, false, 2);
        x.undo();
        Check.is("46: one", Check.texts(x), "0+:1;");
        x.addRule(0, false, 3);
        Check.is("47: the last", x.undo(), 1);
        Check.is("46: not what was undone", Check.texts(x), "0+:1;");
        Check.is("47: the first", x.undo(), 0);
        Check.is("46: nothing", Check.texts(x), "");
    }

    private static void returnsOfUndo() {
        Check.sentence("Returns the number of changes that are still remembered.");
        PolicyEngine x = new PolicyEngine();
        for (int changes = 1; changes <= 12; changes++) {
            x.setTopWay(changes % 4);
            Check.is("47: after " + changes, x.undo(), Math.min(8, changes) - 1);
            x.setTopWay(changes % 4);
        }
    }

    private static void conditionsComeBack() {
        Check.sentence("remembers the rules");
        PolicyEngine x = Check.engine("0+a=1&b=2:3;1-c=4:5;");
        x.removeRule(0);
        x.addCondition(0, 5, 1, 6);
        x.setPriority(0, 0);
        x.undo();
        x.undo();
        x.undo();
        Check.is("46: all", Check.texts(x), "0+a=1&b=2:3;1-c=4:5;");
        x.addCondition(0, 0, 2, 9);
        Check.is("46: behind those that are back", Check.texts(x), "0+a=1&b=2&a<9:3;1-c=4:5;");
    }

    private static void undoLeaves() {
        Check.sentence("undo and restore leave the clock, the request, the audit, the input and the error position");
        PolicyEngine x = Check.engine("0+:1;");
        x.grant(0, 2, 0, 0, 5);
        Check.request(x, 1, 2, 3, 4, 5, 6);
        x.setSubject(2);
        x.decide();
        x.tick(6);
        x.decide();
        Check.type(x, "0+!");
        Check.fails("44: an error", Check.ARGUMENT, x::read);
        Check.type(x, "3-:");
        x.undo();
        x.undo();
        Check.is("21: subject", x.setSubject(2), 2);
        for (int attribute = 0; attribute < 6; attribute++) {
            Check.is("22: value", x.setValue(attribute, attribute + 1), attribute + 1);
        }
        Check.is("39: audit", x.auditCount(), 2);
        Check.is("40: decisions", x.audit(0, 2) * 10 + x.audit(1, 2), 2);
        Check.is("40: rules", x.audit(0, 3) * 10 + x.audit(1, 3), -1);
        Check.is("45: error position", x.errorPosition(), 2);
        Check.type(x, "9;");
        Check.is("44: input", x.read(), 1);
        Check.is("46: input", Check.texts(x), "3-:9;");
        x.grant(0, 2, 3, 0, 5);
        Check.is("20: clock", x.grantCount(true), 0);
    }

    private static void undoLeavesSaved() {
        Check.sentence("undo also leaves what was saved.");
        PolicyEngine x = Check.engine("0+:1;");
        x.addRule(1, true, 2);
        x.save();
        x.undo();
        x.undo();
        Check.is("8: nothing", x.ruleCount(), 0);
        Check.is("49: what was saved", x.restore(), 2);
        Check.is("46: what was saved", Check.texts(x), "0+:1;1-:2;");
    }

    private static void restoreForgets() {
        Check.sentence("restore forgets them.");
        PolicyEngine x = Check.engine("0+:1;");
        x.save();
        for (int number = 0; number < 10; number++) {
            x.addRule(1, true, 2);
        }
        x.restore();
        Check.fails("47: nothing is remembered", Check.ELEMENT, x::undo);
        Check.is("46: the saved rule", Check.texts(x), "0+:1;");
        x.setPriority(0, 5);
        Check.is("47: one since then", x.undo(), 0);
        Check.is("46: the saved rule again", Check.texts(x), "0+:1;");
        Check.fails("47: no more", Check.ELEMENT, x::undo);
        for (int number = 0; number < 9; number++) {
            x.addRule(1, true, number);
        }
        Check.is("47: eight since then", x.undo(), 7);
    }

    private static void staysSaved() {
        Check.sentence("Restores what was saved. It stays saved.");
        PolicyEngine x = Check.engine("0+a=1:1;1-b=2:2;");
        x.grant(0, 1, 2, 3, 4);
        x.setWay(2, 3);
        x.setTopWay(1);
        x.save();
        for (int time = 0; time < 3; time++) {
            x.removeRule(0);
            x.addCondition(0, 3, 0, 3);
            x.grant(0, 1, 2, 5, 6);
            x.grant(0, 2, 2, 5, 6);
            x.setWay(2, 1);
            x.setTopWay(0);
            Check.is("49: time " + time, x.restore(), 2);
            Check.is("46: time " + time, Check.texts(x), "0+a=1:1;1-b=2:2;");
            Check.is("15: time " + time, Check.grants(x), "0,1,2,3,4;");
            Check.is("6: time " + time, x.setWay(2, 0), 3);
            Check.is("7: time " + time, x.setTopWay(3), 1);
        }
    }

    private static void replacedBySave() {
        Check.sentence("Saves the rules, ways and grants. What was saved before is replaced.");
        PolicyEngine x = Check.engine("0+a=1:1;1-b=2:2;");
        x.grant(0, 1, 2, 3, 4);
        x.setWay(0, 3);
        x.save();
        x.removeRule(1);
        x.revoke(0, 1, 2);
        x.setWay(0, 1);
        x.setTopWay(2);
        Check.is("48: one rule", x.save(), 1);
        x.addRule(3, false, 0);
        x.addRule(3, false, 0);
        x.setWay(0, 0);
        x.setTopWay(0);
        Check.is("49: one rule", x.restore(), 1);
        Check.is("46: the second one saved", Check.texts(x), "0+a=1:1;");
        Check.is("14: no grant", x.grantCount(false), 0);
        Check.is("6: the way", x.setWay(0, 0), 1);
        Check.is("7: the top way", x.setTopWay(0), 2);
    }

    private static void savedIsApart() {
        Check.sentence("What was saved before is replaced.");
        PolicyEngine x = Check.engine("0+a=1:1;");
        x.save();
        x.addCondition(0, 1, 0, 2);
        x.setPriority(0, 9);
        x.restore();
        Check.is("46: as it was saved", Check.texts(x), "0+a=1:1;");
        x.addCondition(0, 2, 0, 3);
        x.setPriority(0, 8);
        x.restore();
        Check.is("46: as it was saved, again", Check.texts(x), "0+a=1:1;");
        Check.is("48: a save is no change", x.save(), 1);
        Check.fails("47: a save is no change", Check.ELEMENT, x::undo);
    }

    private static void savedEmpty() {
        Check.sentence("Saves the rules, ways and grants.");
        PolicyEngine x = new PolicyEngine();
        Check.is("48: none", x.save(), 0);
        x.addRule(0, false, 0);
        x.grant(0, 1, 0, 0, 0);
        x.setWay(0, 3);
        x.setTopWay(3);
        Check.is("49: none", x.restore(), 0);
        Check.is("8: none", x.ruleCount(), 0);
        Check.is("14: none", x.grantCount(false), 0);
        Check.is("6: at first", x.setWay(0, 0), 0);
        Check.is("7: at first", x.setTopWay(0), 0);
    }

    private static void savedFull() {
        Check.sentence("Saves the rules, ways and grants.");
        PolicyEngine x = new PolicyEngine();
        for (int rule = 0; rule < 24; rule++) {
            x.addRule(rule % 4, rule % 2 == 0, rule % 10);
        }
        for (int number = 0; number < 30; number++) {
            x.grant(number % 9, 9, number / 9, number % 6, number);
        }
        x.addCondition(23, 5, 4, 65535);
        int rules = x.save();
        x.specialize(5, 0);
        for (int rule = 0; rule < 24; rule++) {
            x.removeRule(0);
        }
        for (int number = 0; number < 30; number++) {
            x.revoke(number % 9, 9, number / 9);
        }
        Check.is("48: 24", rules, 24);
        Check.is("49: 24", x.restore(), 24);
        Check.is("9: the last", x.rule(23, 2), 3);
        Check.is("10: its condition", x.condition(23, 0, 2), 65535);
        Check.is("14: 30", x.grantCount(false), 30);
        for (int number = 0; number < 30; number++) {
            Check.is("15: " + number, x.grantAt(number, 4), number);
        }
        Check.fails("2: full", Check.STATE, () -> x.addRule(0, false, 0));
        Check.fails("12: full", Check.STATE, () -> x.grant(1, 2, 0, 0, 0));
    }

    private static void restoreLeaves() {
        Check.sentence("undo and restore leave the clock, the request, the audit, the input and the error position");
        PolicyEngine x = Check.engine("0+:1;");
        x.save();
        Check.request(x, 1, 2, 3, 4, 5, 6);
        x.setSubject(2);
        x.decide();
        x.tick(7);
        Check.type(x, "0+a=1:!");
        Check.fails("44: an error", Check.ARGUMENT, x::read);
        Check.type(x, "3-:");
        x.removeRule(0);
        x.restore();
        Check.is("21: subject", x.setSubject(0), 2);
        for (int attribute = 0; attribute < 6; attribute++) {
            Check.is("22: value", x.setValue(attribute, 0), attribute + 1);
        }
        Check.is("39: audit", x.auditCount(), 1);
        Check.is("45: error position", x.errorPosition(), 6);
        Check.type(x, "9;");
        Check.is("44: input", x.read(), 1);
        Check.is("46: input", Check.texts(x), "0+:1;3-:9;");
        x.decide();
        Check.is("40: clock", x.audit(1, 0), 7);
        Check.is("40: the older one", x.audit(0, 0), 0);
    }

    private static void nothingSaved() {
        Check.sentence("if nothing was saved");
        PolicyEngine x = Check.engine("0+:1;");
        Check.fails("49: never", Check.STATE, x::restore);
        Check.is("46: the rule stays", Check.texts(x), "0+:1;");
        Check.is("47: the change is remembered", x.undo(), 0);
        Check.fails("49: still never", Check.STATE, x::restore);
        x.save();
        Check.is("49: saved without rules", x.restore(), 0);
        Check.is("49: and again", x.restore(), 0);
    }

    private static void restoreOfAll() {
        Check.sentence("Restores what was saved.");
        PolicyEngine x = new PolicyEngine();
        for (int policy = 0; policy < 4; policy++) {
            x.setWay(policy, 3 - policy);
        }
        x.setTopWay(2);
        x.save();
        for (int policy = 0; policy < 4; policy++) {
            x.setWay(policy, 1);
        }
        x.setTopWay(1);
        x.restore();
        for (int policy = 0; policy < 4; policy++) {
            Check.is("6: way of " + policy, x.setWay(policy, 0), 3 - policy);
        }
        Check.is("7: top way", x.setTopWay(0), 2);
    }

    private static void returnsOfSaveAndRestore() {
        Check.sentence("Returns the number of rules.");
        PolicyEngine x = new PolicyEngine();
        for (int rules = 0; rules <= 24; rules++) {
            Check.is("8: " + rules, x.ruleCount(), rules);
            Check.is("48: " + rules, x.save(), rules);
            if (rules < 24) {
                x.addRule(0, false, 0);
            }
            Check.is("49: " + rules, x.restore(), rules);
            if (rules < 24) {
                x.addRule(0, false, 0);
            }
        }
    }
}
