/** Promises 1 to 11: a new object, and the rules and ways. */
public final class RulesTest {
    public static void main(String[] args) {
        newObject();
        addRule();
        addCondition();
        removeRule();
        setPriority();
        setWay();
        setTopWay();
        ruleCount();
        rule();
        condition();
        specialize();
        Check.end("RulesTest");
    }

    private static void newObject() {
        PolicyEngine x = new PolicyEngine();
        Check.is("1: no rules", x.ruleCount(), 0);
        Check.is("1: no grants", x.grantCount(false), 0);
        Check.is("1: no valid grants", x.grantCount(true), 0);
        Check.is("1: nothing known", x.unknown(), 63);
        Check.is("1: subject 0", x.setSubject(4), 0);
        Check.is("1: top way 0", x.setTopWay(1), 0);
        for (int policy = 0; policy < 4; policy++) {
            Check.is("1: way 0 of " + policy, x.setWay(policy, 2), 0);
        }
        Check.is("1: empty audit", x.auditCount(), 0);
        Check.is("1: empty input", x.append('0'), 1);
        Check.fails("1: no error kept", Check.ELEMENT, x::errorPosition);
        Check.fails("1: nothing saved", Check.STATE, x::restore);
        Check.fails("1: nothing to undo", Check.ELEMENT, () -> new PolicyEngine().undo());
        Check.is("1: clock 0", new PolicyEngine().tick(100), 0);
        PolicyEngine other = new PolicyEngine();
        Check.is("1: objects are apart", other.ruleCount() + other.unknown(), 63);
    }

    private static void addRule() {
        PolicyEngine x = new PolicyEngine();
        Check.is("2: first", x.addRule(3, true, 9), 0);
        Check.is("2: second", x.addRule(0, false, 0), 1);
        Check.is("2: as told", Check.texts(x), "3-:9;0+:0;");
        Check.fails("2: policy -1", Check.INDEX, () -> x.addRule(-1, true, 1));
        Check.fails("2: policy 4", Check.INDEX, () -> x.addRule(4, true, 1));
        Check.fails("2: policy before priority", Check.INDEX, () -> x.addRule(4, true, 10));
        Check.fails("2: priority -1", Check.ARGUMENT, () -> x.addRule(1, true, -1));
        Check.fails("2: priority 10", Check.ARGUMENT, () -> x.addRule(1, true, 10));
        Check.is("2: unchanged", x.ruleCount(), 2);
        for (int rule = 2; rule < 24; rule++) {
            Check.is("2: rule " + rule, x.addRule(1, false, 5), rule);
        }
        Check.fails("2: 24 rules", Check.STATE, () -> x.addRule(1, false, 5));
        Check.fails("2: policy first", Check.INDEX, () -> x.addRule(4, false, 10));
        Check.fails("2: priority first", Check.ARGUMENT, () -> x.addRule(1, false, 10));
        Check.is("2: still 24", x.ruleCount(), 24);
        x.addCondition(23, 0, 0, 1);
        x.removeRule(23);
        x.addRule(2, false, 4);
        Check.is("2: new rule has no conditions", x.rule(23, 3), 0);
    }

    private static void addCondition() {
        PolicyEngine x = Check.engine("0+:1;1-:2;");
        Check.is("3: first", x.addCondition(1, 5, 0, 15), 1);
        Check.is("3: second", x.addCondition(1, 0, 4, 65535), 2);
        Check.is("3: of the other rule", x.addCondition(0, 2, 3, 0), 1);
        Check.is("3: third", x.addCondition(1, 1, 2, 0), 3);
        Check.fails("3: kind 5", Check.ARGUMENT, () -> x.addCondition(1, 1, 5, 1));
        Check.fails("3: kind -1", Check.ARGUMENT, () -> x.addCondition(1, 1, -1, 1));
        Check.fails("3: attribute 6", Check.ARGUMENT, () -> x.addCondition(1, 6, 0, 1));
        Check.fails("3: attribute -1", Check.ARGUMENT, () -> x.addCondition(1, -1, 0, 1));
        for (int kind = 0; kind < 4; kind++) {
            int each = kind;
            Check.fails("3: operand 16, kind " + kind, Check.ARGUMENT, () -> x.addCondition(1, 1, each, 16));
            Check.fails("3: operand -1, kind " + kind, Check.ARGUMENT, () -> x.addCondition(1, 1, each, -1));
        }
        Check.fails("3: empty set", Check.ARGUMENT, () -> x.addCondition(1, 1, 4, 0));
        Check.fails("3: set -1", Check.ARGUMENT, () -> x.addCondition(1, 1, 4, -1));
        Check.fails("3: set too great", Check.ARGUMENT, () -> x.addCondition(1, 1, 4, 65536));
        Check.fails("3: rule 2", Check.INDEX, () -> x.addCondition(2, 1, 0, 1));
        Check.fails("3: rule -1", Check.INDEX, () -> x.addCondition(-1, 9, 9, 99));
        Check.is("3: unchanged", x.rule(1, 3), 3);
        Check.is("3: fourth", x.addCondition(1, 4, 1, 7), 4);
        Check.fails("3: 4 conditions", Check.STATE, () -> x.addCondition(1, 4, 1, 7));
        Check.fails("3: number first", Check.ARGUMENT, () -> x.addCondition(1, 4, 1, 16));
        Check.fails("3: rule first", Check.INDEX, () -> x.addCondition(2, 4, 1, 16));
        Check.is("3: as told", Check.texts(x),
                "0+c>0:1;1-f=15&a{0,1,2,3,4,5,6,7,8,9,10,11,12,13,14,15}&b<0&e#7:2;");
    }

    private static void removeRule() {
        PolicyEngine x = Check.engine("0+a=1:1;1-:2;2+b{1,5}&c<3:3;");
        Check.fails("4: rule 3", Check.INDEX, () -> x.removeRule(3));
        Check.fails("4: rule -1", Check.INDEX, () -> x.removeRule(-1));
        Check.is("4: the middle", x.removeRule(1), 2);
        Check.is("4: numbers decrease", Check.texts(x), "0+a=1:1;2+b{1,5}&c<3:3;");
        Check.is("4: the last", x.removeRule(1), 1);
        Check.is("4: the first", x.removeRule(0), 0);
        Check.fails("4: none", Check.INDEX, () -> x.removeRule(0));
        for (int rule = 0; rule < 24; rule++) {
            x.addRule(rule % 4, false, rule % 10);
        }
        Check.is("4: first of 24", x.removeRule(0), 23);
        Check.is("4: policy of the first", x.rule(0, 0), 1);
        Check.is("4: priority of the last", x.rule(22, 2), 3);
    }

    private static void setPriority() {
        PolicyEngine x = Check.engine("0+:1;1-:2;");
        Check.is("5: previous", x.setPriority(1, 9), 2);
        Check.is("5: previous again", x.setPriority(1, 0), 9);
        Check.is("5: set", x.rule(1, 2), 0);
        Check.is("5: the other", x.rule(0, 2), 1);
        Check.fails("5: rule 2", Check.INDEX, () -> x.setPriority(2, 10));
        Check.fails("5: rule -1", Check.INDEX, () -> x.setPriority(-1, 3));
        Check.fails("5: 10", Check.ARGUMENT, () -> x.setPriority(0, 10));
        Check.fails("5: -1", Check.ARGUMENT, () -> x.setPriority(0, -1));
        Check.is("5: unchanged", x.setPriority(0, 4), 1);
    }

    private static void setWay() {
        PolicyEngine x = new PolicyEngine();
        Check.is("6: at first", x.setWay(2, 3), 0);
        Check.is("6: previous", x.setWay(2, 1), 3);
        Check.is("6: of another", x.setWay(3, 1), 0);
        Check.fails("6: policy 4", Check.INDEX, () -> x.setWay(4, 4));
        Check.fails("6: policy -1", Check.INDEX, () -> x.setWay(-1, 0));
        Check.fails("6: way 4", Check.ARGUMENT, () -> x.setWay(2, 4));
        Check.fails("6: way -1", Check.ARGUMENT, () -> x.setWay(2, -1));
        Check.is("6: unchanged", x.setWay(2, 0), 1);
        Check.is("6: not the top way", x.setTopWay(0), 0);
    }

    private static void setTopWay() {
        PolicyEngine x = new PolicyEngine();
        Check.is("7: at first", x.setTopWay(3), 0);
        Check.is("7: previous", x.setTopWay(2), 3);
        Check.fails("7: 4", Check.ARGUMENT, () -> x.setTopWay(4));
        Check.fails("7: -1", Check.ARGUMENT, () -> x.setTopWay(-1));
        Check.is("7: unchanged", x.setTopWay(1), 2);
        Check.is("7: not a policy's way", x.setWay(0, 0), 0);
    }

    private static void ruleCount() {
        PolicyEngine x = Check.engine("0+:1;1-:2;");
        Check.is("8: two", x.ruleCount(), 2);
        x.addRule(0, true, 0);
        Check.is("8: three", x.ruleCount(), 3);
        x.removeRule(0);
        Check.is("8: two again", x.ruleCount(), 2);
    }

    private static void rule() {
        PolicyEngine x = Check.engine("2+:1;3-a=1&b=2:7;");
        int[][] due = {{2, 0, 1, 0}, {3, 1, 7, 2}};
        for (int rule = 0; rule < 2; rule++) {
            for (int what = 0; what < 4; what++) {
                Check.is("9: " + what + " of " + rule, x.rule(rule, what), due[rule][what]);
            }
        }
        Check.fails("9: rule 2", Check.INDEX, () -> x.rule(2, 4));
        Check.fails("9: rule -1", Check.INDEX, () -> x.rule(-1, 0));
        Check.fails("9: what 4", Check.ARGUMENT, () -> x.rule(1, 4));
        Check.fails("9: what -1", Check.ARGUMENT, () -> x.rule(1, -1));
    }

    private static void condition() {
        PolicyEngine x = Check.engine("2+:1;3-a=1&f{0,15}:7;");
        int[][] due = {{0, 0, 1}, {5, 4, 32769}};
        for (int index = 0; index < 2; index++) {
            for (int what = 0; what < 3; what++) {
                Check.is("10: " + what + " of " + index, x.condition(1, index, what), due[index][what]);
            }
        }
        Check.fails("10: rule 2", Check.INDEX, () -> x.condition(2, 0, 0));
        Check.fails("10: rule -1", Check.INDEX, () -> x.condition(-1, 0, 0));
        Check.fails("10: no conditions", Check.INDEX, () -> x.condition(0, 0, 3));
        Check.fails("10: condition 2", Check.INDEX, () -> x.condition(1, 2, 3));
        Check.fails("10: condition -1", Check.INDEX, () -> x.condition(1, -1, 0));
        Check.fails("10: what 3", Check.ARGUMENT, () -> x.condition(1, 1, 3));
        Check.fails("10: what -1", Check.ARGUMENT, () -> x.condition(1, 1, -1));
    }

    private static void specialize() {
        PolicyEngine x = Check.engine("0+a=1:1;0-a#1:2;1+b=2&a<2&c=3:3;", "1-a>2&b=1:4;2+a{1,3}&a=1:5;3-b=4:6;");
        Check.fails("11: attribute 6", Check.INDEX, () -> x.specialize(6, 16));
        Check.fails("11: attribute -1", Check.INDEX, () -> x.specialize(-1, 0));
        Check.fails("11: value 16", Check.ARGUMENT, () -> x.specialize(0, 16));
        Check.fails("11: value -1", Check.ARGUMENT, () -> x.specialize(0, -1));
        Check.is("11: removed", x.specialize(0, 1), 2);
        Check.is("11: what is left", Check.texts(x), "0+:1;1+b=2&c=3:3;2+:5;3-b=4:6;");
        Check.is("11: none left on it", x.specialize(0, 7), 0);
        Check.is("11: unchanged", Check.texts(x), "0+:1;1+b=2&c=3:3;2+:5;3-b=4:6;");
        PolicyEngine y = Check.engine("0+a=1&a=2:1;1+a{0,2}:2;2-a>0&a#0:3;");
        Check.is("11: one of several fails", y.specialize(0, 2), 1);
        Check.is("11: left of them", Check.texts(y), "1+:2;2-:3;");
        Check.is("11: no request is set", y.unknown(), 63);
    }
}
