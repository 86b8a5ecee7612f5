/** The boundary cases of requests and decisions, and of promises 21 to 31: a test for each sentence. */
public final class RequestEdgesTest {
    public static void main(String[] args) {
        attributes();
        masks();
        firstRequest();
        subjects();
        values();
        unknown();
        appliesToAllOrNone();
        appliesAtTheEnds();
        excludeOneAnother();
        failingFirst();
        failingNone();
        complete();
        noRuleApplies();
        denyWins();
        permitWins();
        firstWins();
        onlyOne();
        sameEffect();
        decidingRuleOfAPolicy();
        decisionsAsNumbers();
        nonePolicies();
        otherThanNone();
        topDenyWins();
        topPermitWins();
        topFirst();
        topOnly();
        decidingRuleOfAll();
        noDecidingRule();
        policyNotUsed();
        atMostThreeUnknown();
        possibleDecisions();
        sameSubject();
        completionsCounted();
        allRules();
        decisionNumbers();
        valuesForItself();
        valuesForAllOrNone();
        valuesForInPlace();
        Check.end("RequestEdgesTest");
    }

    private static PolicyEngine engineAt(int value, String... texts) {
        PolicyEngine x = Check.engine(texts);
        Check.request(x, value, value, value, value, value, value);
        return x;
    }

    private static void attributes() {
        Check.sentence("There are 6 attributes, numbered from 0, with values from 0 to 15.");
        for (int attribute = 0; attribute < 6; attribute++) {
            int each = attribute;
            PolicyEngine x = Check.engine("0+:0;");
            Check.is("3: attribute " + attribute, x.addCondition(0, attribute, 0, 15), 1);
            Check.is("10: attribute " + attribute, x.condition(0, 0, 0), attribute);
            Check.is("22: the greatest value", x.setValue(attribute, 15), -1);
            Check.is("24: at it", x.applies(0), 1);
            Check.is("22: the least value", x.setValue(attribute, 0), 15);
            Check.is("24: at 0", x.applies(0), 0);
            Check.is("37: the greatest value", x.witness(0, attribute), 15);
            Check.fails("22: one more", Check.ARGUMENT, () -> x.setValue(each, 16));
            Check.is("22: as it was", x.setValue(attribute, 0), 0);
            Check.is("11: the greatest value", x.specialize(attribute, 15), 0);
        }
        PolicyEngine x = Check.engine("0+:0;");
        Check.fails("3: attribute 6", Check.ARGUMENT, () -> x.addCondition(0, 6, 0, 0));
        Check.fails("3: attribute -1", Check.ARGUMENT, () -> x.addCondition(0, -1, 0, 0));
        Check.fails("22: attribute 6", Check.INDEX, () -> x.setValue(6, 0));
        Check.fails("22: attribute -1", Check.INDEX, () -> x.setValue(-1, 0));
        Check.fails("11: attribute 6", Check.INDEX, () -> x.specialize(6, 0));
        Check.fails("11: attribute -1", Check.INDEX, () -> x.specialize(-1, 0));
    }

    private static void masks() {
        Check.sentence("Sets are bit masks, bit k for number k.");
        PolicyEngine x = engineAt(0, "0+a=0:0;0-a=15:0;");
        Check.is("23: none", x.unknown(), 0);
        Check.is("29: bit 0", x.possible(), 1);
        x.setValue(0, 15);
        Check.is("29: bit 1", x.possible(), 2);
        x.setValue(0, 1);
        Check.is("29: bit 2", x.possible(), 4);
        x.setTopWay(3);
        x.addRule(1, false, 0);
        x.addRule(2, false, 0);
        Check.is("29: bit 3", x.possible(), 8);
        Check.is("31: all bits", x.valuesFor(0, 3), 65535);
        x.removeRule(3);
        x.removeRule(2);
        Check.is("31: bit 0", x.valuesFor(0, 0), 1);
        Check.is("31: bit 15", x.valuesFor(0, 1), 32768);
        x.grant(0, 1, 0, 0, 0);
        x.grant(0, 2, 3, 0, 0);
        Check.is("16: bit 0", x.policies(1), 1);
        Check.is("16: bit 3", x.policies(2), 8);
        x.setValue(0, -1);
        Check.is("23: bit 0", x.unknown(), 1);
        x.setValue(0, 0);
        x.setValue(5, -1);
        Check.is("23: bit 5", x.unknown(), 32);
    }

    private static void firstRequest() {
        Check.sentence("which has a subject from 0 to 9, at first 0, and for each attribute a value, or none, as at "
                + "first.");
        PolicyEngine x = new PolicyEngine();
        Check.is("23: none", x.unknown(), 63);
        Check.is("21: subject", x.setSubject(0), 0);
        for (int attribute = 0; attribute < 6; attribute++) {
            Check.is("22: value of " + attribute, x.setValue(attribute, -1), -1);
        }
    }

    private static void subjects() {
        Check.sentence("the number of the subject, 0 to 9");
        PolicyEngine x = new PolicyEngine();
        for (int subject = 1; subject < 10; subject++) {
            Check.is("21: " + subject, x.setSubject(subject), subject - 1);
        }
        Check.fails("21: 10", Check.INDEX, () -> x.setSubject(10));
        Check.fails("21: -1", Check.INDEX, () -> x.setSubject(-1));
        Check.is("21: still 9", x.setSubject(0), 9);
    }

    private static void values() {
        Check.sentence("the value, 0 to 15, or -1 for none");
        for (int attribute = 0; attribute < 6; attribute++) {
            int each = attribute;
            PolicyEngine x = new PolicyEngine();
            for (int value = 0; value < 16; value++) {
                Check.is("22: " + value, x.setValue(attribute, value), value - 1);
            }
            Check.fails("22: 16", Check.ARGUMENT, () -> x.setValue(each, 16));
            Check.fails("22: -2", Check.ARGUMENT, () -> x.setValue(each, -2));
            Check.is("22: none", x.setValue(attribute, -1), 15);
            Check.is("22: 0 behind none", x.setValue(attribute, 0), -1);
            Check.is("22: 0", x.setValue(attribute, 0), 0);
            Check.is("23: the others", x.unknown(), 63 - (1 << attribute));
        }
        PolicyEngine x = new PolicyEngine();
        Check.fails("22: attribute 6", Check.INDEX, () -> x.setValue(6, -1));
        Check.fails("22: attribute -1", Check.INDEX, () -> x.setValue(-1, -1));
        Check.is("23: none is known", x.unknown(), 63);
    }

    private static void unknown() {
        Check.sentence("Returns the set of attributes.");
        for (int set = 0; set < 64; set++) {
            PolicyEngine x = engineAt(set % 2 == 0 ? 0 : 15, "0+:0;");
            for (int attribute = 0; attribute < 6; attribute++) {
                if ((set >> attribute) % 2 == 1) {
                    x.setValue(attribute, -1);
                }
            }
            Check.is("23: " + set, x.unknown(), set);
        }
    }

    private static void appliesToAllOrNone() {
        Check.sentence("Returns 1 if it applies to all completions of the request, 0 if it applies to none of them, "
                + "otherwise 2.");
        PolicyEngine x = Check.engine("0+a=1&b=2:0;0+a=1&b<0:0;0+a=1&b>0:0;");
        int[][] due = {{2, 0, 2}, {2, 0, 1}, {1, 0, 1}, {0, 0, 1}, {0, 0, 0}, {0, 0, 0}};
        int[][] values = {{-1, -1}, {1, -1}, {1, 2}, {1, 3}, {2, -1}, {2, 3}};
        for (int index = 0; index < values.length; index++) {
            Check.request(x, values[index]);
            for (int rule = 0; rule < 3; rule++) {
                Check.is("24: rule " + rule + ", request " + index, x.applies(rule), due[index][rule]);
            }
        }
        x.setSubject(9);
        Check.request(x, 1, 2, 3, 4, 5, 6);
        Check.is("24: whatever the subject may use", x.applies(0), 1);
    }

    private static void appliesAtTheEnds() {
        Check.sentence("Returns whether a rule applies to the request, as far as it can be told.");
        PolicyEngine x = Check.engine("0+a<0:0;0+a<1:0;0+a<15:0;0+a>0:0;0+a>1:0;0+a>15:0;0+a=0:0;0+a=15:0;",
                "0+a#0:0;0+a#15:0;0+a{0}:0;0+a{15}:0;");
        x.addRule(0, false, 0);
        x.addCondition(12, 0, 4, 65535);
        x.addRule(0, false, 0);
        x.addCondition(13, 0, 4, 65534);
        x.addRule(0, false, 0);
        x.addCondition(14, 0, 4, 32767);
        int[] none = {0, 2, 2, 1, 2, 2, 2, 2, 2, 2, 2, 2, 1, 2, 2};
        int[] zero = {0, 1, 1, 1, 0, 0, 1, 0, 0, 1, 1, 0, 1, 0, 1};
        int[] last = {0, 0, 0, 1, 1, 1, 0, 1, 1, 0, 0, 1, 1, 1, 0};
        for (int rule = 0; rule < 15; rule++) {
            x.setValue(0, -1);
            Check.is("24: without a value, rule " + rule, x.applies(rule), none[rule]);
            x.setValue(0, 0);
            Check.is("24: at 0, rule " + rule, x.applies(rule), zero[rule]);
            x.setValue(0, 15);
            Check.is("24: at 15, rule " + rule, x.applies(rule), last[rule]);
        }
    }

    private static void excludeOneAnother() {
        Check.sentence("failing looks at each condition by itself, and applies at all of them together, so that it is 0 "
                + "if they exclude one another.");
        PolicyEngine x = Check.engine("0+a<5&a>5:0;0+b=3&b=4:0;0+c{1,2}&c{2,3}&c#2:0;0+d<5&d>4:0;");
        for (int rule = 0; rule < 3; rule++) {
            int each = rule;
            Check.is("24: rule " + rule, x.applies(rule), 0);
            Check.fails("25: rule " + rule, Check.ELEMENT, () -> x.failing(each));
        }
        Check.is("24: one value is left", x.applies(3), 2);
        x.setValue(3, 4);
        Check.is("24: it is this one", x.applies(3), 1);
        x.setValue(2, 2);
        Check.is("24: still not", x.applies(2), 0);
        Check.is("25: the third one", x.failing(2), 2);
        x.setValue(2, 3);
        Check.is("25: the first one", x.failing(2), 0);
    }

    private static void failingFirst() {
        Check.sentence("Returns the first condition of a rule that holds for no completion of the request.");
        PolicyEngine x = Check.engine("0+a=1&b=1&c=1&d=1:0;1+e#5&f<0&f<0:0;");
        for (int index = 3; index >= 0; index--) {
            x.setValue(index, 0);
            Check.is("25: condition " + index, x.failing(0), index);
        }
        for (int index = 0; index < 4; index++) {
            Check.is("25: condition " + index + " again", x.failing(0), index);
            x.setValue(index, index == 2 ? -1 : 1);
        }
        Check.fails("25: none, one is not known", Check.ELEMENT, () -> x.failing(0));
        Check.is("25: less than 0, not known", x.failing(1), 1);
        x.setValue(5, 0);
        Check.is("25: less than 0, at 0", x.failing(1), 1);
        x.setValue(4, 5);
        Check.is("25: one before it", x.failing(1), 0);
    }

    private static void failingNone() {
        Check.sentence("if there is none");
        PolicyEngine x = engineAt(15, "0+:0;0+a>15&b=15&c#14&d{15}:0;");
        Check.fails("25: without conditions", Check.ELEMENT, () -> x.failing(0));
        Check.fails("25: all hold", Check.ELEMENT, () -> x.failing(1));
        x.setValue(3, 14);
        Check.is("25: the last does not", x.failing(1), 3);
    }

    private static void complete() {
        Check.sentence("A request is complete if it has a value for each attribute.");
        for (int attribute = 0; attribute < 6; attribute++) {
            PolicyEngine x = engineAt(0, "0+:5;");
            x.setValue(attribute, -1);
            Check.fails("26: without " + attribute, Check.STATE, x::decide);
            Check.fails("27: without " + attribute, Check.STATE, x::decidingRule);
            for (int policy = 0; policy < 4; policy++) {
                int each = policy;
                Check.fails("28: without " + attribute, Check.STATE, () -> x.policyDecision(each));
            }
            Check.is("39: no decision", x.auditCount(), 0);
            x.setValue(attribute, 0);
            Check.is("26: with " + attribute, x.decide(), 0);
            Check.is("27: with " + attribute, x.decidingRule(), 0);
            Check.is("28: with " + attribute, x.policyDecision(0), 0);
            Check.is("39: one decision", x.auditCount(), 1);
        }
    }

    private static void noRuleApplies() {
        Check.sentence("If no rule of the policy applies, its decision is none.");
        PolicyEngine x = engineAt(3, "0+a=4:9;0-a<3:9;1+:5;");
        for (int way = 0; way < 4; way++) {
            for (int policy = 0; policy < 4; policy++) {
                x.setWay(policy, way);
            }
            Check.is("28: none that applies, way " + way, x.policyDecision(0), 2);
            Check.is("28: none at all, way " + way, x.policyDecision(3), 2);
            Check.is("28: the other policy, way " + way, x.policyDecision(1), 0);
        }
    }

    /** One rule of each policy's rules applies for each bit of the value of attribute 0. */
    private static void decisionsOfWays(int way, int... due) {
        PolicyEngine x = engineAt(0, "2+a{1,3,5,7}:3;2-a{2,3,6,7}:3;2+a{4,5,6,7}:4;");
        x.setWay(2, way);
        for (int value = 0; value < 8; value++) {
            x.setValue(0, value);
            Check.is("28: way " + way + ", rules " + value, x.policyDecision(2), due[value]);
        }
    }

    private static void denyWins() {
        Check.sentence("Otherwise, with way 0, it is deny if a rule that applies has the effect deny, otherwise permit");
        decisionsOfWays(0, 2, 0, 1, 1, 0, 0, 1, 1);
    }

    private static void permitWins() {
        Check.sentence("with way 1, it is permit if a rule that applies has the effect permit, otherwise deny");
        decisionsOfWays(1, 2, 0, 1, 0, 0, 0, 0, 0);
    }

    private static void firstWins() {
        Check.sentence("with way 2, it is the effect of the rule that comes before all others that apply");
        decisionsOfWays(2, 2, 0, 1, 0, 0, 0, 0, 0);
        PolicyEngine x = engineAt(0, "2-:3;2+:3;");
        x.setWay(2, 2);
        Check.is("28: the lower number", x.policyDecision(2), 1);
        x.setPriority(1, 4);
        Check.is("28: the greater priority", x.policyDecision(2), 0);
    }

    private static void onlyOne() {
        Check.sentence("with way 3, it is the effect of the rule that applies if there is only one, otherwise conflict.");
        decisionsOfWays(3, 2, 0, 1, 3, 0, 3, 3, 3);
    }

    private static void sameEffect() {
        Check.sentence("With way 3, two rules that apply make a conflict also if they have the same effect.");
        PolicyEngine x = engineAt(0, "0+:3;0+:9;1-:3;1-:3;2-:1;");
        for (int policy = 0; policy < 3; policy++) {
            x.setWay(policy, 3);
        }
        Check.is("28: two permits", x.policyDecision(0), 3);
        Check.is("28: two denies", x.policyDecision(1), 3);
        Check.is("28: one deny", x.policyDecision(2), 1);
    }

    private static void decidingRuleOfAPolicy() {
        Check.sentence("among the rules that apply and have this effect, the one that comes before the others.");
        PolicyEngine x = engineAt(1, "0+:9;0-a=2:8;0-:1;0-a=1:2;0-:2;0+:2;");
        Check.is("27: deny", x.decidingRule(), 3);
        x.setPriority(4, 3);
        Check.is("27: a greater priority", x.decidingRule(), 4);
        x.setPriority(2, 3);
        Check.is("27: a lower number", x.decidingRule(), 2);
        x.setWay(0, 1);
        Check.is("27: permit", x.decidingRule(), 0);
        x.setPriority(0, 1);
        Check.is("27: the other permit", x.decidingRule(), 5);
        x.setWay(0, 2);
        Check.is("27: the first of all", x.decidingRule(), 2);
        x.setWay(0, 3);
        Check.fails("27: conflict", Check.ELEMENT, x::decidingRule);
    }

    private static void decisionsAsNumbers() {
        Check.sentence("Decisions are 0 permit, 1 deny, 2 none, 3 conflict.");
        PolicyEngine x = engineAt(0, "0+a{0,3}:0;0-a{1,3}:0;");
        x.setWay(0, 3);
        for (int value = 0; value < 4; value++) {
            x.setValue(0, value);
            Check.is("28: decision " + value, x.policyDecision(0), value);
            Check.is("26: decision " + value, x.decide(), value);
            Check.is("40: decision " + value, x.audit(value, 2), value);
            Check.is("29: decision " + value, x.possible(), 1 << value);
            Check.is("30: decision " + value, x.completions(value), 1);
            Check.is("31: decision " + value, (x.valuesFor(0, value) >> value) % 2, 1);
        }
    }

    private static void otherThanNone() {
        Check.sentence("The decision for a complete request is made from the decisions of the policies that its subject "
                + "may use, other than none");
        PolicyEngine x = engineAt(0, "0+a=1:0;1-a=1:0;2+:0;3-a=1:0;");
        for (int way = 0; way < 4; way++) {
            x.setTopWay(way);
            Check.is("26: the only one, top way " + way, x.decide(), 0);
            Check.is("27: the only one, top way " + way, x.decidingRule(), 2);
        }
        x.setSubject(6);
        x.grant(0, 6, 0, 0, 9);
        x.grant(0, 6, 1, 0, 9);
        x.grant(0, 6, 3, 0, 9);
        for (int way = 0; way < 4; way++) {
            x.setTopWay(way);
            Check.is("26: not one that it may not use, top way " + way, x.decide(), 2);
        }
        x.grant(0, 6, 2, 0, 9);
        Check.is("26: now it may", x.decide(), 0);
    }

    private static void nonePolicies() {
        Check.sentence("If there are none, it is none.");
        PolicyEngine x = engineAt(3, "0+a=4:9;1-a=4:1;");
        PolicyEngine y = engineAt(3, "0+:9;1-:1;");
        y.setSubject(1);
        for (int way = 0; way < 4; way++) {
            x.setTopWay(way);
            y.setTopWay(way);
            Check.is("26: no rule applies, top way " + way, x.decide(), 2);
            Check.is("26: no policy is used, top way " + way, y.decide(), 2);
            Check.is("40: no rule", x.audit(way, 3), -1);
            Check.fails("27: no rule applies", Check.ELEMENT, x::decidingRule);
            Check.fails("27: no policy is used", Check.ELEMENT, y::decidingRule);
            Check.is("26: without rules", engineAt(0).decide(), 2);
        }
    }

    /**
     * Policies 0, 1 and 3 decide by the values of attributes 0, 1 and 3: 1 permit, 2 deny, 3 conflict, otherwise none.
     */
    private static PolicyEngine threePolicies() {
        PolicyEngine x = engineAt(0, "0+a=1:0;0-a=2:0;0+a=3:0;0-a=3:0;1+b=1:0;1-b=2:0;1+b=3:0;1-b=3:0;",
                "3+d=1:0;3-d=2:0;3+d=3:0;3-d=3:0;");
        x.setWay(0, 3);
        x.setWay(1, 3);
        x.setWay(3, 3);
        return x;
    }

    private static final int[] DECISION_AT = {2, 0, 1, 3};

    private interface TopWay {
        int decide(boolean hasPermit, boolean hasDeny, boolean hasConflict, int first, int number);
    }

    /** All 64 combinations of the decisions of three policies. */
    private static void combinations(int way, TopWay due) {
        for (int first = 0; first < 4; first++) {
            PolicyEngine x = threePolicies();
            x.setTopWay(way);
            for (int rest = 0; rest < 16; rest++) {
                int[] values = {first, rest / 4, rest % 4};
                Check.request(x, values[0], values[1], 0, values[2]);
                boolean[] has = new boolean[4];
                int lowest = 2;
                int number = 0;
                for (int policy = 2; policy >= 0; policy--) {
                    has[values[policy]] = true;
                    lowest = values[policy] > 0 ? DECISION_AT[values[policy]] : lowest;
                    number += values[policy] > 0 ? 1 : 0;
                }
                int decision = number == 0 ? 2 : due.decide(has[1], has[2], has[3], lowest, number);
                Check.is("26: top way " + way + ", case " + first + "/" + rest, x.decide(), decision);
                Check.is("40: its rule", x.audit(x.auditCount() - 1, 3), ruleDue(values, decision));
            }
        }
    }

    private static int ruleDue(int[] values, int decision) {
        for (int policy = 0; policy < 3; policy++) {
            if (decision < 2 && values[policy] > 0 && DECISION_AT[values[policy]] == decision) {
                return 4 * policy + decision;
            }
        }
        return -1;
    }

    private static void topDenyWins() {
        Check.sentence("With way 0, it is deny if one of them is deny, otherwise conflict if one of them is conflict, "
                + "otherwise permit");
        combinations(0, (permit, deny, conflict, first, number) -> deny ? 1 : conflict ? 3 : 0);
    }

    private static void topPermitWins() {
        Check.sentence("with way 1, it is permit if one of them is permit, otherwise conflict if one of them is conflict, "
                + "otherwise deny");
        combinations(1, (permit, deny, conflict, first, number) -> permit ? 0 : conflict ? 3 : 1);
    }

    private static void topFirst() {
        Check.sentence("with way 2, it is that of the policy with the lowest number");
        combinations(2, (permit, deny, conflict, first, number) -> first);
    }

    private static void topOnly() {
        Check.sentence("with way 3, it is that of the only one, or conflict if there are several.");
        combinations(3, (permit, deny, conflict, first, number) -> number == 1 ? first : 3);
    }

    private static void decidingRuleOfAll() {
        Check.sentence("the deciding rule is that of the policy with the lowest number among those that the subject may "
                + "use and that have this decision.");
        PolicyEngine x = engineAt(0, "3-:9;2-:9;1+:9;0+:0;");
        x.setSubject(7);
        x.grant(0, 7, 3, 0, 10);
        Check.is("27: policy 3", x.decidingRule(), 0);
        x.grant(0, 7, 2, 0, 9);
        Check.is("27: policy 2", x.decidingRule(), 1);
        x.grant(0, 7, 1, 0, 8);
        Check.is("27: policy 1 permits", x.decidingRule(), 1);
        x.setTopWay(1);
        Check.is("27: now it does", x.decidingRule(), 2);
        x.grant(0, 7, 0, 0, 7);
        Check.is("27: policy 0", x.decidingRule(), 3);
        x.tick(8);
        Check.is("27: policy 1 again", x.decidingRule(), 2);
        x.tick(2);
        Check.is("27: policy 3 again", x.decidingRule(), 0);
        x.tick(1);
        Check.fails("27: none", Check.ELEMENT, x::decidingRule);
        x.setSubject(0);
        Check.is("27: subject 0", x.decidingRule(), 3);
    }

    private static void noDecidingRule() {
        Check.sentence("if the decision is none or conflict");
        PolicyEngine x = engineAt(0, "0+:1;0-:1;2+:1;");
        x.setWay(0, 3);
        Check.fails("27: conflict of a policy", Check.ELEMENT, x::decidingRule);
        x.setTopWay(1);
        Check.is("27: permit", x.decidingRule(), 2);
        x.setTopWay(3);
        Check.fails("27: conflict of two", Check.ELEMENT, x::decidingRule);
        x.setWay(0, 0);
        Check.fails("27: conflict of a permit and a deny", Check.ELEMENT, x::decidingRule);
        x.setTopWay(2);
        Check.is("27: the first", x.decidingRule(), 1);
        Check.fails("27: none", Check.ELEMENT, () -> engineAt(0, "0+a=1:1;").decidingRule());
        PolicyEngine y = new PolicyEngine();
        Check.fails("27: not complete, before none", Check.STATE, y::decidingRule);
    }

    private static void policyNotUsed() {
        Check.sentence("Returns the decision of a policy for the request, whether its subject may use it or not.");
        PolicyEngine x = engineAt(0, "0+:1;3-:1;");
        for (int subject = 0; subject < 10; subject++) {
            x.setSubject(subject);
            Check.is("28: policy 0", x.policyDecision(0), 0);
            Check.is("28: policy 1", x.policyDecision(1), 2);
            Check.is("28: policy 3", x.policyDecision(3), 1);
        }
        Check.fails("28: policy 4", Check.INDEX, () -> x.policyDecision(4));
        Check.fails("28: policy -1", Check.INDEX, () -> x.policyDecision(-1));
    }

    private static void atMostThreeUnknown() {
        Check.sentence("if the request has no value for more than 3 attributes");
        for (int set = 0; set < 64; set++) {
            PolicyEngine x = engineAt(5, "0+a=1&f=2:0;");
            for (int attribute = 0; attribute < 6; attribute++) {
                x.setValue(attribute, (set >> attribute) % 2 == 1 ? -1 : 5);
            }
            if (Integer.bitCount(set) > 3) {
                Check.fails("29: " + set, Check.STATE, x::possible);
                for (int decision = 0; decision < 4; decision++) {
                    int each = decision;
                    Check.fails("30: " + set, Check.STATE, () -> x.completions(each));
                }
                Check.fails("30: no decision, " + set, Check.ARGUMENT, () -> x.completions(4));
            } else {
                int all = 1 << 4 * Integer.bitCount(set);
                int permits = (set & 33) == 33 ? all / 256 : 0;
                Check.is("29: " + set, x.possible(), permits > 0 ? 5 : 4);
                Check.is("30: permits, " + set, x.completions(0), permits);
                Check.is("30: none, " + set, x.completions(2), all - permits);
            }
        }
    }

    private static void possibleDecisions() {
        Check.sentence("Returns the decisions that completions of the request have.");
        PolicyEngine x = engineAt(0, "0+a=15&b=15&c=15:0;0-a=0&b=0&c=0:0;0+d=1:0;0-d=1:0;");
        x.setWay(0, 3);
        Check.request(x, -1, -1, -1, 0);
        Check.is("29: permit and deny, each at one end", x.possible(), 7);
        x.setValue(3, 1);
        Check.is("29: conflict alone", x.possible(), 8);
        x.setValue(2, 0);
        x.setValue(3, 0);
        Check.is("29: without permit", x.possible(), 6);
        Check.request(x, 0, 0);
        Check.is("29: deny alone", x.possible(), 2);
        Check.request(x, 15, 15, 15);
        Check.is("29: permit alone", x.possible(), 1);
        x.setValue(0, 14);
        Check.is("29: none alone", x.possible(), 4);
        Check.request(x, 15, 15, 15, -1);
        Check.is("29: permit and conflict", x.possible(), 9);
        PolicyEngine y = engineAt(0, "0+a=0&b=1:0;0-a=1&b=0:0;");
        Check.request(y, -1, -1);
        y.setTopWay(3);
        Check.is("29: no conflict of what excludes one another", y.possible(), 7);
    }

    private static void sameSubject() {
        Check.sentence("A completion of a request has the same subject and the same values, and any values for the "
                + "attributes for which it has none.");
        PolicyEngine x = engineAt(5, "0+:0;1-a=5:0;1-b=5:0;");
        Check.request(x, -1, 4, -1);
        x.setSubject(3);
        Check.is("29: no policy", x.possible(), 4);
        Check.is("30: no policy", x.completions(2), 256);
        x.grant(0, 3, 1, 0, 4);
        Check.is("29: policy 1", x.possible(), 6);
        Check.is("30: policy 1", x.completions(1), 16);
        Check.is("31: policy 1", x.valuesFor(0, 1), 1 << 5);
        x.tick(5);
        Check.is("29: not any more", x.possible(), 4);
        x.setSubject(0);
        Check.is("29: subject 0", x.possible(), 3);
        Check.is("30: subject 0", x.completions(0), 240);
        Check.is("23: the request stays", x.unknown(), 5);
        Check.is("22: and its values", x.setValue(1, 4), 4);
    }

    private static void completionsCounted() {
        Check.sentence("Returns how many completions of the request have a decision.");
        PolicyEngine x = engineAt(0, "0+:0;");
        for (int known = 6; known >= 3; known--) {
            Check.is("30: all of them", x.completions(0), 1 << 4 * (6 - known));
            for (int decision = 1; decision < 4; decision++) {
                Check.is("30: none of them", x.completions(decision), 0);
            }
            x.setValue(known - 1, -1);
        }
        PolicyEngine y = engineAt(0, "0+a<1:0;0-a>15&b>15&c>15:9;0-a=0&b=15&c=0:0;");
        Check.request(y, -1, -1, -1);
        y.setTopWay(2);
        Check.is("30: all but one of a sixteenth", y.completions(0), 255);
        Check.is("30: two of them", y.completions(1), 2);
        Check.is("30: the others", y.completions(2), 4096 - 257);
    }

    /** 24 rules, of which each decides for one value of attribute 0 or 1, the last one for all others. */
    private static void allRules() {
        Check.sentence("There are at most 24 rules");
        PolicyEngine x = engineAt(0);
        for (int rule = 0; rule < 24; rule++) {
            x.addRule(2, rule % 2 == 1, rule < 23 ? 9 : 0);
            if (rule < 23) {
                x.addCondition(rule, rule / 16, 0, rule % 16);
            }
        }
        x.setWay(2, 2);
        for (int rule = 0; rule < 16; rule++) {
            x.setValue(0, rule);
            Check.is("24: rule " + rule, x.applies(rule), 1);
            Check.is("25: the next rule", x.failing((rule + 1) % 16), 0);
            Check.is("26: rule " + rule, x.decide(), rule % 2);
            Check.is("27: rule " + rule, x.decidingRule(), rule);
            Check.is("28: rule " + rule, x.policyDecision(2), rule % 2);
        }
        Check.is("31: permit", x.valuesFor(0, 0), 0x5555);
        Check.is("31: deny", x.valuesFor(0, 1), 0xAAAA);
        Check.request(x, -1, -1, -1);
        Check.is("29: both", x.possible(), 3);
        Check.is("30: half of them", x.completions(0), 2048);
        Check.is("30: the other half", x.completions(1), 2048);
        x.specialize(0, 15);
        Check.is("8: nine are left", x.ruleCount(), 9);
        Check.request(x, -1, -1, -1);
        Check.is("30: always the first", x.completions(1), 4096);
        x.removeRule(0);
        Check.is("30: by attribute 1", x.completions(0), 4 * 256);
        Check.is("30: and all others", x.completions(1), 12 * 256);
        Check.is("31: by attribute 1", x.valuesFor(1, 0), 0x55);
    }

    private static void decisionNumbers() {
        Check.sentence("if decision is out of range");
        PolicyEngine x = engineAt(0, "0+:0;");
        Check.is("30: 0", x.completions(0), 1);
        Check.is("30: 3", x.completions(3), 0);
        Check.fails("30: 4", Check.ARGUMENT, () -> x.completions(4));
        Check.fails("30: -1", Check.ARGUMENT, () -> x.completions(-1));
        Check.is("31: 0", x.valuesFor(5, 0), 65535);
        Check.is("31: 3", x.valuesFor(5, 3), 0);
        Check.fails("31: 4", Check.ARGUMENT, () -> x.valuesFor(5, 4));
        Check.fails("31: -1", Check.ARGUMENT, () -> x.valuesFor(5, -1));
        Check.fails("31: attribute 6", Check.INDEX, () -> x.valuesFor(6, 0));
        Check.fails("31: attribute -1", Check.INDEX, () -> x.valuesFor(-1, 0));
        Check.fails("31: attribute 6 and decision 4", Check.INDEX, () -> x.valuesFor(6, 4));
    }

    private static void valuesForItself() {
        Check.sentence("valuesFor does not count the attribute itself among the other attributes.");
        for (int set = 0; set < 64; set++) {
            PolicyEngine x = engineAt(5, "0+b=0:0;0+b=15:0;");
            for (int attribute = 0; attribute < 6; attribute++) {
                x.setValue(attribute, (set >> attribute) % 2 == 1 ? -1 : 5);
            }
            for (int attribute = 0; attribute < 6; attribute++) {
                int each = attribute;
                String what = "31: " + set + ", attribute " + attribute;
                if (Integer.bitCount(set & ~(1 << attribute)) > 2) {
                    Check.fails(what, Check.STATE, () -> x.valuesFor(each, 0));
                } else {
                    boolean isAny = attribute != 1 && (set & 2) != 0;
                    Check.is(what, x.valuesFor(attribute, 0), attribute == 1 ? 32769 : isAny ? 65535 : 0);
                }
            }
        }
    }

    private static void valuesForAllOrNone() {
        Check.sentence("Returns the set of the values v for which a completion of the request with value v for the "
                + "attribute has the decision.");
        PolicyEngine x = engineAt(0, "0+a=15:0;0-a=0:0;1+a{4,9}:0;1-a{4,9}&f=15:0;");
        x.setWay(1, 3);
        int[] due = {1 << 15 | 1 << 4 | 1 << 9, 1, 65535 & ~(1 << 15 | 1 << 4 | 1 << 9 | 1), 0};
        for (int decision = 0; decision < 4; decision++) {
            Check.is("31: decision " + decision, x.valuesFor(0, decision), due[decision]);
        }
        Check.request(x, -1, -1, 0, 0, 0, -1);
        Check.is("31: conflict", x.valuesFor(0, 3), 1 << 4 | 1 << 9);
        Check.is("31: permit", x.valuesFor(0, 0), due[0]);
        Check.is("31: of the last attribute", x.valuesFor(5, 3), 1 << 15);
        Check.is("31: all", x.valuesFor(5, 1), 65535);
    }

    private static void valuesForInPlace() {
        Check.sentence("with this value in place of the one that it has");
        PolicyEngine x = engineAt(7, "0+c=3&d=7:0;");
        Check.is("31: another value", x.valuesFor(2, 0), 8);
        Check.is("31: not its own", x.valuesFor(2, 2), 65535 - 8);
        Check.is("22: its own stays", x.setValue(2, 3), 7);
        Check.is("31: its own", x.valuesFor(2, 0), 8);
        Check.is("31: of the other attribute", x.valuesFor(3, 0), 128);
        x.setValue(2, -1);
        Check.is("31: it has none", x.valuesFor(2, 0), 8);
        Check.is("31: the other has none", x.valuesFor(3, 0), 128);
        Check.is("23: it has none still", x.unknown(), 4);
    }
}
