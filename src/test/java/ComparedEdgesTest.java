/** The boundary cases of promises 32 to 38: a test for each sentence. */
public final class ComparedEdgesTest {
    public static void main(String[] args) {
        extents();
        extentApartFromSubjects();
        overlaps();
        overlapsWithItself();
        covers();
        eachAttribute();
        coversNothing();
        clashesOfOnePolicy();
        clashesOfDifferentEffects();
        clashesOfAll();
        neverDeciding();
        neverDecidingOfAll();
        decidesForItsPolicy();
        decidesAtOneRequest();
        rivalsByWay();
        subjectsDoNotMatter();
        firstAndLastWitness();
        witnessOrder();
        eachWayToAvoid();
        witnessWithoutOne();
        witnessNumbers();
        blockerLowest();
        blockerOfAnotherPolicy();
        blockerDecides();
        blockerNone();
        Check.end("ComparedEdgesTest");
    }

    private static final String ALL = "{0,1,2,3,4,5,6,7,8,9,10,11,12,13,14,15}";

    private static String witness(PolicyEngine x, int rule) {
        StringBuilder text = new StringBuilder();
        for (int attribute = 0; attribute < 6; attribute++) {
            text.append(attribute > 0 ? "," : "").append(x.witness(rule, attribute));
        }
        return text.toString();
    }

    private static void extents() {
        Check.sentence("Returns the number, 0 to 16777216.");
        PolicyEngine x = Check.engine("0+:0;0+a>0:0;0+a<0:0;0+a<1:0;0+a>15:0;0+a#0:0;0+a=15:0;",
                "0+a{3}:0;0+a=1&a=2:0;0+a<8&a<8:0;0+a<8&a>8:0;");
        int row = 1048576;
        int[] due = {16 * row, 16 * row, 0, row, row, 15 * row, row, row, 0, 8 * row, 0};
        for (int rule = 0; rule < due.length; rule++) {
            Check.is("32: rule " + rule, x.extent(rule), due[rule]);
        }
        PolicyEngine y = Check.engine("0+a" + ALL + ":0;0+a=1:0;");
        Check.is("32: a set of all", y.extent(0), 16 * row);
        for (int attribute = 1; attribute < 4; attribute++) {
            y.addCondition(1, attribute, 0, 0);
        }
        Check.is("32: the least that is not 0", y.extent(1), 256);
        Check.fails("32: rule 2", Check.INDEX, () -> y.extent(2));
        Check.fails("32: rule -1", Check.INDEX, () -> y.extent(-1));
    }

    private static void extentApartFromSubjects() {
        Check.sentence("Returns the number of complete requests, apart from their subjects, to which a rule applies.");
        PolicyEngine x = Check.engine("0+e=1:0;0-:9;");
        x.setSubject(9);
        Check.request(x, 1, 2, 3, 4, 5, 6);
        Check.is("32: whatever the request and the others are", x.extent(0), 1048576);
        x.setPriority(0, 8);
        x.setWay(0, 3);
        Check.is("32: whatever the priority and the way are", x.extent(0), 1048576);
    }

    private static void overlaps() {
        Check.sentence("Returns whether there is a complete request to which two rules apply.");
        PolicyEngine x = Check.engine("0+a<6:0;1-a>5:0;2+a>6:0;3-b=1:0;0+b#1:0;0+:0;0+a<5&b=1:0;");
        boolean[][] due = {
                {true, true, false, true, true, true, true},
                {true, true, true, true, true, true, false},
                {false, true, true, true, true, true, false},
                {true, true, true, true, false, true, true},
                {true, true, true, false, true, true, false},
                {true, true, true, true, true, true, true},
                {true, false, false, true, false, true, true}};
        for (int first = 0; first < 7; first++) {
            for (int second = 0; second < 7; second++) {
                Check.is("33: " + first + " and " + second, x.overlap(first, second), due[first][second]);
            }
        }
        Check.fails("33: rule 7 first", Check.INDEX, () -> x.overlap(7, 6));
        Check.fails("33: rule 7 second", Check.INDEX, () -> x.overlap(6, 7));
        Check.fails("33: both", Check.INDEX, () -> x.overlap(7, 7));
        Check.fails("33: -1 twice", Check.INDEX, () -> x.overlap(-1, -1));
        PolicyEngine y = Check.engine("0+f=15:0;0+f>15:0;0+f<15:0;0+e=0&f=15:0;0+e>1:0;");
        Check.is("33: at the last value", y.overlap(0, 1), true);
        Check.is("33: but not at it", y.overlap(0, 2), false);
        Check.is("33: one attribute of two", y.overlap(3, 4), false);
    }

    private static void overlapsWithItself() {
        Check.sentence("Returns true if there is one.");
        PolicyEngine x = Check.engine("0+:0;0+a=1&b=2&c=3&d=4:0;0+a<0:0;0+a=1&a=2:0;");
        boolean[] due = {true, true, false, false};
        for (int rule = 0; rule < 4; rule++) {
            Check.is("33: " + rule + " twice", x.overlap(rule, rule), due[rule]);
            Check.is("33: everything and " + rule, x.overlap(0, rule), due[rule]);
            Check.is("33: " + rule + " and everything", x.overlap(rule, 0), due[rule]);
            Check.is("33: nothing and " + rule, x.overlap(2, rule), false);
        }
    }

    private static void covers() {
        Check.sentence("Returns whether a rule applies to each complete request to which another one applies.");
        PolicyEngine x = Check.engine("0+a<6:0;1-a<5:0;2+a<6&b=1:0;3-:0;0+a{0,1,2,3,4,5}:0;0+c>0:0;0+c#0:0;");
        boolean[][] due = {
                {true, true, true, false, true, false, false},
                {false, true, false, false, false, false, false},
                {false, false, true, false, false, false, false},
                {true, true, true, true, true, true, true},
                {true, true, true, false, true, false, false},
                {true, true, true, true, true, true, true},
                {false, false, false, false, false, false, true}};
        for (int first = 0; first < 7; first++) {
            for (int second = 0; second < 7; second++) {
                Check.is("34: " + first + " covers " + second, x.covers(first, second), due[first][second]);
            }
        }
        Check.fails("34: rule 7 first", Check.INDEX, () -> x.covers(7, 6));
        Check.fails("34: rule 7 second", Check.INDEX, () -> x.covers(6, 7));
        Check.fails("34: both", Check.INDEX, () -> x.covers(7, 7));
        Check.fails("34: -1 twice", Check.INDEX, () -> x.covers(-1, -1));
    }

    /** A condition on one attribute alone, for each attribute. */
    private static void eachAttribute() {
        Check.sentence("to each complete request to which another one applies");
        PolicyEngine x = new PolicyEngine();
        for (int attribute = 0; attribute < 6; attribute++) {
            x.addRule(0, attribute % 2 == 0, 0);
            x.addCondition(attribute, attribute, 3, 15);
        }
        x.addRule(0, false, 0);
        for (int attribute = 0; attribute < 6; attribute++) {
            x.addRule(0, attribute % 2 == 1, 0);
            x.addCondition(7 + attribute, attribute, 2, 15);
        }
        for (int first = 0; first < 6; first++) {
            Check.is("32: " + first, x.extent(first), 1048576);
            Check.is("34: all by " + first, x.covers(first, 6), false);
            Check.is("34: " + first + " by all", x.covers(6, first), true);
            for (int second = 0; second < 6; second++) {
                Check.is("34: " + first + " covers " + second, x.covers(first, second), first == second);
                Check.is("33: " + first + " and " + second, x.overlap(first, second), true);
                Check.is("33: " + first + " and the rest of " + second, x.overlap(first, 7 + second), first != second);
            }
        }
    }

    private static void coversNothing() {
        Check.sentence("Returns true if it does.");
        PolicyEngine x = Check.engine("0+b=1:0;0+a<0:0;0+c=1&c=2:0;0+a=1:0;0+:0;");
        for (int rule = 0; rule < 5; rule++) {
            Check.is("34: nothing by " + rule, x.covers(rule, 1), true);
            Check.is("34: nothing of another kind by " + rule, x.covers(rule, 2), true);
            Check.is("34: itself " + rule, x.covers(rule, rule), true);
            boolean isNothing = rule == 1 || rule == 2;
            Check.is("34: by nothing " + rule, x.covers(1, rule), isNothing);
            Check.is("34: by nothing of another kind " + rule, x.covers(2, rule), isNothing);
        }
    }

    private static void clashesOfOnePolicy() {
        Check.sentence("Returns the number of pairs of rules of a policy with different effects that overlap.");
        PolicyEngine x = Check.engine("0+:0;1-:0;2+:0;3-:0;");
        for (int policy = 0; policy < 4; policy++) {
            Check.is("35: one rule in " + policy, x.clashes(policy), 0);
        }
        for (int policy = 0; policy < 4; policy++) {
            x.addRule(policy, policy % 2 == 0, 9);
            Check.is("35: two rules in " + policy, x.clashes(policy), 1);
        }
        Check.fails("35: policy 4", Check.INDEX, () -> x.clashes(4));
        Check.fails("35: policy -1", Check.INDEX, () -> x.clashes(-1));
        Check.is("35: without rules", new PolicyEngine().clashes(0), 0);
    }

    private static void clashesOfDifferentEffects() {
        Check.sentence("with different effects that overlap");
        PolicyEngine x = Check.engine("1+a<6:0;1-a>5:1;1-a>6:2;1+a<6:3;1-a<0:4;1+:5;1+a=1&a=2:6;");
        Check.is("35: five pairs", x.clashes(1), 2 + 2);
        x.setWay(1, 3);
        Check.is("35: whatever the way is", x.clashes(1), 4);
        Check.is("35: none of another policy", x.clashes(0), 0);
    }

    private static void clashesOfAll() {
        Check.sentence("Returns the number of pairs.");
        PolicyEngine x = new PolicyEngine();
        for (int rule = 0; rule < 24; rule++) {
            x.addRule(3, rule % 2 == 0, rule % 10);
            x.addCondition(rule, 0, 3, 15);
        }
        Check.is("35: twelve and twelve", x.clashes(3), 144);
        PolicyEngine y = new PolicyEngine();
        for (int rule = 0; rule < 24; rule++) {
            y.addRule(3, true, 0);
        }
        Check.is("35: 24 of one effect", y.clashes(3), 0);
    }

    private static void neverDeciding() {
        Check.sentence("Returns the number of rules of a policy that never decide.");
        PolicyEngine x = Check.engine("0+:0;1-:0;1-a<0:0;2+:5;2+:5;2+:5;3-b=1&b=2:0;");
        int[] due = {0, 1, 2, 1};
        for (int policy = 0; policy < 4; policy++) {
            Check.is("36: policy " + policy, x.neverDeciding(policy), due[policy]);
        }
        Check.fails("36: policy 4", Check.INDEX, () -> x.neverDeciding(4));
        Check.fails("36: policy -1", Check.INDEX, () -> x.neverDeciding(-1));
    }

    private static void neverDecidingOfAll() {
        Check.sentence("A rule without a witness never decides.");
        PolicyEngine x = new PolicyEngine();
        for (int rule = 0; rule < 24; rule++) {
            x.addRule(1, false, rule % 10);
        }
        int[] due = {23, 23, 23, 24};
        for (int way = 0; way < 4; way++) {
            x.setWay(1, way);
            Check.is("36: way " + way, x.neverDeciding(1), due[way]);
        }
        PolicyEngine y = new PolicyEngine();
        for (int rule = 0; rule < 24; rule++) {
            y.addRule(1, rule % 2 == 0, 0);
            y.addCondition(rule, rule / 16, 0, rule % 16);
            if (rule >= 16) {
                y.addCondition(rule, 0, 2, 0);
            }
        }
        Check.is("36: sixteen apart and eight nowhere", y.neverDeciding(1), 8);
    }

    private static void decidesForItsPolicy() {
        Check.sentence("A rule decides for a complete request if it is the deciding rule of its policy for this request.");
        PolicyEngine x = Check.engine("0-:9;1+:0;2-:5;3+:5;");
        x.setTopWay(2);
        for (int rule = 0; rule < 4; rule++) {
            Check.is("37: though another policy decides, rule " + rule, witness(x, rule), "0,0,0,0,0,0");
            Check.is("36: policy " + rule, x.neverDeciding(rule), 0);
        }
    }

    private static void decidesAtOneRequest() {
        Check.sentence("without which a rule that never decides would decide somewhere");
        PolicyEngine x = Check.engine("0-a>1:9;0-b>1:9;0-c>1:9;0-d>1:9;0-e>1:9;0-f>1:9;0+:0;");
        Check.is("37: the first request alone", witness(x, 6), "0,0,0,0,0,0");
        x.addRule(0, true, 0);
        for (int attribute = 0; attribute < 4; attribute++) {
            x.addCondition(7, attribute, 0, 0);
        }
        Check.fails("37: not even that", Check.ELEMENT, () -> x.witness(6, 0));
        for (int rule = 0; rule < 6; rule++) {
            x.removeRule(rule);
            if (rule < 4) {
                Check.is("37: without " + rule, x.witness(5, rule), 1);
            } else {
                Check.fails("37: still taken without " + rule, Check.ELEMENT, () -> x.witness(5, 0));
            }
            x.undo();
        }
        Check.is("38: the first of five", x.blocker(6), 0);
        PolicyEngine y = Check.engine("0-a<15:9;0-b<15:9;0-c<15:9;0-d<15:9;0-e<15:9;0-f<15:9;0+:0;");
        Check.is("37: the last request alone", witness(y, 6), "15,15,15,15,15,15");
        y.removeRule(5);
        Check.is("37: without the last", witness(y, 5), "15,15,15,15,15,0");
    }

    private static void rivals(String text, int way, String... due) {
        PolicyEngine x = Check.engine(text);
        x.setWay(0, way);
        for (int rule = 0; rule < due.length; rule++) {
            int each = rule;
            String what = "37: " + text + ", way " + way + ", rule " + rule;
            if (due[rule].isEmpty()) {
                Check.fails(what, Check.ELEMENT, () -> x.witness(each, 0));
            } else {
                Check.is(what, witness(x, rule), due[rule]);
            }
        }
    }

    /** Of the rules at a<2, a<4, a<6 and so on, each must be avoided or not. */
    private static void rivalsByWay() {
        Check.sentence("If the decision of a policy is permit or deny, the deciding rule of the policy is");
        String equal = "0+a<1:5;0-a<2:5;0+a<3:5;0-a<4:5;";
        rivals(equal, 0, "", "0,0,0,0,0,0", "", "2,0,0,0,0,0");
        rivals(equal, 1, "0,0,0,0,0,0", "", "1,0,0,0,0,0", "3,0,0,0,0,0");
        rivals(equal, 2, "0,0,0,0,0,0", "1,0,0,0,0,0", "2,0,0,0,0,0", "3,0,0,0,0,0");
        rivals(equal, 3, "", "", "", "3,0,0,0,0,0");
        String rising = "0+a<1:1;0-a<2:2;0+a<3:3;0-a<4:4;";
        rivals(rising, 0, "", "", "", "0,0,0,0,0,0");
        rivals(rising, 1, "", "", "0,0,0,0,0,0", "3,0,0,0,0,0");
        rivals(rising, 2, "", "", "", "0,0,0,0,0,0");
        rivals(rising, 3, "", "", "", "3,0,0,0,0,0");
    }

    private static void subjectsDoNotMatter() {
        Check.sentence("for which it decides; subjects do not matter for that.");
        PolicyEngine x = Check.engine("3+b>4:0;");
        x.setSubject(9);
        Check.is("16: it may not use it", x.policies(9), 0);
        Check.is("37: nevertheless", witness(x, 0), "0,4,0,0,0,0");
        Check.request(x, 9, 9, 9, 9, 9, 9);
        Check.is("37: whatever the request is", witness(x, 0), "0,4,0,0,0,0");
        Check.is("36: it decides", x.neverDeciding(3), 0);
    }

    private static void firstAndLastWitness() {
        Check.sentence("The witness of a rule is the lexicographically first complete request, by the values of the "
                + "attributes 0 to 5");
        PolicyEngine x = Check.engine("0+:0;1-a=15&b=15&c=15&d=15:0;2+e=15&f=15:0;3-f>15:0;3-f<15:9;");
        Check.is("37: the first of all", witness(x, 0), "0,0,0,0,0,0");
        Check.is("37: four at the end", witness(x, 1), "15,15,15,15,0,0");
        Check.is("37: the last two", witness(x, 2), "0,0,0,0,15,15");
        Check.is("37: the last one", witness(x, 3), "0,0,0,0,0,15");
    }

    private static void witnessOrder() {
        Check.sentence("is the lexicographically first complete request");
        PolicyEngine x = Check.engine("0-a=0&b<15:9;0-a=0&b=15&c=0:9;0+:0;");
        Check.is("37: a later attribute is the greater", witness(x, 2), "0,15,1,0,0,0");
        x.addRule(0, true, 0);
        x.addCondition(3, 0, 0, 0);
        x.addCondition(3, 1, 0, 15);
        x.addCondition(3, 2, 3, 1);
        Check.is("37: none of them is left", witness(x, 2), "1,0,0,0,0,0");
        x.removeRule(0);
        Check.is("37: the lower ones are free", witness(x, 1), "0,0,0,0,0,0");
    }

    /** A rule is avoided by one of its attributes, though another one could do it, too, as far as it goes alone. */
    private static void eachWayToAvoid() {
        Check.sentence("for which it decides");
        String[] letters = {"a", "b", "c", "d", "e", "f"};
        for (int free = 0; free < 6; free++) {
            for (int taken = 0; taken < 6; taken++) {
                int third = free != 5 && taken != 5 ? 5 : free != 4 && taken != 4 ? 4 : 3;
                if (free == taken) {
                    continue;
                }
                String a = letters[free];
                String b = letters[taken];
                String c = letters[third];
                PolicyEngine x = Check.engine("0-" + a + "<8&" + b + "<8:9;0-" + b + ">8&" + c + "<8:9;"
                        + "0-" + b + ">8&" + c + ">8:9;0+:0;");
                for (int attribute = 0; attribute < 6; attribute++) {
                    Check.is("37: " + a + " and not " + b, x.witness(3, attribute), attribute == free ? 8 : 0);
                }
            }
        }
    }

    private static void witnessWithoutOne() {
        Check.sentence("if the rule never decides");
        PolicyEngine x = Check.engine("0+a<0:9;0+b=1&b=2:9;0-:5;0+:9;0-:4;");
        for (int attribute = 0; attribute < 6; attribute++) {
            int each = attribute;
            Check.fails("37: applies nowhere", Check.ELEMENT, () -> x.witness(0, each));
            Check.fails("37: conditions that exclude one another", Check.ELEMENT, () -> x.witness(1, each));
            Check.fails("37: deny wins", Check.ELEMENT, () -> x.witness(3, each));
            Check.fails("37: the other deny comes before", Check.ELEMENT, () -> x.witness(4, each));
            Check.is("37: it decides", x.witness(2, attribute), 0);
        }
    }

    private static void witnessNumbers() {
        Check.sentence("if there is no such rule or attribute");
        PolicyEngine x = Check.engine("0+f=7:9;0-f<0:0;");
        Check.is("37: attribute 5", x.witness(0, 5), 7);
        Check.is("37: attribute 0", x.witness(0, 0), 0);
        Check.fails("37: attribute 6", Check.INDEX, () -> x.witness(0, 6));
        Check.fails("37: attribute -1", Check.INDEX, () -> x.witness(0, -1));
        Check.fails("37: attribute 6 of one that never decides", Check.INDEX, () -> x.witness(1, 6));
        Check.fails("37: rule 2", Check.INDEX, () -> x.witness(2, 0));
        Check.fails("37: rule -1", Check.INDEX, () -> x.witness(-1, 0));
    }

    private static void blockerLowest() {
        Check.sentence("Returns the rule with the lowest number, other than the rule itself");
        PolicyEngine x = Check.engine("0+a<8:5;0-a<8:0;0-a>8:0;0-b=1:0;0+:5;");
        Check.is("38: of the first, the only one", x.blocker(0), 1);
        Check.is("38: of the last, not one where others are in the way", x.blocker(4), 2);
        x.removeRule(1);
        Check.fails("38: the first decides now", Check.STATE, () -> x.blocker(0));
        PolicyEngine y = Check.engine("0+:5;0+b=2:7;0+:6;");
        Check.is("38: of the same effect", y.blocker(0), 2);
        y.setWay(0, 3);
        Check.is("38: of the last, the first", y.blocker(2), 0);
        PolicyEngine z = new PolicyEngine();
        for (int rule = 0; rule < 23; rule++) {
            z.addRule(0, false, 1);
            z.addCondition(rule, 0, 0, 1);
            z.addCondition(rule, 1, 0, rule % 16);
        }
        z.addRule(0, true, 9);
        Check.is("38: the last of 24", z.blocker(0), 23);
        Check.fails("38: it is not the only one", Check.ELEMENT, () -> z.blocker(22));
        z.setPriority(23, 0);
        z.setPriority(22, 0);
        Check.is("37: the last of 24 decides", z.witness(23, 0), 0);
    }

    private static void blockerOfAnotherPolicy() {
        Check.sentence("a rule that never decides would decide somewhere");
        PolicyEngine x = Check.engine("1-:9;0+:9;1+:9;0+:5;0-a<0:9;");
        Check.is("38: not one of another policy", x.blocker(3), 1);
        Check.is("38: of the other policy", x.blocker(2), 0);
        Check.fails("38: its own conditions are in the way", Check.ELEMENT, () -> x.blocker(4));
    }

    private static void blockerDecides() {
        Check.sentence("if the rule decides somewhere");
        PolicyEngine x = Check.engine("0+:9;");
        Check.fails("38: the only rule", Check.STATE, () -> x.blocker(0));
        Check.fails("38: rule 1", Check.INDEX, () -> x.blocker(1));
        Check.fails("38: rule -1", Check.INDEX, () -> x.blocker(-1));
        x.addRule(0, true, 0);
        Check.is("38: not any more", x.blocker(0), 1);
        x.addCondition(1, 5, 1, 15);
        Check.fails("38: at one value", Check.STATE, () -> x.blocker(0));
        Check.is("37: at this", x.witness(0, 5), 15);
        x.setWay(0, 1);
        Check.is("38: of the other", x.blocker(1), 0);
    }

    private static void blockerNone() {
        Check.sentence("if there is no such other rule");
        PolicyEngine x = Check.engine("0+a<0:9;");
        Check.fails("38: the only rule, that applies nowhere", Check.ELEMENT, () -> x.blocker(0));
        PolicyEngine y = Check.engine("0+:5;0-:5;0-:4;");
        Check.fails("38: either of two is in the way", Check.ELEMENT, () -> y.blocker(0));
        Check.is("38: one of the two", y.blocker(2), 1);
        y.removeRule(2);
        Check.is("38: the other is gone", y.blocker(0), 1);
        PolicyEngine z = Check.engine("0+:5;0-a<8:5;0-a>8:5;0-a>7&a<9:5;");
        Check.is("38: where one rule alone is in the way", z.blocker(0), 1);
        z.addRule(0, true, 0);
        z.addCondition(4, 0, 2, 8);
        Check.is("38: the next one", z.blocker(0), 2);
        z.addRule(0, true, 0);
        z.addCondition(5, 0, 3, 9);
        Check.fails("38: a value that two deny", Check.ELEMENT, () -> z.blocker(0));
    }
}
