/** The boundary cases of the description's rules and policies, and of promises 1 to 11: a test for each sentence. */
public final class RuleEdgesTest {
    private static final int ALL = 65535;

    public static void main(String[] args) {
        newObject();
        policies();
        priorities();
        conditionNumbers();
        ruleCounts();
        ruleNumbers();
        fullByRead();
        roomAgain();
        operands();
        operandsOfSets();
        kinds();
        sets();
        allConditions();
        noConditions();
        comesBefore();
        ways();
        topWays();
        whatOfRule();
        whatOfCondition();
        conditionsOfCondition();
        returnsOfRemoveRule();
        laterNumbers();
        previousPriority();
        specializeAll();
        specializeEdges();
        specializeConditions();
        specializeNumbers();
        specializeRange();
        Check.end("RuleEdgesTest");
    }

    private static void newObject() {
        Check.sentence("Creates an engine without rules and grants.");
        PolicyEngine x = new PolicyEngine();
        Check.is("1: rules", x.ruleCount(), 0);
        Check.is("1: grants", x.grantCount(false), 0);
        Check.is("1: valid grants", x.grantCount(true), 0);
        for (int subject = 1; subject < 10; subject++) {
            Check.is("1: policies of " + subject, x.policies(subject), 0);
        }
        for (int policy = 0; policy < 4; policy++) {
            Check.is("1: clashes of " + policy, x.clashes(policy), 0);
            Check.is("1: never deciding of " + policy, x.neverDeciding(policy), 0);
        }
        Check.fails("1: rule 0", Check.INDEX, () -> x.rule(0, 0));
        Check.fails("1: grant 0", Check.INDEX, () -> x.grantAt(0, 0));
        Check.fails("1: decision 0", Check.INDEX, () -> x.audit(0, 0));
        Check.is("1: specialize", x.specialize(0, 0), 0);
    }

    private static void policies() {
        Check.sentence("There are 4 policies, numbered from 0.");
        PolicyEngine x = new PolicyEngine();
        Check.fails("2: -1", Check.INDEX, () -> x.addRule(-1, false, 0));
        Check.fails("2: 4", Check.INDEX, () -> x.addRule(4, false, 0));
        for (int policy = 0; policy < 4; policy++) {
            Check.is("2: " + policy, x.addRule(policy, policy % 2 == 1, 0), policy);
            Check.is("6: " + policy, x.setWay(policy, policy), 0);
        }
        for (int policy = 0; policy < 4; policy++) {
            Check.is("9: policy of " + policy, x.rule(policy, 0), policy);
            Check.is("9: effect of " + policy, x.rule(policy, 1), policy % 2);
            Check.is("6: way of " + policy, x.setWay(policy, 0), policy);
        }
        Check.fails("6: -1", Check.INDEX, () -> x.setWay(-1, 0));
        Check.fails("6: 4", Check.INDEX, () -> x.setWay(4, 0));
    }

    private static void priorities() {
        Check.sentence("a priority from 0 to 9");
        PolicyEngine x = new PolicyEngine();
        for (int priority = 0; priority < 10; priority++) {
            Check.is("2: " + priority, x.addRule(0, false, priority), priority);
            Check.is("9: " + priority, x.rule(priority, 2), priority);
        }
        Check.fails("2: -1", Check.ARGUMENT, () -> x.addRule(0, false, -1));
        Check.fails("2: 10", Check.ARGUMENT, () -> x.addRule(0, false, 10));
        Check.is("5: 9", x.setPriority(0, 9), 0);
        Check.is("5: 0", x.setPriority(0, 0), 9);
        Check.fails("5: -1", Check.ARGUMENT, () -> x.setPriority(0, -1));
        Check.fails("5: 10", Check.ARGUMENT, () -> x.setPriority(0, 10));
        Check.is("5: as it was", x.rule(0, 2), 0);
    }

    private static void conditionNumbers() {
        Check.sentence("0 to 4 conditions, which are numbered from 0");
        PolicyEngine x = Check.engine("0+:1;1-:2;");
        Check.is("9: none", x.rule(0, 3), 0);
        for (int number = 1; number <= 4; number++) {
            Check.is("3: condition " + number, x.addCondition(0, number, 3, number), number);
            Check.is("9: of " + number, x.rule(0, 3), number);
        }
        Check.fails("3: a fifth", Check.STATE, () -> x.addCondition(0, 0, 0, 0));
        for (int index = 0; index < 4; index++) {
            Check.is("10: attribute of " + index, x.condition(0, index, 0), index + 1);
            Check.is("10: kind of " + index, x.condition(0, index, 1), 3);
            Check.is("10: operand of " + index, x.condition(0, index, 2), index + 1);
        }
        Check.is("9: the other rule has none", x.rule(1, 3), 0);
        for (int number = 1; number <= 4; number++) {
            Check.is("3: the same one again", x.addCondition(1, 5, 4, ALL), number);
        }
        Check.fails("3: a fifth of the same", Check.STATE, () -> x.addCondition(1, 5, 4, ALL));
    }

    private static void ruleCounts() {
        Check.sentence("Returns 0 to 24.");
        PolicyEngine x = new PolicyEngine();
        for (int rules = 0; rules < 24; rules++) {
            Check.is("8: before " + rules, x.ruleCount(), rules);
            x.addRule(0, false, 0);
        }
        Check.is("8: the greatest", x.ruleCount(), 24);
        Check.fails("2: refused", Check.STATE, () -> x.addRule(0, false, 0));
        Check.is("8: the greatest still", x.ruleCount(), 24);
        for (int rules = 23; rules >= 0; rules--) {
            x.removeRule(rules);
            Check.is("8: down to " + rules, x.ruleCount(), rules);
        }
    }

    private static void ruleNumbers() {
        Check.sentence("There are at most 24 rules, numbered from 0 in the order in which they were added.");
        PolicyEngine x = new PolicyEngine();
        for (int rule = 0; rule < 24; rule++) {
            Check.is("8: count", x.ruleCount(), rule);
            Check.is("2: number", x.addRule(rule % 4, rule % 2 == 0, rule / 3), rule);
        }
        Check.is("8: 24", x.ruleCount(), 24);
        Check.fails("2: a 25th", Check.STATE, () -> x.addRule(0, false, 0));
        Check.is("8: still 24", x.ruleCount(), 24);
        for (int rule = 0; rule < 24; rule++) {
            Check.is("9: policy of " + rule, x.rule(rule, 0), rule % 4);
            Check.is("9: effect of " + rule, x.rule(rule, 1), rule % 2 == 0 ? 1 : 0);
            Check.is("9: priority of " + rule, x.rule(rule, 2), rule / 3);
        }
        for (int number = 1; number <= 4; number++) {
            Check.is("3: of the last", x.addCondition(23, 5, 2, number), number);
        }
        Check.is("46: the last", Check.text(x, 23), "3+f<1&f<2&f<3&f<4:7;");
    }

    private static void fullByRead() {
        Check.sentence("if there would be more than 24 rules");
        PolicyEngine x = Check.engine("0+:1;0+:1;0+:1;0+:1;0+:1;0+:1;0+:1;0+:1;0+:1;0+:1;0+:1;0+:1;",
                "1+:1;1+:1;1+:1;1+:1;1+:1;1+:1;1+:1;1+:1;1+:1;1+:1;");
        Check.type(x, "2+:1;2+:2;2+:3;");
        Check.fails("44: 22 and 3", Check.STATE, x::read);
        Check.is("8: still 22", x.ruleCount(), 22);
        Check.type(x, "3-a=1:4;3-:5;");
        Check.is("44: 22 and 2", x.read(), 2);
        Check.is("8: 24", x.ruleCount(), 24);
        Check.is("46: the last but one", Check.text(x, 22), "3-a=1:4;");
        Check.is("46: the last", Check.text(x, 23), "3-:5;");
        Check.type(x, "0+:0;");
        Check.fails("44: 24 and 1", Check.STATE, x::read);
        Check.fails("2: a 25th", Check.STATE, () -> x.addRule(0, false, 0));
    }

    private static void roomAgain() {
        Check.sentence("if there are 24 rules");
        PolicyEngine x = new PolicyEngine();
        for (int rule = 0; rule < 24; rule++) {
            x.addRule(0, false, rule % 10);
        }
        x.addCondition(23, 2, 1, 5);
        x.removeRule(3);
        Check.is("2: after a removal", x.addRule(2, true, 8), 23);
        Check.is("9: a new rule has no conditions", x.rule(23, 3), 0);
        Check.fails("2: full again", Check.STATE, () -> x.addRule(2, true, 8));
        x.undo();
        Check.is("2: after undo", x.addRule(3, true, 8), 23);
        x.addCondition(5, 1, 0, 3);
        Check.is("11: one is removed", x.specialize(1, 4), 1);
        Check.is("2: after specialize", x.addRule(1, true, 8), 23);
        Check.fails("2: full after specialize", Check.STATE, () -> x.addRule(1, true, 8));
    }

    private static void operands() {
        Check.sentence("Operands are from 0 to 15");
        for (int kind = 0; kind < 4; kind++) {
            int each = kind;
            PolicyEngine x = Check.engine("0+:1;");
            Check.fails("3: -1", Check.ARGUMENT, () -> x.addCondition(0, 0, each, -1));
            Check.fails("3: 16", Check.ARGUMENT, () -> x.addCondition(0, 0, each, 16));
            Check.is("3: 0", x.addCondition(0, 0, kind, 0), 1);
            Check.is("3: 15", x.addCondition(0, 5, kind, 15), 2);
            Check.is("10: 0", x.condition(0, 0, 2), 0);
            Check.is("10: 15", x.condition(0, 1, 2), 15);
            Check.is("10: kind", x.condition(0, 1, 1), kind);
        }
    }

    private static void operandsOfSets() {
        Check.sentence("those of kind 4 from 1 to 65535.");
        PolicyEngine x = Check.engine("0+:1;");
        Check.fails("3: 0", Check.ARGUMENT, () -> x.addCondition(0, 0, 4, 0));
        Check.fails("3: 65536", Check.ARGUMENT, () -> x.addCondition(0, 0, 4, 65536));
        Check.fails("3: 65537", Check.ARGUMENT, () -> x.addCondition(0, 0, 4, 65537));
        Check.fails("3: -1", Check.ARGUMENT, () -> x.addCondition(0, 0, 4, -1));
        Check.is("3: 1", x.addCondition(0, 0, 4, 1), 1);
        Check.is("3: 65535", x.addCondition(0, 0, 4, ALL), 2);
        Check.is("3: 16", x.addCondition(0, 0, 4, 16), 3);
        Check.is("3: 32768", x.addCondition(0, 0, 4, 32768), 4);
        int[] due = {1, ALL, 16, 32768};
        for (int index = 0; index < 4; index++) {
            Check.is("10: set " + index, x.condition(0, index, 2), due[index]);
        }
        Check.is("46: sets", Check.text(x, 0), "0+a{0}&a{0,1,2,3,4,5,6,7,8,9,10,11,12,13,14,15}&a{4}&a{15}:1;");
    }

    private static void kinds() {
        Check.sentence("with kind 0, the value is equal to the operand; 1, it is different; 2, it is less; 3, it is at "
                + "least the operand");
        for (int operand = 0; operand < 16; operand++) {
            PolicyEngine x = new PolicyEngine();
            for (int kind = 0; kind < 4; kind++) {
                x.addRule(0, false, 0);
                x.addCondition(kind, 3, kind, operand);
            }
            for (int value = 0; value < 16; value++) {
                boolean[] holds = {value == operand, value != operand, value < operand, value >= operand};
                x.setValue(3, value);
                for (int kind = 0; kind < 4; kind++) {
                    Check.is("24: kind " + kind + ", operand " + operand + ", value " + value,
                            x.applies(kind), holds[kind] ? 1 : 0);
                }
            }
        }
    }

    private static void sets() {
        Check.sentence("the bit of the operand for the value is set, where bit v stands for value v");
        for (int bit = 0; bit < 16; bit++) {
            PolicyEngine x = Check.engine("0+:1;0+:1;");
            x.addCondition(0, 0, 4, 1 << bit);
            x.addCondition(1, 0, 4, bit == 0 ? ALL : ALL - (1 << bit));
            for (int value = 0; value < 16; value++) {
                x.setValue(0, value);
                Check.is("24: bit " + bit + " alone, value " + value, x.applies(0), value == bit ? 1 : 0);
                Check.is("24: all but bit " + bit + ", value " + value, x.applies(1), value == bit && bit > 0 ? 0 : 1);
            }
        }
    }

    private static void allConditions() {
        Check.sentence("A rule applies to a complete request if all its conditions hold.");
        PolicyEngine x = Check.engine("0+a=1&c=3&d=4&f=6:1;");
        Check.request(x, 1, 2, 3, 4, 5, 6);
        Check.is("24: all hold", x.applies(0), 1);
        Check.is("26: permit", x.decide(), 0);
        for (int attribute = 0; attribute < 6; attribute++) {
            boolean isAsked = attribute != 1 && attribute != 4;
            int value = x.setValue(attribute, 15);
            Check.is("24: but that of " + attribute, x.applies(0), isAsked ? 0 : 1);
            Check.is("26: but that of " + attribute, x.decide(), isAsked ? 2 : 0);
            x.setValue(attribute, value);
        }
    }

    private static void noConditions() {
        Check.sentence("There can be no conditions");
        PolicyEngine x = Check.engine("0-:0;");
        Check.is("24: nothing known", x.applies(0), 1);
        Check.is("32: everything", x.extent(0), 16777216);
        for (int value : new int[] {0, 15}) {
            Check.request(x, value, value, value, value, value, value);
            Check.is("26: deny", x.decide(), 1);
        }
    }

    private static void comesBefore() {
        Check.sentence("A rule comes before another one if its priority is greater, or if both priorities are equal and "
                + "its number is lower.");
        for (int first = 0; first < 10; first++) {
            for (int second = Math.max(0, first - 1); second <= Math.min(9, first + 1); second++) {
                PolicyEngine x = new PolicyEngine();
                x.addRule(1, false, first);
                x.addRule(1, true, second);
                x.setWay(1, 2);
                Check.request(x, 0, 0, 0, 0, 0, 0);
                Check.is("27: " + first + " and " + second, x.decidingRule(), first >= second ? 0 : 1);
                Check.is("28: " + first + " and " + second, x.policyDecision(1), first >= second ? 0 : 1);
            }
        }
        PolicyEngine x = new PolicyEngine();
        for (int rule = 0; rule < 24; rule++) {
            x.addRule(0, false, 7);
        }
        Check.request(x, 0, 0, 0, 0, 0, 0);
        Check.is("27: the lowest of 24", x.decidingRule(), 0);
        x.setPriority(23, 8);
        Check.is("27: the last of 24", x.decidingRule(), 23);
        x.setPriority(11, 8);
        Check.is("27: the lower of two", x.decidingRule(), 11);
    }

    private static void ways() {
        Check.sentence("Each policy has a combining way, at first 0");
        PolicyEngine x = new PolicyEngine();
        for (int policy = 0; policy < 4; policy++) {
            int each = policy;
            Check.is("6: at first", x.setWay(policy, 0), 0);
            Check.is("6: to 3", x.setWay(policy, 3), 0);
            Check.is("6: to 0", x.setWay(policy, 0), 3);
            Check.fails("6: to 4", Check.ARGUMENT, () -> x.setWay(each, 4));
            Check.fails("6: to -1", Check.ARGUMENT, () -> x.setWay(each, -1));
            Check.is("6: still 0", x.setWay(policy, policy), 0);
        }
    }

    private static void topWays() {
        Check.sentence("by the top way, at first 0.");
        PolicyEngine x = new PolicyEngine();
        Check.is("7: at first", x.setTopWay(3), 0);
        Check.is("7: to 0", x.setTopWay(0), 3);
        Check.fails("7: to 4", Check.ARGUMENT, () -> x.setTopWay(4));
        Check.fails("7: to -1", Check.ARGUMENT, () -> x.setTopWay(-1));
        Check.is("7: still 0", x.setTopWay(1), 0);
    }

    private static void whatOfRule() {
        Check.sentence("if what is not 0 to 3");
        PolicyEngine x = Check.engine("3-a=1&a=2:9;0+:0;");
        Check.is("9: 0", x.rule(0, 0), 3);
        Check.is("9: 3", x.rule(0, 3), 2);
        Check.is("9: all 0", x.rule(1, 0) + x.rule(1, 1) + x.rule(1, 2) + x.rule(1, 3), 0);
        Check.fails("9: -1", Check.ARGUMENT, () -> x.rule(0, -1));
        Check.fails("9: 4", Check.ARGUMENT, () -> x.rule(0, 4));
        Check.fails("9: 5, where a condition could be", Check.ARGUMENT, () -> x.rule(0, 5));
    }

    private static void whatOfCondition() {
        Check.sentence("if what is not 0 to 2");
        PolicyEngine x = Check.engine("3-f>9&a=2:9;");
        Check.is("10: 0", x.condition(0, 0, 0), 5);
        Check.is("10: 2", x.condition(0, 0, 2), 9);
        Check.fails("10: -1", Check.ARGUMENT, () -> x.condition(0, 0, -1));
        Check.fails("10: 3, where the next one could be", Check.ARGUMENT, () -> x.condition(0, 0, 3));
    }

    private static void conditionsOfCondition() {
        Check.sentence("if there is no such rule or condition");
        PolicyEngine x = Check.engine("3-f>9&a=2:9;1+b=1:0;");
        Check.is("10: the last", x.condition(0, 1, 0), 0);
        Check.fails("10: behind the last", Check.INDEX, () -> x.condition(0, 2, 0));
        Check.fails("10: -1", Check.INDEX, () -> x.condition(1, -1, 0));
        Check.is("10: the only one", x.condition(1, 0, 0), 1);
        Check.fails("10: one more", Check.INDEX, () -> x.condition(1, 1, 0));
        Check.fails("10: behind the last rule", Check.INDEX, () -> x.condition(2, 0, 0));
        x.specialize(1, 1);
        Check.fails("10: one that is gone", Check.INDEX, () -> x.condition(1, 0, 0));
    }

    private static void returnsOfRemoveRule() {
        Check.sentence("Returns the number of rules that remain.");
        PolicyEngine x = new PolicyEngine();
        for (int rule = 0; rule < 24; rule++) {
            x.addRule(0, false, 0);
        }
        for (int left = 23; left >= 0; left--) {
            int gone = left + 1;
            Check.fails("4: the one behind the last", Check.INDEX, () -> x.removeRule(gone));
            Check.is("4: left", x.removeRule(left % 2 == 0 ? 0 : left), left);
        }
        Check.fails("4: none is left", Check.INDEX, () -> x.removeRule(0));
    }

    private static void laterNumbers() {
        Check.sentence("Removes a rule; the numbers of the later ones decrease by 1.");
        String all = "0+a=0:0;0-b=1&c=2:1;1+:2;1-d{3}:3;";
        PolicyEngine x = Check.engine(all);
        x.removeRule(0);
        Check.is("4: the first", Check.texts(x), "0-b=1&c=2:1;1+:2;1-d{3}:3;");
        x.undo();
        x.removeRule(1);
        Check.is("4: the second", Check.texts(x), "0+a=0:0;1+:2;1-d{3}:3;");
        x.undo();
        x.removeRule(3);
        Check.is("4: the last", Check.texts(x), "0+a=0:0;0-b=1&c=2:1;1+:2;");
        x.undo();
        Check.is("4: none", Check.texts(x), all);
        x.removeRule(2);
        Check.is("2: the next number", x.addRule(2, true, 2), 3);
    }

    private static void previousPriority() {
        Check.sentence("Returns the previous priority.");
        PolicyEngine x = Check.engine("0+:0;0-:9;");
        Check.is("5: from 0 to 9", x.setPriority(0, 9), 0);
        Check.is("5: from 9 to 9", x.setPriority(0, 9), 9);
        Check.is("5: of the last, from 9 to 0", x.setPriority(1, 0), 9);
        Check.is("5: from 0", x.setPriority(1, 1), 0);
    }

    private static void specializeAll() {
        Check.sentence("Returns the number of rules that are removed.");
        PolicyEngine x = new PolicyEngine();
        for (int rule = 0; rule < 24; rule++) {
            x.addRule(rule % 4, false, 0);
            x.addCondition(rule, 5, rule % 2 == 0 ? 0 : 4, rule % 2 == 0 ? 15 : 32768);
        }
        Check.is("11: none of 24", x.specialize(0, 0), 0);
        Check.is("11: all of 24", x.specialize(5, 14), 24);
        Check.is("8: none is left", x.ruleCount(), 0);
        x.undo();
        Check.is("11: none of 24, whose conditions are", x.specialize(5, 15), 0);
        for (int rule = 0; rule < 24; rule++) {
            Check.is("9: without conditions", x.rule(rule, 3), 0);
        }
        Check.is("11: none of 24, at last", x.specialize(5, 0), 0);
    }

    private static void specializeEdges() {
        Check.sentence("Specializing for a value of an attribute removes all rules with a condition on this attribute "
                + "that does not hold for the value");
        String all = "0+a=7:0;0+a#7:1;0+a<7:2;0+a>7:3;0+a{7}:4;0+a{6,8}:5;1+b=7:6;1-:7;";
        String[] due = {"0+:1;0+:2;0+:5;1+b=7:6;1-:7;", "0+:0;0+:3;0+:4;1+b=7:6;1-:7;", "0+:1;0+:3;0+:5;1+b=7:6;1-:7;"};
        for (int value = 6; value <= 8; value++) {
            PolicyEngine x = Check.engine(all);
            Check.is("11: value " + value, x.specialize(0, value), 3);
            Check.is("11: left at " + value, Check.texts(x), due[value - 6]);
        }
    }

    private static void specializeConditions() {
        Check.sentence("and removes all other conditions on this attribute.");
        PolicyEngine x = Check.engine("0+c=3&c<4&c#5&c>0:1;0+c=3&c=4:2;1-a=3&c=3&b=3&c{3}:3;",
                "2+a=1&b=2&d=3&e=4:4;");
        Check.is("11: the second", x.specialize(2, 3), 1);
        Check.is("11: left", Check.texts(x), "0+:1;1-a=3&b=3:3;2+a=1&b=2&d=3&e=4:4;");
        Check.is("9: of the first", x.rule(0, 3), 0);
        Check.is("3: there is room again", x.addCondition(0, 2, 0, 9), 1);
        Check.is("10: the new one", x.condition(0, 0, 2), 9);
    }

    private static void specializeNumbers() {
        Check.sentence("The numbers of the rules and conditions after them decrease.");
        PolicyEngine x = Check.engine("0+f=1:0;0+a=1&f=0&b=2&c=3:1;1+f=2:2;1+a=4&b=5&c=6&f<1:3;2+f=3:4;");
        Check.is("11: three of five", x.specialize(5, 0), 3);
        Check.is("11: left", Check.texts(x), "0+a=1&b=2&c=3:1;1+a=4&b=5&c=6:3;");
        Check.is("10: the second of the first", x.condition(0, 1, 2), 2);
        Check.is("10: the last of the second", x.condition(1, 2, 2), 6);
        Check.fails("10: behind it", Check.INDEX, () -> x.condition(1, 3, 2));
    }

    private static void specializeRange() {
        Check.sentence("Specializes the rules for a value of an attribute.");
        for (int attribute = 0; attribute < 6; attribute++) {
            for (int value : new int[] {0, 15}) {
                PolicyEngine x = new PolicyEngine();
                for (int rule = 0; rule < 6; rule++) {
                    x.addRule(0, false, rule);
                    x.addCondition(rule, rule, 0, 15 - value);
                }
                Check.is("11: attribute " + attribute + ", value " + value, x.specialize(attribute, value), 1);
                Check.is("11: the other five", x.ruleCount(), 5);
                for (int rule = 0; rule < 5; rule++) {
                    Check.is("11: rule " + rule, x.condition(rule, 0, 0), rule < attribute ? rule : rule + 1);
                }
            }
        }
        PolicyEngine x = Check.engine("0+a=1:0;");
        Check.fails("11: attribute -1", Check.INDEX, () -> x.specialize(-1, 0));
        Check.fails("11: attribute 6", Check.INDEX, () -> x.specialize(6, 0));
        Check.fails("11: value -1, which is none elsewhere", Check.ARGUMENT, () -> x.specialize(0, -1));
        Check.fails("11: value 16", Check.ARGUMENT, () -> x.specialize(0, 16));
        Check.is("11: the request has no value then", x.unknown(), 63);
    }
}
