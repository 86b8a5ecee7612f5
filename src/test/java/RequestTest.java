/** Promises 21 to 31: the request, its decision and the decisions of its completions. */
public final class RequestTest {
    public static void main(String[] args) {
        setSubject();
        setValue();
        unknown();
        applies();
        failing();
        decide();
        topWays();
        decidingRule();
        policyDecision();
        possible();
        completions();
        valuesFor();
        Check.end("RequestTest");
    }

    private static void setSubject() {
        PolicyEngine x = new PolicyEngine();
        Check.is("21: at first", x.setSubject(9), 0);
        Check.is("21: previous", x.setSubject(0), 9);
        Check.fails("21: 10", Check.INDEX, () -> x.setSubject(10));
        Check.fails("21: -1", Check.INDEX, () -> x.setSubject(-1));
        Check.is("21: unchanged", x.setSubject(3), 0);
    }

    private static void setValue() {
        PolicyEngine x = new PolicyEngine();
        Check.is("22: at first", x.setValue(5, 15), -1);
        Check.is("22: previous", x.setValue(5, 0), 15);
        Check.is("22: to none", x.setValue(5, -1), 0);
        Check.is("22: of none", x.setValue(5, -1), -1);
        Check.is("22: another", x.setValue(0, 7), -1);
        Check.fails("22: attribute 6", Check.INDEX, () -> x.setValue(6, 16));
        Check.fails("22: attribute -1", Check.INDEX, () -> x.setValue(-1, 0));
        Check.fails("22: value 16", Check.ARGUMENT, () -> x.setValue(0, 16));
        Check.fails("22: value -2", Check.ARGUMENT, () -> x.setValue(0, -2));
        Check.is("22: unchanged", x.setValue(0, 1), 7);
    }

    private static void unknown() {
        PolicyEngine x = new PolicyEngine();
        Check.is("23: all", x.unknown(), 63);
        x.setValue(0, 0);
        x.setValue(4, 9);
        Check.is("23: some", x.unknown(), 46);
        Check.request(x, 1, 2, 3, 4, 5, 6);
        Check.is("23: none", x.unknown(), 0);
        x.setValue(5, -1);
        Check.is("23: the last", x.unknown(), 32);
    }

    private static void applies() {
        PolicyEngine x = Check.engine("0+:0;0+a=3&b<5:0;0+c<5&c>5:0;0+d<0:0;", "0+e{0,1}&e{1,2}:0;0+f>0:0;");
        int[] unknownDue = {1, 2, 0, 0, 2, 1};
        for (int rule = 0; rule < 6; rule++) {
            Check.is("24: nothing known, rule " + rule, x.applies(rule), unknownDue[rule]);
        }
        x.setValue(0, 3);
        Check.is("24: half of it known", x.applies(1), 2);
        x.setValue(1, 4);
        Check.is("24: all of it", x.applies(1), 1);
        x.setValue(1, 5);
        Check.is("24: not", x.applies(1), 0);
        x.setValue(1, -1);
        x.setValue(0, 2);
        Check.is("24: not, whatever follows", x.applies(1), 0);
        x.setValue(4, 1);
        Check.is("24: in both sets", x.applies(4), 1);
        x.setValue(4, 2);
        Check.is("24: in one set", x.applies(4), 0);
        PolicyEngine all = Check.engine("0+a{0,1,2,3,4,5,6,7,8,9,10,11,12,13,14,15}:0;");
        Check.is("24: a set of all", all.applies(0), 1);
        Check.fails("24: rule 6", Check.INDEX, () -> x.applies(6));
        Check.fails("24: rule -1", Check.INDEX, () -> x.applies(-1));
        kinds();
    }

    /** Each kind, at a value below its operand, at it and above it. */
    private static void kinds() {
        PolicyEngine x = Check.engine("0+b=5:0;0+b#5:0;0+b<5:0;0+b>5:0;0+b{4,6}:0;");
        int[][] due = {{0, 1, 0}, {1, 0, 1}, {1, 0, 0}, {0, 1, 1}, {1, 0, 1}};
        for (int kind = 0; kind < 5; kind++) {
            for (int value = 4; value <= 6; value++) {
                x.setValue(1, value);
                Check.is("24: kind " + kind + " at " + value, x.applies(kind), due[kind][value - 4]);
            }
        }
        PolicyEngine y = Check.engine("0+a=0:0;0+a=15:0;0+a<15:0;0+a>15:0;0+a{0,15}:0;0+a#0:0;");
        int[][] ends = {{1, 0}, {0, 1}, {1, 0}, {0, 1}, {1, 1}, {0, 1}};
        for (int rule = 0; rule < 6; rule++) {
            y.setValue(0, 0);
            Check.is("24: value 0, rule " + rule, y.applies(rule), ends[rule][0]);
            y.setValue(0, 15);
            Check.is("24: value 15, rule " + rule, y.applies(rule), ends[rule][1]);
        }
    }

    private static void failing() {
        PolicyEngine x = Check.engine("0+a=3&b<5&c<0:0;0+:0;0+c<5&c>5:0;");
        Check.is("25: one that never holds", x.failing(0), 2);
        x.setValue(1, 5);
        Check.is("25: one before it", x.failing(0), 1);
        x.setValue(0, 4);
        Check.is("25: the first", x.failing(0), 0);
        x.setValue(0, 3);
        Check.is("25: the first again", x.failing(0), 1);
        x.setValue(0, 0);
        Check.is("25: value 0 is known", x.failing(0), 0);
        x.setValue(0, 3);
        Check.fails("25: no conditions", Check.ELEMENT, () -> x.failing(1));
        Check.fails("25: each by itself", Check.ELEMENT, () -> x.failing(2));
        Check.is("25: applies looks at both", x.applies(2), 0);
        x.setValue(2, 5);
        Check.is("25: the first of them", x.failing(2), 0);
        x.setValue(2, 4);
        Check.is("25: the second of them", x.failing(2), 1);
        Check.fails("25: rule 3", Check.INDEX, () -> x.failing(3));
        Check.fails("25: rule -1", Check.INDEX, () -> x.failing(-1));
    }

    private static void decide() {
        PolicyEngine x = Check.engine("0+a<8:3;0-a>4:5;0+a=6:5;0-a=9:9;");
        Check.request(x, 5, 0, 0, 0, 0, -1);
        Check.fails("26: not complete", Check.STATE, x::decide);
        Check.is("26: nothing in the audit", x.auditCount(), 0);
        x.setValue(5, 0);
        // For each way: the decision and the deciding rule at the values 0, 5, 6, 9 and 12 of attribute 0.
        int[] at = {0, 5, 6, 9, 12};
        int[][] decisions = {{0, 1, 1, 1, 1}, {0, 0, 0, 1, 1}, {0, 1, 1, 1, 1}, {0, 3, 3, 3, 1}};
        int[][] rules = {{0, 1, 1, 3, 1}, {0, 0, 2, 3, 1}, {0, 1, 1, 3, 1}, {0, -1, -1, -1, 1}};
        for (int way = 0; way < 4; way++) {
            x.setWay(0, way);
            for (int index = 0; index < 5; index++) {
                String what = "26: way " + way + ", value " + at[index];
                x.setValue(0, at[index]);
                x.clearAudit();
                Check.is(what, x.decide(), decisions[way][index]);
                Check.is(what + ", audit", x.audit(0, 2), decisions[way][index]);
                Check.is(what + ", rule", x.audit(0, 3), rules[way][index]);
            }
        }
        x.removeRule(0);
        x.setValue(0, 0);
        Check.is("26: no rule applies", x.decide(), 2);
        x.setSubject(3);
        x.setValue(0, 9);
        x.setWay(0, 0);
        Check.is("26: may not use it", x.decide(), 2);
        x.grant(0, 3, 0, 0, 0);
        Check.is("26: may use it", x.decide(), 1);
        x.tick(1);
        Check.is("26: not any more", x.decide(), 2);
        PolicyEngine y = Check.engine("1+:0;1+a=0:0;");
        Check.request(y, 0, 0, 0, 0, 0, 0);
        y.setWay(1, 3);
        Check.is("26: a conflict of the same effect", y.decide(), 3);
    }

    private static void topWays() {
        // Policy p decides by attribute p: 1 permit, 2 deny, 3 conflict, otherwise none.
        PolicyEngine x = Check.engine("0+a=1:0;0-a=2:0;0+a=3:0;0-a=3:1;1+b=1:0;1-b=2:0;1+b=3:0;1-b=3:1;",
                "2+c=1:0;2-c=2:0;2+c=3:0;2-c=3:1;");
        for (int policy = 0; policy < 3; policy++) {
            x.setWay(policy, 3);
        }
        int[][] values = {{0, 0, 0}, {1, 0, 0}, {0, 2, 0}, {0, 0, 3}, {1, 2, 0}, {2, 1, 0}, {1, 3, 0}, {3, 1, 0},
                {2, 3, 0}, {3, 2, 1}, {1, 1, 0}, {0, 2, 2}, {3, 3, 0}, {0, 3, 2}};
        int[][] due = {
                {2, 0, 1, 3, 1, 1, 3, 3, 1, 1, 0, 1, 3, 1},
                {2, 0, 1, 3, 0, 0, 0, 0, 3, 0, 0, 1, 3, 3},
                {2, 0, 1, 3, 0, 1, 0, 3, 1, 3, 0, 1, 3, 3},
                {2, 0, 1, 3, 3, 3, 3, 3, 3, 3, 3, 3, 3, 3}};
        int[][] rules = {
                {-1, 0, 5, -1, 5, 1, -1, -1, 1, 5, 0, 5, -1, 9},
                {-1, 0, 5, -1, 0, 4, 0, 4, -1, 8, 0, 5, -1, -1},
                {-1, 0, 5, -1, 0, 1, 0, -1, 1, -1, 0, 5, -1, -1},
                {-1, 0, 5, -1, -1, -1, -1, -1, -1, -1, -1, -1, -1, -1}};
        for (int way = 0; way < 4; way++) {
            x.setTopWay(way);
            for (int index = 0; index < values.length; index++) {
                String what = "26: top way " + way + ", case " + index;
                Check.request(x, values[index][0], values[index][1], values[index][2], 0, 0, 0);
                Check.is(what, x.decide(), due[way][index]);
                Check.is(what + ", rule", x.audit(x.auditCount() - 1, 3), rules[way][index]);
            }
        }
        x.setSubject(1);
        x.grant(0, 1, 1, 0, 9);
        x.setTopWay(0);
        Check.request(x, 2, 1, 2, 0, 0, 0);
        Check.is("26: only the policies of the subject", x.decide(), 0);
        Check.is("26: and their rules", x.decidingRule(), 4);
    }

    private static void decidingRule() {
        PolicyEngine x = Check.engine("1-a=1:2;0-a=1:1;0-a<2:1;1-a=1:5;3+b=1:0;");
        Check.request(x, 1, -1, 0, 0, 0, 0);
        Check.fails("27: not complete", Check.STATE, x::decidingRule);
        x.setValue(1, 0);
        Check.is("27: the lowest policy, then the lower number", x.decidingRule(), 1);
        Check.is("27: nothing in the audit", x.auditCount(), 0);
        x.setPriority(2, 2);
        Check.is("27: the greater priority", x.decidingRule(), 2);
        x.setSubject(2);
        Check.fails("27: none", Check.ELEMENT, x::decidingRule);
        x.grant(0, 2, 1, 0, 5);
        Check.is("27: of the subject's policy", x.decidingRule(), 3);
        x.setWay(1, 3);
        Check.fails("27: conflict", Check.ELEMENT, x::decidingRule);
        PolicyEngine y = Check.engine("0+:0;1+:9;");
        Check.request(y, 0, 0, 0, 0, 0, 0);
        Check.is("27: rule 0", y.decidingRule(), 0);
        y.removeRule(0);
        Check.is("27: the other policy's after a removal", y.policyDecision(0), 2);
        Check.is("27: its new number", y.decidingRule(), 0);
    }

    private static void policyDecision() {
        PolicyEngine x = Check.engine("1-a=1:2;1+a=1:5;0+b=1:0;");
        Check.request(x, 1, -1, 0, 0, 0, 0);
        Check.fails("28: not complete", Check.STATE, () -> x.policyDecision(3));
        Check.fails("28: policy 4", Check.INDEX, () -> x.policyDecision(4));
        Check.fails("28: policy -1", Check.INDEX, () -> x.policyDecision(-1));
        x.setValue(1, 0);
        x.setSubject(7);
        int[] due = {1, 0, 0, 3};
        for (int way = 0; way < 4; way++) {
            x.setWay(1, way);
            Check.is("28: way " + way, x.policyDecision(1), due[way]);
        }
        Check.is("28: none", x.policyDecision(0), 2);
        Check.is("28: without rules", x.policyDecision(2), 2);
        Check.fails("28: policy 4 again", Check.INDEX, () -> x.policyDecision(4));
        Check.is("28: nothing in the audit", x.auditCount(), 0);
    }

    private static void possible() {
        PolicyEngine x = Check.engine("0+a=1:0;0-a=2:0;0+a=3:0;0-a=3&b=3:1;0+b=9&a=9:0;");
        Check.request(x, -1, -1, 0, -1, 0, -1);
        Check.fails("29: four unknown", Check.STATE, x::possible);
        x.setValue(3, 0);
        x.setWay(0, 3);
        Check.is("29: all", x.possible(), 15);
        x.setValue(1, 0);
        Check.is("29: without conflict", x.possible(), 7);
        x.setValue(0, 3);
        Check.is("29: permit", x.possible(), 1);
        x.setValue(0, 2);
        Check.is("29: deny", x.possible(), 2);
        x.setValue(5, 0);
        Check.is("29: of a complete one", x.possible(), 2);
        x.setSubject(1);
        Check.is("29: none", x.possible(), 4);
        Check.is("29: nothing in the audit", x.auditCount(), 0);
    }

    private static void completions() {
        PolicyEngine x = Check.engine("0+a<4:0;0-b<8:0;0+c=1:0;", "1+a<4&b>8&c=2:0;");
        Check.request(x, -1, -1, -1, -1, 0, 0);
        Check.fails("30: four unknown", Check.STATE, () -> x.completions(0));
        Check.fails("30: argument first", Check.ARGUMENT, () -> x.completions(4));
        Check.fails("30: -1", Check.ARGUMENT, () -> x.completions(-1));
        x.setValue(3, 0);
        Check.is("30: deny", x.completions(1), 16 * 8 * 16);
        Check.is("30: permit", x.completions(0), 8 * (4 * 16 + 12));
        Check.is("30: none", x.completions(2), 8 * 12 * 15);
        Check.is("30: conflict", x.completions(3), 0);
        x.setTopWay(3);
        Check.is("30: conflict of two policies", x.completions(3), 4 * 8);
        Check.request(x, 0, 8, 1);
        Check.is("30: of a complete one", x.completions(0), 1);
        Check.is("30: and not", x.completions(1), 0);
        x.setSubject(1);
        Check.is("30: of another subject", x.completions(2), 1);
        PolicyEngine y = new PolicyEngine();
        Check.request(y, 1, -1, -1, 2, -1, 3);
        Check.is("30: without rules", y.completions(2), 4096);
    }

    private static void valuesFor() {
        PolicyEngine x = Check.engine("0+a=1&b<5:0;0-a=2&c=7:0;0+a>15:0;");
        Check.request(x, -1, -1, -1, 0, 0, -1);
        Check.fails("31: three others", Check.STATE, () -> x.valuesFor(0, 0));
        Check.fails("31: four unknown, three others", Check.STATE, () -> x.valuesFor(5, 0));
        Check.fails("31: attribute 6", Check.INDEX, () -> x.valuesFor(6, 4));
        Check.fails("31: attribute -1", Check.INDEX, () -> x.valuesFor(-1, 0));
        Check.fails("31: decision 4", Check.ARGUMENT, () -> x.valuesFor(0, 4));
        Check.fails("31: decision -1", Check.ARGUMENT, () -> x.valuesFor(0, -1));
        x.setValue(5, 0);
        Check.is("31: permit", x.valuesFor(0, 0), 1 << 1 | 1 << 15);
        Check.is("31: deny", x.valuesFor(0, 1), 1 << 2);
        Check.is("31: none", x.valuesFor(0, 2), 65535 & ~(1 << 15));
        Check.is("31: conflict", x.valuesFor(0, 3), 0);
        x.setValue(0, 1);
        Check.is("31: in place of its value", x.valuesFor(0, 1), 1 << 2);
        Check.is("31: of another attribute", x.valuesFor(1, 0), 31);
        Check.is("31: the value stays", x.setValue(0, 1), 1);
        Check.request(x, 1, 5, 0, 0, 0, 0);
        Check.is("31: of a complete one", x.valuesFor(1, 2), 65535 & ~31);
        x.setSubject(2);
        Check.is("31: of another subject", x.valuesFor(1, 2), 65535);
    }
}
