/** Promises 32 to 38: rules compared with one another. */
public final class ComparedTest {
    public static void main(String[] args) {
        extent();
        overlap();
        covers();
        clashes();
        neverDeciding();
        witness();
        witnessBehindManyRules();
        blocker();
        Check.end("ComparedTest");
    }

    private static void extent() {
        PolicyEngine x = Check.engine("0+:0;0+a=3:0;0+a<0:0;0+b>8&b<9:0;0+c#1&d{1,2,3}&c#2:0;", "0+e<5&e>5:0;0+f{7}&f=7:0;");
        int[] due = {16777216, 1048576, 0, 1048576, 65536 / 16 * 16 * 14 * 3, 0, 1048576};
        for (int rule = 0; rule < due.length; rule++) {
            Check.is("32: rule " + rule, x.extent(rule), due[rule]);
        }
        Check.request(x, 1, 1, 1, 1, 1, 1);
        Check.is("32: whatever the request is", x.extent(1), 1048576);
        PolicyEngine y = Check.engine("0+a=1&b=2&c=3&d=4:0;");
        Check.is("32: two attributes are left", y.extent(0), 256);
        Check.fails("32: rule 1", Check.INDEX, () -> y.extent(1));
        Check.fails("32: rule -1", Check.INDEX, () -> y.extent(-1));
    }

    private static void overlap() {
        PolicyEngine x = Check.engine("0+a<5:0;1-a>5:0;2+b=1:0;3+a<0:0;", "0+a{4,5}&b#1:0;0+c<3&c>2&c#2:0;");
        boolean[][] due = {
                {true, false, true, false, true, false},
                {false, true, true, false, true, false},
                {true, true, true, false, false, false},
                {false, false, false, false, false, false},
                {true, true, false, false, true, false},
                {false, false, false, false, false, false}};
        for (int first = 0; first < 6; first++) {
            for (int second = 0; second < 6; second++) {
                Check.is("33: " + first + " and " + second, x.overlap(first, second), due[first][second]);
            }
        }
        Check.fails("33: first 6", Check.INDEX, () -> x.overlap(6, 0));
        Check.fails("33: first -1", Check.INDEX, () -> x.overlap(-1, 0));
        Check.fails("33: second 6", Check.INDEX, () -> x.overlap(0, 6));
        Check.fails("33: second -1", Check.INDEX, () -> x.overlap(0, -1));
    }

    private static void covers() {
        PolicyEngine x = Check.engine("0+a<5:0;1-a<4&b=1:0;2+:0;3+a<0:0;", "0+a{0,1,2,3,4}:0;0+a=4&a=5:0;");
        boolean[][] due = {
                {true, true, false, true, true, true},
                {false, true, false, true, false, true},
                {true, true, true, true, true, true},
                {false, false, false, true, false, true},
                {true, true, false, true, true, true},
                {false, false, false, true, false, true}};
        for (int first = 0; first < 6; first++) {
            for (int second = 0; second < 6; second++) {
                Check.is("34: " + first + " and " + second, x.covers(first, second), due[first][second]);
            }
        }
        Check.fails("34: first 6", Check.INDEX, () -> x.covers(6, 0));
        Check.fails("34: first -1", Check.INDEX, () -> x.covers(-1, 0));
        Check.fails("34: second 6", Check.INDEX, () -> x.covers(0, 6));
        Check.fails("34: second -1", Check.INDEX, () -> x.covers(0, -1));
    }

    private static void clashes() {
        PolicyEngine x = Check.engine("0+a<5:0;0-a>5:1;0-b=1:2;1+:0;", "0+a<0:0;0+a{5,4}:0;0-a>4&b=2:3;");
        Check.is("35: pairs of policy 0", x.clashes(0), 5);
        Check.is("35: of one effect", x.clashes(1), 0);
        Check.is("35: without rules", x.clashes(3), 0);
        x.addRule(1, true, 0);
        Check.is("35: one pair", x.clashes(1), 1);
        Check.fails("35: policy 4", Check.INDEX, () -> x.clashes(4));
        Check.fails("35: policy -1", Check.INDEX, () -> x.clashes(-1));
    }

    private static void neverDeciding() {
        PolicyEngine x = Check.engine("0+:5;0-a<8:3;0-a>8:3;0+b<0:9;", "0+c=1:6;1-:0;1-:0;");
        int[] due = {3, 3, 3, 5};
        for (int way = 0; way < 4; way++) {
            x.setWay(0, way);
            Check.is("36: way " + way, x.neverDeciding(0), due[way]);
        }
        Check.is("36: the same twice", x.neverDeciding(1), 1);
        x.setWay(1, 3);
        Check.is("36: always both", x.neverDeciding(1), 2);
        Check.is("36: without rules", x.neverDeciding(2), 0);
        Check.fails("36: policy 4", Check.INDEX, () -> x.neverDeciding(4));
        Check.fails("36: policy -1", Check.INDEX, () -> x.neverDeciding(-1));
    }

    private static String witnessOf(PolicyEngine x, int rule) {
        StringBuilder text = new StringBuilder();
        for (int attribute = 0; attribute < 6; attribute++) {
            text.append(x.witness(rule, attribute)).append(attribute < 5 ? "," : "");
        }
        return text.toString();
    }

    private static void witness() {
        PolicyEngine x = Check.engine("0+:5;0-a<8:3;0-f>8:9;0+c#0&d{2,9}:6;", "1+e=4:0;");
        // For each way the witness of each of the first four rules, or none.
        String[][] due = {
                {"8,0,0,0,0,0", "0,0,0,0,0,0", "0,0,0,0,0,8", "8,0,1,2,0,0"},
                {"0,0,0,0,0,0", "", "", "0,0,1,2,0,0"},
                {"0,0,0,0,0,0", "", "0,0,0,0,0,8", "0,0,1,2,0,0"},
                {"8,0,0,0,0,0", "", "", ""}};
        for (int way = 0; way < 4; way++) {
            x.setWay(0, way);
            for (int rule = 0; rule < 4; rule++) {
                int each = rule;
                String what = "37: way " + way + ", rule " + rule;
                if (due[way][rule].isEmpty()) {
                    Check.fails(what, Check.ELEMENT, () -> x.witness(each, 5));
                } else {
                    Check.is(what, witnessOf(x, rule), due[way][rule]);
                }
            }
        }
        PolicyEngine z = Check.engine("0+a<8:9;0-b<8:8;0+:5;0-c<8:9;0-:3;");
        z.setWay(0, 1);
        Check.is("37: permit behind permit", witnessOf(z, 2), "8,0,0,0,0,0");
        z.setWay(0, 0);
        Check.is("37: deny behind deny", witnessOf(z, 4), "0,8,8,0,0,0");
        Check.fails("37: permit, where all is denied", Check.ELEMENT, () -> z.witness(2, 0));
        z.removeRule(4);
        Check.is("37: permit behind permit and deny", witnessOf(z, 2), "8,8,8,0,0,0");
        z.setWay(0, 1);
        Check.fails("37: deny, where all is permitted", Check.ELEMENT, () -> z.witness(1, 0));
        z.removeRule(2);
        Check.is("37: deny behind deny and permit", witnessOf(z, 1), "8,0,8,0,0,0");
        x.setSubject(5);
        Check.request(x, 9, 9, 9, 9, 9, 9);
        Check.is("37: of the other policy", witnessOf(x, 4), "0,0,0,0,4,0");
        Check.fails("37: rule 5", Check.INDEX, () -> x.witness(5, 0));
        Check.fails("37: rule -1", Check.INDEX, () -> x.witness(-1, 0));
        Check.fails("37: attribute 6", Check.INDEX, () -> x.witness(1, 6));
        Check.fails("37: attribute -1", Check.INDEX, () -> x.witness(1, -1));
        PolicyEngine y = Check.engine("0+a=15&a<15:5;");
        Check.fails("37: applies nowhere", Check.ELEMENT, () -> y.witness(0, 0));
    }

    /** Each rule shuts out more, so that only the last value of every attribute is left. */
    private static void witnessBehindManyRules() {
        PolicyEngine x = Check.engine("0-a<15:9;0-b<15:8;0-c<15:7;0-d<15:6;0-e<15:5;0-f<15:4;0+:0;");
        Check.is("37: the last request", witnessOf(x, 6), "15,15,15,15,15,15");
        Check.is("37: of deny", witnessOf(x, 5), "15,15,15,15,15,0");
        x.addRule(0, true, 1);
        for (int attribute = 1; attribute < 5; attribute++) {
            x.addCondition(7, attribute, 0, 15);
        }
        Check.fails("37: not even that", Check.ELEMENT, () -> x.witness(6, 0));
        Check.is("37: which it decides", witnessOf(x, 7), "15,15,15,15,15,15");
    }

    private static void blocker() {
        PolicyEngine x = Check.engine("0+:5;0-a<8:3;0-a>8:3;0+b<0:9;", "0-:1;1-:2;1-:2;");
        Check.fails("38: deny decides", Check.STATE, () -> x.blocker(1));
        Check.fails("38: two of them", Check.ELEMENT, () -> x.blocker(0));
        Check.fails("38: applies nowhere", Check.ELEMENT, () -> x.blocker(3));
        x.removeRule(4);
        Check.is("38: without either of two", x.blocker(0), 1);
        x.setWay(0, 2);
        Check.is("38: the earlier one", x.blocker(1), 0);
        Check.fails("38: it decides", Check.STATE, () -> x.blocker(0));
        x.addRule(0, true, 7);
        Check.fails("38: each of two", Check.ELEMENT, () -> x.blocker(1));
        Check.is("38: of a pair", x.blocker(0), 6);
        Check.is("38: of the same effect", x.blocker(5), 4);
        x.setWay(1, 3);
        Check.is("38: one another", x.blocker(4), 5);
        Check.fails("38: rule 7", Check.INDEX, () -> x.blocker(7));
        Check.fails("38: rule -1", Check.INDEX, () -> x.blocker(-1));
        PolicyEngine y = Check.engine("1-:9;0+b=3:8;0+a#1:5;0+a=1:4;0+:2;");
        y.setWay(0, 2);
        Check.is("38: not one of another policy, nor one that is no hindrance", y.blocker(4), 2);
        PolicyEngine z = Check.engine("0+a=1:0;1-:9;0+a#1:5;0+b=3:8;0+:2;");
        z.setWay(0, 2);
        Check.is("38: the only one, with a higher number", z.blocker(0), 4);
    }
}
