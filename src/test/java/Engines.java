/** Recipes of engines with something of everything, for the tests that look at the whole state. */
final class Engines {
    private Engines() {
    }

    /** Five rules, three grants, an audit, a text in the input, an error, something saved; four values are missing. */
    static PolicyEngine some() {
        PolicyEngine x = Check.engine("1+b=9:6;2-:1;");
        x.setWay(2, 1);
        x.setTopWay(1);
        x.grant(0, 7, 3, 0, 900);
        x.save();
        x.removeRule(1);
        Check.type(x, "0+a=1:5;0-a=1&b{2,9}:4;2+:9;");
        x.read();
        Check.type(x, "3-c<0&d>3&e#4&f=5:2;");
        x.read();
        x.grant(0, 4, 1, 2, 50);
        x.grant(4, 6, 1, 1, 3);
        x.setWay(1, 2);
        x.setTopWay(2);
        x.setSubject(4);
        Check.request(x, 1, 9, 3, 4, 5, 6);
        x.decide();
        x.tick(4);
        x.setValue(1, 8);
        x.decide();
        Check.type(x, "0+x");
        Check.fails("some: an error", Check.ARGUMENT, x::read);
        Check.type(x, "3-b{1,2}:4;");
        Check.request(x, 1, -1, -1, -1, -1, 6);
        return x;
    }

    /** The same with a complete request, for which rule 0 decides. */
    static PolicyEngine complete() {
        PolicyEngine x = some();
        Check.request(x, 1, 9, 3, 4, 5, 6);
        return x;
    }

    /** As many rules, conditions, grants, decisions and characters as can be, at the last clock; nothing is saved. */
    static PolicyEngine full() {
        PolicyEngine x = new PolicyEngine();
        for (int rule = 0; rule < 24; rule++) {
            x.addRule(rule % 4, rule % 3 == 0, rule % 10);
        }
        for (int attribute = 0; attribute < 4; attribute++) {
            x.addCondition(23, attribute, 3, 4);
        }
        for (int number = 0; number < 30; number++) {
            x.grant(number % 9, 9, number / 9, number % 6, 1000 - number);
        }
        for (int attribute = 0; attribute < 6; attribute++) {
            x.setValue(attribute, attribute + 3);
        }
        for (int number = 0; number < 31; number++) {
            x.decide();
            if (number < 20) {
                x.tick(100);
            }
        }
        for (int rule = 0; rule < 14; rule++) {
            x.append((char) ('0' + rule % 4));
            Check.type(x, "-:7;");
        }
        return x;
    }
}
