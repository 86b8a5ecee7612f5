/** Promises 43 to 46: the input, texts and their errors. */
public final class TextTest {
    public static void main(String[] args) {
        append();
        read();
        readTooMany();
        errorPosition();
        describe();
        Check.end("TextTest");
    }

    private static void append() {
        PolicyEngine x = new PolicyEngine();
        Check.fails("43: code 31", Check.ARGUMENT, () -> x.append((char) 31));
        Check.fails("43: code 127", Check.ARGUMENT, () -> x.append((char) 127));
        Check.fails("43: code 0", Check.ARGUMENT, () -> x.append((char) 0));
        Check.fails("43: code 65535", Check.ARGUMENT, () -> x.append((char) 65535));
        Check.is("43: code 32", x.append(' '), 1);
        Check.is("43: code 126", x.append('~'), 2);
        for (int length = 3; length <= 70; length++) {
            Check.is("43: length " + length, x.append('x'), length);
        }
        Check.fails("43: full", Check.STATE, () -> x.append('x'));
        Check.fails("43: argument first", Check.ARGUMENT, () -> x.append((char) 127));
        Check.fails("43: not a text", Check.ARGUMENT, x::read);
        Check.is("43: emptied", x.append('0'), 1);
    }

    private static void read() {
        PolicyEngine x = new PolicyEngine();
        Check.type(x, "3-a=00&b#15&c<1&d>09:9;0+f{0,15,3,03,3}:0;1+:5;");
        Check.is("44: three rules", x.read(), 3);
        Check.is("44: as told", Check.texts(x), "3-a=0&b#15&c<1&d>9:9;0+f{0,3,15}:0;1+:5;");
        Check.is("44: kind of a set", x.condition(1, 0, 1), 4);
        Check.is("44: set", x.condition(1, 0, 2), 32777);
        Check.is("44: emptied", x.append('2'), 1);
        Check.type(x, "-e{7}:1;");
        Check.is("44: behind the others", x.read(), 1);
        Check.is("44: one value in braces", Check.text(x, 3), "2-e{7}:1;");
        Check.is("44: a set of one", x.condition(3, 0, 1), 4);
        Check.type(x, "2-e{7}:1;2+:");
        Check.fails("44: half a rule", Check.ARGUMENT, x::read);
        Check.is("44: none of them", x.ruleCount(), 4);
        Check.is("44: emptied at an error", x.append('2'), 1);
        Check.type(x, "-:1;");
        Check.is("44: and read", x.read(), 1);
        Check.fails("44: empty", Check.ARGUMENT, x::read);
        Check.is("44: unchanged", x.ruleCount(), 5);
    }

    private static void readTooMany() {
        PolicyEngine x = new PolicyEngine();
        for (int rule = 0; rule < 22; rule++) {
            x.addRule(0, false, 0);
        }
        Check.type(x, "1+:1;2+:2;3+:3;");
        Check.fails("44: 25 rules", Check.STATE, x::read);
        Check.is("44: none of three", x.ruleCount(), 22);
        Check.is("44: emptied", x.append('1'), 1);
        Check.fails("44: no error is kept", Check.ELEMENT, x::errorPosition);
        Check.type(x, "+:1;2+:2;3+:3;x");
        Check.fails("44: an error, however many rules", Check.ARGUMENT, x::read);
        Check.is("44: its position", x.errorPosition(), 15);
        Check.type(x, "1+:1;2+:2;");
        Check.is("44: 24 rules", x.read(), 2);
        Check.type(x, "1+:1;");
        Check.fails("44: one more", Check.STATE, x::read);
        Check.is("44: the position is kept", x.errorPosition(), 15);
        PolicyEngine y = new PolicyEngine();
        Check.type(y, "0+:0;0+:1;0+:2;0+:3;0+:4;0+:5;0+:6;0+:7;0+:8;0+:9;1+:0;1+:1;1+:2;1+:3;");
        Check.is("44: the most in one text", y.read(), 14);
        Check.is("44: the last of them", Check.text(y, 13), "1+:3;");
    }

    private static void errorAt(String text, int due) {
        PolicyEngine x = new PolicyEngine();
        Check.type(x, text);
        Check.fails("45: " + text, Check.ARGUMENT, x::read);
        Check.is("45: position in " + text, x.errorPosition(), due);
        Check.is("45: no rules of " + text, x.ruleCount(), 0);
    }

    private static void errorPosition() {
        Check.fails("45: none", Check.ELEMENT, () -> new PolicyEngine().errorPosition());
        errorAt("", 0);
        errorAt("4+:0;", 0);
        errorAt("/+:0;", 0);
        errorAt(" 0+:0;", 0);
        errorAt("0", 1);
        errorAt("0*:0;", 1);
        errorAt("00+:0;", 1);
        errorAt("0+", 2);
        errorAt("0+g=1:0;", 2);
        errorAt("0+`=1:0;", 2);
        errorAt("0+&a=1:0;", 2);
        errorAt("0+;", 2);
        errorAt("0+a", 3);
        errorAt("0+a:0;", 3);
        errorAt("0+a=", 4);
        errorAt("0+a=:0;", 4);
        errorAt("0+a==1:0;", 4);
        errorAt("0+a=1", 5);
        errorAt("0+a=15", 6);
        errorAt("0+a=16:0;", 5);
        errorAt("0+a=20:0;", 5);
        errorAt("0+a=99:0;", 5);
        errorAt("0+a=150:0;", 6);
        errorAt("0+a=000:0;", 6);
        errorAt("0+a=1/:0;", 5);
        errorAt("0+a=1,2:0;", 5);
        errorAt("0+a{", 4);
        errorAt("0+a{}:0;", 4);
        errorAt("0+a{,1}:0;", 4);
        errorAt("0+a{1", 5);
        errorAt("0+a{1,", 6);
        errorAt("0+a{1,}:0;", 6);
        errorAt("0+a{1,16}:0;", 7);
        errorAt("0+a{1,1:0;", 7);
        errorAt("0+a{1 }:0;", 5);
        errorAt("0+a{1}", 6);
        errorAt("0+a{1}}:0;", 6);
        errorAt("0+a{1}1:0;", 6);
        errorAt("0+a=1&", 6);
        errorAt("0+a=1&:0;", 6);
        errorAt("0+a=1&&b=1:0;", 6);
        errorAt("0+a=1b=1:0;", 5);
        errorAt("0+a=1&b=1&c=1&d=1", 17);
        errorAt("0+a=1&b=1&c=1&d=1&", 17);
        errorAt("0+a=1&b=1&c=1&d=11&e=1:0;", 18);
        errorAt("0+a=1&b=1&c=1&d=115;", 18);
        errorAt("0+a{:0;", 4);
        errorAt("0+a{1:0;", 5);
        errorAt("0+a{1,:0;", 6);
        errorAt("0+:", 3);
        errorAt("0+::0;", 3);
        errorAt("0+:/;", 3);
        errorAt("0+:a;", 3);
        errorAt("0+:0", 4);
        errorAt("0+:00;", 4);
        errorAt("0+:0:", 4);
        errorAt("0+:0; ", 5);
        errorAt("0+:0;;", 5);
        errorAt("0+:0;1", 6);
        errorAt("0+:0;1+:0;5", 10);
        errorAt("0+a{0,1,2,3,4,5,6,7,8,9,10,11,12,13,14,15,0,1,2,3,4,5,6,7,8,9,10,11,12", 70);
        PolicyEngine x = Check.engine("0+:0;");
        Check.fails("45: not one of none", Check.ELEMENT, x::errorPosition);
        Check.type(x, "0+:x");
        Check.fails("45: an error", Check.ARGUMENT, x::read);
        Check.type(x, "0+:1;");
        x.read();
        Check.is("45: kept through a text", x.errorPosition(), 3);
        Check.fails("45: another error", Check.ARGUMENT, x::read);
        Check.is("45: the last one", x.errorPosition(), 0);
    }

    private static void describe() {
        PolicyEngine x = Check.engine("0+a{15,1,3}&b=10&c#9:2;1-:0;");
        Check.is("46: length", x.describe(0, -1), 23);
        Check.is("46: text", Check.text(x, 0), "0+a{1,3,15}&b=10&c#9:2;");
        Check.is("46: first", x.describe(0, 0), (int) '0');
        Check.is("46: last", x.describe(0, 22), (int) ';');
        Check.fails("46: 23", Check.ELEMENT, () -> x.describe(0, 23));
        Check.fails("46: -2", Check.ELEMENT, () -> x.describe(0, -2));
        Check.fails("46: the greatest", Check.ELEMENT, () -> x.describe(0, Integer.MAX_VALUE));
        Check.fails("46: the least", Check.ELEMENT, () -> x.describe(0, Integer.MIN_VALUE));
        Check.fails("46: shorter rule", Check.ELEMENT, () -> x.describe(1, 5));
        Check.is("46: shorter text", Check.text(x, 1), "1-:0;");
        Check.fails("46: rule 2", Check.INDEX, () -> x.describe(2, -2));
        Check.fails("46: rule -1", Check.INDEX, () -> x.describe(-1, -1));
        String set = "{0,1,2,3,4,5,6,7,8,9,10,11,12,13,14,15}";
        PolicyEngine y = new PolicyEngine();
        y.addRule(3, true, 9);
        for (int index = 0; index < 4; index++) {
            y.addCondition(0, 5 - index, 4, 65535);
        }
        Check.is("46: the longest", y.describe(0, -1), 168);
        Check.is("46: its text", Check.text(y, 0), "3-f" + set + "&e" + set + "&d" + set + "&c" + set + ":9;");
    }
}
