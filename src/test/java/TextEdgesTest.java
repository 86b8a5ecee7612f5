/** The boundary cases of texts, and of promises 43 to 46: a test for each sentence. */
public final class TextEdgesTest {
    private static final String DIGITS = "0123456789";

    public static void main(String[] args) {
        codes();
        seventy();
        lengths();
        eachNextCharacter();
        oneOrSeveralRules();
        policies();
        effects();
        conditions();
        fourConditions();
        letters();
        signs();
        operands();
        sets();
        priorities();
        twoDigits();
        leadingZeros();
        valuesTwice();
        smallestIndex();
        lengthOfTheText();
        emptyInput();
        longestText();
        emptiedWhateverHappens();
        nothingBehindTheEnd();
        allOrNone();
        errorHoweverManyRules();
        inTheirOrder();
        tooManyRules();
        keptLast();
        noneKept();
        describedNumbers();
        describedSets();
        describedIndexes();
        describedLengths();
        Check.end("TextEdgesTest");
    }

    private static PolicyEngine with(String text) {
        PolicyEngine x = new PolicyEngine();
        Check.type(x, text);
        return x;
    }

    private static void error(String text, int due) {
        PolicyEngine x = with(text);
        Check.fails("44: " + text, Check.ARGUMENT, x::read);
        Check.is("45: " + text, x.errorPosition(), due);
        Check.is("44: no rule of " + text, x.ruleCount(), 0);
        Check.is("44: emptied behind " + text, x.append('0'), 1);
    }

    private static void text(String text, String due) {
        PolicyEngine x = with(text);
        Check.is("44: " + text, x.read(), (int) text.chars().filter(each -> each == ';').count());
        Check.is("46: " + text, Check.texts(x), due);
        Check.fails("45: no error in " + text, Check.ELEMENT, x::errorPosition);
        Check.is("44: emptied behind " + text, x.append('0'), 1);
    }

    private static void same(String text) {
        text(text, text);
    }

    private static void codes() {
        Check.sentence("the character, with a code from 32 to 126");
        for (int code = 0; code < 300; code++) {
            char each = (char) code;
            PolicyEngine x = new PolicyEngine();
            if (code >= 32 && code <= 126) {
                Check.is("43: code " + code, x.append(each), 1);
            } else {
                Check.fails("43: code " + code, Check.ARGUMENT, () -> x.append(each));
                Check.is("43: nothing of code " + code, x.append(' '), 1);
            }
        }
        for (int code : new int[] {32767, 32768, 65535, 65536 - 32, 256 + 48, 512 + 59}) {
            PolicyEngine x = new PolicyEngine();
            Check.fails("43: code " + code, Check.ARGUMENT, () -> x.append((char) code));
        }
    }

    private static void seventy() {
        Check.sentence("The input is a buffer of at most 70 characters.");
        PolicyEngine x = new PolicyEngine();
        for (int length = 1; length <= 70; length++) {
            Check.is("43: length " + length, x.append('~'), length);
        }
        Check.fails("43: a 71st", Check.STATE, () -> x.append('~'));
        Check.fails("43: a 71st again", Check.STATE, () -> x.append(' '));
        Check.fails("43: a 71st of code 127", Check.ARGUMENT, () -> x.append((char) 127));
        Check.fails("44: not a text", Check.ARGUMENT, x::read);
        Check.is("43: the first again", x.append('0'), 1);
        PolicyEngine y = with("0+:0;1+:1;2+:2;3+:3;0-:4;1-:5;2-:6;3-:7;0+:8;1+:9;2+:0;3+:1;0-:2;1-:3;");
        Check.fails("43: a 71st of a text", Check.STATE, () -> y.append(';'));
        Check.is("44: all 70 are read", y.read(), 14);
        Check.is("46: the last of them", Check.text(y, 13), "1-:3;");
    }

    private static void lengths() {
        Check.sentence("Returns the new length of the input.");
        PolicyEngine x = with("0+:0");
        Check.is("43: the fifth", x.append(';'), 5);
        x.read();
        Check.is("43: from the start", x.append('0'), 1);
        x.save();
        x.restore();
        Check.is("43: restore does not empty it", x.append('+'), 2);
    }

    /** At each place of a text, all characters are tried: one that can stand there is no error, each other one is. */
    private static void eachNextCharacter() {
        Check.sentence("the smallest index k such that no text of this kind starts with the first k + 1 characters of it");
        next("", "0123");
        next("0", "+-");
        next("3-", "abcdef:");
        next("0+:", DIGITS);
        next("0+:9", ";");
        next("0+:9;", "0123");
        next("0+a", "=#<>{");
        next("0+f=", DIGITS);
        next("0+a#", DIGITS);
        next("0+a<", DIGITS);
        next("0+a>", DIGITS);
        next("0+a=0", DIGITS + "&:");
        next("0+a=1", "012345&:");
        next("0+a=2", "&:");
        next("0+a<9", "&:");
        next("0+a=15", "&:");
        next("0+a=09", "&:");
        next("0+a{", DIGITS);
        next("0+a{0", DIGITS + ",}");
        next("0+a{1", "012345,}");
        next("0+a{9", ",}");
        next("0+a{15", ",}");
        next("0+a{1,", DIGITS);
        next("0+a{1,1", "012345,}");
        next("0+a{1,2", ",}");
        next("0+a{1,2}", "&:");
        next("0+a=1&", "abcdef");
        next("0+a=1&b", "=#<>{");
        next("0+a=1&b=2", "&:");
        next("0+a=1&b=2&c=3", "&:");
        next("0+a=1&b=2&c=3&", "abcdef");
        next("0+a=1&b=2&c=3&d=4", ":");
        next("0+a=1&b=2&c=3&d=1", "012345:");
        next("0+a=1&b=2&c=3&d{4}", ":");
        next("0+a=1&b=2&c=3&d=4:", DIGITS);
        next("0+a=1:2;3", "+-");
        next("0+a=1:2;3-", "abcdef:");
    }

    private static void next(String start, String allowed) {
        for (char each = 32; each <= 126; each++) {
            boolean isAllowed = allowed.indexOf(each) >= 0;
            if (isAllowed && each == ';') {
                PolicyEngine x = with(start + each);
                Check.is("44: " + start + each, x.read(), 1);
            } else {
                error(start + each, isAllowed ? start.length() + 1 : start.length());
            }
        }
        if (!start.endsWith(";")) {
            error(start, start.length());
        }
    }

    private static void oneOrSeveralRules() {
        Check.sentence("A text consists of one or several rules");
        same("0+:0;");
        same("0+:0;1-:1;");
        same("0+:0;1-:1;2+a=1:2;");
        error("0+:0;x", 5);
        error("0+:0; 1-:1;", 5);
        error("0+:0,1-:1;", 4);
        error("0+:0;1-:1;;", 10);
    }

    private static void policies() {
        Check.sentence("a digit from 0 to 3 for the policy");
        same("0+:0;1+:0;2+:0;3+:0;");
        error("4+:0;", 0);
        error("9+:0;", 0);
        error("/+:0;", 0);
        error("-:0;", 0);
        error("01+:0;", 1);
    }

    private static void effects() {
        Check.sentence("+ for permit or - for deny");
        PolicyEngine x = with("2+:0;2-:0;");
        x.read();
        Check.is("9: permit", x.rule(0, 1), 0);
        Check.is("9: deny", x.rule(1, 1), 1);
        error("0:0;", 1);
        error("0*:0;", 1);
        error("0+-:0;", 2);
        error("0++:0;", 2);
    }

    private static void conditions() {
        Check.sentence("the conditions, with the character & between each two neighboring ones");
        same("0+a=1&b=2:0;");
        error("0+a=1b=2:0;", 5);
        error("0+&a=1:0;", 2);
        error("0+a=1&:0;", 6);
        error("0+a=1&&b=2:0;", 6);
        error("0+a=1,b=2:0;", 5);
        error("0+a=1;", 5);
    }

    private static void fourConditions() {
        Check.sentence("behind the fourth condition of a rule, an & is an error");
        same("0+:0;");
        same("0+a=1&b=2&c=3:0;");
        same("0+a=1&b=2&c=3&d=4:0;");
        same("0+a{1}&b{2}&c{3}&d{4}:0;1-a=1&b=2&c=3&d=4:0;");
        error("0+a=1&b=2&c=3&d=4&e=5:0;", 17);
        error("0+a=1&b=2&c=3&d=4&", 17);
        error("0+a=1&b=2&c=3&d=14&e=5:0;", 18);
        error("0+a=1&b=2&c=3&d{4,5}&e=5:0;", 20);
        error("0+:0;1+a=1&a=1&a=1&a=1&a=1:0;", 22);
    }

    private static void letters() {
        Check.sentence("a letter from a to f for the attributes 0 to 5");
        same("0+a=1:0;0+b=1:0;0+c=1:0;0+d=1:0;0+e=1:0;0+f=1:0;");
        PolicyEngine x = with("0+a=1&f=1:0;");
        x.read();
        Check.is("10: a", x.condition(0, 0, 0), 0);
        Check.is("10: f", x.condition(0, 1, 0), 5);
        error("0+g=1:0;", 2);
        error("0+`=1:0;", 2);
        error("0+A=1:0;", 2);
        error("0+a=1&g=1:0;", 6);
        error("0+aa=1:0;", 3);
    }

    private static void signs() {
        Check.sentence("one of the characters = # < > for the kinds 0 to 3");
        PolicyEngine x = with("0+a=1&b#2&c<3&d>4:0;");
        x.read();
        for (int kind = 0; kind < 4; kind++) {
            Check.is("10: kind " + kind, x.condition(0, kind, 1), kind);
            Check.is("10: operand of kind " + kind, x.condition(0, kind, 2), kind + 1);
        }
        error("0+a!1:0;", 3);
        error("0+a==1:0;", 4);
        error("0+a>=1:0;", 4);
        error("0+a1:0;", 3);
    }

    private static void operands() {
        Check.sentence("and 1 or 2 digits for an operand from 0 to 15");
        for (char sign : new char[] {'=', '#', '<', '>'}) {
            for (int operand = 0; operand < 16; operand++) {
                same("0+c" + sign + operand + ":0;");
            }
            for (int operand = 16; operand < 100; operand++) {
                error("0+c" + sign + operand + ":0;", 5);
            }
            error("0+c" + sign + ":0;", 4);
            error("0+c" + sign + "-1:0;", 4);
        }
    }

    private static void sets() {
        Check.sentence("an opening brace, one or several values of 1 or 2 digits from 0 to 15 with a comma between each "
                + "two neighboring ones, and a closing brace, for kind 4.");
        for (int value = 0; value < 16; value++) {
            same("0+c{" + value + "}:0;");
            PolicyEngine x = with("0+c{" + value + "}:0;");
            x.read();
            Check.is("10: kind of a set", x.condition(0, 0, 1), 4);
            Check.is("10: set of " + value, x.condition(0, 0, 2), 1 << value);
        }
        for (int value = 16; value < 100; value++) {
            error("0+c{" + value + "}:0;", 5);
            error("0+c{0," + value + "}:0;", 7);
        }
        same("0+c{0,1,2,3,4,5,6,7,8,9,10,11,12,13,14,15}:0;");
        error("0+c{}:0;", 4);
        error("0+c{,}:0;", 4);
        error("0+c{1,}:0;", 6);
        error("0+c{,1}:0;", 4);
        error("0+c{1,,2}:0;", 6);
        error("0+c{1 2}:0;", 5);
        error("0+c{1:0;", 5);
        error("0+c={1}:0;", 4);
        error("0+c{{1}:0;", 4);
    }

    private static void priorities() {
        Check.sentence("a colon; a digit for the priority; a semicolon.");
        for (int priority = 0; priority < 10; priority++) {
            same("1-:" + priority + ";");
        }
        error("1-:10;", 4);
        error("1-:;", 3);
        error("1-::1;", 3);
        error("1-1;", 2);
        error("1-:1:", 4);
        error("1-:/;", 3);
    }

    private static void twoDigits() {
        Check.sentence("A number is read as far as digits follow, but at most two.");
        same("0+a=1:0;");
        same("0+a=10:0;");
        same("0+a=15:0;");
        error("0+a=16:0;", 5);
        error("0+a=19:0;", 5);
        error("0+a=20:0;", 5);
        error("0+a=150:0;", 6);
        error("0+a=100:0;", 6);
        error("0+a=001:0;", 6);
        error("0+a{150}:0;", 6);
        error("0+a{7,001}:0;", 8);
        error("0+a{7,16}:0;", 7);
    }

    private static void leadingZeros() {
        Check.sentence("Numbers in a text can have leading zeros");
        text("0+a=00&b#01&c<09&d>05:0;", "0+a=0&b#1&c<9&d>5:0;");
        text("0+a{00,01,09}:0;", "0+a{0,1,9}:0;");
        error("0+a=010:0;", 6);
        error("0+:00;", 4);
        error("00+:0;", 1);
    }

    private static void valuesTwice() {
        Check.sentence("and a set can tell a value twice");
        text("0+a{3,3}:0;", "0+a{3}:0;");
        text("0+a{15,0,15,0}:0;", "0+a{0,15}:0;");
        text("0+a{7,07,7}&a{1,2,1}:0;", "0+a{7}&a{1,2}:0;");
        PolicyEngine x = with("0+a{4,4,4}:0;");
        x.read();
        Check.is("10: a set, and no sum", x.condition(0, 0, 2), 16);
    }

    private static void smallestIndex() {
        Check.sentence("The error position of a text that is not like this is the smallest index k");
        error("x", 0);
        error("xx", 0);
        error("0+a=16&g=99:x", 5);
        error("0+:0;1+a?:0;2x", 8);
        error("~~~~~~~~~~~~~~~~~~~~~~~~~~~~~~~~~~~~~~~~~~~~~~~~~~~~~~~~~~~~~~~~~~~~~~", 0);
        error("0+:0;1+:1;2+:2;3+:3;0-:4;1-:5;2-:6;3-:7;0+:8;1+:9;2+:0;3+:1;0-:2;1-:3:", 69);
    }

    private static void lengthOfTheText() {
        Check.sentence("if there is no such index, it is the length of the text.");
        String whole = "2-a=15&b{1,12}:9;3+:0;";
        for (int length = 0; length < whole.length(); length++) {
            if (length != 17) {
                error(whole.substring(0, length), length);
            }
        }
        same(whole.substring(0, 17));
        same(whole);
    }

    private static void emptyInput() {
        Check.sentence("an empty input is not a text.");
        error("", 0);
        PolicyEngine x = with("0+:0;");
        Check.is("44: a text", x.read(), 1);
        Check.fails("44: empty behind it", Check.ARGUMENT, x::read);
        Check.is("45: at 0", x.errorPosition(), 0);
        Check.fails("44: empty again", Check.ARGUMENT, x::read);
        Check.is("8: the rule stays", x.ruleCount(), 1);
    }

    private static void longestText() {
        Check.sentence("a buffer of at most 70 characters");
        String start = "0+a{0,1,2,3,4,5,6,7,8,9,0,1,2,3,4,5,6,7,8,9,0,1,2,3,4,5,6,7,8,9,0";
        Check.is("the start has", start.length(), 65);
        text(start + "1}:9;", "0+a{0,1,2,3,4,5,6,7,8,9}:9;");
        text(start + "}:9;", "0+a{0,1,2,3,4,5,6,7,8,9}:9;");
        error(start + ",1}:9", 70);
        error(start + ",1,2,", 70);
        error(start + ",1,2!", 69);
        same("0+a=10&b=11&c=12&d=13:0;1-a=10&b=11&c=12&d=13:1;2+a#1&b=2&c=3&d=1:2;");
    }

    private static void emptiedWhateverHappens() {
        Check.sentence("The input is empty afterwards, whatever happens.");
        PolicyEngine x = with("0+:0;");
        x.read();
        Check.is("43: behind a text", x.append('?'), 1);
        Check.fails("44: an error", Check.ARGUMENT, x::read);
        Check.is("43: behind an error", x.append('0'), 1);
        Check.type(x, "+:1;");
        Check.is("44: nothing of the error is left", x.read(), 1);
        while (x.ruleCount() < 24) {
            x.addRule(0, true, 0);
        }
        Check.type(x, "0+:0;");
        Check.fails("44: too many", Check.STATE, x::read);
        Check.is("43: behind too many", x.append('0'), 1);
    }

    /** Of a longer input before, nothing is seen behind the end of a shorter one. */
    private static void nothingBehindTheEnd() {
        Check.sentence("if there is no such index, it is the length of the text.");
        String whole = "0+a=12&b{13,14}:5;1-c=11:6;";
        for (int length = 0; length < whole.length(); length++) {
            PolicyEngine x = with(whole);
            Check.is("44: whole", x.read(), 2);
            Check.type(x, whole.substring(0, length));
            if (length == 18) {
                Check.is("44: the first rule", x.read(), 1);
                continue;
            }
            Check.fails("44: the first " + length, Check.ARGUMENT, x::read);
            Check.is("45: the first " + length, x.errorPosition(), length);
        }
        String start = "0+a{0,1,2,3,4,5,6,7,8,9,0,1,2,3,4,5,6,7,8,9,0,1,2,3,4,5,6,7,8,9,0";
        String[] ends = {",1,11", ",1,12", ",1,2,", ",1,2}", ",12,1", "1,2,3", ",1}:9", "1}&a=", "1}&a#", "1}&a{"};
        for (String end : ends) {
            error(start + end, 70);
        }
        error("0+:0;1+:1;2+:2;3+:3;0-:4;1-:5;2-:6;3-:7;0+:8;1+:9;2+:0;3+:1;0-:2;1-:3", 69);
    }

    private static void allOrNone() {
        Check.sentence("Adds the rules of the text in the input, in their order, or none of them.");
        PolicyEngine x = Check.engine("3-f=1:9;");
        Check.type(x, "0+:0;1-a=1:1;2+x");
        Check.fails("44: an error in the third", Check.ARGUMENT, x::read);
        Check.is("46: none of them", Check.texts(x), "3-f=1:9;");
        Check.is("47: it was no change", x.undo(), 0);
        x.addRule(2, false, 2);
        Check.type(x, "0+:0;1-a=1:1;2+:2;");
        Check.is("44: three", x.read(), 3);
        Check.is("46: three", Check.texts(x), "2+:2;0+:0;1-a=1:1;2+:2;");
        Check.is("47: it was one change", x.undo(), 1);
        Check.is("46: none of the three", Check.texts(x), "2+:2;");
    }

    private static void errorHoweverManyRules() {
        Check.sentence("with an error anywhere, read throws the IllegalArgumentException, however many rules there are");
        PolicyEngine x = new PolicyEngine();
        for (int rule = 0; rule < 24; rule++) {
            x.addRule(0, false, 0);
        }
        Check.type(x, "0+:0;1+:1;2+:2;3");
        Check.fails("44: an error behind too many", Check.ARGUMENT, x::read);
        Check.is("45: its position", x.errorPosition(), 16);
        Check.fails("44: an empty input", Check.ARGUMENT, x::read);
        Check.is("45: at 0", x.errorPosition(), 0);
        Check.type(x, "0+:0;1+:1;2+:2;");
        Check.fails("44: too many", Check.STATE, x::read);
        Check.is("45: kept", x.errorPosition(), 0);
    }

    private static void inTheirOrder() {
        Check.sentence("Returns the number of rules that are added.");
        PolicyEngine x = Check.engine("0+:9;");
        Check.type(x, "1+:0;2+:1;3+:2;0-:3;1-:4;2-:5;3-:6;0+:7;1+:8;2+:9;3+:0;0-:1;1-:2;2-:3;");
        Check.is("44: the most", x.read(), 14);
        for (int rule = 1; rule < 15; rule++) {
            Check.is("9: policy of " + rule, x.rule(rule, 0), rule % 4);
            Check.is("9: priority of " + rule, x.rule(rule, 2), (rule - 1) % 10);
        }
    }

    private static void tooManyRules() {
        Check.sentence("Throws `IllegalStateException` if there would be more than 24 rules");
        for (int before = 9; before <= 24; before++) {
            PolicyEngine x = new PolicyEngine();
            for (int rule = 0; rule < before; rule++) {
                x.addRule(0, false, 0);
            }
            StringBuilder text = new StringBuilder();
            for (int rule = before; rule < 24 && rule < before + 13; rule++) {
                text.append("1-:1;");
            }
            int fitting = text.length() / 5;
            Check.type(x, text + "1-:1;");
            if (before + fitting + 1 > 24) {
                Check.fails("44: one too many for " + before, Check.STATE, x::read);
                Check.is("8: none of them", x.ruleCount(), before);
                Check.fails("45: it is no error", Check.ELEMENT, x::errorPosition);
            } else {
                Check.is("44: behind " + before, x.read(), fitting + 1);
            }
            if (fitting > 0 && x.ruleCount() == before) {
                Check.type(x, text.toString());
                Check.is("44: as many as fit", x.read(), fitting);
                Check.is("8: 24", x.ruleCount(), 24);
            }
        }
    }

    private static void keptLast() {
        Check.sentence("Returns the error position that was kept last.");
        PolicyEngine x = new PolicyEngine();
        String[] texts = {"0+a=16:0;", "", "0+:0;1", "0", "x"};
        int[] due = {5, 0, 6, 1, 0};
        for (int index = 0; index < texts.length; index++) {
            Check.type(x, texts[index]);
            Check.fails("44: " + texts[index], Check.ARGUMENT, x::read);
            Check.is("45: " + texts[index], x.errorPosition(), due[index]);
            Check.is("45: once more " + texts[index], x.errorPosition(), due[index]);
        }
        Check.type(x, "0+a=1:!");
        Check.fails("44: an error", Check.ARGUMENT, x::read);
        Check.type(x, "0+:0;");
        x.read();
        x.undo();
        x.save();
        x.restore();
        x.append('0');
        Check.is("45: kept through all", x.errorPosition(), 6);
    }

    private static void noneKept() {
        Check.sentence("if none was kept");
        PolicyEngine x = new PolicyEngine();
        Check.fails("45: at first", Check.ELEMENT, x::errorPosition);
        Check.type(x, "0+:0;");
        x.read();
        Check.fails("45: behind a text", Check.ELEMENT, x::errorPosition);
        x.append('?');
        Check.fails("45: before it is read", Check.ELEMENT, x::errorPosition);
        Check.fails("44: an error", Check.ARGUMENT, x::read);
        Check.is("45: at 0, which is a position", x.errorPosition(), 0);
    }

    private static void describedNumbers() {
        Check.sentence("Returns a character of the text of a rule, without leading zeros");
        PolicyEngine x = new PolicyEngine();
        for (int kind = 0; kind < 4; kind++) {
            x.addRule(3 - kind, kind % 2 == 1, 9 * (kind % 2));
            x.addCondition(kind, kind, kind, 0);
            x.addCondition(kind, 5, kind, 9);
            x.addCondition(kind, kind, kind, 10);
            x.addCondition(kind, 5, kind, 15);
        }
        Check.is("46: all kinds", Check.texts(x), "3+a=0&f=9&a=10&f=15:0;2-b#0&f#9&b#10&f#15:9;"
                + "1+c<0&f<9&c<10&f<15:0;0-d>0&f>9&d>10&f>15:9;");
    }

    private static void describedSets() {
        Check.sentence("describe writes a set with braces also if it has one value.");
        PolicyEngine x = Check.engine("0+:0;");
        x.addCondition(0, 0, 4, 1);
        x.addCondition(0, 1, 4, 32768);
        x.addCondition(0, 2, 4, 1024 + 512);
        x.addCondition(0, 3, 4, 65535);
        Check.is("46: sets", Check.text(x, 0),
                "0+a{0}&b{15}&c{9,10}&d{0,1,2,3,4,5,6,7,8,9,10,11,12,13,14,15}:0;");
        Check.sentence("and with the values of sets in ascending order");
        text("0+a{15,9,10,0,1}:0;", "0+a{0,1,9,10,15}:0;");
    }

    private static void describedIndexes() {
        Check.sentence("if index is not -1, and there is no such character");
        PolicyEngine x = Check.engine("2-b=7:4;0+:1;");
        Check.is("46: length", x.describe(0, -1), 8);
        String text = "2-b=7:4;";
        for (int index = 0; index < 8; index++) {
            Check.is("46: at " + index, x.describe(0, index), (int) text.charAt(index));
        }
        Check.fails("46: at 8", Check.ELEMENT, () -> x.describe(0, 8));
        Check.fails("46: at -2", Check.ELEMENT, () -> x.describe(0, -2));
        Check.fails("46: behind the shorter one, at 5", Check.ELEMENT, () -> x.describe(1, 5));
        Check.is("46: its last", x.describe(1, 4), (int) ';');
        Check.fails("46: rule 2 and index -2", Check.INDEX, () -> x.describe(2, -2));
        Check.fails("46: rule -1", Check.INDEX, () -> x.describe(-1, -1));
    }

    private static void describedLengths() {
        Check.sentence("or its length.");
        PolicyEngine x = Check.engine("0+:0;");
        Check.is("46: the least", x.describe(0, -1), 5);
        for (int index = 0; index < 4; index++) {
            x.addCondition(0, index, 4, 65535);
            Check.is("46: with " + index, x.describe(0, -1), 45 + 41 * index);
        }
        Check.fails("46: behind the greatest", Check.ELEMENT, () -> x.describe(0, 168));
        Check.is("46: the last", x.describe(0, 167), (int) ';');
        Check.is("46: the last but one", x.describe(0, 166), (int) '0');
    }
}
