import java.io.IOException;
import java.io.UncheckedIOException;
import java.nio.file.Files;
import java.nio.file.Path;
import java.util.NoSuchElementException;
import java.util.regex.Pattern;

/** Counts the answers that differ from those that are due. */
final class Check {
    static final Class<? extends RuntimeException> INDEX = IndexOutOfBoundsException.class;
    static final Class<? extends RuntimeException> ARGUMENT = IllegalArgumentException.class;
    static final Class<? extends RuntimeException> STATE = IllegalStateException.class;
    static final Class<? extends RuntimeException> ELEMENT = NoSuchElementException.class;
    static final Class<? extends RuntimeException> ARITHMETIC = ArithmeticException.class;

    interface Call {
        Object make();
    }

    private static int wrong = 0;
    private static int made = 0;
    private static String document = "";
    private static String sentence = "";

    private Check() {
    }

    private static void wrong(String what, String got, Object want) {
        wrong++;
        System.out.println(what + ": " + got + ", due is " + want);
        if (!sentence.isEmpty()) {
            System.out.println("    the document: " + sentence);
        }
    }

    /** The sentence, or a part of one, that the answers from here on are about: it stands so in the document. */
    static void sentence(String words) {
        if (document.isEmpty()) {
            document = document();
        }
        made++;
        sentence = words;
        if (!document.contains(words)) {
            wrong("sentence", "not in the document", "one that is");
        }
    }

    /** A sentence that stands in the chapter of a promise. */
    static void sentenceOf(int promise, String words) {
        sentence(words);
        int start = document.indexOf("## Promise " + promise + ": ");
        int end = document.indexOf("## ", start + 3);
        is(promise + ": a sentence of this promise", start >= 0 && document.substring(start, end).contains(words), true);
    }

    /** How often words stand in the document. */
    static int timesInDocument(String words) {
        return document().split(Pattern.quote(words), -1).length - 1;
    }

    private static String document() {
        try {
            return Files.readString(Path.of("../shared/DOC.md")).replaceAll("\\s+", " ");
        } catch (IOException e) {
            throw new UncheckedIOException(e);
        }
    }

    static void is(String what, Object got, Object want) {
        made++;
        if (!got.equals(want)) {
            wrong(what, "answered " + got, want);
        }
    }

    static void returns(String what, Call call) {
        made++;
        try {
            call.make();
        } catch (RuntimeException e) {
            wrong(what, "threw " + e, "an answer");
        }
    }

    /** The exception must be of exactly this class, so that one that a subclass tells of is seen. */
    static void fails(String what, Class<? extends RuntimeException> want, Call call) {
        made++;
        try {
            Object got = call.make();
            wrong(what, "answered " + got, want.getSimpleName());
        } catch (RuntimeException e) {
            if (e.getClass() != want) {
                wrong(what, "threw " + e, want.getSimpleName());
            }
        }
    }

    static void end(String test) {
        System.out.println(test + ": " + made + " answers, " + wrong + " wrong");
        if (wrong > 0) {
            System.exit(1);
        }
    }

    // ---- engines as most tests want them

    static void type(PolicyEngine x, String text) {
        for (int index = 0; index < text.length(); index++) {
            x.append(text.charAt(index));
        }
    }

    /** An engine with the rules of the texts. */
    static PolicyEngine engine(String... texts) {
        PolicyEngine x = new PolicyEngine();
        for (String text : texts) {
            type(x, text);
            x.read();
        }
        return x;
    }

    static void request(PolicyEngine x, int... values) {
        for (int attribute = 0; attribute < values.length; attribute++) {
            x.setValue(attribute, values[attribute]);
        }
    }

    static String text(PolicyEngine x, int rule) {
        StringBuilder text = new StringBuilder();
        int length = x.describe(rule, -1);
        for (int index = 0; index < length; index++) {
            text.append((char) x.describe(rule, index));
        }
        return text.toString();
    }

    /** All rules, one behind the other. */
    static String texts(PolicyEngine x) {
        StringBuilder text = new StringBuilder();
        for (int rule = 0; rule < x.ruleCount(); rule++) {
            text.append(text(x, rule));
        }
        return text.toString();
    }

    /** All grants: from, to, policy, depth and expiry of each. */
    static String grants(PolicyEngine x) {
        StringBuilder text = new StringBuilder();
        for (int index = 0; index < x.grantCount(false); index++) {
            for (int what = 0; what < 5; what++) {
                text.append(x.grantAt(index, what)).append(what < 4 ? "," : ";");
            }
        }
        return text.toString();
    }
}
