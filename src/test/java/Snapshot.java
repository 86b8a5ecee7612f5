import java.util.TreeMap;
import java.util.TreeSet;

/**
 * The whole state of an engine, part by part, as calls tell it. Some of it is told only by calls that change it, so
 * that each part is told by an engine of its own, which the same recipe makes.
 */
final class Snapshot {
    interface Recipe {
        PolicyEngine make();
    }

    interface Change {
        void make(PolicyEngine x);
    }

    private final TreeMap<String, String> parts = new TreeMap<>();

    private Snapshot() {
    }

    static Snapshot of(Recipe recipe) {
        Snapshot snapshot = new Snapshot();
        TreeMap<String, String> parts = snapshot.parts;
        parts.put("rules", rules(recipe.make()));
        parts.put("grants", Check.grants(recipe.make()));
        parts.put("ways", ways(recipe.make()));
        parts.put("clock", clock(recipe.make()));
        parts.put("subject", Integer.toString(recipe.make().setSubject(0)));
        parts.put("values", values(recipe.make()));
        parts.put("audit", audit(recipe.make()));
        parts.put("input", input(recipe.make()));
        parts.put("error", error(recipe.make()));
        parts.put("history", history(recipe.make()));
        parts.put("saved", saved(recipe.make()));
        return snapshot;
    }

    /** The snapshot of an engine that a recipe makes and a change alters then. */
    static Snapshot after(Recipe recipe, Change change) {
        return of(() -> {
            PolicyEngine x = recipe.make();
            change.make(x);
            return x;
        });
    }

    /** The names of the parts that are not the same, with a blank between them. */
    String differences(Snapshot other) {
        TreeSet<String> names = new TreeSet<>();
        for (String name : parts.keySet()) {
            if (!parts.get(name).equals(other.parts.get(name))) {
                names.add(name);
            }
        }
        return String.join(" ", names);
    }

    private static String rules(PolicyEngine x) {
        StringBuilder text = new StringBuilder();
        for (int rule = 0; rule < x.ruleCount(); rule++) {
            for (int what = 0; what < 4; what++) {
                text.append(x.rule(rule, what)).append(',');
            }
            for (int index = 0; index < x.rule(rule, 3); index++) {
                for (int what = 0; what < 3; what++) {
                    text.append(x.condition(rule, index, what)).append(',');
                }
            }
            text.append(';');
        }
        return text.toString();
    }

    private static String ways(PolicyEngine x) {
        StringBuilder text = new StringBuilder();
        for (int policy = 0; policy < 4; policy++) {
            text.append(x.setWay(policy, 0));
        }
        return text.append(x.setTopWay(0)).toString();
    }

    private static String clock(PolicyEngine x) {
        Check.request(x, 0, 0, 0, 0, 0, 0);
        x.decide();
        return Integer.toString(x.audit(x.auditCount() - 1, 0));
    }

    private static String values(PolicyEngine x) {
        StringBuilder text = new StringBuilder();
        for (int attribute = 0; attribute < 6; attribute++) {
            text.append(x.setValue(attribute, -1)).append(',');
        }
        return text.toString();
    }

    private static String audit(PolicyEngine x) {
        StringBuilder text = new StringBuilder();
        for (int index = 0; index < x.auditCount(); index++) {
            for (int what = 0; what < 4; what++) {
                text.append(x.audit(index, what)).append(',');
            }
        }
        return text.toString();
    }

    /** The rules that the input makes, if it is a text, and otherwise how far it is like one. */
    private static String input(PolicyEngine x) {
        while (x.ruleCount() > 0) {
            x.removeRule(x.ruleCount() - 1);
        }
        try {
            x.read();
            return rules(x);
        } catch (IllegalArgumentException e) {
            return Integer.toString(x.errorPosition());
        }
    }

    private static String error(PolicyEngine x) {
        try {
            return Integer.toString(x.errorPosition());
        } catch (RuntimeException e) {
            return "none";
        }
    }

    /** What each change that is remembered brings back, in brief. */
    private static String history(PolicyEngine x) {
        StringBuilder text = new StringBuilder();
        try {
            for (int number = 0; number < 10; number++) {
                text.append(x.undo()).append(':').append(brief(x)).append(';');
            }
        } catch (RuntimeException e) {
            text.append("end");
        }
        return text.toString();
    }

    private static String brief(PolicyEngine x) {
        StringBuilder text = new StringBuilder();
        for (int rule = 0; rule < x.ruleCount(); rule++) {
            text.append(x.rule(rule, 2));
        }
        text.append(',').append(x.grantCount(false)).append(',').append(x.setTopWay(0));
        x.undo();
        return text.toString();
    }

    private static String saved(PolicyEngine x) {
        try {
            x.restore();
            return rules(x) + Check.grants(x) + ways(x);
        } catch (RuntimeException e) {
            return "none";
        }
    }
}
