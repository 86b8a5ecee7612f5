/** Runs of as many mixed calls as an object is used for, each answer compared with the one of the model. */
public final class ModelTest {
    private static final int RUNS = 100;
    private static final int CALLS = 512;
    /** As many as everything needs at most. */
    private static final int LAST_CALLS = 130;

    private interface Answer {
        Object tell();
    }

    private final PolicyEngine x = new PolicyEngine();
    private final Model model = new Model();
    private final String name;
    /** How often one of the ranges of numbers is left, in percent. */
    private final int wild;
    /** Whether there are as many rules and grants as can be at first. */
    private final boolean isFull;
    private final int subjects;
    private final int policies;
    private final int attributes;
    private long seed;
    private int calls = 0;

    private ModelTest(int run) {
        name = "run " + run;
        seed = run * 7919L + 17;
        wild = run % 3 == 0 ? 10 : 2;
        isFull = run % 7 < 2;
        subjects = run % 2 == 0 ? 10 : 5;
        policies = run % 5 == 0 ? 1 : run % 5 == 1 ? 2 : 4;
        attributes = run % 4 == 0 ? 2 : run % 4 == 1 ? 3 : 6;
    }

    public static void main(String[] args) {
        for (int run = 0; run < RUNS; run++) {
            new ModelTest(run).play();
        }
        Check.end("ModelTest");
    }

    /** The same numbers in every run of the test. */
    private int below(int bound) {
        seed = seed * 6364136223846793005L + 1442695040888963407L;
        return (int) ((seed >>> 33) % bound);
    }

    private int number(int least, int greatest) {
        if (below(100) < wild) {
            int[] outside = {least - 1, greatest + 1, Integer.MIN_VALUE, Integer.MAX_VALUE, -1, 0};
            return outside[below(outside.length)];
        }
        return least + below(greatest - least + 1);
    }

    private int rule() {
        return number(0, Math.max(model.ruleCount() - 1, 0));
    }

    private int policy() {
        return number(0, policies - 1);
    }

    private int subject() {
        return number(0, subjects - 1);
    }

    private int attribute() {
        return number(0, attributes - 1);
    }

    private static Object answer(Answer call) {
        try {
            return call.tell();
        } catch (RuntimeException e) {
            return e.getClass().getSimpleName();
        }
    }

    /** What an object answers after its last call is free, so that it is not asked. */
    private void same(String call, Answer program, Answer plain) {
        calls++;
        if (calls <= CALLS) {
            Check.is(name + ", call " + calls + ", " + call, answer(program), answer(plain));
        }
    }

    private void play() {
        start();
        while (calls < CALLS - LAST_CALLS) {
            int dice = below(100);
            if (dice < 40) {
                change();
            } else if (dice < 55) {
                request();
            } else if (dice < 70) {
                decision();
            } else if (dice < 80) {
                chains();
            } else if (dice < 90) {
                compared();
            } else {
                told();
            }
        }
        everything();
    }

    /** Rules and grants first, so that there is something to ask about; in some runs as many as can be. */
    private void start() {
        int rules = isFull ? 24 : 5 + below(8);
        for (int number = 0; number < 40 && model.ruleCount() < rules; number++) {
            addRule();
            addCondition();
        }
        int grants = isFull ? 30 : 5 + below(15);
        for (int number = 0; number < 80 && model.grantCount(false) < grants; number++) {
            grant();
        }
    }

    private void change() {
        switch (below(16)) {
            case 0, 1 -> addRule();
            case 2, 3, 4, 5, 14 -> addCondition();
            case 6 -> {
                int rule = rule();
                if (model.ruleCount() > 6) {
                    same("removeRule", () -> x.removeRule(rule), () -> model.removeRule(rule));
                }
            }
            case 7 -> {
                int rule = rule();
                int priority = number(0, 9);
                same("setPriority", () -> x.setPriority(rule, priority), () -> model.setPriority(rule, priority));
            }
            case 8 -> {
                int policy = policy();
                int way = number(0, 3);
                same("setWay", () -> x.setWay(policy, way), () -> model.setWay(policy, way));
            }
            case 9 -> {
                int way = number(0, 3);
                same("setTopWay", () -> x.setTopWay(way), () -> model.setTopWay(way));
            }
            case 10, 11, 12 -> grant();
            case 13 -> history();
            default -> text();
        }
    }

    private void addRule() {
        int policy = policy();
        boolean isDeny = below(2) == 0;
        int priority = number(0, below(2) == 0 ? 2 : 9);
        same("addRule", () -> x.addRule(policy, isDeny, priority), () -> model.addRule(policy, isDeny, priority));
    }

    private void addCondition() {
        int rule = rule();
        int attribute = attribute();
        int kind = number(0, 4);
        int operand = kind == 4 ? number(1, 65535) : number(0, 15);
        same("addCondition", () -> x.addCondition(rule, attribute, kind, operand),
                () -> model.addCondition(rule, attribute, kind, operand));
    }

    private void grant() {
        int from = below(3) == 0 ? 0 : subject();
        int to = subject();
        int policy = policy();
        int depth = number(0, 5);
        int expiry = number(0, below(3) == 0 ? 1000 : 60);
        if (below(6) == 0) {
            same("revoke", () -> x.revoke(from, to, policy), () -> model.revoke(from, to, policy));
        } else {
            same("grant", () -> x.grant(from, to, policy, depth, expiry),
                    () -> model.grant(from, to, policy, depth, expiry));
        }
    }

    private void history() {
        switch (below(8)) {
            case 0, 1 -> same("save", x::save, model::save);
            case 2 -> same("restore", x::restore, model::restore);
            case 3 -> {
                int attribute = number(0, 5);
                int value = number(0, 15);
                same("specialize", () -> x.specialize(attribute, value), () -> model.specialize(attribute, value));
            }
            default -> same("undo", x::undo, model::undo);
        }
    }

    private void append(char character) {
        same("append", () -> x.append(character), () -> model.append(character));
    }

    /** A text of one to three rules, sometimes with a wrong, a missing or a further character. */
    private void text() {
        StringBuilder text = new StringBuilder();
        for (int rules = 1 + below(3); rules > 0; rules--) {
            text.append(below(policies)).append(below(2) == 0 ? '+' : '-');
            for (int conditions = below(below(4) == 0 ? 6 : 4); conditions > 0; conditions--) {
                condition(text);
                text.append(conditions > 1 ? "&" : "");
            }
            text.append(':').append(below(10)).append(';');
        }
        if (below(3) == 0) {
            int place = below(text.length());
            char odd = "0123456789+-=#<>{},&:;abcdefgz ~".charAt(below(32));
            switch (below(4)) {
                case 0 -> text.setCharAt(place, odd);
                case 1 -> text.insert(place, odd);
                case 2 -> text.setLength(place);
                default -> text.deleteCharAt(place);
            }
        }
        for (int index = 0; index < text.length() && index < 72; index++) {
            append(text.charAt(index));
        }
        if (below(8) == 0) {
            append((char) number(32, 126));
        }
        same("read of " + text, x::read, model::read);
        same("errorPosition", x::errorPosition, model::errorPosition);
    }

    private void condition(StringBuilder text) {
        text.append((char) ('a' + below(attributes)));
        if (below(3) > 0) {
            text.append("=#<>".charAt(below(4))).append(operand());
            return;
        }
        text.append('{').append(operand());
        for (int more = below(4); more > 0; more--) {
            text.append(',').append(operand());
        }
        text.append('}');
    }

    private String operand() {
        int value = below(30) == 0 ? 16 : below(16);
        return value < 10 && below(4) == 0 ? "0" + value : Integer.toString(value);
    }

    private void request() {
        switch (below(8)) {
            case 0 -> {
                int subject = below(2) == 0 ? 0 : subject();
                same("setSubject", () -> x.setSubject(subject), () -> model.setSubject(subject));
            }
            case 1 -> {
                int ticks = number(1, below(8) == 0 ? 100 : 6);
                same("tick", () -> x.tick(ticks), () -> model.tick(ticks));
            }
            case 2, 3 -> {
                for (int attribute = 0; attribute < 6; attribute++) {
                    setValue(attribute, below(12) == 0 ? -1 : below(16));
                }
            }
            default -> setValue(number(0, 5), number(-1, 15));
        }
        same("unknown", x::unknown, model::unknown);
    }

    private void setValue(int attribute, int value) {
        same("setValue", () -> x.setValue(attribute, value), () -> model.setValue(attribute, value));
    }

    private void decision() {
        int rule = rule();
        int policy = policy();
        int decision = number(0, 3);
        int attribute = number(0, 5);
        switch (below(8)) {
            case 0, 1 -> same("decide", x::decide, model::decide);
            case 2 -> same("decidingRule", x::decidingRule, model::decidingRule);
            case 3 -> same("policyDecision", () -> x.policyDecision(policy), () -> model.policyDecision(policy));
            case 4 -> {
                same("possible", x::possible, model::possible);
                same("completions", () -> x.completions(decision), () -> model.completions(decision));
            }
            case 5 -> same("valuesFor", () -> x.valuesFor(attribute, decision),
                    () -> model.valuesFor(attribute, decision));
            case 6 -> same("applies", () -> x.applies(rule), () -> model.applies(rule));
            default -> same("failing", () -> x.failing(rule), () -> model.failing(rule));
        }
    }

    private void chains() {
        int subject = subject();
        int policy = policy();
        int index = number(0, 4);
        same("policies", () -> x.policies(subject), () -> model.policies(subject));
        same("chainLength", () -> x.chainLength(subject, policy), () -> model.chainLength(subject, policy));
        same("chain", () -> x.chain(subject, policy, index), () -> model.chain(subject, policy, index));
        if (answer(() -> model.chainLength(subject, policy)) instanceof Integer length) {
            for (int place = 0; place <= length; place++) {
                int each = place;
                same("chain", () -> x.chain(subject, policy, each), () -> model.chain(subject, policy, each));
            }
        }
        same("lastsUntil", () -> x.lastsUntil(subject, policy), () -> model.lastsUntil(subject, policy));
        same("grantCount", () -> x.grantCount(true), () -> model.grantCount(true));
    }

    private void compared() {
        int first = rule();
        int second = rule();
        int policy = policy();
        int attribute = number(0, 5);
        switch (below(7)) {
            case 0 -> same("extent", () -> x.extent(first), () -> model.extent(first));
            case 1 -> same("overlap", () -> x.overlap(first, second), () -> model.overlap(first, second));
            case 2 -> same("covers", () -> x.covers(first, second), () -> model.covers(first, second));
            case 3 -> same("clashes", () -> x.clashes(policy), () -> model.clashes(policy));
            case 4 -> same("neverDeciding", () -> x.neverDeciding(policy), () -> model.neverDeciding(policy));
            case 5 -> same("witness", () -> x.witness(first, attribute), () -> model.witness(first, attribute));
            default -> same("blocker", () -> x.blocker(first), () -> model.blocker(first));
        }
    }

    private void told() {
        int rule = rule();
        int index = number(0, 3);
        int place = number(0, 29);
        int what = number(0, 4);
        switch (below(7)) {
            case 0 -> same("rule", () -> x.rule(rule, what), () -> model.rule(rule, what));
            case 1 -> same("condition", () -> x.condition(rule, index, what),
                    () -> model.condition(rule, index, what));
            case 2 -> same("grantAt", () -> x.grantAt(place, what), () -> model.grantAt(place, what));
            case 3 -> same("audit", () -> x.audit(place, what), () -> model.audit(place, what));
            case 4 -> same("permitShare", x::permitShare, model::permitShare);
            case 5 -> {
                if (below(20) == 0) {
                    same("clearAudit", x::clearAudit, model::clearAudit);
                }
            }
            default -> same("describe", () -> x.describe(rule, place), () -> model.describe(rule, place));
        }
    }

    /** At the end of a run, something of each part of the state. */
    private void everything() {
        same("ruleCount", x::ruleCount, model::ruleCount);
        for (int rule = 0; rule < model.ruleCount(); rule++) {
            int each = rule;
            same("describe", () -> x.describe(each, -1), () -> model.describe(each, -1));
            same("witness", () -> x.witness(each, 0), () -> model.witness(each, 0));
        }
        same("auditCount", x::auditCount, model::auditCount);
        for (int index = 0; index < model.auditCount(); index++) {
            int each = index;
            int what = 2 + below(2);
            same("audit", () -> x.audit(each, what), () -> model.audit(each, what));
        }
        same("grantCount", () -> x.grantCount(false), () -> model.grantCount(false));
        for (int index = 0; index < model.grantCount(false); index++) {
            int each = index;
            int what = below(5);
            same("grantAt", () -> x.grantAt(each, what), () -> model.grantAt(each, what));
        }
        while (calls < CALLS) {
            same("undo", x::undo, model::undo);
            same("describe", () -> x.describe(0, 5), () -> model.describe(0, 5));
        }
    }
}
