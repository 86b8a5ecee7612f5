import java.util.ArrayList;
import java.util.List;

/**
 * Each exception that the document names, at the first numbers that are refused and at those that wrap around, in
 * engines that are new, in use and full: the one that is documented first is thrown, and the state stays.
 */
public final class RefusedTest {
    private static final int LEAST = Integer.MIN_VALUE;
    private static final int GREATEST = Integer.MAX_VALUE;
    private static final int[] NO_POLICY = {-1, 4, 32, LEAST, GREATEST};
    private static final int[] NO_SUBJECT = {-1, 10, 32, LEAST, GREATEST};
    private static final int[] NO_ATTRIBUTE = {-1, 6, 32, LEAST, GREATEST};
    private static final int[] NO_PRIORITY = {-1, 10, LEAST, GREATEST};
    private static final int[] NO_WAY = {-1, 4, LEAST, GREATEST};
    private static final int[] NO_VALUE = {-1, 16, LEAST, GREATEST};
    private static final int[] NO_DECISION = {-1, 4, 32, LEAST, GREATEST};

    private interface Call {
        Object on(PolicyEngine x);
    }

    /** An engine in which calls are refused, with the state that it has to keep. */
    private static final class Place {
        final String name;
        final Snapshot.Recipe recipe;
        final Snapshot before;
        /** The first number that no rule has. */
        final int rules;

        Place(String name, Snapshot.Recipe recipe) {
            this.name = name;
            this.recipe = recipe;
            before = Snapshot.of(recipe);
            rules = recipe.make().ruleCount();
        }

        int[] noRule() {
            return new int[] {-1, rules, 24, 32, LEAST, GREATEST};
        }

        void refuses(String what, Class<? extends RuntimeException> exception, Call call) {
            String where = what + ", " + name;
            Check.fails(where, exception, () -> call.on(recipe.make()));
            Snapshot after = Snapshot.after(recipe, x -> tried(call, x));
            Check.is(where + ": what is changed", after.differences(before), "");
        }

        private static void tried(Call call, PolicyEngine x) {
            try {
                call.on(x);
            } catch (RuntimeException e) {
                // Whether it is the one that is due has been looked at.
            }
        }
    }

    private static final Place FRESH = new Place("new", PolicyEngine::new);
    private static final Place SOME = new Place("in use", Engines::some);
    private static final Place COMPLETE = new Place("complete", Engines::complete);
    private static final Place FULL = new Place("full", Engines::full);
    private static final Place NONE = new Place("none", RefusedTest::withoutPolicies);
    private static final Place CONFLICT = new Place("conflict", RefusedTest::withConflict);
    private static final List<Place> PLACES = List.of(FRESH, SOME, COMPLETE, FULL);

    public static void main(String[] args) {
        Check.sentence("A method that throws an exception leaves the state unchanged, unless its documentation says "
                + "otherwise. If several exceptions apply, the one that is documented first is thrown.");
        for (Place place : PLACES) {
            rules(place);
            ways(place);
            rulesTold(place);
            grants(place);
            chains(place);
            request(place);
            decisions(place);
            compared(place);
            audit(place);
            texts(place);
        }
        rulesWhereFull();
        grantsWhereFull();
        incomplete();
        nothingThere();
        readEmpties();
        Check.end("RefusedTest");
    }

    // ---- numbers that are refused everywhere

    private static void rules(Place p) {
        for (int policy : NO_POLICY) {
            p.refuses("2: policy " + policy, Check.INDEX, x -> x.addRule(policy, true, 5));
            p.refuses("2: policy " + policy + " and priority 10", Check.INDEX, x -> x.addRule(policy, false, 10));
        }
        for (int priority : NO_PRIORITY) {
            p.refuses("2: priority " + priority, Check.ARGUMENT, x -> x.addRule(3, false, priority));
        }
        for (int rule : p.noRule()) {
            p.refuses("3: rule " + rule, Check.INDEX, x -> x.addCondition(rule, 0, 0, 0));
            p.refuses("3: rule " + rule + " and attribute 6", Check.INDEX, x -> x.addCondition(rule, 6, 0, 0));
            p.refuses("3: rule " + rule + " and kind 5", Check.INDEX, x -> x.addCondition(rule, 0, 5, 0));
            p.refuses("3: rule " + rule + " and operand 16", Check.INDEX, x -> x.addCondition(rule, 0, 0, 16));
            p.refuses("4: rule " + rule, Check.INDEX, x -> x.removeRule(rule));
            p.refuses("5: rule " + rule, Check.INDEX, x -> x.setPriority(rule, 0));
            p.refuses("5: rule " + rule + " and priority 10", Check.INDEX, x -> x.setPriority(rule, 10));
        }
        if (p.rules == 0) {
            return;
        }
        for (int attribute : NO_ATTRIBUTE) {
            p.refuses("3: attribute " + attribute, Check.ARGUMENT, x -> x.addCondition(0, attribute, 0, 0));
        }
        for (int kind : new int[] {-1, 5, LEAST, GREATEST}) {
            p.refuses("3: kind " + kind, Check.ARGUMENT, x -> x.addCondition(0, 0, kind, 1));
        }
        for (int kind = 0; kind < 5; kind++) {
            int each = kind;
            for (int operand : kind < 4 ? NO_VALUE : new int[] {-1, 0, 65536, LEAST, GREATEST}) {
                p.refuses("3: operand " + operand + " of kind " + kind, Check.ARGUMENT,
                        x -> x.addCondition(p.rules - 2, 5, each, operand));
            }
        }
        for (int priority : NO_PRIORITY) {
            p.refuses("5: priority " + priority, Check.ARGUMENT, x -> x.setPriority(p.rules - 1, priority));
        }
    }

    private static void ways(Place p) {
        for (int policy : NO_POLICY) {
            p.refuses("6: policy " + policy, Check.INDEX, x -> x.setWay(policy, 1));
            p.refuses("6: policy " + policy + " and way 4", Check.INDEX, x -> x.setWay(policy, 4));
        }
        for (int way : NO_WAY) {
            p.refuses("6: way " + way, Check.ARGUMENT, x -> x.setWay(3, way));
            p.refuses("7: way " + way, Check.ARGUMENT, x -> x.setTopWay(way));
        }
        for (int attribute : NO_ATTRIBUTE) {
            p.refuses("11: attribute " + attribute, Check.INDEX, x -> x.specialize(attribute, 1));
            p.refuses("11: attribute " + attribute + " and value 16", Check.INDEX, x -> x.specialize(attribute, 16));
        }
        for (int value : NO_VALUE) {
            p.refuses("11: value " + value, Check.ARGUMENT, x -> x.specialize(0, value));
        }
    }

    private static void rulesTold(Place p) {
        for (int rule : p.noRule()) {
            p.refuses("9: rule " + rule, Check.INDEX, x -> x.rule(rule, 0));
            p.refuses("9: rule " + rule + " and what 4", Check.INDEX, x -> x.rule(rule, 4));
            p.refuses("10: rule " + rule, Check.INDEX, x -> x.condition(rule, 0, 0));
            p.refuses("10: rule " + rule + " and what 3", Check.INDEX, x -> x.condition(rule, 0, 3));
            p.refuses("46: rule " + rule, Check.INDEX, x -> x.describe(rule, -1));
            p.refuses("46: rule " + rule + " and index -2", Check.INDEX, x -> x.describe(rule, -2));
        }
        if (p.rules == 0) {
            return;
        }
        int last = p.rules - 1;
        for (int what : new int[] {-1, 4, LEAST, GREATEST}) {
            p.refuses("9: what " + what, Check.ARGUMENT, x -> x.rule(last, what));
        }
        for (int index : new int[] {-1, 4, LEAST, GREATEST}) {
            p.refuses("10: condition " + index, Check.INDEX, x -> x.condition(last, index, 0));
            p.refuses("10: condition " + index + " and what 3", Check.INDEX, x -> x.condition(last, index, 3));
        }
        for (int what : new int[] {-1, 3, LEAST, GREATEST}) {
            p.refuses("10: what " + what, Check.ARGUMENT, x -> x.condition(last, 3, what));
        }
        int length = p.recipe.make().describe(last, -1);
        for (int index : new int[] {-2, length, LEAST, GREATEST}) {
            p.refuses("46: index " + index, Check.ELEMENT, x -> x.describe(last, index));
        }
    }

    private static void grants(Place p) {
        for (int subject : NO_SUBJECT) {
            p.refuses("12: from " + subject, Check.INDEX, x -> x.grant(subject, 1, 0, 0, 0));
            p.refuses("12: from " + subject + " and depth 6", Check.INDEX, x -> x.grant(subject, 1, 0, 6, 0));
            p.refuses("12: to " + subject, Check.INDEX, x -> x.grant(1, subject, 0, 0, 0));
            p.refuses("12: to " + subject + " and expiry 1001", Check.INDEX, x -> x.grant(1, subject, 0, 0, 1001));
            p.refuses("12: both " + subject, Check.INDEX, x -> x.grant(subject, subject, 0, 0, 0));
            p.refuses("13: from " + subject, Check.INDEX, x -> x.revoke(subject, 1, 0));
            p.refuses("13: to " + subject, Check.INDEX, x -> x.revoke(1, subject, 0));
        }
        for (int policy : NO_POLICY) {
            p.refuses("12: policy " + policy, Check.INDEX, x -> x.grant(5, 8, policy, 0, 0));
            p.refuses("12: policy " + policy + ", same subjects", Check.INDEX, x -> x.grant(5, 5, policy, 0, 0));
            p.refuses("13: policy " + policy, Check.INDEX, x -> x.revoke(0, 4, policy));
        }
        p.refuses("12: same subjects", Check.ARGUMENT, x -> x.grant(0, 0, 0, 0, 0));
        p.refuses("12: same subjects 9", Check.ARGUMENT, x -> x.grant(9, 9, 3, 5, 1000));
        for (int depth : new int[] {-1, 6, LEAST, GREATEST}) {
            p.refuses("12: depth " + depth, Check.ARGUMENT, x -> x.grant(5, 8, 0, depth, 9));
            p.refuses("12: depth " + depth + " in place of one", Check.ARGUMENT, x -> x.grant(0, 4, 1, depth, 9));
        }
        for (int expiry : new int[] {-1, 1001, LEAST, GREATEST}) {
            p.refuses("12: expiry " + expiry, Check.ARGUMENT, x -> x.grant(5, 8, 0, 1, expiry));
            p.refuses("12: expiry " + expiry + " in place of one", Check.ARGUMENT, x -> x.grant(0, 4, 1, 1, expiry));
        }
        p.refuses("13: same subjects", Check.ELEMENT, x -> x.revoke(4, 4, 1));
        p.refuses("13: other direction", Check.ELEMENT, x -> x.revoke(9, 0, 1));
        p.refuses("13: none", Check.ELEMENT, x -> x.revoke(3, 8, 2));
        int grants = p.recipe.make().grantCount(false);
        for (int index : new int[] {-1, grants, 30, LEAST, GREATEST}) {
            p.refuses("15: index " + index, Check.INDEX, x -> x.grantAt(index, 0));
            p.refuses("15: index " + index + " and what 5", Check.INDEX, x -> x.grantAt(index, 5));
        }
        if (grants > 0) {
            for (int what : new int[] {-1, 5, LEAST, GREATEST}) {
                p.refuses("15: what " + what, Check.ARGUMENT, x -> x.grantAt(grants - 1, what));
            }
        }
    }

    private static void chains(Place p) {
        for (int subject : NO_SUBJECT) {
            p.refuses("16: subject " + subject, Check.INDEX, x -> x.policies(subject));
            p.refuses("17: subject " + subject, Check.INDEX, x -> x.chainLength(subject, 1));
            p.refuses("18: subject " + subject, Check.INDEX, x -> x.chain(subject, 1, 0));
            p.refuses("18: subject " + subject + " and index -1", Check.INDEX, x -> x.chain(subject, 1, -1));
            p.refuses("19: subject " + subject, Check.INDEX, x -> x.lastsUntil(subject, 1));
        }
        for (int policy : NO_POLICY) {
            p.refuses("17: policy " + policy, Check.INDEX, x -> x.chainLength(4, policy));
            p.refuses("17: policy " + policy + ", subject 0", Check.INDEX, x -> x.chainLength(0, policy));
            p.refuses("18: policy " + policy, Check.INDEX, x -> x.chain(4, policy, 0));
            p.refuses("18: policy " + policy + ", subject 0", Check.INDEX, x -> x.chain(0, policy, 1));
            p.refuses("19: policy " + policy, Check.INDEX, x -> x.lastsUntil(4, policy));
            p.refuses("19: policy " + policy + ", subject 0", Check.INDEX, x -> x.lastsUntil(0, policy));
        }
        for (int policy = 0; policy < 4; policy++) {
            int each = policy;
            p.refuses("17: subject 8, policy " + policy, Check.ELEMENT, x -> x.chainLength(8, each));
            p.refuses("18: subject 8, policy " + policy, Check.ELEMENT, x -> x.chain(8, each, 0));
            p.refuses("19: subject 0, policy " + policy, Check.ARGUMENT, x -> x.lastsUntil(0, each));
            p.refuses("19: subject 8, policy " + policy, Check.ELEMENT, x -> x.lastsUntil(8, each));
            for (int index : new int[] {-1, 1, LEAST, GREATEST}) {
                p.refuses("18: subject 0 at " + index, Check.ELEMENT, x -> x.chain(0, each, index));
            }
        }
        for (int ticks : new int[] {0, -1, 101, LEAST, GREATEST, GREATEST - 3}) {
            p.refuses("20: " + ticks + " ticks", Check.ARGUMENT, x -> x.tick(ticks));
        }
    }

    private static void request(Place p) {
        for (int subject : NO_SUBJECT) {
            p.refuses("21: subject " + subject, Check.INDEX, x -> x.setSubject(subject));
        }
        for (int attribute : NO_ATTRIBUTE) {
            p.refuses("22: attribute " + attribute, Check.INDEX, x -> x.setValue(attribute, 1));
            p.refuses("22: attribute " + attribute + " and value 16", Check.INDEX, x -> x.setValue(attribute, 16));
        }
        for (int value : new int[] {-2, 16, LEAST, GREATEST}) {
            p.refuses("22: value " + value, Check.ARGUMENT, x -> x.setValue(5, value));
        }
        for (int rule : p.noRule()) {
            p.refuses("24: rule " + rule, Check.INDEX, x -> x.applies(rule));
            p.refuses("25: rule " + rule, Check.INDEX, x -> x.failing(rule));
        }
    }

    private static void decisions(Place p) {
        for (int policy : NO_POLICY) {
            p.refuses("28: policy " + policy, Check.INDEX, x -> x.policyDecision(policy));
        }
        for (int decision : NO_DECISION) {
            p.refuses("30: decision " + decision, Check.ARGUMENT, x -> x.completions(decision));
            p.refuses("31: decision " + decision, Check.ARGUMENT, x -> x.valuesFor(0, decision));
        }
        for (int attribute : NO_ATTRIBUTE) {
            p.refuses("31: attribute " + attribute, Check.INDEX, x -> x.valuesFor(attribute, 0));
            p.refuses("31: attribute " + attribute + " and decision 4", Check.INDEX, x -> x.valuesFor(attribute, 4));
        }
    }

    private static void compared(Place p) {
        for (int rule : p.noRule()) {
            p.refuses("32: rule " + rule, Check.INDEX, x -> x.extent(rule));
            p.refuses("33: first " + rule, Check.INDEX, x -> x.overlap(rule, 0));
            p.refuses("33: second " + rule, Check.INDEX, x -> x.overlap(0, rule));
            p.refuses("34: first " + rule, Check.INDEX, x -> x.covers(rule, 0));
            p.refuses("34: second " + rule, Check.INDEX, x -> x.covers(0, rule));
            p.refuses("37: rule " + rule, Check.INDEX, x -> x.witness(rule, 0));
            p.refuses("38: rule " + rule, Check.INDEX, x -> x.blocker(rule));
        }
        for (int policy : NO_POLICY) {
            p.refuses("35: policy " + policy, Check.INDEX, x -> x.clashes(policy));
            p.refuses("36: policy " + policy, Check.INDEX, x -> x.neverDeciding(policy));
        }
        for (int attribute : NO_ATTRIBUTE) {
            p.refuses("37: attribute " + attribute, Check.INDEX, x -> x.witness(0, attribute));
            p.refuses("37: attribute " + attribute + " of the last", Check.INDEX,
                    x -> x.witness(p.rules - 1, attribute));
        }
    }

    private static void audit(Place p) {
        int count = p.recipe.make().auditCount();
        for (int index : new int[] {-1, count, 30, LEAST, GREATEST}) {
            p.refuses("40: index " + index, Check.INDEX, x -> x.audit(index, 0));
            p.refuses("40: index " + index + " and what 4", Check.INDEX, x -> x.audit(index, 4));
        }
        if (count > 0) {
            for (int what : new int[] {-1, 4, LEAST, GREATEST}) {
                p.refuses("40: what " + what, Check.ARGUMENT, x -> x.audit(count - 1, what));
            }
        }
    }

    private static void texts(Place p) {
        for (int code : new int[] {0, 9, 10, 31, 127, 128, 255, 256 + '0', 65535}) {
            p.refuses("43: code " + code, Check.ARGUMENT, x -> x.append((char) code));
        }
    }

    // ---- what is refused only where something is full, missing or not there

    private static void rulesWhereFull() {
        FULL.refuses("2: 24 rules", Check.STATE, x -> x.addRule(0, false, 0));
        FULL.refuses("2: 24 rules, last policy", Check.STATE, x -> x.addRule(3, true, 9));
        FULL.refuses("2: 24 rules and priority 10", Check.ARGUMENT, x -> x.addRule(0, false, 10));
        FULL.refuses("2: 24 rules and policy 4", Check.INDEX, x -> x.addRule(4, false, 0));
        for (int kind = 0; kind < 5; kind++) {
            int each = kind;
            FULL.refuses("3: a fifth condition of kind " + kind, Check.STATE, x -> x.addCondition(23, 5, each, 1));
        }
        FULL.refuses("3: a fifth one and attribute 6", Check.ARGUMENT, x -> x.addCondition(23, 6, 0, 1));
        FULL.refuses("3: a fifth one and kind 5", Check.ARGUMENT, x -> x.addCondition(23, 0, 5, 1));
        FULL.refuses("3: a fifth one and operand 16", Check.ARGUMENT, x -> x.addCondition(23, 0, 0, 16));
        FULL.refuses("3: a fifth one and set 0", Check.ARGUMENT, x -> x.addCondition(23, 0, 4, 0));
        SOME.refuses("3: a fifth one of another", Check.STATE, x -> x.addCondition(4, 5, 4, 65535));
        SOME.refuses("10: a third of two", Check.INDEX, x -> x.condition(2, 2, 0));
        SOME.refuses("10: one of none", Check.INDEX, x -> x.condition(3, 0, 0));
        SOME.refuses("10: one of none, what 3", Check.INDEX, x -> x.condition(3, 0, 3));
        FULL.refuses("43: full", Check.STATE, x -> x.append(' '));
        FULL.refuses("43: full, greatest code", Check.STATE, x -> x.append('~'));
        FULL.refuses("43: full and code 31", Check.ARGUMENT, x -> x.append((char) 31));
        FULL.refuses("43: full and code 127", Check.ARGUMENT, x -> x.append((char) 127));
    }

    private static void grantsWhereFull() {
        FULL.refuses("12: 30 grants", Check.STATE, x -> x.grant(5, 8, 0, 0, 0));
        FULL.refuses("12: 30 grants, other direction", Check.STATE, x -> x.grant(9, 0, 0, 5, 1000));
        FULL.refuses("12: 30 grants, other policy", Check.STATE, x -> x.grant(8, 9, 3, 5, 1000));
        FULL.refuses("12: 30 grants and same subjects", Check.ARGUMENT, x -> x.grant(8, 8, 3, 0, 0));
        FULL.refuses("12: 30 grants and depth 6", Check.ARGUMENT, x -> x.grant(5, 8, 0, 6, 0));
        FULL.refuses("12: 30 grants and expiry 1001", Check.ARGUMENT, x -> x.grant(5, 8, 0, 0, 1001));
        FULL.refuses("12: 30 grants and policy 4", Check.INDEX, x -> x.grant(5, 8, 4, 0, 0));
        FULL.refuses("12: 30 grants and subject 10", Check.INDEX, x -> x.grant(10, 8, 0, 0, 0));
        FULL.refuses("17: expired", Check.ELEMENT, x -> x.chainLength(9, 0));
        FULL.refuses("18: expired", Check.ELEMENT, x -> x.chain(9, 0, 0));
        FULL.refuses("19: expired", Check.ELEMENT, x -> x.lastsUntil(9, 0));
        for (int ticks : new int[] {1, 2, 100}) {
            FULL.refuses("20: at 2000, " + ticks, Check.STATE, x -> x.tick(ticks));
        }
        SOME.refuses("13: the other policy", Check.ELEMENT, x -> x.revoke(0, 4, 2));
        SOME.refuses("13: from another", Check.ELEMENT, x -> x.revoke(1, 4, 1));
        SOME.refuses("13: to another", Check.ELEMENT, x -> x.revoke(0, 5, 1));
        SOME.refuses("17: one that expired", Check.ELEMENT, x -> x.chainLength(6, 1));
        SOME.refuses("18: one that expired", Check.ELEMENT, x -> x.chain(6, 1, 0));
        SOME.refuses("18: behind the end", Check.ELEMENT, x -> x.chain(4, 1, 2));
        SOME.refuses("18: before the start", Check.ELEMENT, x -> x.chain(4, 1, -1));
        SOME.refuses("19: one that expired", Check.ELEMENT, x -> x.lastsUntil(6, 1));
    }

    private static void incomplete() {
        for (Place p : List.of(FRESH, SOME)) {
            p.refuses("26: not complete", Check.STATE, PolicyEngine::decide);
            p.refuses("27: not complete", Check.STATE, PolicyEngine::decidingRule);
            p.refuses("28: not complete", Check.STATE, x -> x.policyDecision(0));
            p.refuses("28: not complete, policy 3", Check.STATE, x -> x.policyDecision(3));
            p.refuses("28: not complete and policy 4", Check.INDEX, x -> x.policyDecision(4));
            p.refuses("29: four unknown or more", Check.STATE, PolicyEngine::possible);
            p.refuses("30: four unknown or more, decision 0", Check.STATE, x -> x.completions(0));
            p.refuses("30: four unknown or more, decision 3", Check.STATE, x -> x.completions(3));
            p.refuses("30: four unknown or more and decision 4", Check.ARGUMENT, x -> x.completions(4));
            p.refuses("31: three other ones or more", Check.STATE, x -> x.valuesFor(1, 0));
            p.refuses("31: four other ones or more", Check.STATE, x -> x.valuesFor(0, 3));
            p.refuses("31: three other ones and decision -1", Check.ARGUMENT, x -> x.valuesFor(1, -1));
            p.refuses("31: three other ones and attribute 6", Check.INDEX, x -> x.valuesFor(6, 0));
        }
        NONE.refuses("27: none", Check.ELEMENT, PolicyEngine::decidingRule);
        CONFLICT.refuses("27: conflict", Check.ELEMENT, PolicyEngine::decidingRule);
        FRESH.refuses("27: not complete, and none in any case", Check.STATE, PolicyEngine::decidingRule);
    }

    private static PolicyEngine withoutPolicies() {
        PolicyEngine x = Engines.complete();
        x.setSubject(8);
        return x;
    }

    private static PolicyEngine withConflict() {
        PolicyEngine x = Engines.complete();
        x.setSubject(0);
        x.setTopWay(3);
        return x;
    }

    private static void nothingThere() {
        SOME.refuses("25: no conditions", Check.ELEMENT, x -> x.failing(3));
        COMPLETE.refuses("25: all hold", Check.ELEMENT, x -> x.failing(1));
        SOME.refuses("37: applies nowhere", Check.ELEMENT, x -> x.witness(4, 0));
        SOME.refuses("37: applies nowhere, last attribute", Check.ELEMENT, x -> x.witness(4, 5));
        SOME.refuses("37: applies nowhere, attribute 6", Check.INDEX, x -> x.witness(4, 6));
        SOME.refuses("38: decides somewhere", Check.STATE, x -> x.blocker(3));
        SOME.refuses("38: applies nowhere", Check.ELEMENT, x -> x.blocker(4));
        FRESH.refuses("41: no decision", Check.ARITHMETIC, PolicyEngine::permitShare);
        FRESH.refuses("45: no error", Check.ELEMENT, PolicyEngine::errorPosition);
        FULL.refuses("45: no error", Check.ELEMENT, PolicyEngine::errorPosition);
        FRESH.refuses("47: nothing to undo", Check.ELEMENT, PolicyEngine::undo);
        FRESH.refuses("49: nothing saved", Check.STATE, PolicyEngine::restore);
        FULL.refuses("49: nothing saved", Check.STATE, PolicyEngine::restore);
    }

    /** What read says of itself: the input is empty afterwards, and the position of an error is kept. */
    private static void readEmpties() {
        Check.sentence("The input is empty afterwards, whatever happens.");
        Snapshot some = Snapshot.of(Engines::some);
        Snapshot error = Snapshot.after(Engines::some, x -> {
            Check.type(x, "!");
            Check.fails("44: an error", Check.ARGUMENT, x::read);
        });
        Check.is("44: what an error changes", error.differences(some), "error input");
        Snapshot full = Snapshot.of(Engines::full);
        Snapshot tooMany = Snapshot.after(Engines::full, x -> Check.fails("44: too many", Check.STATE, x::read));
        Check.is("44: what too many rules change", tooMany.differences(full), "input");
        List<String> left = new ArrayList<>();
        for (Snapshot.Recipe recipe : List.<Snapshot.Recipe>of(Engines::some, Engines::full)) {
            PolicyEngine x = recipe.make();
            Place.tried(PolicyEngine::read, x);
            left.add(Integer.toString(x.append('0')));
        }
        Check.is("44: characters behind it", String.join(" ", left), "1 1");
    }
}
