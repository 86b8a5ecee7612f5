/**
 * Each sentence of the promises that tells of an exception: the last numbers that are allowed and the first that are
 * not, on both sides, and which one comes first where several apply.
 */
public final class ThrowsTest {
    private static final int[] FARTHEST = {Integer.MIN_VALUE, Integer.MAX_VALUE};

    private interface NumberCall {
        Object at(PolicyEngine x, int number);
    }

    private static int promise;
    private static int quoted;

    public static void main(String[] args) {
        addRule();
        addCondition();
        removeRule();
        setPriority();
        setWay();
        setTopWay();
        rule();
        condition();
        specialize();
        grant();
        revoke();
        grantAt();
        policies();
        chainLength();
        chain();
        lastsUntil();
        tick();
        setSubject();
        setValue();
        applies();
        failing();
        decide();
        decidingRule();
        policyDecision();
        possible();
        completions();
        valuesFor();
        extent();
        overlap();
        covers();
        clashes();
        neverDeciding();
        witness();
        blocker();
        audit();
        permitShare();
        append();
        read();
        errorPosition();
        describe();
        undo();
        restore();
        Check.is("sentences that tell of an exception", quoted, Check.timesInDocument(" Throws `"));
        Check.end("ThrowsTest");
    }

    // ---- the sentences

    private static void index(String when) {
        throwsWhen("IndexOutOfBoundsException", when);
    }

    private static void argument(String when) {
        throwsWhen("IllegalArgumentException", when);
    }

    private static void state(String when) {
        throwsWhen("IllegalStateException", when);
    }

    private static void element(String when) {
        throwsWhen("NoSuchElementException", when);
    }

    private static void throwsWhen(String exception, String when) {
        quoted++;
        Check.sentenceOf(promise, "Throws `" + exception + "` " + when);
    }

    /** Three rules, three grants, two decisions, a complete request and half a text. */
    private static PolicyEngine engine() {
        PolicyEngine x = Check.engine("0+a=1:5;1-b=2&c=3:4;0-:9;");
        x.grant(0, 1, 0, 1, 50);
        x.grant(1, 2, 0, 0, 40);
        x.grant(0, 3, 3, 0, 30);
        Check.request(x, 1, 2, 3, 4, 5, 6);
        x.decide();
        x.decide();
        Check.type(x, "0+");
        return x;
    }

    private static void range(Class<? extends RuntimeException> exception, int least, int greatest, NumberCall call) {
        for (int number : new int[] {least, greatest}) {
            Check.returns(promise + ": " + number, () -> call.at(engine(), number));
        }
        for (int number : new int[] {least - 1, greatest + 1, FARTHEST[0], FARTHEST[1]}) {
            Check.fails(promise + ": " + number, exception, () -> call.at(engine(), number));
        }
    }

    private static void fails(String what, Class<? extends RuntimeException> exception, Check.Call call) {
        Check.fails(promise + ": " + what, exception, call);
    }

    private static void returns(String what, Check.Call call) {
        Check.returns(promise + ": " + what, call);
    }

    // ---- rules and policies

    private static PolicyEngine rules(int count) {
        PolicyEngine x = new PolicyEngine();
        for (int rule = 0; rule < count; rule++) {
            x.addRule(rule % 4, false, 0);
        }
        return x;
    }

    private static void addRule() {
        promise = 2;
        index("if there is no such policy");
        range(Check.INDEX, 0, 3, (x, number) -> x.addRule(number, false, 0));
        range(Check.INDEX, 0, 3, (x, number) -> x.addRule(number, true, 9));
        fails("before the priority", Check.INDEX, () -> rules(0).addRule(4, false, 10));
        argument("if priority is out of range");
        range(Check.ARGUMENT, 0, 9, (x, number) -> x.addRule(0, false, number));
        range(Check.ARGUMENT, 0, 9, (x, number) -> x.addRule(3, true, number));
        fails("before 24 rules", Check.ARGUMENT, () -> rules(24).addRule(0, false, 10));
        state("if there are 24 rules");
        returns("23 rules", () -> rules(23).addRule(0, false, 0));
        fails("24 rules", Check.STATE, () -> rules(24).addRule(0, false, 0));
        fails("24 rules, but no policy", Check.INDEX, () -> rules(24).addRule(-1, false, -1));
    }

    private static PolicyEngine conditions(int count) {
        PolicyEngine x = rules(1);
        for (int number = 0; number < count; number++) {
            x.addCondition(0, number, 0, 0);
        }
        return x;
    }

    private static void addCondition() {
        promise = 3;
        index("if there is no such rule");
        range(Check.INDEX, 0, 2, (x, number) -> x.addCondition(number, 0, 0, 0));
        fails("without rules", Check.INDEX, () -> rules(0).addCondition(0, 0, 0, 0));
        fails("before a number", Check.INDEX, () -> rules(1).addCondition(1, 6, 5, 16));
        argument("if a number is out of range");
        range(Check.ARGUMENT, 0, 5, (x, number) -> x.addCondition(0, number, 0, 0));
        range(Check.ARGUMENT, 0, 4, (x, number) -> x.addCondition(0, 0, number, 1));
        for (int kind = 0; kind < 4; kind++) {
            int each = kind;
            range(Check.ARGUMENT, 0, 15, (x, number) -> x.addCondition(2, 5, each, number));
        }
        range(Check.ARGUMENT, 1, 65535, (x, number) -> x.addCondition(2, 5, 4, number));
        fails("before 4 conditions", Check.ARGUMENT, () -> conditions(4).addCondition(0, 0, 0, 16));
        state("if the rule has 4 conditions");
        returns("3 conditions", () -> conditions(3).addCondition(0, 0, 0, 0));
        fails("4 conditions", Check.STATE, () -> conditions(4).addCondition(0, 0, 0, 0));
    }

    private static void removeRule() {
        promise = 4;
        index("if there is no such rule");
        range(Check.INDEX, 0, 2, PolicyEngine::removeRule);
        fails("without rules", Check.INDEX, () -> rules(0).removeRule(0));
        returns("the last of 24", () -> rules(24).removeRule(23));
        fails("behind the last of 24", Check.INDEX, () -> rules(24).removeRule(24));
    }

    private static void setPriority() {
        promise = 5;
        index("if there is no such rule");
        range(Check.INDEX, 0, 2, (x, number) -> x.setPriority(number, 0));
        fails("without rules", Check.INDEX, () -> rules(0).setPriority(0, 0));
        fails("before the priority", Check.INDEX, () -> rules(1).setPriority(1, 10));
        argument("if priority is out of range");
        range(Check.ARGUMENT, 0, 9, (x, number) -> x.setPriority(2, number));
    }

    private static void setWay() {
        promise = 6;
        index("if there is no such policy");
        range(Check.INDEX, 0, 3, (x, number) -> x.setWay(number, 3));
        fails("before the way", Check.INDEX, () -> rules(0).setWay(4, 4));
        argument("if way is out of range");
        range(Check.ARGUMENT, 0, 3, (x, number) -> x.setWay(3, number));
    }

    private static void setTopWay() {
        promise = 7;
        argument("if way is out of range");
        range(Check.ARGUMENT, 0, 3, PolicyEngine::setTopWay);
    }

    private static void rule() {
        promise = 9;
        index("if there is no such rule");
        range(Check.INDEX, 0, 2, (x, number) -> x.rule(number, 0));
        fails("without rules", Check.INDEX, () -> rules(0).rule(0, 0));
        returns("the last of 24", () -> rules(24).rule(23, 3));
        fails("behind the last of 24", Check.INDEX, () -> rules(24).rule(24, 3));
        fails("before what", Check.INDEX, () -> rules(1).rule(1, 4));
        argument("if what is not 0 to 3");
        range(Check.ARGUMENT, 0, 3, (x, number) -> x.rule(2, number));
    }

    private static void condition() {
        promise = 10;
        index("if there is no such rule or condition");
        range(Check.INDEX, 0, 1, (x, number) -> x.condition(number, 0, 0));
        fails("of a rule without any", Check.INDEX, () -> engine().condition(2, 0, 0));
        range(Check.INDEX, 0, 1, (x, number) -> x.condition(1, number, 0));
        returns("the fourth", () -> conditions(4).condition(0, 3, 2));
        fails("a fifth", Check.INDEX, () -> conditions(4).condition(0, 4, 2));
        fails("of none", Check.INDEX, () -> conditions(0).condition(0, 0, 0));
        fails("before what, rule 1", Check.INDEX, () -> conditions(1).condition(1, 0, 3));
        fails("before what, condition 1", Check.INDEX, () -> conditions(1).condition(0, 1, 3));
        argument("if what is not 0 to 2");
        range(Check.ARGUMENT, 0, 2, (x, number) -> x.condition(1, 1, number));
    }

    private static void specialize() {
        promise = 11;
        index("if there is no such attribute");
        range(Check.INDEX, 0, 5, (x, number) -> x.specialize(number, 0));
        fails("before the value", Check.INDEX, () -> rules(0).specialize(6, 16));
        argument("if value is out of range");
        range(Check.ARGUMENT, 0, 15, (x, number) -> x.specialize(5, number));
    }

    // ---- grants

    private static PolicyEngine grants(int count) {
        PolicyEngine x = new PolicyEngine();
        for (int number = 0; number < count; number++) {
            x.grant(number % 9, 9, number / 9, 0, 0);
        }
        return x;
    }

    private static void grant() {
        promise = 12;
        index("if there is no such subject or policy");
        range(Check.INDEX, 0, 9, (x, number) -> x.grant(number, 5, 0, 0, 0));
        range(Check.INDEX, 0, 9, (x, number) -> x.grant(5, number, 0, 0, 0));
        range(Check.INDEX, 0, 3, (x, number) -> x.grant(5, 6, number, 0, 0));
        fails("before same subjects", Check.INDEX, () -> grants(0).grant(10, 10, 0, 0, 0));
        fails("before the depth", Check.INDEX, () -> grants(0).grant(0, 1, 4, 6, 0));
        fails("before 30 grants", Check.INDEX, () -> grants(30).grant(0, 1, 4, 0, 0));
        argument("if both subjects are the same, or depth or expiry is out of range");
        for (int subject = 0; subject < 10; subject++) {
            int each = subject;
            fails("same subjects " + subject, Check.ARGUMENT, () -> grants(0).grant(each, each, 0, 0, 0));
        }
        range(Check.ARGUMENT, 0, 5, (x, number) -> x.grant(5, 6, 3, number, 0));
        range(Check.ARGUMENT, 0, 1000, (x, number) -> x.grant(5, 6, 3, 0, number));
        fails("before 30 grants", Check.ARGUMENT, () -> grants(30).grant(0, 1, 0, 6, 0));
        state("if there are 30 grants, and none for the same subjects and policy");
        returns("29 grants", () -> grants(29).grant(0, 1, 0, 0, 0));
        fails("30 grants", Check.STATE, () -> grants(30).grant(0, 1, 0, 0, 0));
        returns("30 grants, one for the same", () -> grants(30).grant(2, 9, 3, 5, 1000));
        fails("30 grants, none for this policy", Check.STATE, () -> grants(30).grant(3, 9, 3, 5, 1000));
    }

    private static void revoke() {
        promise = 13;
        index("if there is no such subject or policy");
        for (int number : new int[] {-1, 10, FARTHEST[0], FARTHEST[1]}) {
            fails("from " + number, Check.INDEX, () -> engine().revoke(number, 1, 0));
            fails("to " + number, Check.INDEX, () -> engine().revoke(0, number, 0));
        }
        for (int number : new int[] {-1, 4, FARTHEST[0], FARTHEST[1]}) {
            fails("policy " + number, Check.INDEX, () -> engine().revoke(0, 1, number));
        }
        element("if there is no such grant");
        returns("the first", () -> engine().revoke(0, 1, 0));
        returns("the last", () -> engine().revoke(0, 3, 3));
        fails("the other policy", Check.ELEMENT, () -> engine().revoke(0, 3, 0));
        fails("the other direction", Check.ELEMENT, () -> engine().revoke(1, 0, 0));
        fails("none from 9 to 9", Check.ELEMENT, () -> engine().revoke(9, 9, 3));
        fails("none at all", Check.ELEMENT, () -> grants(0).revoke(0, 1, 0));
    }

    private static void grantAt() {
        promise = 15;
        index("if there is no such grant");
        range(Check.INDEX, 0, 2, (x, number) -> x.grantAt(number, 0));
        fails("none at all", Check.INDEX, () -> grants(0).grantAt(0, 0));
        returns("the last of 30", () -> grants(30).grantAt(29, 4));
        fails("behind the last of 30", Check.INDEX, () -> grants(30).grantAt(30, 4));
        fails("before what", Check.INDEX, () -> grants(1).grantAt(1, 5));
        argument("if what is not 0 to 4");
        range(Check.ARGUMENT, 0, 4, (x, number) -> x.grantAt(2, number));
    }

    private static void policies() {
        promise = 16;
        index("if there is no such subject");
        range(Check.INDEX, 0, 9, PolicyEngine::policies);
    }

    private static void chainLength() {
        promise = 17;
        index("if there is no such subject or policy");
        for (int number : new int[] {-1, 10, FARTHEST[0], FARTHEST[1]}) {
            fails("subject " + number, Check.INDEX, () -> engine().chainLength(number, 0));
        }
        range(Check.INDEX, 0, 3, (x, number) -> x.chainLength(0, number));
        fails("before no chain", Check.INDEX, () -> grants(0).chainLength(9, 4));
        element("if the subject may not use the policy");
        returns("it may", () -> engine().chainLength(2, 0));
        fails("not this one", Check.ELEMENT, () -> engine().chainLength(2, 1));
        fails("not this subject", Check.ELEMENT, () -> engine().chainLength(9, 0));
    }

    private static void chain() {
        promise = 18;
        index("if there is no such subject or policy");
        for (int number : new int[] {-1, 10, FARTHEST[0], FARTHEST[1]}) {
            fails("subject " + number, Check.INDEX, () -> engine().chain(number, 0, 0));
            fails("subject " + number + ", no index", Check.INDEX, () -> engine().chain(number, 0, -1));
        }
        range(Check.INDEX, 0, 3, (x, number) -> x.chain(0, number, 0));
        element("if the subject may not use the policy, or there is no such index");
        range(Check.ELEMENT, 0, 2, (x, number) -> x.chain(2, 0, number));
        range(Check.ELEMENT, 0, 1, (x, number) -> x.chain(3, 3, number));
        range(Check.ELEMENT, 0, 0, (x, number) -> x.chain(0, 3, number));
        fails("not this one", Check.ELEMENT, () -> engine().chain(2, 1, 0));
    }

    private static void lastsUntil() {
        promise = 19;
        index("if there is no such subject or policy");
        for (int number : new int[] {-1, 10, FARTHEST[0], FARTHEST[1]}) {
            fails("subject " + number, Check.INDEX, () -> engine().lastsUntil(number, 0));
        }
        for (int number : new int[] {-1, 4, FARTHEST[0], FARTHEST[1]}) {
            fails("policy " + number, Check.INDEX, () -> engine().lastsUntil(2, number));
            fails("policy " + number + ", subject 0", Check.INDEX, () -> engine().lastsUntil(0, number));
        }
        argument("if the subject is 0");
        fails("subject 0", Check.ARGUMENT, () -> engine().lastsUntil(0, 0));
        returns("subject 1", () -> engine().lastsUntil(1, 0));
        element("if the subject may not use the policy now");
        returns("it may", () -> engine().lastsUntil(3, 3));
        fails("not this one", Check.ELEMENT, () -> engine().lastsUntil(3, 2));
        fails("not any more", Check.ELEMENT, () -> {
            PolicyEngine x = engine();
            x.tick(31);
            return x.lastsUntil(3, 3);
        });
    }

    private static PolicyEngine at(int clock) {
        PolicyEngine x = new PolicyEngine();
        for (int now = 0; now < clock; now += Math.min(100, clock - now)) {
            x.tick(Math.min(100, clock - now));
        }
        return x;
    }

    private static void tick() {
        promise = 20;
        argument("if ticks is out of range");
        range(Check.ARGUMENT, 1, 100, PolicyEngine::tick);
        fails("before the last clock", Check.ARGUMENT, () -> at(2000).tick(101));
        fails("before the last clock, none", Check.ARGUMENT, () -> at(2000).tick(0));
        state("if the clock would become greater than 2000");
        returns("from 1900 by 100", () -> at(1900).tick(100));
        fails("from 1901 by 100", Check.STATE, () -> at(1901).tick(100));
        returns("from 1999 by 1", () -> at(1999).tick(1));
        fails("from 1999 by 2", Check.STATE, () -> at(1999).tick(2));
        fails("from 2000 by 1", Check.STATE, () -> at(2000).tick(1));
    }

    // ---- the request

    private static void setSubject() {
        promise = 21;
        index("if there is no such subject");
        range(Check.INDEX, 0, 9, PolicyEngine::setSubject);
    }

    private static void setValue() {
        promise = 22;
        index("if there is no such attribute");
        range(Check.INDEX, 0, 5, (x, number) -> x.setValue(number, 0));
        fails("before the value", Check.INDEX, () -> engine().setValue(6, 16));
        argument("if value is out of range");
        range(Check.ARGUMENT, -1, 15, (x, number) -> x.setValue(5, number));
    }

    private static void applies() {
        promise = 24;
        index("if there is no such rule");
        range(Check.INDEX, 0, 2, PolicyEngine::applies);
        fails("without rules", Check.INDEX, () -> rules(0).applies(0));
        returns("the last of 24", () -> rules(24).applies(23));
        fails("behind the last of 24", Check.INDEX, () -> rules(24).applies(24));
    }

    private static void failing() {
        promise = 25;
        index("if there is no such rule");
        for (int number : new int[] {-1, 3, FARTHEST[0], FARTHEST[1]}) {
            fails("rule " + number, Check.INDEX, () -> engine().failing(number));
        }
        element("if there is none");
        fails("all hold", Check.ELEMENT, () -> engine().failing(1));
        fails("no conditions", Check.ELEMENT, () -> engine().failing(2));
        returns("one does not", () -> {
            PolicyEngine x = engine();
            x.setValue(2, 4);
            return x.failing(1);
        });
    }

    private static PolicyEngine without(int set) {
        PolicyEngine x = engine();
        for (int attribute = 0; attribute < 6; attribute++) {
            if ((set >> attribute) % 2 == 1) {
                x.setValue(attribute, -1);
            }
        }
        return x;
    }

    private static void decide() {
        promise = 26;
        state("if the request is not complete");
        returns("complete", () -> engine().decide());
        for (int attribute = 0; attribute < 6; attribute++) {
            int set = 1 << attribute;
            fails("without " + attribute, Check.STATE, () -> without(set).decide());
        }
    }

    private static void decidingRule() {
        promise = 27;
        state("if the request is not complete");
        returns("complete", () -> engine().decidingRule());
        for (int attribute = 0; attribute < 6; attribute++) {
            int set = 1 << attribute;
            fails("without " + attribute, Check.STATE, () -> without(set).decidingRule());
        }
        fails("before none", Check.STATE, () -> rules(0).decidingRule());
        element("if the decision is none or conflict");
        fails("none", Check.ELEMENT, () -> {
            PolicyEngine x = engine();
            x.setSubject(9);
            return x.decidingRule();
        });
        fails("conflict", Check.ELEMENT, () -> {
            PolicyEngine x = engine();
            x.setTopWay(3);
            return x.decidingRule();
        });
    }

    private static void policyDecision() {
        promise = 28;
        index("if there is no such policy");
        range(Check.INDEX, 0, 3, PolicyEngine::policyDecision);
        fails("before a request that is not complete", Check.INDEX, () -> without(1).policyDecision(4));
        state("if the request is not complete");
        for (int attribute = 0; attribute < 6; attribute++) {
            int set = 1 << attribute;
            fails("without " + attribute, Check.STATE, () -> without(set).policyDecision(3));
        }
    }

    private static void possible() {
        promise = 29;
        state("if the request has no value for more than 3 attributes");
        returns("three", () -> without(7).possible());
        returns("three others", () -> without(56).possible());
        fails("four", Check.STATE, () -> without(15).possible());
        fails("four others", Check.STATE, () -> without(60).possible());
        fails("six", Check.STATE, () -> without(63).possible());
    }

    private static void completions() {
        promise = 30;
        argument("if decision is out of range");
        range(Check.ARGUMENT, 0, 3, PolicyEngine::completions);
        fails("before four unknown", Check.ARGUMENT, () -> without(15).completions(4));
        state("if the request has no value for more than 3 attributes");
        returns("three", () -> without(7).completions(3));
        fails("four", Check.STATE, () -> without(15).completions(3));
        fails("six", Check.STATE, () -> without(63).completions(0));
    }

    private static void valuesFor() {
        promise = 31;
        index("if there is no such attribute");
        range(Check.INDEX, 0, 5, (x, number) -> x.valuesFor(number, 0));
        fails("before the decision", Check.INDEX, () -> engine().valuesFor(6, 4));
        fails("before three others", Check.INDEX, () -> without(63).valuesFor(6, 0));
        argument("if decision is out of range");
        range(Check.ARGUMENT, 0, 3, (x, number) -> x.valuesFor(5, number));
        fails("before three others", Check.ARGUMENT, () -> without(63).valuesFor(5, 4));
        state("if the request has no value for more than 2 other attributes");
        returns("two others", () -> without(6).valuesFor(0, 0));
        returns("two others and itself", () -> without(7).valuesFor(0, 0));
        fails("three others", Check.STATE, () -> without(14).valuesFor(0, 0));
        fails("three others and itself", Check.STATE, () -> without(15).valuesFor(0, 0));
    }

    // ---- rules compared

    private static void extent() {
        promise = 32;
        index("if there is no such rule");
        range(Check.INDEX, 0, 2, PolicyEngine::extent);
        fails("without rules", Check.INDEX, () -> rules(0).extent(0));
    }

    private static void overlap() {
        promise = 33;
        index("if there is no such rule");
        range(Check.INDEX, 0, 2, (x, number) -> x.overlap(number, 0));
        range(Check.INDEX, 0, 2, (x, number) -> x.overlap(2, number));
        range(Check.INDEX, 0, 2, (x, number) -> x.overlap(number, number));
    }

    private static void covers() {
        promise = 34;
        index("if there is no such rule");
        range(Check.INDEX, 0, 2, (x, number) -> x.covers(number, 0));
        range(Check.INDEX, 0, 2, (x, number) -> x.covers(2, number));
        range(Check.INDEX, 0, 2, (x, number) -> x.covers(number, number));
    }

    private static void clashes() {
        promise = 35;
        index("if there is no such policy");
        range(Check.INDEX, 0, 3, PolicyEngine::clashes);
    }

    private static void neverDeciding() {
        promise = 36;
        index("if there is no such policy");
        range(Check.INDEX, 0, 3, PolicyEngine::neverDeciding);
    }

    private static void witness() {
        promise = 37;
        index("if there is no such rule or attribute");
        for (int number : new int[] {-1, 3, FARTHEST[0], FARTHEST[1]}) {
            fails("rule " + number, Check.INDEX, () -> engine().witness(number, 0));
        }
        range(Check.INDEX, 0, 5, (x, number) -> x.witness(2, number));
        fails("before one that never decides", Check.INDEX, () -> engine().witness(0, 6));
        element("if the rule never decides");
        returns("it decides", () -> engine().witness(1, 0));
        fails("it never does", Check.ELEMENT, () -> engine().witness(0, 0));
        fails("it never does, last attribute", Check.ELEMENT, () -> engine().witness(0, 5));
    }

    private static void blocker() {
        promise = 38;
        index("if there is no such rule");
        for (int number : new int[] {-1, 3, FARTHEST[0], FARTHEST[1]}) {
            fails("rule " + number, Check.INDEX, () -> engine().blocker(number));
        }
        state("if the rule decides somewhere");
        fails("it decides", Check.STATE, () -> engine().blocker(2));
        fails("the only one decides", Check.STATE, () -> engine().blocker(1));
        returns("it never does", () -> engine().blocker(0));
        element("if there is no such other rule");
        fails("two of them", Check.ELEMENT, () -> Check.engine("0+a=1:5;0-:9;0-a=1:9;").blocker(0));
        fails("none of them", Check.ELEMENT, () -> Check.engine("0+a<0:5;").blocker(0));
    }

    // ---- audit, texts, history and saving

    private static void audit() {
        promise = 40;
        index("if there is no such decision");
        range(Check.INDEX, 0, 1, (x, number) -> x.audit(number, 0));
        fails("none at all", Check.INDEX, () -> rules(1).audit(0, 0));
        fails("before what", Check.INDEX, () -> engine().audit(2, 4));
        argument("if what is not 0 to 3");
        range(Check.ARGUMENT, 0, 3, (x, number) -> x.audit(1, number));
    }

    private static void permitShare() {
        promise = 41;
        throwsWhen("ArithmeticException", "if the audit is empty");
        returns("two decisions", () -> engine().permitShare());
        fails("none", Check.ARITHMETIC, () -> rules(1).permitShare());
        fails("none any more", Check.ARITHMETIC, () -> {
            PolicyEngine x = engine();
            x.clearAudit();
            return x.permitShare();
        });
    }

    private static PolicyEngine input(int length) {
        PolicyEngine x = new PolicyEngine();
        for (int index = 0; index < length; index++) {
            x.append('0');
        }
        return x;
    }

    private static void append() {
        promise = 43;
        argument("if the character code is out of range");
        for (int code : new int[] {32, 126}) {
            returns("code " + code, () -> input(0).append((char) code));
            returns("code " + code + ", 69 characters", () -> input(69).append((char) code));
        }
        for (int code : new int[] {0, 31, 127, 65535}) {
            fails("code " + code, Check.ARGUMENT, () -> input(0).append((char) code));
            fails("code " + code + ", 70 characters", Check.ARGUMENT, () -> input(70).append((char) code));
        }
        state("if the input has 70 characters");
        returns("69 characters", () -> input(69).append('0'));
        fails("70 characters", Check.STATE, () -> input(70).append('0'));
    }

    private static PolicyEngine typed(int rules, String text) {
        PolicyEngine x = rules(rules);
        Check.type(x, text);
        return x;
    }

    private static void read() {
        promise = 44;
        argument("if the input is not a text of this kind; the error position is then kept for errorPosition");
        returns("a text", () -> typed(0, "0+:0;").read());
        fails("empty", Check.ARGUMENT, () -> typed(0, "").read());
        fails("no text", Check.ARGUMENT, () -> typed(0, "0+:0").read());
        fails("before too many", Check.ARGUMENT, () -> typed(24, "0+:0;0").read());
        PolicyEngine x = typed(24, "0+:0;0");
        fails("an error", Check.ARGUMENT, x::read);
        Check.is("45: kept", x.errorPosition(), 6);
        state("if there would be more than 24 rules");
        returns("22 and 2", () -> typed(22, "0+:0;0+:0;").read());
        fails("23 and 2", Check.STATE, () -> typed(23, "0+:0;0+:0;").read());
        fails("24 and 1", Check.STATE, () -> typed(24, "0+:0;").read());
    }

    private static void errorPosition() {
        promise = 45;
        element("if none was kept");
        fails("none", Check.ELEMENT, () -> rules(0).errorPosition());
        fails("not yet", Check.ELEMENT, () -> typed(0, "?").errorPosition());
        returns("one", () -> {
            PolicyEngine x = typed(0, "?");
            fails("an error", Check.ARGUMENT, x::read);
            return x.errorPosition();
        });
    }

    private static void describe() {
        promise = 46;
        index("if there is no such rule");
        range(Check.INDEX, 0, 2, (x, number) -> x.describe(number, -1));
        fails("before the index", Check.INDEX, () -> engine().describe(3, -2));
        element("if index is not -1, and there is no such character");
        range(Check.ELEMENT, -1, 4, (x, number) -> x.describe(2, number));
        range(Check.ELEMENT, -1, 7, (x, number) -> x.describe(0, number));
    }

    private static void undo() {
        promise = 47;
        element("if no change is remembered");
        returns("one", () -> rules(1).undo());
        fails("none", Check.ELEMENT, () -> rules(0).undo());
        fails("a second of one", Check.ELEMENT, () -> {
            PolicyEngine x = rules(1);
            x.undo();
            return x.undo();
        });
        for (int changes : new int[] {8, 9, 24}) {
            PolicyEngine x = rules(changes);
            for (int number = 0; number < 8; number++) {
                returns("of " + changes, x::undo);
            }
            fails("a ninth of " + changes, Check.ELEMENT, x::undo);
        }
    }

    private static void restore() {
        promise = 49;
        state("if nothing was saved");
        fails("nothing", Check.STATE, () -> rules(1).restore());
        returns("something", () -> {
            PolicyEngine x = rules(0);
            x.save();
            return x.restore();
        });
    }
}
