import java.util.ArrayDeque;
import java.util.ArrayList;
import java.util.Arrays;
import java.util.Deque;
import java.util.List;
import java.util.NoSuchElementException;
import java.util.TreeSet;
import java.util.regex.Matcher;
import java.util.regex.Pattern;

/**
 * The document once more, as plainly as can be: everything is found by trying all there is. ModelTest compares the
 * program with it.
 */
final class Model {
    private record Condition(int attribute, int kind, int operand) {
        boolean holds(int value) {
            return switch (kind) {
                case 0 -> value == operand;
                case 1 -> value != operand;
                case 2 -> value < operand;
                case 3 -> value >= operand;
                default -> (operand >> value) % 2 == 1;
            };
        }
    }

    private record Rule(int policy, boolean isDeny, int priority, List<Condition> conditions) {
        boolean applies(int[] request) {
            for (Condition condition : conditions) {
                if (!condition.holds(request[condition.attribute])) {
                    return false;
                }
            }
            return true;
        }

        Rule with(List<Condition> others) {
            return new Rule(policy, isDeny, priority, others);
        }
    }

    private record Grant(int from, int to, int policy, int depth, int expiry) {
        boolean isFor(int from, int to, int policy) {
            return this.from == from && this.to == to && this.policy == policy;
        }
    }

    private record Entry(int[] cells) {
    }

    private record State(List<Rule> rules, List<Grant> grants, int[] ways, int topWay) {
        State copy() {
            return new State(new ArrayList<>(rules), new ArrayList<>(grants), ways.clone(), topWay);
        }
    }

    private static final String NUMBER = "(?:0[0-9]?|1[0-5]?|[2-9])";
    private static final String CONDITION =
            "[a-f](?:[=#<>]" + NUMBER + "|\\{" + NUMBER + "(?:," + NUMBER + ")*\\})";
    private static final String RULE =
            "[0-3][+-](?:" + CONDITION + "(?:&" + CONDITION + "){0,3})?:[0-9];";
    private static final Pattern TEXT = Pattern.compile("(?:" + RULE + ")+");
    private static final Pattern EACH_RULE = Pattern.compile(RULE);

    private State now = new State(new ArrayList<>(), new ArrayList<>(), new int[4], 0);
    private State saved = null;
    private final Deque<State> history = new ArrayDeque<>();
    private final List<Entry> audit = new ArrayList<>();
    private final int[] values = {-1, -1, -1, -1, -1, -1};
    private final StringBuilder input = new StringBuilder();
    private int subject = 0;
    private int clock = 0;
    private int error = -1;

    private static void index(boolean isFine) {
        if (!isFine) {
            throw new IndexOutOfBoundsException();
        }
    }

    private static void argument(boolean isFine) {
        if (!isFine) {
            throw new IllegalArgumentException();
        }
    }

    private static void state(boolean isFine) {
        if (!isFine) {
            throw new IllegalStateException();
        }
    }

    private static void element(boolean isFine) {
        if (!isFine) {
            throw new NoSuchElementException();
        }
    }

    private Rule ruleAt(int rule) {
        index(rule >= 0 && rule < now.rules.size());
        return now.rules.get(rule);
    }

    private static void policy(int policy) {
        index(policy >= 0 && policy < 4);
    }

    private static void subject(int subject) {
        index(subject >= 0 && subject < 10);
    }

    private static void attribute(int attribute) {
        index(attribute >= 0 && attribute < 6);
    }

    private void change() {
        history.addLast(now.copy());
        if (history.size() > 8) {
            history.removeFirst();
        }
    }

    // ---- rules

    int addRule(int policy, boolean isDeny, int priority) {
        policy(policy);
        argument(priority >= 0 && priority <= 9);
        state(now.rules.size() < 24);
        change();
        now.rules.add(new Rule(policy, isDeny, priority, new ArrayList<>()));
        return now.rules.size() - 1;
    }

    int addCondition(int rule, int attribute, int kind, int operand) {
        Rule old = ruleAt(rule);
        argument(attribute >= 0 && attribute <= 5 && kind >= 0 && kind <= 4);
        argument(kind == 4 ? operand >= 1 && operand <= 65535 : operand >= 0 && operand <= 15);
        state(old.conditions.size() < 4);
        change();
        List<Condition> conditions = new ArrayList<>(old.conditions);
        conditions.add(new Condition(attribute, kind, operand));
        now.rules.set(rule, old.with(conditions));
        return conditions.size();
    }

    int removeRule(int rule) {
        ruleAt(rule);
        change();
        now.rules.remove(rule);
        return now.rules.size();
    }

    int setPriority(int rule, int priority) {
        Rule old = ruleAt(rule);
        argument(priority >= 0 && priority <= 9);
        change();
        now.rules.set(rule, new Rule(old.policy, old.isDeny, priority, old.conditions));
        return old.priority;
    }

    int setWay(int policy, int way) {
        policy(policy);
        argument(way >= 0 && way <= 3);
        change();
        int previous = now.ways[policy];
        now.ways[policy] = way;
        return previous;
    }

    int setTopWay(int way) {
        argument(way >= 0 && way <= 3);
        change();
        int previous = now.topWay;
        now = new State(now.rules, now.grants, now.ways, way);
        return previous;
    }

    int ruleCount() {
        return now.rules.size();
    }

    int rule(int rule, int what) {
        Rule it = ruleAt(rule);
        argument(what >= 0 && what <= 3);
        return new int[] {it.policy, it.isDeny ? 1 : 0, it.priority, it.conditions.size()}[what];
    }

    int condition(int rule, int index, int what) {
        Rule it = ruleAt(rule);
        index(index >= 0 && index < it.conditions.size());
        argument(what >= 0 && what <= 2);
        Condition condition = it.conditions.get(index);
        return new int[] {condition.attribute, condition.kind, condition.operand}[what];
    }

    int specialize(int attribute, int value) {
        attribute(attribute);
        argument(value >= 0 && value <= 15);
        change();
        List<Rule> left = new ArrayList<>();
        for (Rule rule : now.rules) {
            if (rule.conditions.stream().allMatch(c -> c.attribute != attribute || c.holds(value))) {
                left.add(rule.with(rule.conditions.stream().filter(c -> c.attribute != attribute).toList()));
            }
        }
        int removed = now.rules.size() - left.size();
        now = new State(left, now.grants, now.ways, now.topWay);
        return removed;
    }

    // ---- grants

    private int placeOf(int from, int to, int policy) {
        for (int place = 0; place < now.grants.size(); place++) {
            if (now.grants.get(place).isFor(from, to, policy)) {
                return place;
            }
        }
        return -1;
    }

    int grant(int from, int to, int policy, int depth, int expiry) {
        subject(from);
        subject(to);
        policy(policy);
        argument(from != to && depth >= 0 && depth <= 5 && expiry >= 0 && expiry <= 1000);
        int place = placeOf(from, to, policy);
        state(now.grants.size() < 30 || place >= 0);
        change();
        Grant grant = new Grant(from, to, policy, depth, expiry);
        if (place >= 0) {
            now.grants.set(place, grant);
        } else {
            now.grants.add(grant);
        }
        return now.grants.size();
    }

    int revoke(int from, int to, int policy) {
        subject(from);
        subject(to);
        policy(policy);
        int place = placeOf(from, to, policy);
        element(place >= 0);
        change();
        now.grants.remove(place);
        return now.grants.size();
    }

    int grantCount(boolean isValid) {
        return (int) now.grants.stream().filter(g -> !isValid || g.expiry >= clock).count();
    }

    int grantAt(int index, int what) {
        index(index >= 0 && index < now.grants.size());
        argument(what >= 0 && what <= 4);
        Grant grant = now.grants.get(index);
        return new int[] {grant.from, grant.to, grant.policy, grant.depth, grant.expiry}[what];
    }

    /** The chain that counts at a clock as its subjects, or null: all sequences of grants are tried. */
    private List<Integer> bestChain(int subject, int policy, int clock) {
        List<List<Integer>> found = new ArrayList<>();
        if (subject == 0) {
            return List.of(0);
        }
        for (int length = 1; length <= 6 && found.isEmpty(); length++) {
            lengthen(List.of(0), length, subject, policy, clock, found);
        }
        List<Integer> best = null;
        for (List<Integer> each : found) {
            if (best == null || each.toString().compareTo(best.toString()) < 0) {
                best = each;
            }
        }
        return best;
    }

    private void lengthen(List<Integer> chain, int grants, int subject, int policy, int clock,
            List<List<Integer>> found) {
        int last = chain.get(chain.size() - 1);
        if (grants == 0) {
            if (last == subject) {
                found.add(chain);
            }
            return;
        }
        for (Grant grant : now.grants) {
            if (grant.from == last && grant.policy == policy && grant.expiry >= clock && grant.depth >= grants - 1) {
                List<Integer> longer = new ArrayList<>(chain);
                longer.add(grant.to);
                lengthen(longer, grants - 1, subject, policy, clock, found);
            }
        }
    }

    private boolean mayUse(int subject, int policy) {
        return bestChain(subject, policy, clock) != null;
    }

    int policies(int subject) {
        subject(subject);
        int set = 0;
        for (int policy = 0; policy < 4; policy++) {
            set += mayUse(subject, policy) ? 1 << policy : 0;
        }
        return set;
    }

    int chainLength(int subject, int policy) {
        subject(subject);
        policy(policy);
        List<Integer> chain = bestChain(subject, policy, clock);
        element(chain != null);
        return chain.size() - 1;
    }

    int chain(int subject, int policy, int index) {
        subject(subject);
        policy(policy);
        List<Integer> chain = bestChain(subject, policy, clock);
        element(chain != null && index >= 0 && index < chain.size());
        return chain.get(index);
    }

    int lastsUntil(int subject, int policy) {
        subject(subject);
        policy(policy);
        argument(subject != 0);
        element(mayUse(subject, policy));
        int then = clock;
        while (bestChain(subject, policy, then) != null) {
            then++;
        }
        return then;
    }

    int tick(int ticks) {
        argument(ticks >= 1 && ticks <= 100);
        state(clock + ticks <= 2000);
        clock += ticks;
        return grantCount(true);
    }

    // ---- the request

    int setSubject(int subject) {
        subject(subject);
        int previous = this.subject;
        this.subject = subject;
        return previous;
    }

    int setValue(int attribute, int value) {
        attribute(attribute);
        argument(value >= -1 && value <= 15);
        int previous = values[attribute];
        values[attribute] = value;
        return previous;
    }

    int unknown() {
        int set = 0;
        for (int attribute = 0; attribute < 6; attribute++) {
            set += values[attribute] == -1 ? 1 << attribute : 0;
        }
        return set;
    }

    /** The values that completions have for an attribute. */
    private int[] valuesOf(int attribute) {
        if (values[attribute] >= 0) {
            return new int[] {values[attribute]};
        }
        int[] all = new int[16];
        Arrays.setAll(all, value -> value);
        return all;
    }

    int applies(int rule) {
        Rule it = ruleAt(rule);
        boolean always = true;
        for (int attribute = 0; attribute < 6; attribute++) {
            int each = attribute;
            List<Condition> own = it.conditions.stream().filter(c -> c.attribute == each).toList();
            long fitting = Arrays.stream(valuesOf(attribute))
                    .filter(value -> own.stream().allMatch(c -> c.holds(value))).count();
            if (fitting == 0) {
                return 0;
            }
            always &= fitting == valuesOf(attribute).length;
        }
        return always ? 1 : 2;
    }

    int failing(int rule) {
        Rule it = ruleAt(rule);
        for (int index = 0; index < it.conditions.size(); index++) {
            Condition condition = it.conditions.get(index);
            if (Arrays.stream(valuesOf(condition.attribute)).noneMatch(condition::holds)) {
                return index;
            }
        }
        throw new NoSuchElementException();
    }

    private boolean isBefore(int first, int second, List<Rule> rules) {
        int difference = rules.get(first).priority - rules.get(second).priority;
        return difference > 0 || difference == 0 && first < second;
    }

    /** The decision of a policy and its deciding rule, -1 for none. */
    private int[] policyResult(int policy, int[] request, List<Rule> rules) {
        List<Integer> applying = new ArrayList<>();
        for (int rule = 0; rule < rules.size(); rule++) {
            if (rules.get(rule).policy == policy && rules.get(rule).applies(request)) {
                applying.add(rule);
            }
        }
        if (applying.isEmpty()) {
            return new int[] {2, -1};
        }
        applying.sort((a, b) -> isBefore(a, b, rules) ? -1 : a.equals(b) ? 0 : 1);
        boolean hasDeny = applying.stream().anyMatch(rule -> rules.get(rule).isDeny);
        boolean hasPermit = applying.stream().anyMatch(rule -> !rules.get(rule).isDeny);
        boolean firstDenies = rules.get(applying.get(0)).isDeny;
        int decision = switch (now.ways[policy]) {
            case 0 -> hasDeny ? 1 : 0;
            case 1 -> hasPermit ? 0 : 1;
            case 2 -> firstDenies ? 1 : 0;
            default -> applying.size() > 1 ? 3 : firstDenies ? 1 : 0;
        };
        for (int rule : applying) {
            if (decision != 3 && rules.get(rule).isDeny == (decision == 1)) {
                return new int[] {decision, rule};
            }
        }
        return new int[] {decision, -1};
    }

    /** The decision and its deciding rule for a complete request. */
    private int[] result(int[] request, int usable) {
        List<int[]> results = new ArrayList<>();
        for (int policy = 0; policy < 4; policy++) {
            int[] one = policyResult(policy, request, now.rules);
            if ((usable >> policy) % 2 == 1 && one[0] != 2) {
                results.add(one);
            }
        }
        int decision = combined(results);
        for (int[] one : results) {
            if (decision < 2 && one[0] == decision) {
                return one;
            }
        }
        return new int[] {decision, -1};
    }

    private int combined(List<int[]> results) {
        if (results.isEmpty()) {
            return 2;
        }
        List<Integer> order = now.topWay == 0 ? List.of(1, 3, 0) : List.of(0, 3, 1);
        if (now.topWay <= 1) {
            for (int decision : order) {
                if (results.stream().anyMatch(one -> one[0] == decision)) {
                    return decision;
                }
            }
        }
        return now.topWay == 2 || results.size() == 1 ? results.get(0)[0] : 3;
    }

    int decide() {
        state(unknown() == 0);
        int[] result = result(values, policies(subject));
        audit.add(new Entry(new int[] {clock, subject, result[0], result[1]}));
        if (audit.size() > 30) {
            audit.remove(0);
        }
        return result[0];
    }

    int decidingRule() {
        state(unknown() == 0);
        int[] result = result(values, policies(subject));
        element(result[0] < 2);
        return result[1];
    }

    int policyDecision(int policy) {
        policy(policy);
        state(unknown() == 0);
        return policyResult(policy, values, now.rules)[0];
    }

    private int[] tally(int[] request) {
        int[] counts = new int[4];
        tally(request.clone(), 0, policies(subject), counts);
        return counts;
    }

    private void tally(int[] request, int attribute, int usable, int[] counts) {
        if (attribute == 6) {
            counts[result(request, usable)[0]]++;
        } else if (request[attribute] >= 0) {
            tally(request, attribute + 1, usable, counts);
        } else {
            for (int value = 0; value < 16; value++) {
                request[attribute] = value;
                tally(request, attribute + 1, usable, counts);
            }
            request[attribute] = -1;
        }
    }

    int possible() {
        state(Integer.bitCount(unknown()) <= 3);
        int[] counts = tally(values);
        int set = 0;
        for (int decision = 0; decision < 4; decision++) {
            set += counts[decision] > 0 ? 1 << decision : 0;
        }
        return set;
    }

    int completions(int decision) {
        argument(decision >= 0 && decision <= 3);
        state(Integer.bitCount(unknown()) <= 3);
        return tally(values)[decision];
    }

    int valuesFor(int attribute, int decision) {
        attribute(attribute);
        argument(decision >= 0 && decision <= 3);
        int others = 0;
        for (int other = 0; other < 6; other++) {
            others += other != attribute && values[other] == -1 ? 1 : 0;
        }
        state(others <= 2);
        int set = 0;
        for (int value = 0; value < 16; value++) {
            int[] request = values.clone();
            request[attribute] = value;
            set += tally(request)[decision] > 0 ? 1 << value : 0;
        }
        return set;
    }

    // ---- rules compared

    private boolean allows(Rule rule, int attribute, int value) {
        return rule.conditions.stream().allMatch(c -> c.attribute != attribute || c.holds(value));
    }

    int extent(int rule) {
        Rule it = ruleAt(rule);
        int product = 1;
        for (int attribute = 0; attribute < 6; attribute++) {
            int number = 0;
            for (int value = 0; value < 16; value++) {
                number += allows(it, attribute, value) ? 1 : 0;
            }
            product *= number;
        }
        return product;
    }

    boolean overlap(int first, int second) {
        Rule one = ruleAt(first);
        Rule other = ruleAt(second);
        for (int attribute = 0; attribute < 6; attribute++) {
            boolean isShared = false;
            for (int value = 0; value < 16; value++) {
                isShared |= allows(one, attribute, value) && allows(other, attribute, value);
            }
            if (!isShared) {
                return false;
            }
        }
        return true;
    }

    boolean covers(int first, int second) {
        Rule one = ruleAt(first);
        Rule other = ruleAt(second);
        boolean isInside = true;
        for (int attribute = 0; attribute < 6; attribute++) {
            for (int value = 0; value < 16; value++) {
                isInside &= allows(one, attribute, value) || !allows(other, attribute, value);
            }
        }
        return isInside || extent(second) == 0;
    }

    int clashes(int policy) {
        policy(policy);
        int number = 0;
        for (int first = 0; first < now.rules.size(); first++) {
            for (int second = 0; second < first; second++) {
                Rule one = now.rules.get(first);
                Rule other = now.rules.get(second);
                boolean isPair = one.policy == policy && other.policy == policy && one.isDeny != other.isDeny;
                number += isPair && overlap(first, second) ? 1 : 0;
            }
        }
        return number;
    }

    /**
     * The witness of a rule among some rules, or null. Of values that all rules treat alike only the least is tried:
     * the first request of all has no other ones.
     */
    private int[] witnessAmong(Rule rule, List<Rule> rules) {
        List<Rule> own = rules.stream().filter(other -> other.policy == rule.policy).toList();
        int[][] tried = new int[6][];
        for (int attribute = 0; attribute < 6; attribute++) {
            List<Integer> values = new ArrayList<>();
            List<List<Boolean>> seen = new ArrayList<>();
            for (int value = 0; value < 16; value++) {
                int a = attribute;
                int v = value;
                List<Boolean> treated = own.stream().map(each -> allows(each, a, v)).toList();
                if (!seen.contains(treated)) {
                    seen.add(treated);
                    values.add(value);
                }
            }
            tried[attribute] = values.stream().mapToInt(value -> value).toArray();
        }
        int[] request = new int[6];
        return search(rule, rules, tried, request, 0) ? request : null;
    }

    private boolean search(Rule rule, List<Rule> rules, int[][] tried, int[] request, int attribute) {
        if (attribute == 6) {
            if (!rule.applies(request)) {
                return false;
            }
            int decider = policyResult(rule.policy, request, rules)[1];
            return decider >= 0 && rules.get(decider) == rule;
        }
        for (int value : tried[attribute]) {
            request[attribute] = value;
            if (allows(rule, attribute, value) && search(rule, rules, tried, request, attribute + 1)) {
                return true;
            }
        }
        return false;
    }

    int neverDeciding(int policy) {
        policy(policy);
        int number = 0;
        for (Rule rule : now.rules) {
            number += rule.policy == policy && witnessAmong(rule, now.rules) == null ? 1 : 0;
        }
        return number;
    }

    int witness(int rule, int attribute) {
        Rule it = ruleAt(rule);
        attribute(attribute);
        int[] witness = witnessAmong(it, now.rules);
        element(witness != null);
        return witness[attribute];
    }

    int blocker(int rule) {
        Rule it = ruleAt(rule);
        state(witnessAmong(it, now.rules) == null);
        for (int other = 0; other < now.rules.size(); other++) {
            List<Rule> rest = new ArrayList<>(now.rules);
            rest.remove(other);
            if (other != rule && witnessAmong(it, rest) != null) {
                return other;
            }
        }
        throw new NoSuchElementException();
    }

    // ---- audit

    int auditCount() {
        return audit.size();
    }

    int audit(int index, int what) {
        index(index >= 0 && index < audit.size());
        argument(what >= 0 && what <= 3);
        return audit.get(index).cells[what];
    }

    double permitShare() {
        if (audit.isEmpty()) {
            throw new ArithmeticException();
        }
        return (double) audit.stream().filter(entry -> entry.cells[2] == 0).count() / audit.size();
    }

    int clearAudit() {
        int size = audit.size();
        audit.clear();
        return size;
    }

    // ---- texts, history and saving

    int append(char character) {
        argument(character >= 32 && character <= 126);
        state(input.length() < 70);
        input.append(character);
        return input.length();
    }

    int read() {
        String text = input.toString();
        input.setLength(0);
        if (!TEXT.matcher(text).matches()) {
            error = errorOf(text);
            throw new IllegalArgumentException();
        }
        List<Rule> rules = new ArrayList<>();
        Matcher each = EACH_RULE.matcher(text);
        while (each.find()) {
            rules.add(parse(each.group()));
        }
        state(now.rules.size() + rules.size() <= 24);
        change();
        now.rules.addAll(rules);
        return rules.size();
    }

    /** A start can be continued to a text if the matcher wanted more when it came to the end. */
    private static int errorOf(String text) {
        for (int index = 0; index < text.length(); index++) {
            Matcher start = TEXT.matcher(text.substring(0, index + 1));
            if (!start.matches() && !start.hitEnd()) {
                return index;
            }
        }
        return text.length();
    }

    private static Rule parse(String text) {
        int colon = text.indexOf(':');
        List<Condition> conditions = new ArrayList<>();
        for (String each : text.substring(2, colon).split("&")) {
            if (!each.isEmpty()) {
                conditions.add(parseCondition(each));
            }
        }
        return new Rule(text.charAt(0) - '0', text.charAt(1) == '-', text.charAt(colon + 1) - '0', conditions);
    }

    private static Condition parseCondition(String text) {
        int attribute = "abcdef".indexOf(text.charAt(0));
        int kind = "=#<>{".indexOf(text.charAt(1));
        if (kind < 4) {
            return new Condition(attribute, kind, Integer.parseInt(text.substring(2)));
        }
        int set = 0;
        for (String value : text.substring(2, text.length() - 1).split(",")) {
            set |= 1 << Integer.parseInt(value);
        }
        return new Condition(attribute, 4, set);
    }

    int errorPosition() {
        element(error >= 0);
        return error;
    }

    private static String textOf(Condition condition) {
        String start = "abcdef".substring(condition.attribute, condition.attribute + 1);
        if (condition.kind < 4) {
            return start + "=#<>".charAt(condition.kind) + condition.operand;
        }
        TreeSet<Integer> set = new TreeSet<>();
        for (int value = 0; value < 16; value++) {
            if (condition.holds(value)) {
                set.add(value);
            }
        }
        return start + set.toString().replace(" ", "").replace('[', '{').replace(']', '}');
    }

    int describe(int rule, int index) {
        Rule it = ruleAt(rule);
        String conditions = String.join("&", it.conditions.stream().map(Model::textOf).toList());
        String text = it.policy + (it.isDeny ? "-" : "+") + conditions + ":" + it.priority + ";";
        element(index >= -1 && index < text.length());
        return index == -1 ? text.length() : text.charAt(index);
    }

    int undo() {
        element(!history.isEmpty());
        now = history.removeLast();
        return history.size();
    }

    int save() {
        saved = now.copy();
        return now.rules.size();
    }

    int restore() {
        state(saved != null);
        now = saved.copy();
        history.clear();
        return now.rules.size();
    }
}
