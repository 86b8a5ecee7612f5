import java.util.NoSuchElementException;

/**
 * Decides requests by the rules of policies that subjects may use through chains of grants.
 *
 * <p>Every row that a call needs is made once, with the engine, so that calls make no objects.
 */
public final class PolicyEngine {
    private static final int POLICIES = 4;
    private static final int ATTRIBUTES = 6;
    private static final int VALUES = 16;
    private static final int ALL_VALUES = 0xFFFF;
    private static final int SUBJECTS = 10;
    private static final int MAX_RULES = 24;
    private static final int MAX_CONDITIONS = 4;
    private static final int MAX_PRIORITY = 9;
    private static final int MAX_WAY = 3;
    private static final int MAX_GRANTS = 30;
    private static final int MAX_DEPTH = 5;
    private static final int MAX_EXPIRY = 1000;
    private static final int MAX_TICKS = 100;
    private static final int MAX_CLOCK = 2000;
    private static final int MAX_INPUT = 70;
    private static final int MAX_AUDIT = 30;
    private static final int MAX_REMEMBERED = 8;
    private static final int MAX_UNKNOWN = 3;

    private static final int PERMIT = 0;
    private static final int DENY = 1;
    private static final int NONE = 2;
    private static final int CONFLICT = 3;
    private static final int DECISIONS = 4;

    private static final int DENY_WINS = 0;
    private static final int PERMIT_WINS = 1;
    private static final int FIRST_WINS = 2;

    private static final int EQUAL = 0;
    private static final int DIFFERENT = 1;
    private static final int LESS = 2;
    private static final int AT_LEAST = 3;
    private static final int IN_SET = 4;

    /** The cells of a rule are those that rule tells, and behind them those of its conditions. */
    private static final int POLICY = 0;
    private static final int EFFECT = 1;
    private static final int PRIORITY = 2;
    private static final int CONDITIONS = 3;
    private static final int RULE_HEAD = 4;

    private static final int ATTRIBUTE = 0;
    private static final int KIND = 1;
    private static final int OPERAND = 2;
    private static final int CONDITION_CELLS = 3;
    private static final int RULE_CELLS = RULE_HEAD + MAX_CONDITIONS * CONDITION_CELLS;

    private static final int FROM = 0;
    private static final int TO = 1;
    private static final int GRANT_POLICY = 2;
    private static final int DEPTH = 3;
    private static final int EXPIRY = 4;
    private static final int GRANT_CELLS = 5;

    private static final int AUDIT_DECISION = 2;
    private static final int AUDIT_CELLS = 4;

    private final State state = new State();
    private final State saved = new State();
    private boolean isSaved;
    private final History history = new History();
    private final RuleTable table = new RuleTable(state);
    private final Search search = new Search(table);
    private final Tally tally = new Tally(table);
    private final Chains chains = new Chains(state.grants);
    private final Audit audit = new Audit();
    private final Reader reader = new Reader();
    private final Writer writer = new Writer();
    private final int[] values = new int[ATTRIBUTES];
    private final int[] trial = new int[ATTRIBUTES];
    private int subject;
    private int clock;

    public PolicyEngine() {
        for (int attribute = 0; attribute < ATTRIBUTES; attribute++) {
            values[attribute] = -1;
        }
    }

    // ---- rules and policies

    public int addRule(int policy, boolean isDeny, int priority)
            throws IndexOutOfBoundsException, IllegalArgumentException, IllegalStateException {
        requireIndex(policy, POLICIES);
        requireArgument(isWithin(priority, 0, MAX_PRIORITY));
        requireState(state.rules.count < MAX_RULES);
        history.keep(state);
        return state.rules.addOne(policy, isDeny ? DENY : PERMIT, priority);
    }

    public int addCondition(int rule, int attribute, int kind, int operand)
            throws IndexOutOfBoundsException, IllegalArgumentException, IllegalStateException {
        requireRule(rule);
        requireArgument(isWithin(attribute, 0, ATTRIBUTES - 1) && isOperand(kind, operand));
        requireState(state.rules.cell(rule, CONDITIONS) < MAX_CONDITIONS);
        history.keep(state);
        return state.rules.addConditionTo(rule, attribute, kind, operand);
    }

    public int removeRule(int rule) throws IndexOutOfBoundsException {
        requireRule(rule);
        history.keep(state);
        state.rules.drop(rule);
        return state.rules.count;
    }

    public int setPriority(int rule, int priority) throws IndexOutOfBoundsException, IllegalArgumentException {
        requireRule(rule);
        requireArgument(isWithin(priority, 0, MAX_PRIORITY));
        history.keep(state);
        int previous = state.rules.cell(rule, PRIORITY);
        state.rules.putPriority(rule, priority);
        return previous;
    }

    public int setWay(int policy, int way) throws IndexOutOfBoundsException, IllegalArgumentException {
        requireIndex(policy, POLICIES);
        requireArgument(isWithin(way, 0, MAX_WAY));
        history.keep(state);
        int previous = state.ways[policy];
        state.ways[policy] = way;
        return previous;
    }

    public int setTopWay(int way) throws IllegalArgumentException {
        requireArgument(isWithin(way, 0, MAX_WAY));
        history.keep(state);
        int previous = state.topWay;
        state.topWay = way;
        return previous;
    }

    public int ruleCount() {
        return state.rules.count;
    }

    public int rule(int rule, int what) throws IndexOutOfBoundsException, IllegalArgumentException {
        requireRule(rule);
        requireArgument(isWithin(what, 0, RULE_HEAD - 1));
        return state.rules.cell(rule, what);
    }

    public int condition(int rule, int index, int what) throws IndexOutOfBoundsException, IllegalArgumentException {
        requireRule(rule);
        requireIndex(index, state.rules.cell(rule, CONDITIONS));
        requireArgument(isWithin(what, 0, CONDITION_CELLS - 1));
        return state.rules.conditionCell(rule, index, what);
    }

    public int specialize(int attribute, int value) throws IndexOutOfBoundsException, IllegalArgumentException {
        requireIndex(attribute, ATTRIBUTES);
        requireArgument(isWithin(value, 0, VALUES - 1));
        history.keep(state);
        return state.rules.narrow(attribute, value);
    }

    // ---- grants

    public int grant(int from, int to, int policy, int depth, int expiry)
            throws IndexOutOfBoundsException, IllegalArgumentException, IllegalStateException {
        requireGrantKey(from, to, policy);
        requireArgument(from != to && isWithin(depth, 0, MAX_DEPTH) && isWithin(expiry, 0, MAX_EXPIRY));
        requireState(state.grants.count < MAX_GRANTS || state.grants.find(from, to, policy) >= 0);
        history.keep(state);
        state.grants.put(from, to, policy, depth, expiry);
        return state.grants.count;
    }

    public int revoke(int from, int to, int policy) throws IndexOutOfBoundsException, NoSuchElementException {
        requireGrantKey(from, to, policy);
        int index = state.grants.find(from, to, policy);
        requireElement(index >= 0);
        history.keep(state);
        state.grants.drop(index);
        return state.grants.count;
    }

    public int grantCount(boolean isValid) {
        return isValid ? state.grants.countValid(clock) : state.grants.count;
    }

    public int grantAt(int index, int what) throws IndexOutOfBoundsException, IllegalArgumentException {
        requireIndex(index, state.grants.count);
        requireArgument(isWithin(what, 0, GRANT_CELLS - 1));
        return state.grants.cell(index, what);
    }

    public int policies(int subject) throws IndexOutOfBoundsException {
        requireIndex(subject, SUBJECTS);
        return chains.usable(subject, clock);
    }

    public int chainLength(int subject, int policy) throws IndexOutOfBoundsException, NoSuchElementException {
        requireIndex(subject, SUBJECTS);
        requireIndex(policy, POLICIES);
        int length = chains.fewest(subject, policy, clock);
        requireElement(length >= 0);
        return length;
    }

    public int chain(int subject, int policy, int index) throws IndexOutOfBoundsException, NoSuchElementException {
        requireIndex(subject, SUBJECTS);
        requireIndex(policy, POLICIES);
        int length = chains.fewest(subject, policy, clock);
        requireElement(isWithin(index, 0, length));
        return chains.subjectAt(index, length, policy, clock);
    }

    public int lastsUntil(int subject, int policy)
            throws IndexOutOfBoundsException, IllegalArgumentException, NoSuchElementException {
        requireIndex(subject, SUBJECTS);
        requireIndex(policy, POLICIES);
        requireArgument(subject != 0);
        requireElement(chains.fewest(subject, policy, clock) >= 0);
        return chains.endOfUse(subject, policy, clock);
    }

    public int tick(int ticks) throws IllegalArgumentException, IllegalStateException {
        requireArgument(isWithin(ticks, 1, MAX_TICKS));
        requireState(clock + ticks <= MAX_CLOCK);
        clock += ticks;
        return state.grants.countValid(clock);
    }

    // ---- the request

    public int setSubject(int subject) throws IndexOutOfBoundsException {
        requireIndex(subject, SUBJECTS);
        int previous = this.subject;
        this.subject = subject;
        return previous;
    }

    public int setValue(int attribute, int value) throws IndexOutOfBoundsException, IllegalArgumentException {
        requireIndex(attribute, ATTRIBUTES);
        requireArgument(isWithin(value, -1, VALUES - 1));
        int previous = values[attribute];
        values[attribute] = value;
        return previous;
    }

    public int unknown() {
        int set = 0;
        for (int attribute = 0; attribute < ATTRIBUTES; attribute++) {
            if (values[attribute] < 0) {
                set |= 1 << attribute;
            }
        }
        return set;
    }

    public int applies(int rule) throws IndexOutOfBoundsException {
        requireRule(rule);
        table.refresh();
        return table.fit(table.rankOf[rule], values);
    }

    public int failing(int rule) throws IndexOutOfBoundsException, NoSuchElementException {
        requireRule(rule);
        int index = firstFailing(rule);
        requireElement(index >= 0);
        return index;
    }

    public int decide() throws IllegalStateException {
        requireState(unknown() == 0);
        table.refresh();
        int usable = chains.usable(subject, clock);
        int applying = table.matching(values);
        int decision = table.decisionOf(applying, usable);
        audit.add(clock, subject, decision, table.deciderOf(applying, usable, decision));
        return decision;
    }

    public int decidingRule() throws IllegalStateException, NoSuchElementException {
        requireState(unknown() == 0);
        table.refresh();
        int usable = chains.usable(subject, clock);
        int applying = table.matching(values);
        int rule = table.deciderOf(applying, usable, table.decisionOf(applying, usable));
        requireElement(rule >= 0);
        return rule;
    }

    public int policyDecision(int policy) throws IndexOutOfBoundsException, IllegalStateException {
        requireIndex(policy, POLICIES);
        requireState(unknown() == 0);
        table.refresh();
        return table.policyDecisionOf(policy, table.matching(values));
    }

    public int possible() throws IllegalStateException {
        requireState(Integer.bitCount(unknown()) <= MAX_UNKNOWN);
        table.refresh();
        tally.count(values, chains.usable(subject, clock));
        int set = 0;
        for (int decision = 0; decision < DECISIONS; decision++) {
            if (tally.counts[decision] > 0) {
                set |= 1 << decision;
            }
        }
        return set;
    }

    public int completions(int decision) throws IllegalArgumentException, IllegalStateException {
        requireArgument(isWithin(decision, 0, DECISIONS - 1));
        requireState(Integer.bitCount(unknown()) <= MAX_UNKNOWN);
        table.refresh();
        tally.count(values, chains.usable(subject, clock));
        return tally.counts[decision];
    }

    public int valuesFor(int attribute, int decision)
            throws IndexOutOfBoundsException, IllegalArgumentException, IllegalStateException {
        requireIndex(attribute, ATTRIBUTES);
        requireArgument(isWithin(decision, 0, DECISIONS - 1));
        requireState(Integer.bitCount(unknown() & ~(1 << attribute)) < MAX_UNKNOWN);
        table.refresh();
        int usable = chains.usable(subject, clock);
        System.arraycopy(values, 0, trial, 0, ATTRIBUTES);
        int set = 0;
        for (int value = 0; value < VALUES; value++) {
            trial[attribute] = value;
            tally.count(trial, usable);
            if (tally.counts[decision] > 0) {
                set |= 1 << value;
            }
        }
        return set;
    }

    // ---- rules compared

    public int extent(int rule) throws IndexOutOfBoundsException {
        requireRule(rule);
        table.refresh();
        return table.sizeOf(table.rankOf[rule]);
    }

    public boolean overlap(int first, int second) throws IndexOutOfBoundsException {
        requireRule(first);
        requireRule(second);
        table.refresh();
        return table.meet(table.rankOf[first], table.rankOf[second]);
    }

    public boolean covers(int first, int second) throws IndexOutOfBoundsException {
        requireRule(first);
        requireRule(second);
        table.refresh();
        return table.contains(table.rankOf[first], table.rankOf[second]);
    }

    public int clashes(int policy) throws IndexOutOfBoundsException {
        requireIndex(policy, POLICIES);
        table.refresh();
        return table.clashesIn(policy);
    }

    public int neverDeciding(int policy) throws IndexOutOfBoundsException {
        requireIndex(policy, POLICIES);
        table.refresh();
        int number = 0;
        for (int rule = 0; rule < state.rules.count; rule++) {
            if (state.rules.cell(rule, POLICY) == policy && !search.canDecide(table.rankOf[rule])) {
                number++;
            }
        }
        return number;
    }

    public int witness(int rule, int attribute) throws IndexOutOfBoundsException, NoSuchElementException {
        requireRule(rule);
        requireIndex(attribute, ATTRIBUTES);
        table.refresh();
        int value = search.witnessValue(table.rankOf[rule], attribute);
        requireElement(value >= 0);
        return value;
    }

    public int blocker(int rule) throws IndexOutOfBoundsException, IllegalStateException, NoSuchElementException {
        requireRule(rule);
        table.refresh();
        requireState(!search.canDecide(table.rankOf[rule]));
        int other = firstBlocker(rule);
        requireElement(other >= 0);
        return other;
    }

    // ---- audit

    public int auditCount() {
        return audit.count;
    }

    public int audit(int index, int what) throws IndexOutOfBoundsException, IllegalArgumentException {
        requireIndex(index, audit.count);
        requireArgument(isWithin(what, 0, AUDIT_CELLS - 1));
        return audit.cell(index, what);
    }

    public double permitShare() throws ArithmeticException {
        int count = audit.count;
        if (count == 0) {
            throw new ArithmeticException();
        }
        return (double) audit.permits() / (double) count;
    }

    public int clearAudit() {
        int previous = audit.count;
        audit.count = 0;
        return previous;
    }

    // ---- texts, history and saving

    public int append(char character) throws IllegalArgumentException, IllegalStateException {
        requireArgument(isWithin(character, 32, 126));
        requireState(reader.length < MAX_INPUT);
        return reader.add(character);
    }

    public int read() throws IllegalArgumentException, IllegalStateException {
        boolean isText = reader.take();
        requireArgument(isText);
        Rules parsed = reader.parsed;
        requireState(state.rules.count + parsed.count <= MAX_RULES);
        history.keep(state);
        state.rules.addAll(parsed);
        return parsed.count;
    }

    public int errorPosition() throws NoSuchElementException {
        requireElement(reader.errorAt >= 0);
        return reader.errorAt;
    }

    public int describe(int rule, int index) throws IndexOutOfBoundsException, NoSuchElementException {
        requireRule(rule);
        writer.write(state.rules, rule);
        requireElement(isWithin(index, -1, writer.length - 1));
        return index < 0 ? writer.length : writer.row[index];
    }

    public int undo() throws NoSuchElementException {
        requireElement(history.count > 0);
        history.takeBack(state);
        return history.count;
    }

    public int save() {
        saved.copyFrom(state);
        isSaved = true;
        return state.rules.count;
    }

    public int restore() throws IllegalStateException {
        requireState(isSaved);
        state.copyFrom(saved);
        history.count = 0;
        return state.rules.count;
    }

    // ---- what calls ask of their arguments and of the state

    private static boolean isWithin(int number, int least, int greatest) {
        return number >= least && number <= greatest;
    }

    private static boolean isOperand(int kind, int operand) {
        if (kind == IN_SET) {
            return isWithin(operand, 1, ALL_VALUES);
        }
        return isWithin(kind, EQUAL, AT_LEAST) && isWithin(operand, 0, VALUES - 1);
    }

    private static void requireIndex(int index, int count) {
        if (index < 0 || index >= count) {
            throw new IndexOutOfBoundsException();
        }
    }

    private static void requireArgument(boolean isFine) {
        if (!isFine) {
            throw new IllegalArgumentException();
        }
    }

    private static void requireState(boolean isFine) {
        if (!isFine) {
            throw new IllegalStateException();
        }
    }

    private static void requireElement(boolean isThere) {
        if (!isThere) {
            throw new NoSuchElementException();
        }
    }

    private void requireRule(int rule) {
        requireIndex(rule, state.rules.count);
    }

    private static void requireGrantKey(int from, int to, int policy) {
        requireIndex(from, SUBJECTS);
        requireIndex(to, SUBJECTS);
        requireIndex(policy, POLICIES);
    }

    private int firstFailing(int rule) {
        Rules rules = state.rules;
        int count = rules.cell(rule, CONDITIONS);
        for (int index = 0; index < count; index++) {
            int value = values[rules.conditionCell(rule, index, ATTRIBUTE)];
            int possibleValues = value < 0 ? ALL_VALUES : 1 << value;
            if ((rules.valuesOf(rule, index) & possibleValues) == 0) {
                return index;
            }
        }
        return -1;
    }

    private int firstBlocker(int rule) {
        int rank = table.rankOf[rule];
        for (int other = 0; other < state.rules.count; other++) {
            if (other != rule && search.canDecideWithout(rank, table.rankOf[other])) {
                return other;
            }
        }
        return -1;
    }

    /** The rules in the order of their numbers, each in a row of cells. */
    private static final class Rules {
        private final int[] cells = new int[MAX_RULES * RULE_CELLS];
        int count;

        int cell(int rule, int what) {
            return cells[rule * RULE_CELLS + what];
        }

        int conditionCell(int rule, int index, int what) {
            return cells[conditionStart(rule, index) + what];
        }

        private static int conditionStart(int rule, int index) {
            return rule * RULE_CELLS + RULE_HEAD + index * CONDITION_CELLS;
        }

        /** The set of the values for which a condition holds. */
        int valuesOf(int rule, int index) {
            int operand = conditionCell(rule, index, OPERAND);
            switch (conditionCell(rule, index, KIND)) {
                case EQUAL:
                    return 1 << operand;
                case DIFFERENT:
                    return ALL_VALUES & ~(1 << operand);
                case LESS:
                    return (1 << operand) - 1;
                case AT_LEAST:
                    return ALL_VALUES & ~((1 << operand) - 1);
                default:
                    return operand;
            }
        }

        int addOne(int policy, int effect, int priority) {
            int start = count * RULE_CELLS;
            cells[start + POLICY] = policy;
            cells[start + EFFECT] = effect;
            cells[start + PRIORITY] = priority;
            cells[start + CONDITIONS] = 0;
            count++;
            return count - 1;
        }

        int addConditionTo(int rule, int attribute, int kind, int operand) {
            int index = cell(rule, CONDITIONS);
            int start = conditionStart(rule, index);
            cells[start + ATTRIBUTE] = attribute;
            cells[start + KIND] = kind;
            cells[start + OPERAND] = operand;
            cells[rule * RULE_CELLS + CONDITIONS] = index + 1;
            return index + 1;
        }

        void addAll(Rules others) {
            System.arraycopy(others.cells, 0, cells, count * RULE_CELLS, others.count * RULE_CELLS);
            count += others.count;
        }

        void putPriority(int rule, int priority) {
            cells[rule * RULE_CELLS + PRIORITY] = priority;
        }

        void drop(int rule) {
            int next = (rule + 1) * RULE_CELLS;
            System.arraycopy(cells, next, cells, rule * RULE_CELLS, count * RULE_CELLS - next);
            count--;
        }

        /** Specializes for a value, and tells how many rules that removed. */
        int narrow(int attribute, int value) {
            int removed = 0;
            // Backwards, since removing a rule moves only those that have been looked at.
            for (int rule = count - 1; rule >= 0; rule--) {
                if (excludes(rule, attribute, value)) {
                    drop(rule);
                    removed++;
                } else {
                    dropConditionsOn(rule, attribute);
                }
            }
            return removed;
        }

        private boolean excludes(int rule, int attribute, int value) {
            int conditions = cell(rule, CONDITIONS);
            for (int index = 0; index < conditions; index++) {
                if (conditionCell(rule, index, ATTRIBUTE) == attribute
                        && (valuesOf(rule, index) & (1 << value)) == 0) {
                    return true;
                }
            }
            return false;
        }

        private void dropConditionsOn(int rule, int attribute) {
            int conditions = cell(rule, CONDITIONS);
            int kept = 0;
            for (int index = 0; index < conditions; index++) {
                if (conditionCell(rule, index, ATTRIBUTE) != attribute) {
                    System.arraycopy(cells, conditionStart(rule, index),
                            cells, conditionStart(rule, kept), CONDITION_CELLS);
                    kept++;
                }
            }
            cells[rule * RULE_CELLS + CONDITIONS] = kept;
        }

        void copyFrom(Rules other) {
            System.arraycopy(other.cells, 0, cells, 0, other.count * RULE_CELLS);
            count = other.count;
        }
    }

    /** The grants in the order in which they were made first, each in a row of cells. */
    private static final class Grants {
        private final int[] cells = new int[MAX_GRANTS * GRANT_CELLS];
        int count;

        int cell(int index, int what) {
            return cells[index * GRANT_CELLS + what];
        }

        /** The index of a grant, or -1 if there is none. */
        int find(int from, int to, int policy) {
            for (int index = 0; index < count; index++) {
                if (cell(index, FROM) == from && cell(index, TO) == to && cell(index, GRANT_POLICY) == policy) {
                    return index;
                }
            }
            return -1;
        }

        void put(int from, int to, int policy, int depth, int expiry) {
            int index = find(from, to, policy);
            if (index < 0) {
                index = count;
                count++;
            }
            int start = index * GRANT_CELLS;
            cells[start + FROM] = from;
            cells[start + TO] = to;
            cells[start + GRANT_POLICY] = policy;
            cells[start + DEPTH] = depth;
            cells[start + EXPIRY] = expiry;
        }

        void drop(int index) {
            int next = (index + 1) * GRANT_CELLS;
            System.arraycopy(cells, next, cells, index * GRANT_CELLS, count * GRANT_CELLS - next);
            count--;
        }

        int countValid(int clock) {
            int number = 0;
            for (int index = 0; index < count; index++) {
                if (cell(index, EXPIRY) >= clock) {
                    number++;
                }
            }
            return number;
        }

        void copyFrom(Grants other) {
            System.arraycopy(other.cells, 0, cells, 0, other.count * GRANT_CELLS);
            count = other.count;
        }
    }

    /** What changes alter, and undo and restore bring back. */
    private static final class State {
        final Rules rules = new Rules();
        final Grants grants = new Grants();
        final int[] ways = new int[POLICIES];
        int topWay;

        void copyFrom(State other) {
            rules.copyFrom(other.rules);
            grants.copyFrom(other.grants);
            System.arraycopy(other.ways, 0, ways, 0, POLICIES);
            topWay = other.topWay;
        }
    }

    /** The states before the latest changes, the oldest first. */
    private static final class History {
        private final State[] past = new State[MAX_REMEMBERED];
        int count;

        History() {
            for (int index = 0; index < MAX_REMEMBERED; index++) {
                past[index] = new State();
            }
        }

        void keep(State now) {
            if (count >= MAX_REMEMBERED) {
                forgetOldest();
            }
            past[count].copyFrom(now);
            count++;
        }

        /** Its room is used again, so that no change makes an object. */
        private void forgetOldest() {
            State oldest = past[0];
            for (int index = 1; index < MAX_REMEMBERED; index++) {
                past[index - 1] = past[index];
            }
            past[MAX_REMEMBERED - 1] = oldest;
            count = MAX_REMEMBERED - 1;
        }

        void takeBack(State now) {
            if (count > 0) {
                count--;
                now.copyFrom(past[count]);
            }
        }
    }

    /**
     * The rules as boxes, in the order in which they come before one another: the rank of a rule is its place
     * there. Sets of rules are sets of ranks, so that the lowest bit of a set is the rule that comes before the
     * others.
     */
    private static final class RuleTable {
        private final State state;
        final int[] rankOf = new int[MAX_RULES];
        private final int[] ruleAt = new int[MAX_RULES];
        private final int[] boxes = new int[MAX_RULES * ATTRIBUTES];
        private final int[] policySets = new int[POLICIES];
        private int denySet;
        private int count;

        RuleTable(State state) {
            this.state = state;
        }

        void refresh() {
            count = 0;
            denySet = 0;
            for (int policy = 0; policy < POLICIES; policy++) {
                policySets[policy] = 0;
            }
            for (int priority = MAX_PRIORITY; priority >= 0; priority--) {
                for (int rule = 0; rule < state.rules.count; rule++) {
                    if (state.rules.cell(rule, PRIORITY) == priority) {
                        place(rule);
                    }
                }
            }
        }

        private void place(int rule) {
            int rank = count;
            count++;
            rankOf[rule] = rank;
            ruleAt[rank] = rule;
            policySets[state.rules.cell(rule, POLICY)] |= 1 << rank;
            if (state.rules.cell(rule, EFFECT) == DENY) {
                denySet |= 1 << rank;
            }
            int start = rank * ATTRIBUTES;
            for (int attribute = 0; attribute < ATTRIBUTES; attribute++) {
                boxes[start + attribute] = ALL_VALUES;
            }
            int conditions = state.rules.cell(rule, CONDITIONS);
            for (int index = 0; index < conditions; index++) {
                boxes[start + state.rules.conditionCell(rule, index, ATTRIBUTE)] &= state.rules.valuesOf(rule, index);
            }
        }

        /** The values of an attribute that a rule allows. */
        int box(int rank, int attribute) {
            return boxes[rank * ATTRIBUTES + attribute];
        }

        /** 1 if a rule applies to all completions of the values, 0 if to none, otherwise 2. */
        int fit(int rank, int[] values) {
            int fit = 1;
            for (int attribute = 0; attribute < ATTRIBUTES; attribute++) {
                int possibleValues = values[attribute] < 0 ? ALL_VALUES : 1 << values[attribute];
                int allowed = box(rank, attribute) & possibleValues;
                if (allowed == 0) {
                    return 0;
                }
                if (allowed != possibleValues) {
                    fit = 2;
                }
            }
            return fit;
        }

        /** The rules that apply to some completion of the values. */
        int matching(int[] values) {
            int set = 0;
            for (int rank = 0; rank < count; rank++) {
                if (fit(rank, values) != 0) {
                    set |= 1 << rank;
                }
            }
            return set;
        }

        /** Those rules of a set that allow a value of an attribute. */
        int allowing(int set, int attribute, int value) {
            int left = set;
            for (int rank = 0; rank < count; rank++) {
                if ((box(rank, attribute) & (1 << value)) == 0) {
                    left &= ~(1 << rank);
                }
            }
            return left;
        }

        int rulesOf(int policies) {
            int set = 0;
            for (int policy = 0; policy < POLICIES; policy++) {
                if ((policies & (1 << policy)) != 0) {
                    set |= policySets[policy];
                }
            }
            return set;
        }

        int policyDecisionOf(int policy, int applying) {
            int own = applying & policySets[policy];
            if (own == 0) {
                return NONE;
            }
            switch (state.ways[policy]) {
                case DENY_WINS:
                    return (own & denySet) != 0 ? DENY : PERMIT;
                case PERMIT_WINS:
                    return (own & ~denySet) != 0 ? PERMIT : DENY;
                case FIRST_WINS:
                    return ((own & -own) & denySet) != 0 ? DENY : PERMIT;
                default:
                    return (own & (own - 1)) != 0 ? CONFLICT : (own & denySet) != 0 ? DENY : PERMIT;
            }
        }

        int decisionOf(int applying, int usable) {
            int decisions = 0;
            int number = 0;
            int first = NONE;
            for (int policy = 0; policy < POLICIES; policy++) {
                int decision = (usable & (1 << policy)) != 0 ? policyDecisionOf(policy, applying) : NONE;
                if (decision != NONE) {
                    decisions |= 1 << decision;
                    number++;
                    first = number == 1 ? decision : first;
                }
            }
            return number == 0 ? NONE : combined(decisions, first, number);
        }

        private int combined(int decisions, int first, int number) {
            switch (state.topWay) {
                case DENY_WINS:
                    return strongest(decisions, DENY, PERMIT);
                case PERMIT_WINS:
                    return strongest(decisions, PERMIT, DENY);
                case FIRST_WINS:
                    return first;
                default:
                    return number == 1 ? first : CONFLICT;
            }
        }

        private static int strongest(int decisions, int winner, int loser) {
            if ((decisions & (1 << winner)) != 0) {
                return winner;
            }
            return (decisions & (1 << CONFLICT)) != 0 ? CONFLICT : loser;
        }

        /** The number of the deciding rule, or -1 if there is none. */
        int deciderOf(int applying, int usable, int decision) {
            if (decision != PERMIT && decision != DENY) {
                return -1;
            }
            for (int policy = 0; policy < POLICIES; policy++) {
                if ((usable & (1 << policy)) != 0 && policyDecisionOf(policy, applying) == decision) {
                    int effectSet = decision == DENY ? denySet : ~denySet;
                    return lowest(applying & policySets[policy] & effectSet);
                }
            }
            return -1;
        }

        private int lowest(int set) {
            for (int rank = 0; rank < count; rank++) {
                if ((set & (1 << rank)) != 0) {
                    return ruleAt[rank];
                }
            }
            return -1;
        }

        /** The rules that must not apply where a rule decides for its policy. */
        int rivals(int rank) {
            int self = 1 << rank;
            int policy = state.rules.cell(ruleAt[rank], POLICY);
            boolean isDeny = (denySet & self) != 0;
            int own = policySets[policy];
            int before = own & (self - 1);
            int otherEffect = own & (isDeny ? ~denySet : denySet);
            switch (state.ways[policy]) {
                case DENY_WINS:
                    return isDeny ? before & ~otherEffect : before | otherEffect;
                case PERMIT_WINS:
                    return isDeny ? before | otherEffect : before & ~otherEffect;
                case FIRST_WINS:
                    return before;
                default:
                    return own & ~self;
            }
        }

        int sizeOf(int rank) {
            int size = 1;
            for (int attribute = 0; attribute < ATTRIBUTES; attribute++) {
                size *= Integer.bitCount(box(rank, attribute));
            }
            return size;
        }

        boolean meet(int first, int second) {
            for (int attribute = 0; attribute < ATTRIBUTES; attribute++) {
                if ((box(first, attribute) & box(second, attribute)) == 0) {
                    return false;
                }
            }
            return true;
        }

        /** Whether the first rule applies wherever the second one does. */
        boolean contains(int first, int second) {
            if (sizeOf(second) == 0) {
                return true;
            }
            for (int attribute = 0; attribute < ATTRIBUTES; attribute++) {
                if ((box(second, attribute) & ~box(first, attribute)) != 0) {
                    return false;
                }
            }
            return true;
        }

        int clashesIn(int policy) {
            int number = 0;
            for (int first = 0; first < count; first++) {
                for (int second = first + 1; second < count; second++) {
                    if (areOpposed(first, second, policy) && meet(first, second)) {
                        number++;
                    }
                }
            }
            return number;
        }

        private boolean areOpposed(int first, int second, int policy) {
            int pair = (1 << first) | (1 << second);
            int denies = pair & denySet;
            return (pair & ~policySets[policy]) == 0 && denies != 0 && denies != pair;
        }
    }

    /** Looks for requests to which a rule applies and none of its rivals. */
    private static final class Search {
        private final RuleTable table;
        /** For each level of the search the values that are left for each attribute. */
        private final int[] domains = new int[(MAX_RULES + 1) * ATTRIBUTES];

        Search(RuleTable table) {
            this.table = table;
        }

        boolean canDecide(int rank) {
            return isFree(rank, table.rivals(rank));
        }

        boolean canDecideWithout(int rank, int other) {
            return isFree(rank, table.rivals(rank) & ~(1 << other));
        }

        private boolean isFree(int rank, int rivals) {
            for (int attribute = 0; attribute < ATTRIBUTES; attribute++) {
                domains[attribute] = table.box(rank, attribute);
            }
            return table.sizeOf(rank) > 0 && hasFree(0, rivals);
        }

        /** The value that the witness of a rule has for an attribute, or -1 if there is no witness. */
        int witnessValue(int rank, int attribute) {
            int rivals = table.rivals(rank);
            if (!isFree(rank, rivals)) {
                return -1;
            }
            int value = 0;
            for (int each = 0; each <= attribute; each++) {
                value = fixFirst(each, rivals);
            }
            return value;
        }

        /** Leaves an attribute only the least value with which there is still a free request. */
        private int fixFirst(int attribute, int rivals) {
            int domain = domains[attribute];
            for (int value = 0; value < VALUES; value++) {
                domains[attribute] = domain & (1 << value);
                if (domains[attribute] != 0 && hasFree(0, rivals)) {
                    return value;
                }
            }
            return 0;
        }

        /**
         * Whether there is a request with the values of this level to which no rival applies. A request avoids a
         * rival by the value of one attribute: the rival with the fewest such attributes is avoided by each of them
         * in turn, by the later ones only where the earlier ones do not avoid it, so that no request is looked at
         * twice.
         */
        private boolean hasFree(int level, int rivals) {
            int left = 0;
            int hardest = 0;
            int ways = 0;
            for (int rank = 0; rank < MAX_RULES; rank++) {
                if ((rivals & (1 << rank)) == 0 || isAvoided(level, rank)) {
                    continue;
                }
                int escapes = escapes(level, rank);
                if (left == 0 || Integer.bitCount(escapes) < Integer.bitCount(ways)) {
                    hardest = rank;
                    ways = escapes;
                }
                left |= 1 << rank;
            }
            if (left == 0) {
                return true;
            }
            return level < MAX_RULES && hasFreeBeside(level + 1, left & ~(1 << hardest), hardest, ways);
        }

        private boolean hasFreeBeside(int level, int rivals, int avoided, int ways) {
            int start = level * ATTRIBUTES;
            System.arraycopy(domains, start - ATTRIBUTES, domains, start, ATTRIBUTES);
            for (int attribute = 0; attribute < ATTRIBUTES; attribute++) {
                if ((ways & (1 << attribute)) == 0) {
                    continue;
                }
                int domain = domains[start + attribute];
                int box = table.box(avoided, attribute);
                domains[start + attribute] = domain & ~box;
                if (hasFree(level, rivals)) {
                    return true;
                }
                domains[start + attribute] = domain & box;
            }
            return false;
        }

        private boolean isAvoided(int level, int rank) {
            int start = level * ATTRIBUTES;
            for (int attribute = 0; attribute < ATTRIBUTES; attribute++) {
                if ((domains[start + attribute] & table.box(rank, attribute)) == 0) {
                    return true;
                }
            }
            return false;
        }

        /** The attributes by whose values a request of this level can avoid a rule. */
        private int escapes(int level, int rank) {
            int start = level * ATTRIBUTES;
            int set = 0;
            for (int attribute = 0; attribute < ATTRIBUTES; attribute++) {
                if ((domains[start + attribute] & ~table.box(rank, attribute)) != 0) {
                    set |= 1 << attribute;
                }
            }
            return set;
        }
    }

    /** Counts the completions of a request by their decisions. */
    private static final class Tally {
        private final RuleTable table;
        final int[] counts = new int[DECISIONS];
        private int unknowns;
        /**
         * For each unknown attribute, the sets of rules that its values leave, and how many values leave each. Where
         * fewer are unknown, the places behind have one group that leaves all.
         */
        private final int[] groups = new int[MAX_UNKNOWN];
        private final int[] sets = new int[MAX_UNKNOWN * VALUES];
        private final int[] sizes = new int[MAX_UNKNOWN * VALUES];

        Tally(RuleTable table) {
            this.table = table;
        }

        /** Values for more than three attributes may not be missing. */
        void count(int[] values, int usable) {
            int matching = table.matching(values) & table.rulesOf(usable);
            unknowns = 0;
            for (int attribute = 0; attribute < ATTRIBUTES; attribute++) {
                if (values[attribute] < 0 && unknowns < MAX_UNKNOWN) {
                    group(attribute, matching);
                    unknowns++;
                }
            }
            for (int place = unknowns; place < MAX_UNKNOWN; place++) {
                groups[place] = 1;
                sets[place * VALUES] = matching;
                sizes[place * VALUES] = 1;
            }
            spread(usable);
        }

        private void group(int attribute, int matching) {
            groups[unknowns] = 0;
            for (int value = 0; value < VALUES; value++) {
                putIntoGroup(table.allowing(matching, attribute, value));
            }
        }

        private void putIntoGroup(int set) {
            int start = unknowns * VALUES;
            int end = start + groups[unknowns];
            for (int group = start; group < end; group++) {
                if (sets[group] == set) {
                    sizes[group]++;
                    return;
                }
            }
            sets[end] = set;
            sizes[end] = 1;
            groups[unknowns]++;
        }

        /** Counts each combination of groups as often as there are completions with it. */
        private void spread(int usable) {
            for (int decision = 0; decision < DECISIONS; decision++) {
                counts[decision] = 0;
            }
            for (int first = 0; first < groups[0]; first++) {
                for (int second = VALUES; second < VALUES + groups[1]; second++) {
                    int left = sets[first] & sets[second];
                    int size = sizes[first] * sizes[second];
                    for (int third = 2 * VALUES; third < 2 * VALUES + groups[2]; third++) {
                        counts[table.decisionOf(left & sets[third], usable)] += size * sizes[third];
                    }
                }
            }
        }
    }

    /** Finds the chains of grants that lead from subject 0 to another one. */
    private static final class Chains {
        private final Grants grants;
        /** At index k, the subjects from which k grants lead to the subject that is looked at. */
        private final int[] starts = new int[MAX_DEPTH + 2];

        Chains(Grants grants) {
            this.grants = grants;
        }

        int usable(int subject, int clock) {
            int set = 0;
            for (int policy = 0; policy < POLICIES; policy++) {
                if (fewest(subject, policy, clock) >= 0) {
                    set |= 1 << policy;
                }
            }
            return set;
        }

        /** The number of grants in the chain that counts, or -1 if there is no chain. */
        int fewest(int subject, int policy, int clock) {
            starts[0] = 1 << subject;
            if (subject == 0) {
                return 0;
            }
            // No chain is longer: the first of its grants needs the greatest depth.
            for (int length = 1; length <= MAX_DEPTH + 1; length++) {
                starts[length] = 0;
                for (int index = 0; index < grants.count; index++) {
                    if (continues(index, length - 1, policy, clock)) {
                        starts[length] |= 1 << grants.cell(index, FROM);
                    }
                }
                if ((starts[length] & 1) != 0) {
                    return length;
                }
            }
            return -1;
        }

        /** Whether a grant can stand in a chain with so many grants after it. */
        private boolean continues(int index, int after, int policy, int clock) {
            return grants.cell(index, GRANT_POLICY) == policy
                    && grants.cell(index, EXPIRY) >= clock
                    && grants.cell(index, DEPTH) >= after
                    && (starts[after] & (1 << grants.cell(index, TO))) != 0;
        }

        /** A subject of the chain that counts, whose length fewest told just before. */
        int subjectAt(int place, int length, int policy, int clock) {
            int subject = 0;
            for (int step = 1; step <= place; step++) {
                subject = lowestNext(subject, length - step, policy, clock);
            }
            return subject;
        }

        private int lowestNext(int subject, int after, int policy, int clock) {
            int next = SUBJECTS;
            for (int index = 0; index < grants.count; index++) {
                if (grants.cell(index, FROM) == subject && continues(index, after, policy, clock)) {
                    next = Math.min(next, grants.cell(index, TO));
                }
            }
            return next;
        }

        /** The least clock at which no chain is left; only where a grant has expired can one be lost. */
        int endOfUse(int subject, int policy, int clock) {
            int end = MAX_EXPIRY + 1;
            for (int index = 0; index < grants.count; index++) {
                int after = grants.cell(index, EXPIRY) + 1;
                if (after > clock && after < end && fewest(subject, policy, after) < 0) {
                    end = after;
                }
            }
            return end;
        }
    }

    /** The latest decisions, the oldest first. */
    private static final class Audit {
        private final int[] cells = new int[MAX_AUDIT * AUDIT_CELLS];
        int count;

        void add(int clock, int subject, int decision, int rule) {
            if (count >= MAX_AUDIT) {
                System.arraycopy(cells, AUDIT_CELLS, cells, 0, (MAX_AUDIT - 1) * AUDIT_CELLS);
                count = MAX_AUDIT - 1;
            }
            int start = count * AUDIT_CELLS;
            cells[start] = clock;
            cells[start + 1] = subject;
            cells[start + AUDIT_DECISION] = decision;
            cells[start + 3] = rule;
            count++;
        }

        int cell(int index, int what) {
            return cells[index * AUDIT_CELLS + what];
        }

        int permits() {
            int number = 0;
            for (int index = 0; index < count; index++) {
                if (cell(index, AUDIT_DECISION) == PERMIT) {
                    number++;
                }
            }
            return number;
        }
    }

    /**
     * The input, and the rules that are read from it. Whatever has been accepted can be continued to a text, so the
     * place of the first character that is not accepted is the error position.
     */
    private static final class Reader {
        private final char[] input = new char[MAX_INPUT];
        int length;
        private int place;
        final Rules parsed = new Rules();
        /** The error position that was kept last, or -1. */
        int errorAt = -1;

        int add(char character) {
            input[length] = character;
            length++;
            return length;
        }

        /** Reads the input and empties it; tells whether it was a text. */
        boolean take() {
            place = 0;
            parsed.count = 0;
            boolean isText = readRule();
            for (int rule = 1; rule < MAX_RULES && isText && place < length; rule++) {
                isText = readRule();
            }
            length = 0;
            if (!isText) {
                errorAt = place;
            }
            return isText;
        }

        private boolean accept(char wanted) {
            if (place >= length || input[place] != wanted) {
                return false;
            }
            place++;
            return true;
        }

        /** The number that the next character has from a first one on, or -1 if it is not one of so many. */
        private int acceptFrom(char first, int count) {
            int number = place < length ? input[place] - first : -1;
            if (number < 0 || number >= count) {
                return -1;
            }
            place++;
            return number;
        }

        private boolean readRule() {
            int policy = acceptFrom('0', POLICIES);
            if (policy < 0) {
                return false;
            }
            boolean isDeny = accept('-');
            if (!isDeny && !accept('+')) {
                return false;
            }
            int rule = parsed.addOne(policy, isDeny ? DENY : PERMIT, 0);
            if (!readConditions(rule)) {
                return false;
            }
            int priority = acceptFrom('0', MAX_PRIORITY + 1);
            if (priority < 0) {
                return false;
            }
            parsed.putPriority(rule, priority);
            return accept(';');
        }

        /** The conditions and the colon behind them. */
        private boolean readConditions(int rule) {
            if (accept(':')) {
                return true;
            }
            for (int index = 0; index < MAX_CONDITIONS; index++) {
                if (index > 0 && !accept('&')) {
                    return false;
                }
                if (!readCondition(rule)) {
                    return false;
                }
                if (accept(':')) {
                    return true;
                }
            }
            return false;
        }

        private boolean readCondition(int rule) {
            int attribute = acceptFrom('a', ATTRIBUTES);
            if (attribute < 0) {
                return false;
            }
            int kind = acceptKind();
            int operand = kind == IN_SET ? readSet() : kind < 0 ? -1 : readNumber();
            if (operand < 0) {
                return false;
            }
            parsed.addConditionTo(rule, attribute, kind, operand);
            return true;
        }

        private int acceptKind() {
            if (accept('=')) {
                return EQUAL;
            }
            if (accept('#')) {
                return DIFFERENT;
            }
            if (accept('<')) {
                return LESS;
            }
            if (accept('>')) {
                return AT_LEAST;
            }
            return accept('{') ? IN_SET : -1;
        }

        /** The values of a set and the brace behind them, or -1 at an error. */
        private int readSet() {
            int set = 0;
            for (int index = 0; index < MAX_INPUT; index++) {
                int value = readNumber();
                if (value < 0) {
                    return -1;
                }
                set |= 1 << value;
                if (accept('}')) {
                    return set;
                }
                if (!accept(',')) {
                    return -1;
                }
            }
            return -1;
        }

        /** One or two digits, or -1 at an error. */
        private int readNumber() {
            int number = acceptFrom('0', 10);
            if (number < 0) {
                return -1;
            }
            // Any digit behind belongs to the number, so one that makes it too great is the error.
            int second = place < length ? input[place] - '0' : -1;
            if (second < 0 || second > 9) {
                return number;
            }
            number = number * 10 + second;
            if (number >= VALUES) {
                return -1;
            }
            place++;
            return number;
        }
    }

    /** Writes the text of a rule. */
    private static final class Writer {
        /** The longest text has four conditions with sets of all values, and takes 168 characters. */
        final char[] row = new char[200];
        int length;

        void write(Rules rules, int rule) {
            length = 0;
            putNumber(rules.cell(rule, POLICY));
            put(rules.cell(rule, EFFECT) == DENY ? '-' : '+');
            int conditions = rules.cell(rule, CONDITIONS);
            for (int index = 0; index < conditions; index++) {
                if (index > 0) {
                    put('&');
                }
                putCondition(rules, rule, index);
            }
            put(':');
            putNumber(rules.cell(rule, PRIORITY));
            put(';');
        }

        private void putCondition(Rules rules, int rule, int index) {
            put((char) ('a' + rules.conditionCell(rule, index, ATTRIBUTE)));
            int operand = rules.conditionCell(rule, index, OPERAND);
            int kind = rules.conditionCell(rule, index, KIND);
            if (kind == IN_SET) {
                putSet(operand);
            } else {
                put(signOf(kind));
                putNumber(operand);
            }
        }

        private static char signOf(int kind) {
            switch (kind) {
                case EQUAL:
                    return '=';
                case DIFFERENT:
                    return '#';
                case LESS:
                    return '<';
                default:
                    return '>';
            }
        }

        private void putSet(int set) {
            char before = '{';
            for (int value = 0; value < VALUES; value++) {
                if ((set & (1 << value)) != 0) {
                    put(before);
                    putNumber(value);
                    before = ',';
                }
            }
            put('}');
        }

        private void putNumber(int number) {
            if (number >= 10) {
                put('1');
            }
            put((char) ('0' + (number >= 10 ? number - 10 : number)));
        }

        private void put(char character) {
            if (length < row.length) {
                row[length] = character;
                length++;
            }
        }
    }
}
