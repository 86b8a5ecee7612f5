import java.util.Arrays;
import java.util.HashSet;
import java.util.Set;

/** Promises 36 to 38 where many rules leave little room: each request of four attributes is tried. */
public final class SearchTest {
    private static final int RULES = 24;
    private static final int REQUESTS = 1 << 16;

    private final PolicyEngine x = new PolicyEngine();
    private final int[][] boxes = new int[RULES][4];
    private final boolean[] denies = new boolean[RULES];
    private final int[] priorities = new int[RULES];
    private final int way;
    private long seed;

    private SearchTest(int number) {
        seed = number * 104729L + 3;
        way = number % 4;
        x.setWay(0, way);
        for (int rule = 0; rule < RULES; rule++) {
            boolean isLast = rule == RULES - 1;
            denies[rule] = !isLast && below(2) == 0;
            priorities[rule] = isLast ? 0 : below(3);
            x.addRule(0, denies[rule], priorities[rule]);
            for (int attribute = 0; attribute < 4; attribute++) {
                boxes[rule][attribute] = 65535;
            }
            for (int left = isLast ? 0 : 2 + below(3); left > 0; left--) {
                exclude(rule, below(4), 1 + number % 6);
            }
        }
    }

    public static void main(String[] args) {
        for (int number = 0; number < 60; number++) {
            new SearchTest(number).compare("number " + number);
        }
        Check.end("SearchTest");
    }

    private int below(int bound) {
        seed = seed * 6364136223846793005L + 1442695040888963407L;
        return (int) ((seed >>> 33) % bound);
    }

    private void exclude(int rule, int attribute, int values) {
        int set = 65535;
        for (int value = 0; value < values; value++) {
            set &= ~(1 << below(16));
        }
        boxes[rule][attribute] &= set;
        x.addCondition(rule, attribute, 4, set);
    }

    private int applying(int request) {
        int set = 0;
        for (int rule = 0; rule < RULES; rule++) {
            boolean applies = true;
            for (int attribute = 0; attribute < 4; attribute++) {
                applies &= (boxes[rule][attribute] >> valueOf(request, attribute)) % 2 == 1;
            }
            set |= applies ? 1 << rule : 0;
        }
        return set;
    }

    private static int valueOf(int request, int attribute) {
        return request >> 4 * (3 - attribute) & 15;
    }

    /** The deciding rule among those that apply, or -1. */
    private int decider(int applying) {
        boolean hasDeny = false;
        boolean hasPermit = false;
        int first = -1;
        for (int rule = 0; rule < RULES; rule++) {
            if ((applying >> rule) % 2 == 1) {
                hasDeny |= denies[rule];
                hasPermit |= !denies[rule];
                first = first < 0 || priorities[rule] > priorities[first] ? rule : first;
            }
        }
        if (first < 0 || way == 3) {
            return Integer.bitCount(applying) == 1 ? first : -1;
        }
        boolean isDeny = way == 0 ? hasDeny : way == 1 ? !hasPermit : denies[first];
        int best = -1;
        for (int rule = 0; rule < RULES; rule++) {
            if ((applying >> rule) % 2 == 1 && denies[rule] == isDeny) {
                best = best < 0 || priorities[rule] > priorities[best] ? rule : best;
            }
        }
        return best;
    }

    private void compare(String name) {
        int[] witnesses = new int[RULES];
        int[][] without = new int[RULES][RULES];
        Set<Integer> seen = new HashSet<>();
        Arrays.fill(witnesses, -1);
        for (int request = REQUESTS - 1; request >= 0; request--) {
            int applying = applying(request);
            int decider = decider(applying);
            if (decider >= 0) {
                witnesses[decider] = request;
            }
            if (seen.add(applying)) {
                removeEach(applying, decider, without);
            }
        }
        int never = 0;
        for (int rule = 0; rule < RULES; rule++) {
            never += witnesses[rule] < 0 ? 1 : 0;
            compareRule(name + ", rule " + rule, rule, witnesses[rule], without[rule]);
        }
        Check.is(name + ", never deciding", x.neverDeciding(0), never);
    }

    /** Notes for each other rule the one that decides without it. */
    private void removeEach(int applying, int decider, int[][] without) {
        for (int other = 0; other < RULES; other++) {
            int then = (applying >> other) % 2 == 1 ? decider(applying & ~(1 << other)) : decider;
            if (then >= 0) {
                without[then][other] = 1;
            }
        }
    }

    private void compareRule(String name, int rule, int witness, int[] without) {
        if (witness >= 0) {
            for (int attribute = 0; attribute < 6; attribute++) {
                int due = attribute < 4 ? valueOf(witness, attribute) : 0;
                Check.is(name + ", witness at " + attribute, x.witness(rule, attribute), due);
            }
            Check.fails(name + ", blocker", Check.STATE, () -> x.blocker(rule));
            return;
        }
        Check.fails(name + ", witness", Check.ELEMENT, () -> x.witness(rule, 0));
        int due = 0;
        while (due < RULES && (due == rule || without[due] == 0)) {
            due++;
        }
        if (due < RULES) {
            Check.is(name + ", blocker", x.blocker(rule), due);
        } else {
            Check.fails(name + ", blocker", Check.ELEMENT, () -> x.blocker(rule));
        }
    }
}
