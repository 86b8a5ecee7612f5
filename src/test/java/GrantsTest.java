/** Promises 12 to 20: grants, chains and the clock. */
public final class GrantsTest {
    public static void main(String[] args) {
        grant();
        revoke();
        grantCount();
        grantAt();
        policies();
        chainLength();
        chain();
        lastsUntil();
        tick();
        Check.end("GrantsTest");
    }

    private static void grant() {
        PolicyEngine x = new PolicyEngine();
        Check.is("12: first", x.grant(0, 1, 2, 5, 1000), 1);
        Check.is("12: second", x.grant(1, 0, 2, 0, 0), 2);
        Check.is("12: other policy", x.grant(0, 1, 3, 1, 7), 3);
        Check.is("12: in its place", x.grant(0, 1, 2, 3, 30), 3);
        Check.is("12: as told", Check.grants(x), "0,1,2,3,30;1,0,2,0,0;0,1,3,1,7;");
        Check.fails("12: from 10", Check.INDEX, () -> x.grant(10, 1, 0, 9, 0));
        Check.fails("12: from -1", Check.INDEX, () -> x.grant(-1, 1, 0, 0, 0));
        Check.fails("12: to 10", Check.INDEX, () -> x.grant(1, 10, 0, 0, 2000));
        Check.fails("12: to -1", Check.INDEX, () -> x.grant(1, -1, 0, 0, 0));
        Check.fails("12: policy 4", Check.INDEX, () -> x.grant(1, 1, 4, 0, 0));
        Check.fails("12: policy -1", Check.INDEX, () -> x.grant(1, 2, -1, 0, 0));
        Check.fails("12: same subjects", Check.ARGUMENT, () -> x.grant(1, 1, 0, 0, 0));
        Check.fails("12: depth 6", Check.ARGUMENT, () -> x.grant(1, 2, 0, 6, 0));
        Check.fails("12: depth -1", Check.ARGUMENT, () -> x.grant(1, 2, 0, -1, 0));
        Check.fails("12: expiry 1001", Check.ARGUMENT, () -> x.grant(1, 2, 0, 0, 1001));
        Check.fails("12: expiry -1", Check.ARGUMENT, () -> x.grant(1, 2, 0, 0, -1));
        for (int number = 3; number < 30; number++) {
            Check.is("12: grant " + number, x.grant(number % 9, 9, number / 9, 1, 5), number + 1);
        }
        Check.fails("12: 30 grants", Check.STATE, () -> x.grant(5, 8, 0, 0, 0));
        Check.fails("12: index first", Check.INDEX, () -> x.grant(5, 8, 4, 6, 0));
        Check.fails("12: argument first", Check.ARGUMENT, () -> x.grant(5, 8, 0, 6, 0));
        Check.is("12: in place of one of 30", x.grant(1, 0, 2, 4, 44), 30);
        Check.is("12: placed", x.grantAt(1, 4), 44);
        Check.is("12: in place of the first of 30", x.grant(0, 1, 2, 4, 45), 30);
        Check.is("12: placed first", x.grantAt(0, 4), 45);
    }

    private static void revoke() {
        PolicyEngine x = new PolicyEngine();
        x.grant(0, 1, 0, 1, 1);
        x.grant(0, 2, 0, 2, 2);
        x.grant(0, 3, 0, 3, 3);
        Check.is("13: the middle", x.revoke(0, 2, 0), 2);
        Check.is("13: left", Check.grants(x), "0,1,0,1,1;0,3,0,3,3;");
        Check.fails("13: gone", Check.ELEMENT, () -> x.revoke(0, 2, 0));
        Check.fails("13: other direction", Check.ELEMENT, () -> x.revoke(1, 0, 0));
        Check.fails("13: other policy", Check.ELEMENT, () -> x.revoke(0, 1, 1));
        Check.fails("13: same subjects", Check.ELEMENT, () -> x.revoke(1, 1, 1));
        Check.fails("13: from 10", Check.INDEX, () -> x.revoke(10, 1, 1));
        Check.fails("13: from -1", Check.INDEX, () -> x.revoke(-1, 1, 1));
        Check.fails("13: to 10", Check.INDEX, () -> x.revoke(0, 10, 1));
        Check.fails("13: to -1", Check.INDEX, () -> x.revoke(0, -1, 1));
        Check.fails("13: policy 4", Check.INDEX, () -> x.revoke(0, 1, 4));
        Check.fails("13: policy -1", Check.INDEX, () -> x.revoke(0, 1, -1));
        x.tick(50);
        Check.is("13: an expired one", x.revoke(0, 1, 0), 1);
        x.grant(0, 1, 0, 1, 1);
        Check.is("13: made again comes last", Check.grants(x), "0,3,0,3,3;0,1,0,1,1;");
        Check.is("13: last of two", x.revoke(0, 1, 0), 1);
        Check.is("13: the only one", x.revoke(0, 3, 0), 0);
    }

    private static void grantCount() {
        PolicyEngine x = new PolicyEngine();
        x.grant(0, 1, 0, 1, 4);
        x.grant(0, 2, 0, 2, 5);
        x.grant(0, 3, 0, 3, 6);
        x.tick(5);
        Check.is("14: all", x.grantCount(false), 3);
        Check.is("14: an expiry equal to the clock is valid", x.grantCount(true), 2);
        x.tick(1);
        Check.is("14: one left", x.grantCount(true), 1);
        x.grant(0, 4, 0, 0, 5);
        Check.is("14: one that is made too late", x.grantCount(true), 1);
        Check.is("14: counted", x.grantCount(false), 4);
    }

    private static void grantAt() {
        PolicyEngine x = new PolicyEngine();
        x.grant(2, 1, 3, 4, 900);
        x.grant(1, 2, 0, 5, 6);
        int[][] due = {{2, 1, 3, 4, 900}, {1, 2, 0, 5, 6}};
        for (int index = 0; index < 2; index++) {
            for (int what = 0; what < 5; what++) {
                Check.is("15: " + what + " of " + index, x.grantAt(index, what), due[index][what]);
            }
        }
        Check.fails("15: index 2", Check.INDEX, () -> x.grantAt(2, 5));
        Check.fails("15: index -1", Check.INDEX, () -> x.grantAt(-1, 0));
        Check.fails("15: what 5", Check.ARGUMENT, () -> x.grantAt(1, 5));
        Check.fails("15: what -1", Check.ARGUMENT, () -> x.grantAt(1, -1));
    }

    private static void policies() {
        PolicyEngine x = new PolicyEngine();
        Check.is("16: subject 0", x.policies(0), 15);
        Check.is("16: another one", x.policies(9), 0);
        x.grant(0, 1, 0, 0, 10);
        x.grant(0, 1, 2, 1, 5);
        x.grant(1, 2, 0, 5, 10);
        x.grant(1, 2, 2, 0, 10);
        x.grant(3, 4, 1, 5, 10);
        Check.is("16: direct", x.policies(1), 5);
        Check.is("16: only as deep as the first grant", x.policies(2), 4);
        Check.is("16: not from 0", x.policies(4), 0);
        x.tick(5);
        Check.is("16: at the expiry", x.policies(2), 4);
        x.tick(1);
        Check.is("16: after it", x.policies(2), 0);
        Check.is("16: the other policy is left", x.policies(1), 1);
        Check.is("16: subject 0 still", x.policies(0), 15);
        Check.fails("16: subject 10", Check.INDEX, () -> x.policies(10));
        Check.fails("16: subject -1", Check.INDEX, () -> x.policies(-1));
    }

    /** A chain 0, 1, .. with the depths that are told. */
    private static PolicyEngine line(int policy, int... depths) {
        PolicyEngine x = new PolicyEngine();
        for (int index = 0; index < depths.length; index++) {
            x.grant(index, index + 1, policy, depths[index], 100);
        }
        return x;
    }

    private static void chainLength() {
        PolicyEngine x = line(1, 5, 4, 3, 2, 1, 0);
        for (int subject = 0; subject < 7; subject++) {
            Check.is("17: to " + subject, x.chainLength(subject, 1), subject);
        }
        x.grant(6, 7, 1, 5, 100);
        Check.fails("17: seven grants are too many", Check.ELEMENT, () -> x.chainLength(7, 1));
        Check.fails("17: another policy", Check.ELEMENT, () -> x.chainLength(1, 0));
        x.grant(0, 5, 1, 0, 100);
        Check.is("17: the shortest", x.chainLength(5, 1), 1);
        Check.is("17: but not deep enough further", x.chainLength(6, 1), 6);
        x.grant(0, 4, 1, 2, 3);
        Check.is("17: shorter", x.chainLength(6, 1), 3);
        x.tick(4);
        Check.is("17: a chain that expired", x.chainLength(6, 1), 6);
        Check.is("17: subject 0", x.chainLength(0, 3), 0);
        Check.fails("17: subject 10", Check.INDEX, () -> x.chainLength(10, 1));
        Check.fails("17: subject -1", Check.INDEX, () -> x.chainLength(-1, 1));
        Check.fails("17: policy 4", Check.INDEX, () -> x.chainLength(9, 4));
        Check.fails("17: policy -1", Check.INDEX, () -> x.chainLength(0, -1));
        PolicyEngine y = line(0, 5, 4, 2, 2, 1, 0);
        Check.fails("17: one depth too small", Check.ELEMENT, () -> y.chainLength(6, 0));
        Check.is("17: up to there", y.chainLength(5, 0), 5);
    }

    private static void chain() {
        PolicyEngine x = new PolicyEngine();
        x.grant(0, 5, 0, 2, 100);
        x.grant(5, 1, 0, 2, 100);
        x.grant(1, 9, 0, 2, 100);
        x.grant(0, 3, 0, 2, 100);
        x.grant(3, 8, 0, 2, 100);
        x.grant(8, 9, 0, 2, 100);
        x.grant(3, 6, 0, 2, 50);
        x.grant(6, 9, 0, 0, 100);
        x.grant(0, 2, 0, 1, 100);
        x.grant(2, 6, 0, 2, 100);
        x.grant(3, 4, 0, 0, 100);
        x.grant(4, 9, 0, 0, 100);
        int[] due = {0, 3, 6, 9};
        for (int index = 0; index < 4; index++) {
            Check.is("18: at " + index, x.chain(9, 0, index), due[index]);
        }
        Check.fails("18: at 4", Check.ELEMENT, () -> x.chain(9, 0, 4));
        Check.fails("18: at -1", Check.ELEMENT, () -> x.chain(9, 0, -1));
        x.tick(51);
        Check.is("18: the next one", x.chain(9, 0, 2), 8);
        PolicyEngine y = new PolicyEngine();
        y.grant(0, 1, 3, 1, 9);
        y.grant(0, 2, 3, 1, 9);
        y.grant(2, 3, 3, 1, 9);
        y.grant(1, 3, 3, 1, 9);
        Check.is("18: by the first grant", y.chain(3, 3, 1), 1);
        Check.is("18: subject 0", x.chain(0, 3, 0), 0);
        Check.fails("18: subject 0 at 1", Check.ELEMENT, () -> x.chain(0, 3, 1));
        Check.fails("18: may not", Check.ELEMENT, () -> x.chain(9, 1, 0));
        Check.fails("18: may not, at -1", Check.ELEMENT, () -> x.chain(9, 1, -1));
        Check.fails("18: subject 10", Check.INDEX, () -> x.chain(10, 0, 9));
        Check.fails("18: subject -1", Check.INDEX, () -> x.chain(-1, 0, 0));
        Check.fails("18: policy 4", Check.INDEX, () -> x.chain(9, 4, 9));
        Check.fails("18: policy -1", Check.INDEX, () -> x.chain(0, -1, 0));
    }

    private static void lastsUntil() {
        PolicyEngine x = new PolicyEngine();
        x.grant(0, 1, 0, 1, 10);
        x.grant(1, 2, 0, 0, 30);
        Check.is("19: the chain's least expiry", x.lastsUntil(2, 0), 11);
        x.grant(0, 3, 0, 2, 25);
        x.grant(3, 4, 0, 1, 20);
        x.grant(4, 2, 0, 0, 30);
        Check.is("19: a longer chain lasts longer", x.lastsUntil(2, 0), 21);
        x.grant(0, 2, 1, 0, 1000);
        Check.is("19: another policy", x.lastsUntil(2, 1), 1001);
        x.tick(20);
        Check.is("19: at its last tick", x.lastsUntil(2, 0), 21);
        x.tick(1);
        Check.fails("19: not any more", Check.ELEMENT, () -> x.lastsUntil(2, 0));
        Check.fails("19: never", Check.ELEMENT, () -> x.lastsUntil(9, 0));
        Check.fails("19: subject 0", Check.ARGUMENT, () -> x.lastsUntil(0, 0));
        Check.fails("19: subject 10", Check.INDEX, () -> x.lastsUntil(10, 0));
        Check.fails("19: subject -1", Check.INDEX, () -> x.lastsUntil(-1, 0));
        Check.fails("19: policy 4", Check.INDEX, () -> x.lastsUntil(0, 4));
        Check.fails("19: policy -1", Check.INDEX, () -> x.lastsUntil(2, -1));
        PolicyEngine y = new PolicyEngine();
        y.grant(0, 1, 0, 0, 50);
        y.grant(1, 2, 0, 5, 60);
        y.grant(0, 2, 0, 5, 0);
        Check.is("19: a chain that is not deep enough does not count", y.lastsUntil(2, 0), 1);
    }

    private static void tick() {
        PolicyEngine x = new PolicyEngine();
        x.grant(0, 1, 0, 0, 100);
        x.grant(0, 2, 0, 0, 99);
        Check.is("20: a hundred", x.tick(100), 1);
        Check.is("20: one more", x.tick(1), 0);
        Check.fails("20: 0", Check.ARGUMENT, () -> x.tick(0));
        Check.fails("20: -1", Check.ARGUMENT, () -> x.tick(-1));
        Check.fails("20: 101", Check.ARGUMENT, () -> x.tick(101));
        for (int number = 0; number < 18; number++) {
            x.tick(100);
        }
        Check.fails("20: past 2000", Check.STATE, () -> x.tick(100));
        Check.is("20: 2000", x.tick(99), 0);
        Check.fails("20: past it", Check.STATE, () -> x.tick(1));
        Check.fails("20: argument first", Check.ARGUMENT, () -> x.tick(101));
        Check.fails("20: the greatest", Check.ARGUMENT, () -> x.tick(Integer.MAX_VALUE));
        Check.request(x, 0, 0, 0, 0, 0, 0);
        x.decide();
        Check.is("20: the clock", x.audit(0, 0), 2000);
    }
}
