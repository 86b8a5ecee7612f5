/** The boundary cases of delegation, and of promises 12 to 20: a test for each sentence. */
public final class GrantEdgesTest {
    public static void main(String[] args) {
        firstClock();
        subjects();
        depthsAndExpiries();
        thirtyGrants();
        chainsOfThirty();
        nothingOfARevokedOne();
        atMostOne();
        validity();
        validityAtTheEnds();
        firstFromSubjectZero();
        eachFurther();
        forThisPolicy();
        depthOfEach();
        longestChain();
        onlyValidOnes();
        subjectZero();
        grantsToSubjectZero();
        chainForBoth();
        mayUse();
        fewestGrants();
        lexicographicallyFirst();
        lexicographicallyFirstAmongThoseThatReach();
        indexOfChain();
        lastsUntilNext();
        lastsUntilTheEnd();
        lastsUntilOfSeveral();
        lastsUntilRefused();
        replacedKeepsItsPlace();
        revokedComesLast();
        revokeReturns();
        noSuchGrant();
        order();
        ticks();
        lastClock();
        validThen();
        Check.end("GrantEdgesTest");
    }

    private static int clock(PolicyEngine x) {
        Check.request(x, 0, 0, 0, 0, 0, 0);
        x.decide();
        return x.audit(x.auditCount() - 1, 0);
    }

    private static void firstClock() {
        Check.sentence("The clock is 0 at first.");
        PolicyEngine x = new PolicyEngine();
        Check.is("20: clock", clock(x), 0);
        x.grant(0, 1, 0, 0, 0);
        Check.is("14: an expiry of 0 is valid", x.grantCount(true), 1);
        Check.is("16: and can be used", x.policies(1), 1);
        Check.is("20: not at 1", x.tick(1), 0);
        Check.is("16: at 1", x.policies(1), 0);
    }

    private static void subjects() {
        Check.sentence("if there is no such subject or policy");
        PolicyEngine x = new PolicyEngine();
        int count = 0;
        for (int subject = 0; subject < 9; subject++) {
            count++;
            Check.is("12: from " + subject, x.grant(subject, subject + 1, subject % 4, 0, 0), count);
        }
        Check.is("12: from 9 to 0", x.grant(9, 0, 3, 0, 0), 10);
        Check.fails("12: from 10", Check.INDEX, () -> x.grant(10, 0, 0, 0, 0));
        Check.fails("12: from -1", Check.INDEX, () -> x.grant(-1, 0, 0, 0, 0));
        Check.fails("12: to 10", Check.INDEX, () -> x.grant(0, 10, 0, 0, 0));
        Check.fails("12: to -1", Check.INDEX, () -> x.grant(0, -1, 0, 0, 0));
        Check.fails("12: policy 4", Check.INDEX, () -> x.grant(0, 1, 4, 0, 0));
        Check.fails("12: policy -1", Check.INDEX, () -> x.grant(0, 1, -1, 0, 0));
        Check.fails("13: from 10", Check.INDEX, () -> x.revoke(10, 0, 0));
        Check.fails("13: to 10", Check.INDEX, () -> x.revoke(0, 10, 0));
        Check.fails("13: policy 4", Check.INDEX, () -> x.revoke(0, 1, 4));
        Check.is("13: from 9 to 0", x.revoke(9, 0, 3), 9);
        Check.is("13: from 0", x.revoke(0, 1, 0), 8);
        Check.is("16: of 9", x.policies(9), 0);
        Check.fails("16: of 10", Check.INDEX, () -> x.policies(10));
        Check.fails("16: of -1", Check.INDEX, () -> x.policies(-1));
    }

    private static void depthsAndExpiries() {
        Check.sentence("and has a depth from 0 to 5 and an expiry from 0 to 1000");
        PolicyEngine x = new PolicyEngine();
        Check.is("12: the least", x.grant(0, 1, 0, 0, 0), 1);
        Check.is("12: the greatest", x.grant(0, 2, 0, 5, 1000), 2);
        Check.is("15: as told", Check.grants(x), "0,1,0,0,0;0,2,0,5,1000;");
        Check.fails("12: depth -1", Check.ARGUMENT, () -> x.grant(0, 3, 0, -1, 0));
        Check.fails("12: depth 6", Check.ARGUMENT, () -> x.grant(0, 3, 0, 6, 0));
        Check.fails("12: expiry -1", Check.ARGUMENT, () -> x.grant(0, 3, 0, 0, -1));
        Check.fails("12: expiry 1001", Check.ARGUMENT, () -> x.grant(0, 3, 0, 0, 1001));
        Check.fails("12: both subjects 0", Check.ARGUMENT, () -> x.grant(0, 0, 0, 0, 0));
        Check.fails("12: both subjects 9", Check.ARGUMENT, () -> x.grant(9, 9, 0, 0, 0));
        Check.is("14: unchanged", x.grantCount(false), 2);
    }

    private static PolicyEngine thirty() {
        PolicyEngine x = new PolicyEngine();
        for (int number = 0; number < 30; number++) {
            Check.is("12: grant " + number, x.grant(number % 8, 9, number / 8, 1, 10), number + 1);
        }
        return x;
    }

    private static void thirtyGrants() {
        Check.sentence("there are at most 30 grants");
        PolicyEngine x = thirty();
        Check.fails("12: a 31st", Check.STATE, () -> x.grant(0, 8, 0, 0, 0));
        Check.fails("12: a 31st for the last policy", Check.STATE, () -> x.grant(6, 9, 3, 0, 0));
        Check.is("12: in place of the first", x.grant(0, 9, 0, 2, 20), 30);
        Check.is("12: in place of the last", x.grant(5, 9, 3, 3, 30), 30);
        Check.is("15: the first", x.grantAt(0, 4), 20);
        Check.is("15: the last", x.grantAt(29, 4), 30);
        Check.fails("15: behind the last", Check.INDEX, () -> x.grantAt(30, 0));
        x.revoke(3, 9, 1);
        Check.is("12: there is room again", x.grant(0, 8, 0, 0, 0), 30);
        Check.fails("12: full again", Check.STATE, () -> x.grant(0, 7, 0, 0, 0));
        x.undo();
        x.tick(100);
        Check.is("12: after undo", x.grant(0, 7, 0, 0, 0), 30);
        Check.fails("12: expired ones count", Check.STATE, () -> x.grant(0, 8, 0, 0, 0));
    }

    /** The chains of thirty grants: three subjects between 0 and the last ones, for two policies. */
    private static void chainsOfThirty() {
        Check.sentence("there are at most 30 grants");
        PolicyEngine x = new PolicyEngine();
        for (int policy = 0; policy < 2; policy++) {
            for (int between = 3; between >= 1; between--) {
                x.grant(0, between, policy, 1, 100 * between);
                for (int subject = 4; subject < 8; subject++) {
                    x.grant(between, subject, policy, 0, 10 * subject);
                }
            }
        }
        Check.is("14: thirty", x.grantCount(true), 30);
        for (int subject = 4; subject < 8; subject++) {
            for (int policy = 0; policy < 2; policy++) {
                Check.is("16: of " + subject, x.policies(subject), 3);
                Check.is("17: of " + subject, x.chainLength(subject, policy), 2);
                Check.is("18: first of " + subject, x.chain(subject, policy, 1), 1);
                Check.is("18: last of " + subject, x.chain(subject, policy, 2), subject);
                Check.is("19: of " + subject, x.lastsUntil(subject, policy), 10 * subject + 1);
            }
        }
        Check.is("20: at 70", x.tick(70), 12);
        Check.is("19: the last one", x.lastsUntil(7, 1), 71);
        Check.is("20: at 71", x.tick(1), 6);
        Check.is("19: the three are left", x.lastsUntil(3, 1), 301);
    }

    /** A grant that was revoked leaves nothing, also if it was the last one. */
    private static void nothingOfARevokedOne() {
        Check.sentence("Removes a grant.");
        PolicyEngine x = new PolicyEngine();
        x.grant(0, 2, 0, 1, 50);
        x.grant(2, 9, 0, 0, 50);
        x.grant(1, 9, 0, 0, 80);
        x.grant(0, 1, 0, 1, 80);
        Check.is("18: by way of 1", x.chain(9, 0, 1), 1);
        Check.is("19: by way of 1", x.lastsUntil(9, 0), 81);
        x.revoke(0, 1, 0);
        Check.is("18: by way of 2", x.chain(9, 0, 1), 2);
        Check.is("19: by way of 2", x.lastsUntil(9, 0), 51);
        Check.is("16: not 1 itself", x.policies(1), 0);
        Check.fails("15: not told", Check.INDEX, () -> x.grantAt(3, 0));
        Check.fails("13: not there", Check.ELEMENT, () -> x.revoke(0, 1, 0));
        Check.is("14: not counted", x.grantCount(true), 3);
        x.grant(0, 1, 0, 1, 80);
        x.undo();
        Check.is("18: by way of 2, after undo", x.chain(9, 0, 1), 2);
        x.revoke(1, 9, 0);
        x.revoke(2, 9, 0);
        Check.is("16: of 9", x.policies(9), 0);
    }

    private static void atMostOne() {
        Check.sentence("at most one for the same two subjects and the same policy.");
        PolicyEngine x = new PolicyEngine();
        Check.is("12: one", x.grant(1, 2, 0, 1, 1), 1);
        Check.is("12: the same", x.grant(1, 2, 0, 5, 9), 1);
        Check.is("12: another policy", x.grant(1, 2, 1, 2, 2), 2);
        Check.is("12: other direction", x.grant(2, 1, 0, 3, 3), 3);
        Check.is("12: from another", x.grant(3, 2, 0, 4, 4), 4);
        Check.is("12: to another", x.grant(1, 3, 0, 5, 5), 5);
        Check.is("12: again", x.grant(1, 2, 0, 0, 0), 5);
        Check.is("15: as told", Check.grants(x), "1,2,0,0,0;1,2,1,2,2;2,1,0,3,3;3,2,0,4,4;1,3,0,5,5;");
    }

    private static void validity() {
        Check.sentence("A grant is valid if its expiry is not less than the clock.");
        PolicyEngine x = new PolicyEngine();
        x.grant(0, 1, 0, 0, 6);
        x.grant(0, 2, 1, 0, 7);
        x.grant(0, 3, 2, 0, 8);
        Check.is("20: at 7", x.tick(7), 2);
        Check.is("14: at 7", x.grantCount(true), 2);
        Check.is("14: all", x.grantCount(false), 3);
        Check.is("16: one tick too late", x.policies(1), 0);
        Check.is("16: at the last tick", x.policies(2), 2);
        Check.is("16: one tick left", x.policies(3), 4);
        Check.is("12: made when it has expired", x.grant(0, 1, 3, 5, 6), 4);
        Check.is("16: it is not valid", x.policies(1), 0);
        x.grant(0, 1, 3, 5, 7);
        Check.is("16: valid in its place", x.policies(1), 8);
    }

    private static void validityAtTheEnds() {
        Check.sentence("Returns the number of grants that are valid then.");
        PolicyEngine x = new PolicyEngine();
        x.grant(0, 1, 0, 0, 1000);
        x.grant(0, 2, 0, 0, 999);
        x.grant(0, 3, 0, 0, 0);
        Check.is("14: at 0", x.grantCount(true), 3);
        for (int number = 1; number < 10; number++) {
            Check.is("20: at " + 100 * number, x.tick(100), 2);
        }
        Check.is("20: at 999", x.tick(99), 2);
        Check.is("20: at 1000", x.tick(1), 1);
        Check.is("17: at 1000", x.chainLength(1, 0), 1);
        Check.is("20: at 1001", x.tick(1), 0);
        Check.fails("17: at 1001", Check.ELEMENT, () -> x.chainLength(1, 0));
        Check.is("14: all", x.grantCount(false), 3);
        Check.is("14: none is valid", x.grantCount(true), 0);
    }

    private static void firstFromSubjectZero() {
        Check.sentence("in which the first one leads from subject 0");
        PolicyEngine x = new PolicyEngine();
        x.grant(1, 2, 0, 5, 9);
        x.grant(2, 1, 0, 5, 9);
        Check.is("16: a ring", x.policies(1), 0);
        Check.is("16: the other of it", x.policies(2), 0);
        x.grant(0, 1, 0, 5, 9);
        Check.is("16: from 0", x.policies(1), 1);
        Check.is("16: behind it", x.policies(2), 1);
    }

    private static void eachFurther() {
        Check.sentence("each further one leads from the subject to which the one before it leads, and the last one leads "
                + "to the subject");
        PolicyEngine x = new PolicyEngine();
        x.grant(0, 1, 2, 5, 9);
        x.grant(3, 4, 2, 5, 9);
        Check.is("16: a gap", x.policies(4), 0);
        Check.is("16: before the gap", x.policies(3), 0);
        x.grant(2, 1, 2, 5, 9);
        x.grant(3, 2, 2, 5, 9);
        Check.is("16: in the other direction", x.policies(2), 0);
        x.grant(1, 3, 2, 5, 9);
        Check.is("16: closed", x.policies(4), 4);
        Check.is("17: of 4", x.chainLength(4, 2), 3);
        Check.is("17: of 2", x.chainLength(2, 2), 3);
    }

    private static void forThisPolicy() {
        Check.sentence("is a sequence of valid grants for this policy");
        PolicyEngine x = new PolicyEngine();
        x.grant(0, 1, 0, 5, 9);
        x.grant(1, 2, 1, 5, 9);
        Check.is("16: of two policies", x.policies(2), 0);
        Check.fails("17: for the first", Check.ELEMENT, () -> x.chainLength(2, 0));
        Check.fails("17: for the second", Check.ELEMENT, () -> x.chainLength(2, 1));
        x.grant(0, 1, 1, 5, 9);
        Check.is("16: of the second", x.policies(2), 2);
    }

    private static void depthOfEach() {
        Check.sentence("the depth of each grant is at least the number of grants that come after it in the chain.");
        for (int weak = 0; weak < 4; weak++) {
            PolicyEngine x = new PolicyEngine();
            for (int index = 0; index < 4; index++) {
                x.grant(index, index + 1, 3, 3 - index, 50);
            }
            Check.is("17: just deep enough", x.chainLength(4, 3), 4);
            if (weak < 3) {
                x.grant(weak, weak + 1, 3, 2 - weak, 50);
                Check.fails("17: too flat at " + weak, Check.ELEMENT, () -> x.chainLength(4, 3));
                Check.is("17: one less after it", x.chainLength(3, 3), 3);
            }
        }
        PolicyEngine x = new PolicyEngine();
        x.grant(0, 1, 0, 0, 9);
        Check.is("16: depth 0 with none after it", x.policies(1), 1);
        x.grant(1, 2, 0, 0, 9);
        Check.is("16: depth 0 with one after it", x.policies(2), 0);
        x.grant(0, 1, 0, 1, 9);
        Check.is("16: depth 1 with one after it", x.policies(2), 1);
    }

    private static void longestChain() {
        Check.sentence("has a depth from 0 to 5");
        PolicyEngine x = new PolicyEngine();
        for (int index = 0; index < 9; index++) {
            x.grant(index, index + 1, 0, 5, 100);
        }
        for (int subject = 0; subject <= 6; subject++) {
            Check.is("17: of " + subject, x.chainLength(subject, 0), subject);
            Check.is("18: its end", x.chain(subject, 0, subject), subject);
        }
        for (int subject = 7; subject < 10; subject++) {
            int each = subject;
            Check.is("16: too far for " + subject, x.policies(subject), 0);
            Check.fails("17: too far for " + subject, Check.ELEMENT, () -> x.chainLength(each, 0));
            Check.fails("18: too far for " + subject, Check.ELEMENT, () -> x.chain(each, 0, 0));
            Check.fails("19: too far for " + subject, Check.ELEMENT, () -> x.lastsUntil(each, 0));
        }
        for (int index = 0; index <= 6; index++) {
            Check.is("18: subject " + index + " of the longest", x.chain(6, 0, index), index);
        }
        Check.fails("18: behind the longest", Check.ELEMENT, () -> x.chain(6, 0, 7));
    }

    private static void onlyValidOnes() {
        Check.sentence("is a sequence of valid grants");
        for (int weak = 0; weak < 3; weak++) {
            PolicyEngine x = new PolicyEngine();
            for (int index = 0; index < 3; index++) {
                x.grant(index, index + 1, 1, 5, index == weak ? 4 : 90);
            }
            x.tick(4);
            Check.is("17: at the last tick of " + weak, x.chainLength(3, 1), 3);
            x.tick(1);
            Check.fails("17: one later", Check.ELEMENT, () -> x.chainLength(3, 1));
            for (int subject = 1; subject < 4; subject++) {
                Check.is("16: subject " + subject + " without " + weak, x.policies(subject), subject <= weak ? 2 : 0);
            }
        }
    }

    private static void subjectZero() {
        Check.sentence("Subject 0 may use each policy, with a chain without grants.");
        PolicyEngine x = new PolicyEngine();
        for (int time = 0; time < 2; time++) {
            Check.is("16: all", x.policies(0), 15);
            for (int policy = 0; policy < 4; policy++) {
                int each = policy;
                Check.is("17: no grants", x.chainLength(0, policy), 0);
                Check.is("18: itself", x.chain(0, policy, 0), 0);
                Check.fails("18: at 1", Check.ELEMENT, () -> x.chain(0, each, 1));
                Check.fails("18: at -1", Check.ELEMENT, () -> x.chain(0, each, -1));
            }
            for (int number = 0; number < 20 && time == 0; number++) {
                x.tick(100);
            }
        }
    }

    private static void grantsToSubjectZero() {
        Check.sentence("Returns the number, 0 for subject 0.");
        PolicyEngine x = new PolicyEngine();
        x.grant(0, 1, 0, 5, 100);
        x.grant(1, 0, 0, 5, 100);
        Check.is("17: with a ring", x.chainLength(0, 0), 0);
        Check.is("18: with a ring", x.chain(0, 0, 0), 0);
        Check.is("17: of the other", x.chainLength(1, 0), 1);
        x.grant(0, 2, 0, 0, 100);
        Check.is("17: not by way of the ring", x.chainLength(2, 0), 1);
    }

    private static void chainForBoth() {
        Check.sentence("Another subject may use a policy if there is a chain for both.");
        PolicyEngine x = new PolicyEngine();
        x.grant(0, 1, 0, 1, 100);
        x.grant(1, 9, 0, 0, 100);
        x.grant(0, 1, 3, 0, 100);
        x.grant(1, 9, 3, 5, 100);
        Check.is("16: the first subject", x.policies(1), 9);
        Check.is("16: the last subject", x.policies(9), 1);
        Check.is("17: a chain", x.chainLength(9, 0), 2);
        Check.fails("17: no chain for the policy", Check.ELEMENT, () -> x.chainLength(9, 3));
        Check.fails("17: no chain for the subject", Check.ELEMENT, () -> x.chainLength(8, 0));
        Check.fails("17: no chain for both", Check.ELEMENT, () -> x.chainLength(8, 3));
    }

    private static void mayUse() {
        Check.sentence("Returns the set of policies.");
        PolicyEngine x = new PolicyEngine();
        Check.is("16: none", x.policies(9), 0);
        int set = 0;
        for (int policy = 3; policy >= 0; policy--) {
            x.grant(0, 9, policy, 0, 10);
            set += 1 << policy;
            Check.is("16: from policy " + policy, x.policies(9), set);
        }
        Check.is("16: all", x.policies(9), 15);
        x.revoke(0, 9, 1);
        Check.is("16: but one", x.policies(9), 13);
    }

    private static void fewestGrants() {
        Check.sentence("The chain that counts is one with the fewest grants");
        PolicyEngine x = new PolicyEngine();
        x.grant(0, 1, 0, 5, 100);
        x.grant(1, 2, 0, 5, 100);
        x.grant(2, 9, 0, 5, 100);
        Check.is("17: three", x.chainLength(9, 0), 3);
        x.grant(0, 8, 0, 5, 100);
        x.grant(8, 9, 0, 5, 100);
        Check.is("17: two, though 8 comes after 1", x.chainLength(9, 0), 2);
        Check.is("18: two", x.chain(9, 0, 1), 8);
        x.grant(0, 9, 0, 0, 20);
        Check.is("17: one", x.chainLength(9, 0), 1);
        Check.is("18: one", x.chain(9, 0, 1), 9);
        x.tick(21);
        Check.is("17: two again", x.chainLength(9, 0), 2);
    }

    private static void lexicographicallyFirst() {
        Check.sentence("of several, the one whose sequence of subjects is lexicographically first.");
        PolicyEngine x = new PolicyEngine();
        x.grant(0, 7, 0, 5, 100);
        x.grant(7, 1, 0, 5, 100);
        x.grant(1, 9, 0, 5, 100);
        x.grant(0, 6, 0, 5, 100);
        x.grant(6, 8, 0, 5, 100);
        x.grant(8, 9, 0, 5, 100);
        Check.is("18: the first subject is the lower", x.chain(9, 0, 1), 6);
        Check.is("18: though the second is greater", x.chain(9, 0, 2), 8);
        x.grant(6, 5, 0, 5, 100);
        x.grant(5, 9, 0, 5, 100);
        Check.is("18: the second is the lower", x.chain(9, 0, 2), 5);
        x.grant(6, 4, 0, 5, 100);
        Check.is("18: one that does not lead there", x.chain(9, 0, 2), 5);
        x.grant(4, 9, 0, 5, 100);
        Check.is("18: now it does", x.chain(9, 0, 2), 4);
        int[] due = {0, 6, 4, 9};
        for (int index = 0; index < 4; index++) {
            Check.is("18: at " + index, x.chain(9, 0, index), due[index]);
        }
    }

    private static void lexicographicallyFirstAmongThoseThatReach() {
        Check.sentence("Returns a subject of the chain that counts.");
        PolicyEngine x = new PolicyEngine();
        x.grant(0, 1, 0, 0, 100);
        x.grant(1, 3, 0, 5, 100);
        x.grant(0, 2, 0, 1, 100);
        x.grant(2, 3, 0, 0, 100);
        Check.is("18: the lower one is too flat", x.chain(3, 0, 1), 2);
        x.grant(0, 1, 0, 1, 5);
        Check.is("18: deep enough", x.chain(3, 0, 1), 1);
        x.tick(6);
        Check.is("18: expired", x.chain(3, 0, 1), 2);
        x.grant(0, 1, 0, 1, 100);
        x.grant(1, 3, 0, 0, 5);
        Check.is("18: the next one expired", x.chain(3, 0, 1), 2);
        x.grant(1, 3, 1, 5, 100);
        Check.is("18: of another policy", x.chain(3, 0, 1), 2);
    }

    private static void indexOfChain() {
        Check.sentence("the index in the sequence of subjects, from 0, which is subject 0");
        PolicyEngine x = new PolicyEngine();
        x.grant(0, 5, 3, 1, 100);
        x.grant(5, 4, 3, 0, 100);
        int[] due = {0, 5, 4};
        for (int index = 0; index < 3; index++) {
            Check.is("18: at " + index, x.chain(4, 3, index), due[index]);
        }
        Check.fails("18: at -1", Check.ELEMENT, () -> x.chain(4, 3, -1));
        Check.fails("18: at 3", Check.ELEMENT, () -> x.chain(4, 3, 3));
        Check.fails("18: at 2 of the shorter", Check.ELEMENT, () -> x.chain(5, 3, 2));
        Check.fails("18: at 0 without a chain", Check.ELEMENT, () -> x.chain(4, 2, 0));
    }

    private static void lastsUntilNext() {
        Check.sentence("Returns the least clock, not less than the present one, at which a subject may not use a policy "
                + "any more if nothing changes but the clock.");
        PolicyEngine x = new PolicyEngine();
        x.grant(0, 1, 0, 0, 0);
        Check.is("19: expiry 0 at 0", x.lastsUntil(1, 0), 1);
        x.grant(0, 1, 0, 0, 7);
        Check.is("19: expiry 7 at 0", x.lastsUntil(1, 0), 8);
        x.tick(6);
        Check.is("19: at 6", x.lastsUntil(1, 0), 8);
        x.tick(1);
        Check.is("19: at 7", x.lastsUntil(1, 0), 8);
        x.tick(1);
        Check.fails("19: at 8", Check.ELEMENT, () -> x.lastsUntil(1, 0));
    }

    private static void lastsUntilTheEnd() {
        Check.sentence("Returns the clock.");
        PolicyEngine x = new PolicyEngine();
        x.grant(0, 1, 3, 5, 1000);
        x.grant(1, 2, 3, 4, 1000);
        Check.is("19: at 0", x.lastsUntil(2, 3), 1001);
        for (int number = 0; number < 10; number++) {
            x.tick(100);
        }
        Check.is("19: at 1000", x.lastsUntil(2, 3), 1001);
        x.tick(1);
        Check.fails("19: at 1001", Check.ELEMENT, () -> x.lastsUntil(2, 3));
    }

    private static void lastsUntilOfSeveral() {
        Check.sentence("at which a subject may not use a policy any more");
        PolicyEngine x = new PolicyEngine();
        x.grant(0, 1, 0, 0, 3);
        x.grant(0, 2, 0, 2, 40);
        x.grant(2, 3, 0, 1, 30);
        x.grant(3, 1, 0, 0, 20);
        Check.is("19: the longer chain lasts longer", x.lastsUntil(1, 0), 21);
        x.grant(2, 1, 0, 0, 10);
        Check.is("19: one between them", x.lastsUntil(1, 0), 21);
        x.grant(2, 1, 0, 0, 35);
        Check.is("19: a better one", x.lastsUntil(1, 0), 36);
        x.grant(0, 2, 0, 0, 40);
        Check.is("19: not deep enough", x.lastsUntil(1, 0), 4);
        x.grant(0, 1, 1, 0, 99);
        Check.is("19: another policy does not matter", x.lastsUntil(1, 0), 4);
    }

    private static void lastsUntilRefused() {
        Check.sentence("if the subject is 0");
        PolicyEngine x = new PolicyEngine();
        x.grant(1, 0, 0, 5, 100);
        for (int policy = 0; policy < 4; policy++) {
            int each = policy;
            Check.fails("19: subject 0, policy " + policy, Check.ARGUMENT, () -> x.lastsUntil(0, each));
            Check.fails("19: subject 1, policy " + policy, Check.ELEMENT, () -> x.lastsUntil(1, each));
        }
        Check.fails("19: subject 0, policy 4", Check.INDEX, () -> x.lastsUntil(0, 4));
        Check.fails("19: subject 10, policy 0", Check.INDEX, () -> x.lastsUntil(10, 0));
        Check.fails("19: subject -1, policy 0", Check.INDEX, () -> x.lastsUntil(-1, 0));
    }

    private static void replacedKeepsItsPlace() {
        Check.sentence("A grant that is replaced keeps its place");
        PolicyEngine x = new PolicyEngine();
        x.grant(0, 1, 0, 1, 1);
        x.grant(0, 2, 0, 2, 2);
        x.grant(0, 3, 0, 3, 3);
        x.grant(0, 1, 0, 4, 11);
        Check.is("12: the first", Check.grants(x), "0,1,0,4,11;0,2,0,2,2;0,3,0,3,3;");
        x.grant(0, 2, 0, 5, 12);
        x.grant(0, 3, 0, 0, 0);
        Check.is("12: the others", Check.grants(x), "0,1,0,4,11;0,2,0,5,12;0,3,0,0,0;");
        x.tick(100);
        x.grant(0, 1, 0, 5, 1000);
        Check.is("12: one that had expired", Check.grants(x), "0,1,0,5,1000;0,2,0,5,12;0,3,0,0,0;");
    }

    private static void revokedComesLast() {
        Check.sentence("and one that was revoked and is made again comes last.");
        PolicyEngine x = new PolicyEngine();
        x.grant(0, 1, 0, 1, 1);
        x.grant(0, 2, 0, 2, 2);
        x.grant(0, 3, 0, 3, 3);
        x.revoke(0, 1, 0);
        Check.is("12: the first again", x.grant(0, 1, 0, 1, 1), 3);
        Check.is("15: is the last", Check.grants(x), "0,2,0,2,2;0,3,0,3,3;0,1,0,1,1;");
        x.revoke(0, 1, 0);
        x.grant(0, 1, 0, 1, 2);
        Check.is("15: the last again", Check.grants(x), "0,2,0,2,2;0,3,0,3,3;0,1,0,1,2;");
        x.revoke(0, 2, 0);
        x.undo();
        Check.is("15: undone, it keeps its place", Check.grants(x), "0,2,0,2,2;0,3,0,3,3;0,1,0,1,2;");
    }

    private static void revokeReturns() {
        Check.sentence("Returns the number of grants that remain.");
        PolicyEngine x = thirty();
        Check.is("13: of 30", x.revoke(5, 9, 3), 29);
        for (int number = 0; number < 29; number++) {
            Check.is("13: the first of them", x.revoke(number % 8, 9, number / 8), 28 - number);
        }
        Check.fails("13: none is left", Check.ELEMENT, () -> x.revoke(0, 9, 0));
        Check.is("14: none", x.grantCount(false), 0);
        Check.is("12: the first again", x.grant(9, 8, 3, 0, 0), 1);
    }

    private static void noSuchGrant() {
        Check.sentence("if there is no such grant");
        PolicyEngine x = new PolicyEngine();
        Check.fails("13: without grants", Check.ELEMENT, () -> x.revoke(0, 1, 0));
        Check.fails("15: without grants", Check.INDEX, () -> x.grantAt(0, 0));
        x.grant(1, 2, 3, 4, 5);
        Check.fails("13: from another", Check.ELEMENT, () -> x.revoke(0, 2, 3));
        Check.fails("13: to another", Check.ELEMENT, () -> x.revoke(1, 3, 3));
        Check.fails("13: another policy", Check.ELEMENT, () -> x.revoke(1, 2, 2));
        Check.fails("13: other direction", Check.ELEMENT, () -> x.revoke(2, 1, 3));
        Check.fails("13: the same subjects", Check.ELEMENT, () -> x.revoke(2, 2, 3));
        for (int what = 0; what < 5; what++) {
            Check.is("15: " + what, x.grantAt(0, what), what + 1);
        }
        Check.fails("15: what -1", Check.ARGUMENT, () -> x.grantAt(0, -1));
        Check.fails("15: what 5", Check.ARGUMENT, () -> x.grantAt(0, 5));
        Check.fails("15: index 1", Check.INDEX, () -> x.grantAt(1, 0));
        Check.fails("15: index -1", Check.INDEX, () -> x.grantAt(-1, 0));
        x.tick(6);
        Check.is("15: one that expired is there", x.grantAt(0, 4), 5);
        Check.is("13: and is revoked", x.revoke(1, 2, 3), 0);
        Check.fails("13: gone", Check.ELEMENT, () -> x.revoke(1, 2, 3));
    }

    private static void order() {
        Check.sentence("the index in the order in which the grants were made first, from 0");
        PolicyEngine x = thirty();
        for (int index = 0; index < 30; index++) {
            Check.is("15: from, of " + index, x.grantAt(index, 0), index % 8);
            Check.is("15: policy of " + index, x.grantAt(index, 2), index / 8);
        }
        x.revoke(2, 9, 1);
        Check.is("15: before the revoked one", x.grantAt(9, 0), 1);
        Check.is("15: behind it", x.grantAt(10, 0), 3);
        Check.is("15: the last", x.grantAt(28, 0), 5);
        Check.fails("15: one less", Check.INDEX, () -> x.grantAt(29, 0));
    }

    private static void ticks() {
        Check.sentence("if ticks is out of range");
        PolicyEngine x = new PolicyEngine();
        Check.fails("20: 0", Check.ARGUMENT, () -> x.tick(0));
        Check.fails("20: -1", Check.ARGUMENT, () -> x.tick(-1));
        Check.fails("20: 101", Check.ARGUMENT, () -> x.tick(101));
        Check.is("20: clock stays", clock(x), 0);
        x.tick(1);
        Check.is("20: 1", clock(x), 1);
        x.tick(100);
        Check.is("20: 100", clock(x), 101);
        Check.fails("20: a sum that wraps around", Check.ARGUMENT, () -> x.tick(Integer.MAX_VALUE));
        Check.fails("20: the least number", Check.ARGUMENT, () -> x.tick(Integer.MIN_VALUE));
        Check.is("20: clock stays then", clock(x), 101);
    }

    private static void lastClock() {
        Check.sentence("if the clock would become greater than 2000");
        PolicyEngine x = new PolicyEngine();
        for (int number = 0; number < 19; number++) {
            x.tick(100);
        }
        x.tick(1);
        Check.fails("20: to 2001", Check.STATE, () -> x.tick(100));
        Check.is("20: at 1901", clock(x), 1901);
        Check.is("20: to 2000", x.tick(99), 0);
        Check.is("20: at 2000", clock(x), 2000);
        Check.fails("20: one more", Check.STATE, () -> x.tick(1));
        Check.fails("20: a hundred more", Check.STATE, () -> x.tick(100));
        Check.fails("20: 101 more", Check.ARGUMENT, () -> x.tick(101));
        Check.fails("20: none more", Check.ARGUMENT, () -> x.tick(0));
        Check.is("20: still 2000", clock(x), 2000);
    }

    private static void validThen() {
        Check.sentence("true to count only the valid ones, false to count all");
        PolicyEngine x = thirty();
        Check.is("14: all valid", x.grantCount(true), 30);
        Check.is("14: all", x.grantCount(false), 30);
        Check.is("20: at 10", x.tick(10), 30);
        Check.is("20: at 11", x.tick(1), 0);
        Check.is("14: none valid", x.grantCount(true), 0);
        Check.is("14: all still", x.grantCount(false), 30);
        x.grant(0, 9, 0, 0, 11);
        Check.is("14: one valid", x.grantCount(true), 1);
    }
}
