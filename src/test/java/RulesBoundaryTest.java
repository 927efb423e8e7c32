/** Promises 1 to 9: a test for each sentence that says where a number ends, what is refused, or what is full. */
public final class RulesBoundaryTest {
    private static final Class<IllegalArgumentException> ARGUMENT = IllegalArgumentException.class;
    private static final Class<IllegalStateException> STATE = IllegalStateException.class;
    private static final Class<IndexOutOfBoundsException> PLACE = IndexOutOfBoundsException.class;

    private static final Due DUE = new Due();

    public static void main(String[] args) {
        newListIsEmpty();
        sourcesGoFromLeastToGreatest();
        destinationsGoFromLeastToGreatest();
        protocolsGoFromOneToFifteen();
        numbersFarOutAreRefused();
        placesAreNumberedFromZero();
        seventeenthRuleIsRefused();
        fullListHasRoomAgain();
        wrongNumberComesBeforeFullList();
        hitsAreZeroAtFirst();
        removeAtTheEnds();
        removeFromFullAndToEmpty();
        removeCountsFromNoneToAll();
        removeWithoutSuchPlace();
        moveBetweenTheEnds();
        moveOfTheOnlyRule();
        moveCountsFromNoneToAll();
        moveWithoutSuchPlace();
        rulesFromNoneToSixteen();
        rangesAreToldAsTheyWereAdded();
        setsAndActionsAreToldAsTheyWereAdded();
        rangesWithoutSuchPlace();
        DUE.end("RulesBoundaryTest");
    }

    // Promise 1: "Creates a compiler with an empty list."
    private static void newListIsEmpty() {
        Aclsmith smith = new Aclsmith();
        DUE.is("1 rules", smith.rules(), 0);
        DUE.refusesPlaces("1 sources", 0, smith::sources);
        DUE.refusesPlaces("1 remove", 0, smith::remove);
        DUE.refusesPlaces("1 move", 0, place -> smith.move(place, place));
        DUE.is("1 the first place", Lists.addAll(smith, true), 0);
        DUE.is("1 rules of one more object", new Aclsmith().rules(), 0);
    }

    private static boolean isRange(int from, int to) {
        return 0 <= from && from <= to && to <= 31;
    }

    // Promise 2: "the least source, 0 to 31", "the greatest source, sourceFrom to 31"
    private static void sourcesGoFromLeastToGreatest() {
        for (int least = -2; least <= 33; least++) {
            Aclsmith smith = new Aclsmith();
            int from = least;
            for (int greatest = -2; greatest <= 33; greatest++) {
                int to = greatest;
                String call = "2 add sources " + from + " " + to;
                if (isRange(from, to)) {
                    DUE.is(call, smith.add(from, to, 0, 0, 1, true), 0);
                    DUE.is(call + ", packets", smith.remove(0), to - from + 1);
                } else {
                    DUE.refuses(call, ARGUMENT, () -> smith.add(from, to, 0, 0, 1, true));
                }
            }
            DUE.is("2 rules", smith.rules(), 0);
        }
    }

    // Promise 2: "the least destination, 0 to 31", "the greatest destination, destinationFrom to 31"
    private static void destinationsGoFromLeastToGreatest() {
        for (int least = -2; least <= 33; least++) {
            Aclsmith smith = new Aclsmith();
            int from = least;
            for (int greatest = -2; greatest <= 33; greatest++) {
                int to = greatest;
                String call = "2 add destinations " + from + " " + to;
                if (isRange(from, to)) {
                    DUE.is(call, smith.add(31, 31, from, to, 8, true), 0);
                    DUE.is(call + ", packets", smith.remove(0), to - from + 1);
                } else {
                    DUE.refuses(call, ARGUMENT, () -> smith.add(31, 31, from, to, 8, true));
                }
            }
            DUE.is("2 rules", smith.rules(), 0);
        }
    }

    // Promise 2: "the set of protocols, 1 to 15"
    private static void protocolsGoFromOneToFifteen() {
        Aclsmith smith = new Aclsmith();
        for (int protocols = -17; protocols <= 33; protocols++) {
            int set = protocols;
            if (set >= 1 && set <= 15) {
                DUE.is("2 add set " + set, smith.add(0, 0, 0, 0, set, true), 0);
                DUE.is("2 packets of set " + set, smith.remove(0), Integer.bitCount(set));
            } else {
                DUE.refuses("2 add set " + set, ARGUMENT, () -> smith.add(0, 0, 0, 0, set, true));
            }
        }
        DUE.is("2 rules", smith.rules(), 0);
    }

    // Promise 2: "if one of the numbers is out of range", each of the five by itself
    private static void numbersFarOutAreRefused() {
        Aclsmith smith = new Aclsmith();
        for (int number : Lists.farOut()) {
            DUE.refuses("2 add sourceFrom " + number, ARGUMENT, () -> smith.add(number, 31, 0, 31, 15, true));
            DUE.refuses("2 add sourceTo " + number, ARGUMENT, () -> smith.add(0, number, 0, 31, 15, true));
            DUE.refuses("2 add destinationFrom " + number, ARGUMENT, () -> smith.add(0, 31, number, 31, 15, true));
            DUE.refuses("2 add destinationTo " + number, ARGUMENT, () -> smith.add(0, 31, 0, number, 15, true));
            DUE.refuses("2 add protocols " + number, ARGUMENT, () -> smith.add(0, 31, 0, 31, number, true));
            DUE.refuses("2 add all " + number, ARGUMENT,
                    () -> smith.add(number, number, number, number, number, false));
        }
        DUE.is("2 rules", smith.rules(), 0);
    }

    // Promise 2: "Returns its place.", places are "numbered from 0", "there are at most 16 rules"
    private static void placesAreNumberedFromZero() {
        Aclsmith smith = new Aclsmith();
        for (int place = 0; place < 16; place++) {
            DUE.is("2 add", smith.add(place, place, 0, 0, 1, true), place);
            DUE.is("2 at the end of the list", smith.sources(place), 101 * place);
        }
    }

    // Promise 2: "Throws IllegalStateException if there are 16 rules"
    private static void seventeenthRuleIsRefused() {
        Aclsmith smith = Lists.single(15);
        DUE.is("2 add the 16th", Lists.addAll(smith, true), 15);
        for (int time = 0; time < 3; time++) {
            DUE.refuses("2 add the 17th", STATE, () -> smith.add(0, 0, 0, 0, 1, true));
            DUE.refuses("2 add the 17th, all packets", STATE, () -> Lists.addAll(smith, false));
        }
        DUE.is("2 rules", smith.rules(), 16);
        DUE.is("2 the last one stays", smith.sources(15), 31);
        DUE.is("2 move leaves it full", smith.move(15, 0), 7 * 128);
        DUE.refuses("2 add after move", STATE, () -> Lists.addAll(smith, true));
    }

    // Promise 2: only 16 rules are in the way
    private static void fullListHasRoomAgain() {
        Aclsmith removed = Lists.alike(16);
        removed.remove(15);
        DUE.is("2 add after remove", Lists.addAll(removed, true), 15);
        DUE.refuses("2 add, full again", STATE, () -> Lists.addAll(removed, true));
        Aclsmith shortened = Lists.alike(16);
        DUE.is("2 shorten", shortened.shorten(), 15);
        for (int place = 1; place < 16; place++) {
            DUE.is("2 add after shorten", Lists.addAll(shortened, true), place);
        }
        DUE.refuses("2 add, full again", STATE, () -> Lists.addAll(shortened, true));
    }

    // Terms: "If several exceptions apply, the one that is documented first is thrown."
    private static void wrongNumberComesBeforeFullList() {
        Aclsmith smith = Lists.single(16);
        DUE.refuses("2 add, full, sourceFrom", ARGUMENT, () -> smith.add(-1, 31, 0, 31, 15, true));
        DUE.refuses("2 add, full, sourceTo", ARGUMENT, () -> smith.add(5, 4, 0, 31, 15, true));
        DUE.refuses("2 add, full, sourceTo", ARGUMENT, () -> smith.add(5, 32, 0, 31, 15, true));
        DUE.refuses("2 add, full, destinationFrom", ARGUMENT, () -> smith.add(0, 31, -1, 31, 15, true));
        DUE.refuses("2 add, full, destinationTo", ARGUMENT, () -> smith.add(0, 31, 5, 4, 15, true));
        DUE.refuses("2 add, full, destinationTo", ARGUMENT, () -> smith.add(0, 31, 5, 32, 15, true));
        DUE.refuses("2 add, full, protocols", ARGUMENT, () -> smith.add(0, 31, 0, 31, 0, true));
        DUE.refuses("2 add, full, protocols", ARGUMENT, () -> smith.add(0, 31, 0, 31, 16, true));
        DUE.refuses("2 add, full, nothing wrong", STATE, () -> smith.add(0, 31, 0, 31, 15, true));
    }

    // Terms: "and hits, which are 0 at first"
    private static void hitsAreZeroAtFirst() {
        Aclsmith smith = new Aclsmith();
        smith.judge(0, 0, 0);
        Lists.addAll(smith, true);
        DUE.is("2 hits after misses", smith.hits(0), 0);
        smith.judge(0, 0, 0);
        Lists.addAll(smith, true);
        DUE.is("2 hits behind a rule with hits", smith.hits(1), 0);
        smith.remove(0);
        DUE.is("2 hits of the one that stays", smith.hits(0), 0);
    }

    // Promise 3: "Removes a rule.", the first, the last and one between
    private static void removeAtTheEnds() {
        Aclsmith smith = Lists.single(6);
        DUE.is("3 remove the first", smith.remove(0), 128);
        DUE.is("3 order", Lists.order(smith), "1 2 3 4 5");
        DUE.is("3 remove the last", smith.remove(4), 0);
        DUE.is("3 order", Lists.order(smith), "1 2 3 4");
        DUE.is("3 remove one between", smith.remove(1), 128);
        DUE.is("3 order", Lists.order(smith), "1 3 4");
    }

    // Promise 3: a full list, an only rule, and no rule left
    private static void removeFromFullAndToEmpty() {
        Aclsmith smith = Lists.single(16);
        for (int last = 15; last >= 0; last--) {
            int behind = last + 1;
            DUE.refuses("3 remove behind the last", PLACE, () -> smith.remove(behind));
            DUE.is("3 remove the last", smith.remove(last), last % 2 == 0 ? 128 : 0);
            DUE.is("3 rules", smith.rules(), last);
        }
        DUE.refusesPlaces("3 remove from an empty list", 0, smith::remove);
        DUE.is("3 add to it", Lists.addAll(smith, true), 0);
    }

    // Promise 3: "how many packets are permitted instead of denied, or denied instead of permitted, by that"
    private static void removeCountsFromNoneToAll() {
        Aclsmith denies = new Aclsmith();
        Lists.addAll(denies, false);
        Lists.addAll(denies, true);
        DUE.is("3 remove, all are permitted instead", denies.remove(0), 4096);
        DUE.is("3 remove, all are denied instead", denies.remove(0), 4096);
        Lists.addAll(denies, false);
        DUE.is("3 remove a deny of all, none changes", denies.remove(0), 0);
        Aclsmith both = Lists.alike(2);
        both.add(0, 0, 0, 0, 1, false);
        DUE.is("3 remove a shadowed one, none changes", both.remove(2), 0);
        DUE.is("3 remove one of two equal ones, none changes", both.remove(0), 0);
        both.add(31, 31, 31, 31, 8, false);
        both.move(1, 0);
        DUE.is("3 remove, one changes", both.remove(0), 1);
        // Some are denied instead and some are permitted instead: both count, and none against another.
        Aclsmith mixed = new Aclsmith();
        mixed.add(0, 3, 0, 0, 1, false);
        mixed.add(0, 1, 0, 0, 1, true);
        mixed.add(0, 3, 0, 0, 1, false);
        DUE.is("3 remove, 2 of 4 change", mixed.remove(0), 2);
        DUE.is("3 remove, 2 change back", mixed.remove(0), 2);
    }

    // Promise 3: "Throws IndexOutOfBoundsException if there is no such place"
    private static void removeWithoutSuchPlace() {
        for (int rules = 0; rules <= 16; rules++) {
            Aclsmith smith = Lists.single(rules);
            DUE.refusesPlaces("3 remove", rules, smith::remove);
            for (int place : Lists.farOut()) {
                if (place < 0 || place >= rules) {
                    DUE.refuses("3 remove " + place, PLACE, () -> smith.remove(place));
                }
            }
            DUE.is("3 rules", smith.rules(), rules);
        }
    }

    /** The order of the list after a move, told by the document's words: taken out, then put in. */
    private static String movedOrder(int rules, int from, int to) {
        StringBuilder words = new StringBuilder();
        int next = 0;
        for (int place = 0; place < rules; place++) {
            if (next == from) {
                next++;
            }
            words.append(place == 0 ? "" : " ").append(place == to ? from : next);
            if (place != to) {
                next++;
            }
        }
        return words.toString();
    }

    // Promise 4: "it is taken out of the list, and put in so that it stands at another place"
    private static void moveBetweenTheEnds() {
        for (int rules : new int[] {1, 2, 3, 16}) {
            for (int from = 0; from < rules; from++) {
                for (int to = 0; to < rules; to++) {
                    Aclsmith smith = Lists.single(rules);
                    DUE.is("4 move " + from + " " + to, smith.move(from, to), 0);
                    DUE.is("4 order", Lists.order(smith), movedOrder(rules, from, to));
                }
            }
        }
    }

    // Promise 4: an only rule can stand at one place alone
    private static void moveOfTheOnlyRule() {
        Aclsmith smith = Lists.single(1);
        DUE.is("4 move to where it stands", smith.move(0, 0), 0);
        DUE.refuses("4 move behind itself", PLACE, () -> smith.move(0, 1));
        DUE.refuses("4 move ahead of the list", PLACE, () -> smith.move(0, -1));
        DUE.is("4 rules", smith.rules(), 1);
    }

    // Promise 4: "how many packets are permitted instead of denied, or denied instead of permitted, by that"
    private static void moveCountsFromNoneToAll() {
        Aclsmith smith = new Aclsmith();
        Lists.addAll(smith, true);
        Lists.addAll(smith, false);
        DUE.is("4 move, all are denied instead", smith.move(0, 1), 4096);
        DUE.is("4 move, all are permitted instead", smith.move(0, 1), 4096);
        DUE.is("4 move to the same place, none", smith.move(1, 1), 0);
        smith.add(31, 31, 0, 0, 8, false);
        DUE.is("4 move, one is denied instead", smith.move(2, 0), 1);
        DUE.is("4 move behind the other, one is permitted instead", smith.move(0, 1), 1);
        DUE.is("4 move behind a shadow, none", smith.move(1, 2), 0);
        // A permit and a deny change places with the deny between: 2 are denied and 1 is permitted instead.
        Aclsmith mixed = new Aclsmith();
        mixed.add(0, 2, 0, 0, 1, true);
        mixed.add(1, 2, 0, 0, 1, false);
        mixed.add(2, 3, 0, 0, 1, true);
        DUE.is("4 move the first to the end", mixed.move(0, 2), 2);
        DUE.is("4 move the permit ahead", mixed.move(1, 0), 1);
    }

    // Promise 4: "Throws IndexOutOfBoundsException if there is no such place", for each of the two places
    private static void moveWithoutSuchPlace() {
        for (int rules : new int[] {0, 1, 2, 15, 16}) {
            Aclsmith smith = Lists.single(rules);
            String before = Lists.order(smith);
            DUE.refusesPlaces("4 move from", rules, place -> smith.move(place, 0));
            DUE.refusesPlaces("4 move from", rules, place -> smith.move(place, rules - 1));
            DUE.refusesPlaces("4 move to", rules, place -> smith.move(0, place));
            DUE.refusesPlaces("4 move to", rules, place -> smith.move(rules - 1, place));
            DUE.refusesPlaces("4 move both", rules, place -> smith.move(place, place));
            DUE.is("4 order", Lists.order(smith), before);
        }
    }

    // Promise 5: "Returns the number of rules.", none to 16
    private static void rulesFromNoneToSixteen() {
        Aclsmith smith = new Aclsmith();
        for (int rules = 0; rules < 16; rules++) {
            DUE.is("5 rules", smith.rules(), rules);
            Lists.addAll(smith, true);
        }
        DUE.is("5 rules of a full list", smith.rules(), 16);
        DUE.refuses("5 add", STATE, () -> Lists.addAll(smith, true));
        DUE.refuses("5 remove", PLACE, () -> smith.remove(16));
        DUE.is("5 rules after what was refused", smith.rules(), 16);
    }

    // Promises 6 and 7: "100 times the least .. plus the greatest one", every range that there is
    private static void rangesAreToldAsTheyWereAdded() {
        for (int from = 0; from <= 31; from++) {
            Aclsmith smith = new Aclsmith();
            for (int to = from; to <= 31; to++) {
                smith.add(from, to, 31 - to, 31 - from, 15, true);
                DUE.is("6 sources " + from + " " + to, smith.sources(0), 100 * from + to);
                DUE.is("7 destinations", smith.destinations(0), 100 * (31 - to) + 31 - from);
                smith.remove(0);
            }
        }
    }

    // Promises 8 and 9: "Returns 1 to 15.", "Returns whether it is permit."
    private static void setsAndActionsAreToldAsTheyWereAdded() {
        for (int protocols = 1; protocols <= 15; protocols++) {
            Aclsmith smith = new Aclsmith();
            smith.add(0, 31, 0, 31, protocols, true);
            smith.add(0, 31, 0, 31, 16 - protocols, false);
            DUE.is("8 protocols", smith.protocols(0), protocols);
            DUE.is("8 protocols", smith.protocols(1), 16 - protocols);
            DUE.is("9 permits", smith.permits(0), true);
            DUE.is("9 permits", smith.permits(1), false);
        }
    }

    // Promises 6 to 9: "Throws IndexOutOfBoundsException if there is no such place"
    private static void rangesWithoutSuchPlace() {
        for (int rules : new int[] {0, 1, 2, 15, 16}) {
            Aclsmith smith = Lists.single(rules);
            DUE.refusesPlaces("6 sources", rules, smith::sources);
            DUE.refusesPlaces("7 destinations", rules, smith::destinations);
            DUE.refusesPlaces("8 protocols", rules, smith::protocols);
            DUE.refusesPlaces("9 permits", rules, smith::permits);
        }
        Aclsmith full = Lists.single(16);
        DUE.is("6 sources at the last place", full.sources(15), 1515);
        DUE.is("7 destinations at the last place", full.destinations(15), 31);
        DUE.is("8 protocols at the last place", full.protocols(15), 15);
        DUE.is("9 permits at the last place", full.permits(15), false);
    }
}
