/** Promises 21 to 23: a test for each sentence that says what is refused, where it ends, or that there is nothing. */
public final class ShorterBoundaryTest {
    private static final Class<IndexOutOfBoundsException> PLACE = IndexOutOfBoundsException.class;

    private static final Due DUE = new Due();

    public static void main(String[] args) {
        canMergeWithoutARuleBehind();
        canMergeAtEachPlaceButTheLast();
        canMergeWhatTouches();
        canMergeDoesNotWrapAround();
        canMergeEveryPairOfRanges();
        canMergeEveryPairOfSets();
        canMergeWhatDiffersInOnePart();
        canMergeEqualRules();
        canMergeAsksNeighboursAlone();
        shortenNothing();
        shortenAnOnlyRule();
        shortenAFullListToNone();
        shortenAFullListToOne();
        shortenFromTheGreatestPlace();
        shortenRedundantBeforeMerging();
        shortenMergesTheFirstNeighbours();
        shortenBeginsAgain();
        shortenToEveryRange();
        shortenToEverySet();
        shortenTakesTheHits();
        shortenSumsTheHits();
        shortenEndsWithNothingLeft();
        sortNothing();
        sortNeedsMoreHits();
        sortKeepsCommonPacketsOfTwoActions();
        sortPassesFromTheBeginning();
        sortGoesOnWithTheSecond();
        sortAFullList();
        DUE.end("ShorterBoundaryTest");
    }

    // Promise 21: "Throws IndexOutOfBoundsException if there is no such place, or no rule behind it"
    private static void canMergeWithoutARuleBehind() {
        DUE.refusesPlaces("21 canMerge, an empty list", 0, new Aclsmith()::canMerge);
        for (int rules : new int[] {1, 2, 3, 15, 16}) {
            Aclsmith smith = Lists.alike(rules);
            DUE.refuses("21 canMerge, the last of " + rules, PLACE, () -> smith.canMerge(rules - 1));
            DUE.refusesPlaces("21 canMerge of " + rules, rules, smith::canMerge);
            for (int place : Lists.farOut()) {
                if (place < 0 || place >= rules - 1) {
                    DUE.refuses("21 canMerge " + place, PLACE, () -> smith.canMerge(place));
                }
            }
        }
    }

    // Promise 21: "the place of the first one", from 0 to the last but one
    private static void canMergeAtEachPlaceButTheLast() {
        Aclsmith alike = Lists.alike(16);
        Aclsmith single = Lists.single(16);
        for (int place = 0; place < 15; place++) {
            DUE.is("21 canMerge " + place, alike.canMerge(place), true);
            DUE.is("21 canMerge of two actions", single.canMerge(place), false);
        }
        alike.remove(0);
        DUE.is("21 canMerge, the last but one", alike.canMerge(13), true);
        DUE.refuses("21 canMerge, the last now", PLACE, () -> alike.canMerge(14));
    }

    private static boolean mergeable(int[] one, int[] other) {
        Aclsmith smith = new Aclsmith();
        smith.add(one[0], one[1], one[2], one[3], one[4], true);
        smith.add(other[0], other[1], other[2], other[3], other[4], true);
        boolean can = smith.canMerge(0);
        smith.move(0, 1);
        DUE.is("21 canMerge turned round", smith.canMerge(0), can);
        return can;
    }

    // Terms: "both ranges together are one range without a gap (they overlap, or one begins right behind the other)"
    private static void canMergeWhatTouches() {
        int[] base = {8, 15, 20, 23, 6};
        DUE.is("21 canMerge, sources right behind", mergeable(base, new int[] {16, 16, 20, 23, 6}), true);
        DUE.is("21 canMerge, sources with a gap of one", mergeable(base, new int[] {17, 17, 20, 23, 6}), false);
        DUE.is("21 canMerge, sources right ahead", mergeable(base, new int[] {7, 7, 20, 23, 6}), true);
        DUE.is("21 canMerge, sources with a gap of one", mergeable(base, new int[] {0, 6, 20, 23, 6}), false);
        DUE.is("21 canMerge, sources overlap by one", mergeable(base, new int[] {15, 31, 20, 23, 6}), true);
        DUE.is("21 canMerge, destinations right behind", mergeable(base, new int[] {8, 15, 24, 24, 6}), true);
        DUE.is("21 canMerge, destinations with a gap of one", mergeable(base, new int[] {8, 15, 25, 25, 6}), false);
        DUE.is("21 canMerge, destinations right ahead", mergeable(base, new int[] {8, 15, 19, 19, 6}), true);
        DUE.is("21 canMerge, destinations with a gap of one", mergeable(base, new int[] {8, 15, 0, 18, 6}), false);
        DUE.is("21 canMerge, destinations overlap by one", mergeable(base, new int[] {8, 15, 0, 20, 6}), true);
    }

    // Terms: 0 does not begin right behind 31
    private static void canMergeDoesNotWrapAround() {
        DUE.is("21 canMerge sources 31 and 0",
                mergeable(new int[] {31, 31, 0, 0, 1}, new int[] {0, 0, 0, 0, 1}), false);
        DUE.is("21 canMerge sources 16 to 31 and 0 to 14",
                mergeable(new int[] {16, 31, 0, 0, 1}, new int[] {0, 14, 0, 0, 1}), false);
        DUE.is("21 canMerge destinations 31 and 0",
                mergeable(new int[] {0, 0, 31, 31, 1}, new int[] {0, 0, 0, 0, 1}), false);
        DUE.is("21 canMerge sources 16 to 31 and 0 to 15",
                mergeable(new int[] {16, 31, 0, 0, 1}, new int[] {0, 15, 0, 0, 1}), true);
    }

    private static boolean isOneRange(int from, int to, int otherFrom, int otherTo) {
        for (int number = Math.min(from, otherFrom); number <= Math.max(to, otherTo); number++) {
            boolean inOne = number >= from && number <= to;
            boolean inOther = number >= otherFrom && number <= otherTo;
            if (!inOne && !inOther) {
                return false;
            }
        }
        return true;
    }

    // Terms: every range of 0 to 8 and of 23 to 31 against every other one, as sources and as destinations
    private static void canMergeEveryPairOfRanges() {
        for (int first = 0; first <= 23; first += 23) {
            for (int from = first; from <= first + 8; from++) {
                for (int to = from; to <= first + 8; to++) {
                    for (int otherFrom = from; otherFrom <= first + 8; otherFrom++) {
                        for (int otherTo = otherFrom; otherTo <= first + 8; otherTo++) {
                            String call = "21 canMerge " + from + " " + to + ", " + otherFrom + " " + otherTo;
                            boolean want = isOneRange(from, to, otherFrom, otherTo);
                            DUE.is(call, mergeable(new int[] {from, to, 3, 4, 5},
                                    new int[] {otherFrom, otherTo, 3, 4, 5}), want);
                            DUE.is(call + ", destinations", mergeable(new int[] {3, 4, from, to, 5},
                                    new int[] {3, 4, otherFrom, otherTo, 5}), want);
                        }
                    }
                }
            }
        }
    }

    // Terms: the sentence of the gap is one of ranges, so sets of protocols may have gaps
    private static void canMergeEveryPairOfSets() {
        for (int set = 1; set <= 15; set++) {
            for (int other = 1; other <= 15; other++) {
                DUE.is("21 canMerge sets " + set + " " + other,
                        mergeable(new int[] {0, 31, 5, 5, set}, new int[] {0, 31, 5, 5, other}), true);
            }
        }
    }

    // Terms: "the same action and differ in at most one of .."
    private static void canMergeWhatDiffersInOnePart() {
        int[] base = {8, 15, 20, 23, 6};
        DUE.is("21 canMerge, both ranges differ", mergeable(base, new int[] {8, 16, 20, 24, 6}), false);
        DUE.is("21 canMerge, sources and set differ", mergeable(base, new int[] {8, 16, 20, 23, 7}), false);
        DUE.is("21 canMerge, destinations and set differ", mergeable(base, new int[] {8, 15, 19, 23, 2}), false);
        DUE.is("21 canMerge, all differ", mergeable(base, new int[] {0, 31, 0, 31, 15}), false);
        Aclsmith smith = new Aclsmith();
        smith.add(8, 15, 20, 23, 6, false);
        smith.add(8, 15, 20, 24, 6, false);
        smith.add(8, 15, 20, 24, 6, true);
        DUE.is("21 canMerge, two denies", smith.canMerge(0), true);
        DUE.is("21 canMerge, the action differs alone", smith.canMerge(1), false);
    }

    // Terms: "at most one", which is none too
    private static void canMergeEqualRules() {
        Aclsmith smith = Lists.alike(2);
        smith.judge(0, 0, 0);
        DUE.is("21 canMerge, but the hits differ", smith.canMerge(0), true);
    }

    // Promise 21: "whether two neighbours can be merged"
    private static void canMergeAsksNeighboursAlone() {
        Aclsmith smith = new Aclsmith();
        smith.add(0, 3, 0, 31, 15, true);
        smith.add(20, 23, 0, 31, 15, true);
        smith.add(4, 7, 0, 31, 15, true);
        DUE.is("21 canMerge, one stands between", smith.canMerge(0), false);
        DUE.is("21 canMerge, a gap", smith.canMerge(1), false);
        DUE.is("22 shorten, nothing is to be merged", smith.shorten(), 0);
        smith.move(2, 1);
        String before = Lists.state(smith);
        DUE.is("21 canMerge, neighbours now", smith.canMerge(0), true);
        DUE.is("21 state", Lists.state(smith), before);
    }

    // Promise 22: an empty list
    private static void shortenNothing() {
        Aclsmith smith = new Aclsmith();
        DUE.is("22 shorten an empty list", smith.shorten(), 0);
        DUE.is("22 rules", smith.rules(), 0);
        DUE.is("22 add to it", Lists.addAll(smith, true), 0);
    }

    // Promise 22: an only rule is redundant if it is a deny, and has no neighbour
    private static void shortenAnOnlyRule() {
        Aclsmith permit = new Aclsmith();
        permit.add(31, 31, 31, 31, 8, true);
        DUE.is("22 shorten an only permit", permit.shorten(), 0);
        DUE.is("22 rules", permit.rules(), 1);
        Aclsmith deny = new Aclsmith();
        Lists.addAll(deny, false);
        DUE.is("22 shorten an only deny", deny.shorten(), 1);
        DUE.is("22 rules", deny.rules(), 0);
    }

    // Promise 22: "Returns how many rules the list is shorter then.", all of 16
    private static void shortenAFullListToNone() {
        Aclsmith smith = new Aclsmith();
        for (int place = 0; place < 16; place++) {
            smith.add(place, 2 * place, 0, 31 - place, 15 - place % 15, false);
        }
        DUE.is("22 shorten 16 denies", smith.shorten(), 16);
        DUE.is("22 rules", smith.rules(), 0);
        DUE.refusesPlaces("22 sources", 0, smith::sources);
    }

    // Promise 22: 15 rules fewer, by merging alone, by redundant rules alone, and by one kind after the other
    private static void shortenAFullListToOne() {
        Aclsmith strips = new Aclsmith();
        Aclsmith mixed = new Aclsmith();
        for (int place = 0; place < 16; place++) {
            strips.add(2 * place, 2 * place + 1, 0, 31, 15, true);
            mixed.add(place / 2 * 4, place / 2 * 4 + 3, 0, 31, place % 2 == 0 ? 15 : 3, place % 2 == 0);
        }
        DUE.is("22 shorten 16 strips", strips.shorten(), 15);
        DUE.is("22 sources", strips.sources(0), 31);
        DUE.is("22 permitted", strips.permitted(), 4096);
        DUE.is("22 shorten 16 alike", Lists.alike(16).shorten(), 15);
        DUE.is("22 shorten redundant ones and strips", mixed.shorten(), 15);
        DUE.is("22 sources", mixed.sources(0), 31);
        DUE.is("22 permitted", mixed.permitted(), 4096);
    }

    // Promise 22: "As long as there is a redundant rule, the one at the greatest place is removed"
    private static void shortenFromTheGreatestPlace() {
        Aclsmith smith = new Aclsmith();
        smith.add(0, 15, 3, 5, 15, true);
        smith.add(0, 31, 3, 5, 15, true);
        smith.add(16, 31, 3, 5, 15, true);
        smith.add(0, 31, 6, 8, 7, false);
        // The deny and the third go first, then the first, which the second covers.
        DUE.is("22 shorten", smith.shorten(), 3);
        DUE.is("22 sources", smith.sources(0), 31);
        DUE.is("22 permits", smith.permits(0), true);
        // Two cover the third together, and it covers each of them: only the one at the greatest place goes at first.
        Aclsmith halves = new Aclsmith();
        halves.add(0, 15, 0, 31, 15, true);
        halves.add(16, 31, 0, 31, 3, true);
        halves.add(16, 31, 0, 31, 12, true);
        Lists.addAll(halves, true);
        halves.judge(31, 0, 3);
        DUE.is("22 shorten", halves.shorten(), 3);
        DUE.is("22 hits of the merged rule", halves.hits(0), 1);
    }

    // Promise 22: "when there is none, the first two neighbours that can be merged are replaced"
    private static void shortenRedundantBeforeMerging() {
        Aclsmith smith = new Aclsmith();
        smith.add(0, 7, 0, 31, 15, true);
        smith.add(4, 15, 0, 31, 15, true);
        smith.add(8, 11, 0, 31, 15, true);
        smith.judge(0, 0, 0);
        smith.judge(15, 0, 0);
        smith.move(2, 0);
        Lists.judgeTimes(smith, 8, 0, 0, 4);
        // The first one is redundant and goes with its 4 hits, though it could be merged with the next.
        DUE.is("22 canMerge", smith.canMerge(0), true);
        DUE.is("22 shorten", smith.shorten(), 2);
        DUE.is("22 sources", smith.sources(0), 15);
        DUE.is("22 hits", smith.hits(0), 2);
    }

    // Promise 22: "the first two neighbours that can be merged"
    private static void shortenMergesTheFirstNeighbours() {
        Aclsmith smith = new Aclsmith();
        smith.add(0, 7, 0, 7, 15, true);
        smith.add(0, 7, 8, 15, 15, true);
        smith.add(8, 15, 8, 15, 15, true);
        DUE.is("22 canMerge", smith.canMerge(0) && smith.canMerge(1), true);
        DUE.is("22 shorten", smith.shorten(), 1);
        DUE.is("22 the first two are merged", smith.destinations(0), 15);
        DUE.is("22 the third one stays", smith.sources(1), 815);
        DUE.is("22 the third one stays", smith.destinations(1), 815);
        // A merged rule stands at the place of the two, and the rules behind it move up.
        Aclsmith behind = new Aclsmith();
        behind.add(20, 20, 0, 0, 1, true);
        behind.add(0, 7, 0, 7, 1, true);
        behind.add(0, 7, 0, 7, 4, true);
        behind.add(25, 25, 0, 0, 1, true);
        DUE.is("22 shorten", behind.shorten(), 1);
        DUE.is("22 order", Lists.order(behind), "20 0 25");
        DUE.is("22 protocols", behind.protocols(1), 5);
    }

    // Promise 22: "and it begins again", so the merged rule may next be merged with the one before it
    private static void shortenBeginsAgain() {
        Aclsmith smith = new Aclsmith();
        smith.add(0, 7, 4, 7, 15, true);
        smith.add(0, 3, 0, 3, 15, true);
        smith.add(4, 7, 0, 3, 15, true);
        smith.add(8, 11, 0, 3, 15, true);
        DUE.is("22 canMerge the first two", smith.canMerge(0), false);
        // The second and the third make one that fits the first and the last, and the first comes first.
        DUE.is("22 shorten", smith.shorten(), 2);
        DUE.is("22 sources", smith.sources(0), 7);
        DUE.is("22 destinations", smith.destinations(0), 7);
        DUE.is("22 sources of the last", smith.sources(1), 811);
        DUE.is("22 destinations of the last", smith.destinations(1), 3);
    }

    // Terms: "The merged rule has what is equal in both, both ranges .. together where they differ"
    private static void shortenToEveryRange() {
        // Each two ranges that overlap or touch.
        for (int from = 0; from <= 6; from++) {
            for (int to = from; to <= 6; to++) {
                for (int otherFrom = 0; otherFrom <= to + 1; otherFrom++) {
                    for (int otherTo = Math.max(otherFrom, from - 1); otherTo <= 7; otherTo++) {
                        int range = 100 * (Math.min(from, otherFrom) + 24) + Math.max(to, otherTo) + 24;
                        String call = "22 shorten " + from + " " + to + ", " + otherFrom + " " + otherTo;
                        Aclsmith sources = new Aclsmith();
                        sources.add(from + 24, to + 24, 3, 14, 5, true);
                        sources.add(otherFrom + 24, otherTo + 24, 3, 14, 5, true);
                        DUE.is(call, sources.shorten(), 1);
                        DUE.is(call + ", sources", sources.sources(0), range);
                        DUE.is(call + ", destinations stay", sources.destinations(0), 314);
                        Aclsmith destinations = new Aclsmith();
                        destinations.add(3, 14, from + 24, to + 24, 5, true);
                        destinations.add(3, 14, otherFrom + 24, otherTo + 24, 5, true);
                        DUE.is(call, destinations.shorten(), 1);
                        DUE.is(call + ", destinations", destinations.destinations(0), range);
                        DUE.is(call + ", sources stay", destinations.sources(0), 314);
                        DUE.is(call + ", protocols stay", destinations.protocols(0), 5);
                    }
                }
            }
        }
    }

    // Terms: "both .. sets together where they differ", each two sets
    private static void shortenToEverySet() {
        for (int set = 1; set <= 15; set++) {
            for (int other = 1; other <= 15; other++) {
                Aclsmith smith = new Aclsmith();
                smith.add(3, 14, 24, 31, set, true);
                smith.add(3, 14, 24, 31, other, true);
                DUE.is("22 shorten sets " + set + " " + other, smith.shorten(), 1);
                DUE.is("22 protocols", smith.protocols(0), set | other);
                DUE.is("22 sources stay", smith.sources(0), 314);
                DUE.is("22 destinations stay", smith.destinations(0), 2431);
            }
        }
    }

    // Promise 22: "the one at the greatest place is removed, with its hits"
    private static void shortenTakesTheHits() {
        Aclsmith smith = new Aclsmith();
        smith.add(0, 7, 0, 31, 15, false);
        Lists.judgeTimes(smith, 0, 0, 0, 5);
        smith.judge(8, 0, 0);
        Lists.addAll(smith, false);
        smith.add(9, 9, 0, 31, 15, true);
        smith.move(2, 0);
        smith.judge(9, 0, 0);
        DUE.is("22 shorten", smith.shorten(), 2);
        DUE.is("22 hits", smith.hits(0), 1);
        DUE.is("22 misses stay", smith.misses(), 1);
        DUE.is("22 averageLooks stays", smith.averageLooks(), 1f);
    }

    // Terms: "and the sum of their hits"
    private static void shortenSumsTheHits() {
        Aclsmith smith = Lists.single(1);
        for (int source = 1; source < 5; source++) {
            smith.add(source, source, 0, 31, 15, true);
        }
        for (int source = 0; source < 5; source++) {
            Lists.judgeTimes(smith, source, 0, 0, 1 << source);
        }
        DUE.is("22 shorten", smith.shorten(), 4);
        DUE.is("22 hits", smith.hits(0), 31);
        smith.judge(4, 0, 0);
        DUE.is("22 hits of the merged rule grow", smith.hits(0), 32);
        DUE.is("22 sources", smith.sources(0), 4);
    }

    // Promise 22: "It ends when there is neither a redundant rule nor two neighbours that can be merged."
    private static void shortenEndsWithNothingLeft() {
        for (int kind = 0; kind < 60; kind++) {
            Aclsmith smith = Lists.mixed(kind, 16);
            int permitted = smith.permitted();
            int shorter = smith.shorten();
            DUE.is("22 rules of kind " + kind, smith.rules(), 16 - shorter);
            DUE.is("22 permitted of kind " + kind, smith.permitted(), permitted);
            for (int place = 0; place < smith.rules(); place++) {
                DUE.is("22 a redundant rule is left", smith.isRedundant(place), false);
                boolean can = place < smith.rules() - 1 && smith.canMerge(place);
                DUE.is("22 neighbours to be merged are left", can, false);
            }
            DUE.is("22 shorten again", smith.shorten(), 0);
        }
    }

    // Promise 23: no two neighbours, or no hits
    private static void sortNothing() {
        DUE.is("23 sortByHits of an empty list", new Aclsmith().sortByHits(), 0);
        Aclsmith one = Lists.single(1);
        one.judge(0, 0, 0);
        DUE.is("23 sortByHits of an only rule", one.sortByHits(), 0);
        DUE.is("23 sortByHits without hits", Lists.single(16).sortByHits(), 0);
    }

    // Promise 23: "if the second one of two neighbours has more hits than the first one"
    private static void sortNeedsMoreHits() {
        Aclsmith smith = Lists.single(2);
        smith.judge(0, 0, 0);
        DUE.is("23 sortByHits, the first has more", smith.sortByHits(), 0);
        smith.judge(1, 0, 0);
        DUE.is("23 sortByHits, as many", smith.sortByHits(), 0);
        DUE.is("23 order", Lists.order(smith), "0 1");
        smith.judge(1, 0, 0);
        DUE.is("23 sortByHits, one more", smith.sortByHits(), 1);
        DUE.is("23 order", Lists.order(smith), "1 0");
        DUE.is("23 hits go along", smith.hits(0), 2);
        DUE.is("23 hits go along", smith.hits(1), 1);
    }

    private static int exchanges(int[] one, int[] other, boolean sameAction) {
        Aclsmith smith = new Aclsmith();
        smith.add(other[0], other[1], other[2], other[3], other[4], sameAction);
        smith.judge(other[1], other[3], 1);
        smith.add(one[0], one[1], one[2], one[3], one[4], true);
        smith.move(1, 0);
        return smith.sortByHits();
    }

    // Promise 23: "they have the same action or there is no packet that both match"
    private static void sortKeepsCommonPacketsOfTwoActions() {
        int[] base = {8, 15, 8, 15, 6};
        DUE.is("23 sortByHits, one common packet", exchanges(base, new int[] {15, 31, 15, 31, 3}, false), 0);
        DUE.is("23 sortByHits, same action", exchanges(base, new int[] {15, 31, 15, 31, 3}, true), 1);
        DUE.is("23 sortByHits, sources right behind", exchanges(base, new int[] {16, 31, 8, 15, 6}, false), 1);
        DUE.is("23 sortByHits, destinations right behind", exchanges(base, new int[] {8, 15, 16, 31, 6}, false), 1);
        DUE.is("23 sortByHits, equal rules of two actions", exchanges(base, base, false), 0);
        DUE.is("23 sortByHits, equal rules", exchanges(base, base, true), 1);
        int[] low = {8, 15, 8, 15, 5};
        DUE.is("23 sortByHits, no common protocol", exchanges(low, new int[] {8, 15, 8, 15, 10}, false), 1);
    }

    /** A list with 0, 1, 2 .. hits in its order, of which the first and the last have a packet in common. */
    private static Aclsmith rising(int rules) {
        Aclsmith smith = new Aclsmith();
        for (int place = 0; place < rules; place++) {
            boolean last = place == rules - 1;
            smith.add(last ? 0 : place, place, 0, 0, last ? 1 + (1 << 1) : 1 << (place == 0 ? 0 : 2), !last);
            Lists.judgeTimes(smith, place, 0, last ? 1 : 2, place);
        }
        return smith;
    }

    // Promise 23: "The list is passed through from its beginning"
    private static void sortPassesFromTheBeginning() {
        Aclsmith smith = rising(3);
        DUE.is("23 overlap of the first and the last", smith.overlap(0, 2), 1);
        DUE.is("23 overlap of the middle and the last", smith.overlap(1, 2), 0);
        // From its end, the last one would pass the middle one first, and stay behind the first one.
        DUE.is("23 sortByHits", smith.sortByHits(), 1);
        DUE.is("23 hits", smith.hits(0), 1);
        DUE.is("23 hits", smith.hits(1), 0);
        DUE.is("23 hits", smith.hits(2), 2);
        DUE.is("23 sortByHits again", smith.sortByHits(), 0);
    }

    // Promise 23: "in each case the next two neighbours are the one that then stands second and the rule behind it"
    private static void sortGoesOnWithTheSecond() {
        Aclsmith smith = rising(4);
        // A pass that left out a rule after an exchange would let the last one pass the third.
        DUE.is("23 sortByHits", smith.sortByHits(), 3);
        DUE.is("23 hits", smith.hits(0), 2);
        DUE.is("23 hits", smith.hits(1), 1);
        DUE.is("23 hits", smith.hits(2), 0);
        DUE.is("23 hits", smith.hits(3), 3);
    }

    // Promise 23: "Passes are repeated until one of them exchanges nothing.", the most exchanges that there can be
    private static void sortAFullList() {
        Aclsmith smith = Lists.single(16);
        for (int place = 0; place < 16; place++) {
            Lists.judgeTimes(smith, place, 0, 0, place);
        }
        int permitted = smith.permitted();
        DUE.is("23 sortByHits", smith.sortByHits(), 120);
        for (int place = 0; place < 16; place++) {
            DUE.is("23 hits at " + place, smith.hits(place), 15 - place);
        }
        DUE.is("23 permitted", smith.permitted(), permitted);
        DUE.is("23 sortByHits again", smith.sortByHits(), 0);
        smith.move(0, 15);
        DUE.is("23 sortByHits, the last one to the beginning", smith.sortByHits(), 15);
        DUE.is("23 sources", smith.sources(0), 1515);
    }
}
