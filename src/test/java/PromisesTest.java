import java.util.NoSuchElementException;

/** For each promise of the document: ordinary inputs, the edges that it names, and wrong inputs. */
public final class PromisesTest {
    private static final int LEAST = Integer.MIN_VALUE;
    private static final int GREATEST = Integer.MAX_VALUE;
    private static final Class<IllegalArgumentException> ARGUMENT = IllegalArgumentException.class;
    private static final Class<IllegalStateException> STATE = IllegalStateException.class;
    private static final Class<IndexOutOfBoundsException> PLACE = IndexOutOfBoundsException.class;
    private static final Class<NoSuchElementException> NONE = NoSuchElementException.class;

    private static final Due DUE = new Due();

    public static void main(String[] args) {
        newObject();
        add();
        addWrong();
        remove();
        move();
        rules();
        ranges();
        protocolsAndPermits();
        judge();
        decider();
        hits();
        misses();
        averageLooks();
        decides();
        overlap();
        isShadowed();
        shadowedBy();
        isRedundant();
        permitted();
        canMergeRanges();
        canMergeSets();
        shortenRedundant();
        shortenMerging();
        sortByHits();
        sortByHitsBlocked();
        entries();
        entryValue();
        entryMask();
        entriesMatchAsRules();
        allEntries();
        DUE.end("PromisesTest");
    }

    // Promise 1
    private static void newObject() {
        Aclsmith smith = new Aclsmith();
        DUE.is("1 rules", smith.rules(), 0);
        DUE.is("1 permitted", smith.permitted(), 0);
        DUE.is("1 misses", smith.misses(), 0);
        DUE.is("1 averageLooks", smith.averageLooks(), 0f);
        DUE.is("1 allEntries", smith.allEntries(), 0);
        DUE.is("1 shorten", smith.shorten(), 0);
        DUE.is("1 sortByHits", smith.sortByHits(), 0);
        Aclsmith other = Lists.crossed();
        DUE.is("1 rules of another object", other.rules(), 2);
        DUE.is("1 rules", smith.rules(), 0);
    }

    // Promise 2
    private static void add() {
        Aclsmith smith = new Aclsmith();
        DUE.is("2 add all", smith.add(0, 31, 0, 31, 15, true), 0);
        DUE.is("2 add least", smith.add(0, 0, 0, 0, 1, false), 1);
        DUE.is("2 add greatest", smith.add(31, 31, 31, 31, 8, true), 2);
        DUE.is("2 add between", smith.add(3, 7, 20, 21, 6, false), 3);
        DUE.is("2 sources", smith.sources(3), 307);
        DUE.is("2 destinations", smith.destinations(3), 2021);
        DUE.is("2 protocols", smith.protocols(3), 6);
        DUE.is("2 permits", smith.permits(3), false);
        DUE.is("2 hits", smith.hits(3), 0);
        for (int place = 4; place < 16; place++) {
            DUE.is("2 add to 16", smith.add(1, 2, 3, 4, 5, true), place);
        }
        DUE.refuses("2 add 17th", STATE, () -> smith.add(1, 2, 3, 4, 5, true));
        DUE.refuses("2 add 17th, wrong", ARGUMENT, () -> smith.add(1, 2, 3, 4, 16, true));
        DUE.refuses("2 add 17th, wrong", ARGUMENT, () -> smith.add(1, 0, 3, 4, 15, true));
        DUE.is("2 rules", smith.rules(), 16);
        smith.remove(0);
        DUE.is("2 add after remove", smith.add(1, 2, 3, 4, 5, true), 15);
    }

    private static void addWrong() {
        Aclsmith smith = new Aclsmith();
        int[][] ranges = {{-1, 5}, {5, 4}, {31, 30}, {0, 32}, {32, 32}, {LEAST, 5}, {0, GREATEST}, {0, -1},
            {GREATEST, GREATEST}, {LEAST, LEAST}};
        for (int[] range : ranges) {
            DUE.refuses("2 add sources " + range[0] + " " + range[1], ARGUMENT,
                    () -> smith.add(range[0], range[1], 0, 31, 15, true));
            DUE.refuses("2 add destinations " + range[0] + " " + range[1], ARGUMENT,
                    () -> smith.add(0, 31, range[0], range[1], 15, true));
        }
        for (int protocols : new int[] {0, -1, 16, 31, LEAST, GREATEST}) {
            DUE.refuses("2 add protocols " + protocols, ARGUMENT, () -> smith.add(0, 31, 0, 31, protocols, true));
        }
        DUE.is("2 rules after what was refused", smith.rules(), 0);
        DUE.is("2 permitted after what was refused", smith.permitted(), 0);
    }

    // Promise 3
    private static void remove() {
        Aclsmith smith = Lists.crossed();
        smith.add(0, 31, 0, 31, 1, true);
        smith.judge(20, 20, 0);
        smith.judge(31, 31, 0);
        smith.judge(31, 31, 0);
        DUE.refusesPlaces("3 remove", 3, smith::remove);
        DUE.is("3 rules", smith.rules(), 3);
        // 192 packets of protocol 0 are denied no more, as the rule behind the deny permits them.
        DUE.is("3 remove a deny", smith.remove(1), 192);
        DUE.is("3 rules", smith.rules(), 2);
        DUE.is("3 protocols", smith.protocols(1), 1);
        DUE.is("3 hits go along", smith.hits(1), 2);
        DUE.is("3 remove a permit", smith.remove(0), 768);
        DUE.is("3 remove the last one", smith.remove(0), 1024);
        DUE.is("3 permitted", smith.permitted(), 0);
        DUE.refusesPlaces("3 remove", 0, smith::remove);
        smith.add(0, 31, 0, 31, 15, false);
        DUE.is("3 remove a deny that is denied anyway", smith.remove(0), 0);
        DUE.is("3 rules", smith.rules(), 0);
    }

    // Promise 4
    private static void move() {
        Aclsmith smith = Lists.crossed();
        DUE.is("4 move forward", smith.move(1, 0), 256);
        DUE.is("4 permits", smith.permits(0), false);
        DUE.is("4 permitted", smith.permitted(), 768);
        DUE.is("4 move backward", smith.move(0, 1), 256);
        DUE.is("4 move to the same place", smith.move(1, 1), 0);
        DUE.refusesPlaces("4 move from", 2, place -> smith.move(place, 0));
        DUE.refusesPlaces("4 move to", 2, place -> smith.move(0, place));
        DUE.is("4 permits", smith.permits(0), true);
        Aclsmith five = Lists.single(5);
        five.judge(3, 0, 0);
        DUE.is("4 move 3 to 1", five.move(3, 1), 0);
        DUE.is("4 order", Lists.order(five), "0 3 1 2 4");
        DUE.is("4 hits go along", five.hits(1), 1);
        DUE.is("4 move 0 to 4", five.move(0, 4), 0);
        DUE.is("4 order", Lists.order(five), "3 1 2 4 0");
        DUE.is("4 move 4 to 0", five.move(4, 0), 0);
        DUE.is("4 order", Lists.order(five), "0 3 1 2 4");
    }

    // Promise 5
    private static void rules() {
        Aclsmith smith = Lists.single(3);
        DUE.is("5 rules", smith.rules(), 3);
        smith.remove(1);
        DUE.is("5 rules after remove", smith.rules(), 2);
        smith.move(0, 1);
        smith.judge(0, 0, 0);
        DUE.is("5 rules after move and judge", smith.rules(), 2);
        DUE.is("5 rules of a full list", Lists.single(16).rules(), 16);
    }

    // Promises 6 and 7
    private static void ranges() {
        Aclsmith smith = new Aclsmith();
        smith.add(0, 31, 31, 31, 15, true);
        smith.add(7, 7, 0, 0, 15, true);
        smith.add(3, 12, 5, 29, 15, true);
        DUE.is("6 sources of all", smith.sources(0), 31);
        DUE.is("6 sources of one", smith.sources(1), 707);
        DUE.is("6 sources between", smith.sources(2), 312);
        DUE.is("7 destinations of the greatest", smith.destinations(0), 3131);
        DUE.is("7 destinations of the least", smith.destinations(1), 0);
        DUE.is("7 destinations between", smith.destinations(2), 529);
        DUE.refusesPlaces("6 sources", 3, smith::sources);
        DUE.refusesPlaces("7 destinations", 3, smith::destinations);
        DUE.refusesPlaces("6 sources", 0, new Aclsmith()::sources);
        DUE.refusesPlaces("7 destinations", 0, new Aclsmith()::destinations);
    }

    // Promises 8 and 9
    private static void protocolsAndPermits() {
        Aclsmith smith = new Aclsmith();
        for (int protocols = 1; protocols <= 15; protocols++) {
            smith.add(0, 0, 0, 0, protocols, protocols % 3 == 0);
        }
        for (int place = 0; place < 15; place++) {
            DUE.is("8 protocols", smith.protocols(place), place + 1);
            DUE.is("9 permits", smith.permits(place), (place + 1) % 3 == 0);
        }
        DUE.refusesPlaces("8 protocols", 15, smith::protocols);
        DUE.refusesPlaces("9 permits", 15, smith::permits);
    }

    // Promise 10
    private static void judge() {
        Aclsmith smith = new Aclsmith();
        smith.add(4, 9, 10, 20, 6, true);
        smith.add(4, 9, 10, 20, 7, false);
        int[][] within = {{4, 10, 1}, {9, 20, 2}, {4, 20, 1}, {9, 10, 2}};
        for (int[] packet : within) {
            DUE.is("10 judge a permitted packet", smith.judge(packet[0], packet[1], packet[2]), true);
        }
        int[][] outside = {{3, 10, 1}, {10, 20, 2}, {4, 9, 1}, {9, 21, 2}, {4, 10, 3}};
        for (int[] packet : outside) {
            DUE.is("10 judge a packet that no rule matches", smith.judge(packet[0], packet[1], packet[2]), false);
        }
        DUE.is("10 judge a denied packet", smith.judge(4, 10, 0), false);
        int[][] wrong = {{-1, 10, 1}, {32, 10, 1}, {4, -1, 1}, {4, 32, 1}, {4, 10, -1}, {4, 10, 4},
            {LEAST, 10, 1}, {4, GREATEST, 1}, {4, 10, LEAST}, {4, 10, GREATEST}};
        for (int[] packet : wrong) {
            DUE.refuses("10 judge", ARGUMENT, () -> smith.judge(packet[0], packet[1], packet[2]));
        }
        DUE.is("10 hits", smith.hits(0), 4);
        DUE.is("10 hits", smith.hits(1), 1);
        DUE.is("10 misses", smith.misses(), 5);
        DUE.is("10 averageLooks", smith.averageLooks(), 1.6f);
        DUE.is("10 judge on an empty list", new Aclsmith().judge(31, 31, 3), false);
    }

    // Promise 11
    private static void decider() {
        Aclsmith smith = Lists.crossed();
        smith.add(8, 8, 8, 8, 15, true);
        DUE.is("11 decider first", smith.decider(0, 15, 3), 0);
        DUE.is("11 decider of common ones", smith.decider(8, 8, 0), 0);
        DUE.is("11 decider second", smith.decider(16, 8, 0), 1);
        DUE.refuses("11 decider, none", NONE, () -> smith.decider(24, 8, 0));
        DUE.refuses("11 decider, none", NONE, () -> smith.decider(31, 31, 3));
        int[][] wrong = {{-1, 0, 0}, {32, 0, 0}, {0, -1, 0}, {0, 32, 0}, {0, 0, -1}, {0, 0, 4},
            {GREATEST, 31, 3}, {31, LEAST, 3}, {31, 31, GREATEST}};
        for (int[] packet : wrong) {
            DUE.refuses("11 decider", ARGUMENT, () -> smith.decider(packet[0], packet[1], packet[2]));
        }
        DUE.is("11 hits stay", smith.hits(0) + smith.hits(1) + smith.hits(2), 0);
        DUE.is("11 misses stay", smith.misses(), 0);
        DUE.is("11 averageLooks stays", smith.averageLooks(), 0f);
        smith.move(1, 0);
        DUE.is("11 decider after move", smith.decider(8, 8, 0), 0);
        DUE.is("11 decider after move", smith.decider(7, 8, 0), 1);
        DUE.refuses("11 decider of an empty list", NONE, () -> new Aclsmith().decider(0, 0, 0));
    }

    // Promise 12
    private static void hits() {
        Aclsmith smith = Lists.crossed();
        Lists.judgeTimes(smith, 8, 8, 0, 3);
        Lists.judgeTimes(smith, 20, 20, 3, 2);
        Lists.judgeTimes(smith, 31, 31, 3, 1);
        DUE.is("12 hits", smith.hits(0), 3);
        DUE.is("12 hits", smith.hits(1), 2);
        DUE.refusesPlaces("12 hits", 2, smith::hits);
        smith.move(0, 1);
        DUE.is("12 hits after move", smith.hits(0), 2);
        Lists.judgeTimes(smith, 8, 8, 0, 1);
        DUE.is("12 hits after move", smith.hits(0), 3);
        DUE.is("12 hits after move", smith.hits(1), 3);
        smith.remove(0);
        smith.add(8, 23, 8, 23, 15, false);
        DUE.is("12 hits of a new rule", smith.hits(1), 0);
    }

    // Promise 13
    private static void misses() {
        Aclsmith smith = new Aclsmith();
        smith.judge(0, 0, 0);
        DUE.is("13 misses of an empty list", smith.misses(), 1);
        smith.add(0, 15, 0, 31, 15, false);
        smith.judge(0, 0, 0);
        DUE.is("13 misses, denied by a rule", smith.misses(), 1);
        smith.judge(16, 0, 0);
        DUE.is("13 misses", smith.misses(), 2);
        smith.remove(0);
        smith.shorten();
        DUE.is("13 misses after remove", smith.misses(), 2);
    }

    // Promise 14
    private static void averageLooks() {
        Aclsmith smith = new Aclsmith();
        DUE.is("14 averageLooks, none judged", smith.averageLooks(), 0f);
        smith.judge(0, 0, 0);
        DUE.is("14 averageLooks of an empty list", smith.averageLooks(), 0f);
        for (int source = 0; source < 4; source++) {
            smith.add(source, source, 0, 31, 15, source % 2 == 0);
        }
        smith.judge(2, 0, 0);
        DUE.is("14 averageLooks, costs 3", smith.averageLooks(), 1.5f);
        smith.judge(31, 0, 0);
        DUE.is("14 averageLooks, costs 4", smith.averageLooks(), 7f / 3f);
        smith.move(2, 0);
        smith.judge(2, 0, 0);
        DUE.is("14 averageLooks, costs 1 now", smith.averageLooks(), 2f);
        smith.remove(0);
        DUE.is("14 averageLooks after remove", smith.averageLooks(), 2f);
        smith.judge(31, 0, 0);
        smith.judge(1, 0, 0);
        DUE.is("14 averageLooks, costs 3 and 2", smith.averageLooks(), 13f / 6f);
        DUE.is("14 decider costs nothing", smith.decider(0, 0, 0), 0);
        DUE.is("14 averageLooks", smith.averageLooks(), 13f / 6f);
    }

    // Promise 15
    private static void decides() {
        Aclsmith smith = Lists.crossed();
        smith.add(0, 31, 0, 31, 5, true);
        smith.add(4, 4, 4, 4, 1, false);
        DUE.is("15 decides", smith.decides(0), 1024);
        DUE.is("15 decides", smith.decides(1), 768);
        DUE.is("15 decides", smith.decides(2), 2048 - 512 - 384);
        DUE.is("15 decides nothing", smith.decides(3), 0);
        DUE.refusesPlaces("15 decides", 4, smith::decides);
        smith.move(3, 0);
        DUE.is("15 decides one packet", smith.decides(0), 1);
        DUE.is("15 decides", smith.decides(1), 1023);
        Aclsmith all = new Aclsmith();
        all.add(0, 31, 0, 31, 15, false);
        DUE.is("15 decides all", all.decides(0), 4096);
    }

    // Promise 16
    private static void overlap() {
        Aclsmith smith = Lists.crossed();
        smith.add(15, 15, 8, 31, 9, false);
        smith.add(24, 31, 0, 31, 15, true);
        smith.add(0, 31, 0, 31, 6, true);
        DUE.is("16 overlap", smith.overlap(0, 1), 256);
        DUE.is("16 overlap turned round", smith.overlap(1, 0), 256);
        DUE.is("16 overlap with itself", smith.overlap(0, 0), 1024);
        DUE.is("16 overlap at an edge", smith.overlap(0, 2), 16);
        DUE.is("16 overlap", smith.overlap(1, 2), 32);
        DUE.is("16 overlap of neighbours", smith.overlap(1, 3), 0);
        DUE.is("16 overlap far apart", smith.overlap(0, 3), 0);
        DUE.is("16 overlap without a common protocol", smith.overlap(2, 4), 0);
        DUE.refusesPlaces("16 overlap one", 5, place -> smith.overlap(place, 0));
        DUE.refusesPlaces("16 overlap other", 5, place -> smith.overlap(0, place));
        DUE.refusesPlaces("16 overlap both", 5, place -> smith.overlap(place, place));
    }

    // Promise 17
    private static void isShadowed() {
        Aclsmith smith = new Aclsmith();
        smith.add(0, 7, 0, 31, 15, true);
        smith.add(8, 15, 0, 31, 15, false);
        smith.add(4, 11, 5, 9, 3, true);
        smith.add(4, 16, 5, 5, 1, true);
        smith.add(16, 16, 5, 5, 1, true);
        DUE.is("17 isShadowed, the first", smith.isShadowed(0), false);
        DUE.is("17 isShadowed, apart", smith.isShadowed(1), false);
        DUE.is("17 isShadowed by two together", smith.isShadowed(2), true);
        DUE.is("17 isShadowed but for a packet", smith.isShadowed(3), false);
        DUE.is("17 isShadowed of one packet", smith.isShadowed(4), true);
        DUE.refusesPlaces("17 isShadowed", 5, smith::isShadowed);
        smith.move(2, 0);
        DUE.is("17 isShadowed after move", smith.isShadowed(0), false);
    }

    // Promise 18
    private static void shadowedBy() {
        Aclsmith smith = new Aclsmith();
        smith.add(0, 7, 0, 31, 15, true);
        smith.add(8, 15, 0, 31, 15, true);
        smith.add(4, 12, 5, 9, 3, true);
        smith.add(4, 12, 5, 9, 3, false);
        smith.add(5, 12, 5, 9, 1, false);
        smith.add(0, 7, 0, 0, 8, false);
        smith.add(4, 12, 4, 9, 3, false);
        smith.add(4, 12, 5, 10, 3, false);
        smith.add(4, 12, 5, 9, 7, false);
        smith.add(3, 12, 5, 9, 3, false);
        smith.add(4, 13, 5, 9, 3, false);
        DUE.refuses("18 shadowedBy, the first", NONE, () -> smith.shadowedBy(0));
        DUE.refuses("18 shadowedBy two together", NONE, () -> smith.shadowedBy(2));
        DUE.is("18 shadowedBy an equal one", smith.shadowedBy(3), 2);
        DUE.is("18 shadowedBy the first of two", smith.shadowedBy(4), 2);
        DUE.is("18 shadowedBy a greater one", smith.shadowedBy(5), 0);
        for (int place : new int[] {6, 7, 8, 9, 10}) {
            DUE.refuses("18 shadowedBy, a bit too great", NONE, () -> smith.shadowedBy(place));
        }
        DUE.refusesPlaces("18 shadowedBy", 11, smith::shadowedBy);
        DUE.refusesPlaces("18 shadowedBy", 0, new Aclsmith()::shadowedBy);
    }

    // Promise 19
    private static void isRedundant() {
        Aclsmith smith = new Aclsmith();
        smith.add(0, 7, 0, 7, 15, true);
        smith.add(0, 15, 0, 7, 15, true);
        smith.add(4, 5, 0, 7, 15, false);
        smith.add(16, 31, 0, 7, 15, false);
        smith.add(20, 21, 0, 7, 1, true);
        DUE.is("19 isRedundant before a greater one", smith.isRedundant(0), true);
        DUE.is("19 isRedundant, needed", smith.isRedundant(1), false);
        DUE.is("19 isRedundant, shadowed", smith.isRedundant(2), true);
        DUE.is("19 isRedundant, a deny ahead of a permit", smith.isRedundant(3), false);
        DUE.is("19 isRedundant, shadowed", smith.isRedundant(4), true);
        smith.remove(4);
        DUE.is("19 isRedundant, a deny ahead of nothing", smith.isRedundant(3), true);
        smith.add(31, 31, 7, 7, 8, true);
        DUE.is("19 isRedundant, a packet makes it needed", smith.isRedundant(3), false);
        DUE.refusesPlaces("19 isRedundant", 5, smith::isRedundant);
        DUE.is("19 nothing changes", smith.rules(), 5);
    }

    // Promise 20
    private static void permitted() {
        Aclsmith smith = Lists.crossed();
        DUE.is("20 permitted", smith.permitted(), 1024);
        smith.add(0, 31, 0, 31, 1, true);
        DUE.is("20 permitted", smith.permitted(), 1024 + 1024 - 256 - 192);
        smith.add(0, 31, 0, 31, 15, true);
        DUE.is("20 permitted but for a deny", smith.permitted(), 4096 - 768);
        smith.move(3, 0);
        DUE.is("20 permitted, all", smith.permitted(), 4096);
        smith.add(0, 31, 0, 31, 15, false);
        smith.move(4, 0);
        DUE.is("20 permitted, none", smith.permitted(), 0);
    }

    private static boolean mergeable(int[] one, int[] other) {
        Aclsmith smith = new Aclsmith();
        smith.add(one[0], one[1], one[2], one[3], one[4], one[5] == 1);
        smith.add(other[0], other[1], other[2], other[3], other[4], other[5] == 1);
        return smith.canMerge(0);
    }

    // Promise 21
    private static void canMergeRanges() {
        int[] base = {8, 11, 20, 23, 6, 1};
        int[][] others = {{12, 13}, {13, 14}, {0, 7}, {0, 6}, {11, 31}, {9, 10}, {0, 31}, {8, 11}, {31, 31}, {0, 0}};
        boolean[] want = {true, false, true, false, true, true, true, true, false, false};
        for (int i = 0; i < others.length; i++) {
            int[] sources = {others[i][0], others[i][1], 20, 23, 6, 1};
            DUE.is("21 canMerge sources " + others[i][0] + " " + others[i][1], mergeable(base, sources), want[i]);
            int[] one = {20, 23, 8, 11, 6, 1};
            int[] destinations = {20, 23, others[i][0], others[i][1], 6, 1};
            DUE.is("21 canMerge destinations " + others[i][0] + " " + others[i][1],
                    mergeable(one, destinations), want[i]);
        }
        DUE.is("21 canMerge, both ranges differ", mergeable(base, new int[] {8, 12, 20, 24, 6, 1}), false);
        DUE.is("21 canMerge, one inside the other", mergeable(base, new int[] {9, 10, 21, 22, 6, 1}), false);
    }

    private static void canMergeSets() {
        int[] base = {8, 11, 20, 23, 6, 1};
        DUE.is("21 canMerge, all equal", mergeable(base, base), true);
        DUE.is("21 canMerge, other action", mergeable(base, new int[] {8, 11, 20, 23, 6, 0}), false);
        DUE.is("21 canMerge denies", mergeable(new int[] {1, 2, 0, 9, 1, 0}, new int[] {3, 4, 0, 9, 1, 0}), true);
        DUE.is("21 canMerge disjoint sets", mergeable(base, new int[] {8, 11, 20, 23, 9, 1}), true);
        DUE.is("21 canMerge sets with a gap", mergeable(base, new int[] {8, 11, 20, 23, 1, 1}), true);
        DUE.is("21 canMerge, set and range differ", mergeable(base, new int[] {12, 13, 20, 23, 7, 1}), false);
        DUE.is("21 canMerge, set and range differ", mergeable(base, new int[] {8, 11, 19, 23, 7, 1}), false);
        Aclsmith smith = Lists.crossed();
        DUE.is("21 canMerge changes nothing", smith.canMerge(0), false);
        DUE.is("21 rules", smith.rules(), 2);
        DUE.refusesPlaces("21 canMerge, none behind it", 1, smith::canMerge);
        DUE.refusesPlaces("21 canMerge", 0, new Aclsmith()::canMerge);
    }

    // Promise 22
    private static void shortenRedundant() {
        Aclsmith twice = new Aclsmith();
        twice.add(0, 7, 0, 7, 15, true);
        twice.add(0, 7, 0, 7, 15, true);
        Lists.judgeTimes(twice, 0, 0, 0, 3);
        twice.move(0, 1);
        Lists.judgeTimes(twice, 0, 0, 0, 2);
        DUE.is("22 shorten two equal ones", twice.shorten(), 1);
        // The second one is taken away, not merged, and its 3 hits go with it.
        DUE.is("22 hits", twice.hits(0), 2);
        Aclsmith ahead = new Aclsmith();
        ahead.add(0, 7, 0, 7, 15, true);
        ahead.add(0, 15, 0, 7, 15, true);
        Lists.judgeTimes(ahead, 0, 0, 0, 3);
        Lists.judgeTimes(ahead, 15, 0, 0, 1);
        DUE.is("22 shorten, the first one redundant", ahead.shorten(), 1);
        DUE.is("22 sources", ahead.sources(0), 15);
        DUE.is("22 hits", ahead.hits(0), 1);
        Aclsmith denies = new Aclsmith();
        denies.add(0, 7, 0, 7, 15, false);
        denies.add(9, 9, 0, 7, 15, false);
        DUE.is("22 shorten to nothing", denies.shorten(), 2);
        DUE.is("22 rules", denies.rules(), 0);
        // Either of the first two is redundant, but not both: the one at the greater place goes.
        Aclsmith either = new Aclsmith();
        either.add(0, 15, 0, 7, 15, true);
        either.add(0, 15, 0, 7, 15, true);
        either.add(8, 31, 0, 7, 15, false);
        either.add(8, 8, 0, 7, 15, true);
        Lists.judgeTimes(either, 1, 1, 1, 5);
        DUE.is("22 shorten", either.shorten(), 3);
        DUE.is("22 hits", either.hits(0), 5);
        Aclsmith needed = Lists.crossed();
        needed.move(1, 0);
        DUE.is("22 shorten, nothing to do", needed.shorten(), 0);
        DUE.is("22 shorten, nothing to do", needed.rules(), 2);
    }

    private static void shortenMerging() {
        Aclsmith three = new Aclsmith();
        three.add(8, 15, 0, 7, 3, true);
        three.add(0, 7, 0, 7, 3, true);
        three.add(16, 20, 0, 7, 3, true);
        Lists.judgeTimes(three, 0, 0, 0, 2);
        Lists.judgeTimes(three, 8, 0, 0, 1);
        Lists.judgeTimes(three, 16, 0, 0, 4);
        DUE.is("22 shorten by merging", three.shorten(), 2);
        DUE.is("22 sources", three.sources(0), 20);
        DUE.is("22 destinations", three.destinations(0), 7);
        DUE.is("22 protocols", three.protocols(0), 3);
        DUE.is("22 hits", three.hits(0), 7);
        DUE.is("22 permitted", three.permitted(), 21 * 8 * 2);
        // The first and the second one merge first; the third one then differs too much.
        Aclsmith corner = new Aclsmith();
        corner.add(0, 7, 0, 7, 15, true);
        corner.add(8, 15, 0, 7, 15, true);
        corner.add(8, 15, 8, 15, 15, true);
        DUE.is("22 shorten the first neighbours", corner.shorten(), 1);
        DUE.is("22 sources", corner.sources(0), 15);
        DUE.is("22 destinations", corner.destinations(1), 815);
        Aclsmith sets = new Aclsmith();
        sets.add(0, 7, 0, 7, 1, true);
        sets.add(0, 7, 0, 7, 8, true);
        sets.add(0, 7, 9, 9, 9, true);
        sets.add(0, 7, 8, 8, 9, true);
        DUE.is("22 shorten sets and then ranges", sets.shorten(), 3);
        DUE.is("22 protocols", sets.protocols(0), 9);
        DUE.is("22 destinations", sets.destinations(0), 9);
        Aclsmith denies = new Aclsmith();
        denies.add(0, 3, 0, 31, 15, false);
        denies.add(4, 7, 0, 31, 15, false);
        denies.add(0, 31, 0, 31, 15, true);
        DUE.is("22 shorten denies", denies.shorten(), 1);
        DUE.is("22 sources", denies.sources(0), 7);
        DUE.is("22 permits", denies.permits(0), false);
        DUE.is("22 permitted", denies.permitted(), 3072);
    }

    // Promise 23
    private static void sortByHits() {
        Aclsmith smith = Lists.single(4);
        Lists.judgeTimes(smith, 1, 0, 0, 1);
        Lists.judgeTimes(smith, 2, 0, 0, 2);
        Lists.judgeTimes(smith, 3, 0, 0, 3);
        DUE.is("23 sortByHits turns all round", smith.sortByHits(), 6);
        DUE.is("23 order", Lists.order(smith), "3 2 1 0");
        DUE.is("23 hits", smith.hits(0), 3);
        DUE.is("23 sortByHits again", smith.sortByHits(), 0);
        Aclsmith equal = Lists.single(3);
        Lists.judgeTimes(equal, 0, 0, 0, 1);
        Lists.judgeTimes(equal, 1, 0, 0, 1);
        DUE.is("23 sortByHits with equal hits", equal.sortByHits(), 0);
        DUE.is("23 order", Lists.order(equal), "0 1 2");
        DUE.is("23 sortByHits of one rule", Lists.single(1).sortByHits(), 0);
        Aclsmith full = Lists.single(16);
        for (int source = 0; source < 16; source++) {
            Lists.judgeTimes(full, source, 0, 0, source);
        }
        DUE.is("23 sortByHits of a full list", full.sortByHits(), 120);
        DUE.is("23 order", Lists.order(full), "15 14 13 12 11 10 9 8 7 6 5 4 3 2 1 0");
    }

    private static void sortByHitsBlocked() {
        Aclsmith smith = new Aclsmith();
        smith.add(0, 9, 0, 31, 15, true);
        smith.add(5, 15, 0, 31, 15, false);
        smith.add(20, 21, 0, 31, 15, true);
        Lists.judgeTimes(smith, 15, 0, 0, 1);
        Lists.judgeTimes(smith, 20, 0, 0, 2);
        int permitted = smith.permitted();
        DUE.is("23 sortByHits past a deny", smith.sortByHits(), 2);
        DUE.is("23 order", Lists.order(smith), "20 0 5");
        DUE.is("23 permitted", smith.permitted(), permitted);
        Aclsmith same = new Aclsmith();
        same.add(0, 9, 0, 31, 15, false);
        same.add(5, 15, 0, 31, 15, false);
        Lists.judgeTimes(same, 15, 0, 0, 1);
        DUE.is("23 sortByHits of one action", same.sortByHits(), 1);
        DUE.is("23 order", Lists.order(same), "5 0");
        Aclsmith one = new Aclsmith();
        one.add(0, 9, 0, 9, 3, true);
        one.add(9, 15, 9, 15, 2, false);
        Lists.judgeTimes(one, 15, 15, 1, 1);
        DUE.is("23 sortByHits with one common packet", one.sortByHits(), 0);
        Aclsmith none = new Aclsmith();
        none.add(0, 9, 0, 9, 3, true);
        none.add(9, 15, 9, 15, 12, false);
        Lists.judgeTimes(none, 15, 15, 3, 1);
        DUE.is("23 sortByHits without a common protocol", none.sortByHits(), 1);
    }

    // Promise 24
    private static void entries() {
        int[] blocks = {0, 1, 1, 1, 1, 2, 2, 2, 1, 2, 2, 2, 1, 2, 2, 1};
        for (int protocols = 1; protocols <= 15; protocols++) {
            Aclsmith smith = new Aclsmith();
            smith.add(0, 31, 0, 31, protocols, true);
            DUE.is("24 entries of the set " + protocols, smith.entries(0), blocks[protocols]);
        }
        int[][] ranges = {{0, 31, 1}, {1, 30, 8}, {3, 12, 4}, {5, 5, 1}, {0, 30, 5}, {1, 31, 5}, {8, 15, 1},
            {8, 16, 2}, {7, 8, 2}, {4, 11, 2}, {31, 31, 1}, {16, 31, 1}, {15, 16, 2}, {2, 3, 1}, {1, 2, 2}};
        for (int[] range : ranges) {
            Aclsmith smith = new Aclsmith();
            smith.add(range[0], range[1], 0, 31, 15, true);
            smith.add(0, 31, range[0], range[1], 15, true);
            smith.add(range[0], range[1], range[0], range[1], 6, false);
            DUE.is("24 entries of sources " + range[0] + " " + range[1], smith.entries(0), range[2]);
            DUE.is("24 entries of destinations " + range[0] + " " + range[1], smith.entries(1), range[2]);
            DUE.is("24 entries of all", smith.entries(2), 2 * range[2] * range[2]);
            DUE.refusesPlaces("24 entries", 3, smith::entries);
        }
        DUE.refusesPlaces("24 entries", 0, new Aclsmith()::entries);
    }

    private static Aclsmith split() {
        Aclsmith smith = new Aclsmith();
        smith.add(0, 31, 0, 31, 15, true);
        smith.add(3, 12, 5, 6, 14, true);
        return smith;
    }

    // Promise 25
    private static void entryValue() {
        Aclsmith smith = split();
        DUE.is("25 entryValue of all", smith.entryValue(0, 0), 0);
        int entry = 0;
        for (int source : new int[] {3, 4, 8, 12}) {
            for (int destination : new int[] {5, 6}) {
                for (int protocol : new int[] {1, 2}) {
                    DUE.is("25 entryValue " + entry, smith.entryValue(1, entry),
                            128 * source + 4 * destination + protocol);
                    entry++;
                }
            }
        }
        for (int wrong : new int[] {16, 17, -1, LEAST, GREATEST}) {
            DUE.refuses("25 entryValue " + wrong, PLACE, () -> smith.entryValue(1, wrong));
        }
        DUE.refuses("25 entryValue of all, 1", PLACE, () -> smith.entryValue(0, 1));
        DUE.refusesPlaces("25 entryValue", 2, place -> smith.entryValue(place, 0));
        Aclsmith most = new Aclsmith();
        most.add(1, 30, 1, 30, 9, true);
        DUE.is("25 entryValue, the last of 128", most.entryValue(0, 127), 128 * 30 + 4 * 30 + 3);
        DUE.refuses("25 entryValue 128", PLACE, () -> most.entryValue(0, 128));
    }

    // Promise 26
    private static void entryMask() {
        Aclsmith smith = split();
        DUE.is("26 entryMask of all", smith.entryMask(0, 0), 0);
        int entry = 0;
        for (int source : new int[] {31, 28, 28, 31}) {
            for (int destination : new int[] {31, 31}) {
                for (int protocol : new int[] {3, 2}) {
                    DUE.is("26 entryMask " + entry, smith.entryMask(1, entry),
                            128 * source + 4 * destination + protocol);
                    entry++;
                }
            }
        }
        for (int wrong : new int[] {16, 17, -1, LEAST, GREATEST}) {
            DUE.refuses("26 entryMask " + wrong, PLACE, () -> smith.entryMask(1, wrong));
        }
        DUE.refuses("26 entryMask of all, 1", PLACE, () -> smith.entryMask(0, 1));
        DUE.refusesPlaces("26 entryMask", 2, place -> smith.entryMask(place, 0));
        Aclsmith halves = new Aclsmith();
        halves.add(16, 31, 0, 15, 3, true);
        halves.add(31, 31, 31, 31, 8, true);
        DUE.is("26 entryMask of halves", halves.entryMask(0, 0), 128 * 16 + 4 * 16 + 2);
        DUE.is("26 entryMask of one packet", halves.entryMask(1, 0), 4095);
    }

    /** Promises 24 to 26 together: each packet of a rule fits just one of its entries, and no other packet fits. */
    private static void entriesMatchAsRules() {
        int[][] rules = {{0, 31, 0, 31, 15}, {1, 30, 2, 29, 6}, {3, 12, 5, 5, 13},
            {7, 24, 9, 31, 7}, {31, 31, 0, 0, 8}};
        for (int[] rule : rules) {
            Aclsmith smith = new Aclsmith();
            smith.add(rule[0], rule[1], rule[2], rule[3], rule[4], true);
            int[] fitting = new int[4096];
            int entries = smith.entries(0);
            for (int entry = 0; entry < entries; entry++) {
                int value = smith.entryValue(0, entry);
                int mask = smith.entryMask(0, entry);
                DUE.is("26 value has bits outside its mask", value & ~mask, 0);
                for (int packet = 0; packet < 4096; packet++) {
                    fitting[packet] += (packet & mask) == value ? 1 : 0;
                }
            }
            for (int packet = 0; packet < 4096; packet++) {
                int source = packet / 128;
                int destination = packet / 4 % 32;
                boolean matches = source >= rule[0] && source <= rule[1] && destination >= rule[2]
                        && destination <= rule[3] && (rule[4] >> packet % 4) % 2 == 1;
                DUE.is("24 to 26, entries that packet " + packet + " fits", fitting[packet], matches ? 1 : 0);
            }
        }
    }

    // Promise 27
    private static void allEntries() {
        Aclsmith smith = split();
        DUE.is("27 allEntries", smith.allEntries(), 17);
        smith.add(1, 30, 1, 30, 6, false);
        DUE.is("27 allEntries", smith.allEntries(), 145);
        smith.remove(1);
        DUE.is("27 allEntries after remove", smith.allEntries(), 129);
        Aclsmith full = new Aclsmith();
        for (int place = 0; place < 16; place++) {
            full.add(1, 30, 1, 30, 9, true);
        }
        DUE.is("27 allEntries of a full list", full.allEntries(), 2048);
    }
}
