import java.util.NoSuchElementException;

/** Promises 15 to 20: a test for each sentence that says where a number ends, what is refused, or what is not there. */
public final class ShadowsBoundaryTest {
    private static final Class<IndexOutOfBoundsException> PLACE = IndexOutOfBoundsException.class;
    private static final Class<NoSuchElementException> NONE = NoSuchElementException.class;

    private static final Due DUE = new Due();

    public static void main(String[] args) {
        decidesFromNoneToAll();
        decidesOnePacket();
        decidesOfAFullList();
        overlapWithItself();
        overlapFromNoneToAll();
        overlapOfOnePacket();
        overlapOfBothOutOfRange();
        firstIsNeverShadowed();
        shadowedByAllTogether();
        shadowedByNoSingleRule();
        shadowedByTheFirstSuchRule();
        shadowedByTheNearestAndTheFarthest();
        shadowedByNeedsAllPackets();
        redundantOnlyRule();
        redundantForOnePacket();
        redundantBehindOrAheadOfOthers();
        redundantOfAFullList();
        permittedFromNoneToAll();
        permittedWithoutAPermit();
        permittedBehindFifteenDenies();
        placesThatAreNotThere();
        questionsChangeNothing();
        DUE.end("ShadowsBoundaryTest");
    }

    // Promise 15: "how many packets a rule decides", 0 to 4096
    private static void decidesFromNoneToAll() {
        Aclsmith smith = Lists.alike(16);
        DUE.is("15 decides all", smith.decides(0), 4096);
        for (int place = 1; place < 16; place++) {
            DUE.is("15 decides none", smith.decides(place), 0);
        }
        Aclsmith denies = new Aclsmith();
        Lists.addAll(denies, false);
        DUE.is("15 decides all, a deny", denies.decides(0), 4096);
    }

    // Terms: "The packets that a rule decides are those for which it is the first rule that matches."
    private static void decidesOnePacket() {
        Aclsmith smith = new Aclsmith();
        smith.add(0, 0, 0, 0, 1, true);
        smith.add(31, 31, 31, 31, 8, false);
        Lists.addAll(smith, true);
        DUE.is("15 decides the first packet", smith.decides(0), 1);
        DUE.is("15 decides the last packet", smith.decides(1), 1);
        DUE.is("15 decides all others", smith.decides(2), 4094);
        smith.add(0, 0, 0, 0, 1, true);
        DUE.is("15 decides none, one packet matched before", smith.decides(3), 0);
        smith.move(2, 0);
        DUE.is("15 decides none, behind a rule for all", smith.decides(1), 0);
        Aclsmith but = new Aclsmith();
        but.add(0, 30, 0, 31, 15, false);
        but.add(31, 31, 0, 30, 15, true);
        but.add(31, 31, 31, 31, 7, false);
        Lists.addAll(but, true);
        DUE.is("15 decides what three left", but.decides(3), 1);
    }

    // Promise 15, a full list: each packet has one rule that decides it, or none
    private static void decidesOfAFullList() {
        Aclsmith smith = new Aclsmith();
        for (int place = 0; place < 16; place++) {
            smith.add(15 - place, 16 + place, place, 31, 15, place % 2 == 0);
        }
        DUE.is("15 decides, the first", smith.decides(0), 2 * 32 * 4);
        for (int place = 1; place < 16; place++) {
            DUE.is("15 decides " + place, smith.decides(place), 2 * (32 - place) * 4);
        }
    }

    // Promise 16: "a place, which may be the same"
    private static void overlapWithItself() {
        Aclsmith smith = Lists.alike(1);
        DUE.is("16 overlap with itself", smith.overlap(0, 0), 4096);
        smith.add(31, 31, 0, 0, 8, true);
        DUE.is("16 overlap of a shadowed one with itself", smith.overlap(1, 1), 1);
        Aclsmith full = Lists.single(16);
        DUE.is("16 overlap of the last with itself", full.overlap(15, 15), 128);
    }

    private static int overlapOf(int[] one, int[] other) {
        Aclsmith smith = new Aclsmith();
        smith.add(one[0], one[1], one[2], one[3], one[4], true);
        smith.add(other[0], other[1], other[2], other[3], other[4], false);
        int packets = smith.overlap(0, 1);
        DUE.is("16 overlap turned round", smith.overlap(1, 0), packets);
        return packets;
    }

    // Promise 16: "how many packets two rules both match", 0 to 4096
    private static void overlapFromNoneToAll() {
        int[] all = {0, 31, 0, 31, 15};
        DUE.is("16 overlap, all", overlapOf(all, all), 4096);
        int[] base = {8, 15, 16, 23, 3};
        DUE.is("16 overlap, inside", overlapOf(base, all), 128);
        DUE.is("16 overlap, the same", overlapOf(base, base), 128);
        DUE.is("16 overlap, sources right behind", overlapOf(base, new int[] {16, 31, 16, 23, 3}), 0);
        DUE.is("16 overlap, sources right ahead", overlapOf(base, new int[] {0, 7, 16, 23, 3}), 0);
        DUE.is("16 overlap, sources far behind", overlapOf(base, new int[] {31, 31, 16, 23, 3}), 0);
        DUE.is("16 overlap, destinations right behind", overlapOf(base, new int[] {8, 15, 24, 31, 3}), 0);
        DUE.is("16 overlap, destinations right ahead", overlapOf(base, new int[] {8, 15, 0, 15, 3}), 0);
        DUE.is("16 overlap, both far off", overlapOf(base, new int[] {0, 0, 31, 31, 3}), 0);
        DUE.is("16 overlap, no common protocol", overlapOf(base, new int[] {8, 15, 16, 23, 12}), 0);
    }

    // Promise 16: one packet in common, at each corner
    private static void overlapOfOnePacket() {
        int[] base = {8, 15, 16, 23, 3};
        DUE.is("16 overlap at a corner", overlapOf(base, new int[] {15, 31, 23, 31, 2}), 1);
        DUE.is("16 overlap at a corner", overlapOf(base, new int[] {0, 8, 0, 16, 1}), 1);
        DUE.is("16 overlap at a corner", overlapOf(base, new int[] {0, 8, 23, 31, 13}), 1);
        DUE.is("16 overlap at a corner", overlapOf(base, new int[] {15, 31, 0, 16, 14}), 1);
    }

    // Promise 16: "Throws IndexOutOfBoundsException if there is no such place", for each of the two places
    private static void overlapOfBothOutOfRange() {
        for (int rules : new int[] {0, 1, 2, 15, 16}) {
            Aclsmith smith = Lists.single(rules);
            DUE.refusesPlaces("16 overlap one", rules, place -> smith.overlap(place, 0));
            DUE.refusesPlaces("16 overlap one", rules, place -> smith.overlap(place, rules - 1));
            DUE.refusesPlaces("16 overlap other", rules, place -> smith.overlap(0, place));
            DUE.refusesPlaces("16 overlap other", rules, place -> smith.overlap(rules - 1, place));
            DUE.refusesPlaces("16 overlap both", rules, place -> smith.overlap(place, place));
        }
    }

    // Promise 17: "A rule is shadowed if it decides no packet."
    private static void firstIsNeverShadowed() {
        Aclsmith smith = Lists.alike(16);
        DUE.is("17 isShadowed, the first", smith.isShadowed(0), false);
        for (int place = 1; place < 16; place++) {
            DUE.is("17 isShadowed " + place, smith.isShadowed(place), true);
        }
        Aclsmith only = new Aclsmith();
        only.add(31, 31, 31, 31, 8, false);
        DUE.is("17 isShadowed, an only rule", only.isShadowed(0), false);
    }

    // Promise 17: fifteen rules shadow the last one together, and one packet less of them does not
    private static void shadowedByAllTogether() {
        Aclsmith smith = new Aclsmith();
        for (int source = 0; source < 15; source++) {
            smith.add(source, source, 0, 31, 15, source % 2 == 0);
        }
        smith.add(0, 14, 0, 31, 15, true);
        DUE.is("17 isShadowed by 15 together", smith.isShadowed(15), true);
        DUE.refuses("18 shadowedBy none of the 15", NONE, () -> smith.shadowedBy(15));
        smith.remove(15);
        smith.remove(14);
        smith.add(14, 14, 1, 31, 15, true);
        smith.add(0, 14, 0, 31, 15, true);
        DUE.is("17 isShadowed, 4 packets are left", smith.isShadowed(15), false);
        smith.remove(14);
        smith.remove(14);
        smith.add(14, 14, 0, 31, 7, true);
        smith.add(0, 14, 0, 0, 15, true);
        DUE.is("17 isShadowed, one packet is left", smith.isShadowed(15), false);
        DUE.is("17 decides it", smith.decides(15), 1);
    }

    // Promise 18: "Throws NoSuchElementException if there is no such rule"
    private static void shadowedByNoSingleRule() {
        Aclsmith smith = new Aclsmith();
        smith.add(0, 15, 0, 31, 15, true);
        DUE.refuses("18 shadowedBy, an only rule", NONE, () -> smith.shadowedBy(0));
        smith.add(16, 31, 0, 31, 15, true);
        Lists.addAll(smith, true);
        DUE.refuses("18 shadowedBy, the first", NONE, () -> smith.shadowedBy(0));
        DUE.refuses("18 shadowedBy, not shadowed", NONE, () -> smith.shadowedBy(1));
        DUE.is("17 isShadowed by two", smith.isShadowed(2), true);
        DUE.refuses("18 shadowedBy two together", NONE, () -> smith.shadowedBy(2));
        smith.move(2, 1);
        DUE.refuses("18 shadowedBy one behind it", NONE, () -> smith.shadowedBy(0));
        DUE.is("18 shadowedBy one before it", smith.shadowedBy(2), 1);
    }

    // Promise 18: "the place of the first such rule", whatever its action, and shadowed itself or not
    private static void shadowedByTheFirstSuchRule() {
        Aclsmith alike = Lists.alike(16);
        for (int place = 1; place < 16; place++) {
            DUE.is("18 shadowedBy the first", alike.shadowedBy(place), 0);
        }
        Aclsmith smith = new Aclsmith();
        smith.add(0, 15, 0, 31, 15, true);
        smith.add(0, 7, 0, 31, 15, false);
        smith.add(0, 7, 0, 31, 15, true);
        smith.add(8, 16, 0, 31, 15, true);
        DUE.is("18 shadowedBy another action", smith.shadowedBy(1), 0);
        DUE.is("18 shadowedBy the first of two", smith.shadowedBy(2), 0);
        DUE.refuses("18 shadowedBy, not shadowed", NONE, () -> smith.shadowedBy(3));
        smith.move(0, 3);
        DUE.is("18 shadowedBy an equal one", smith.shadowedBy(1), 0);
        smith.add(9, 16, 0, 31, 15, true);
        DUE.is("18 shadowedBy, the two ahead do not", smith.shadowedBy(4), 2);
    }

    // Promise 18: "the first rule before it", from the first place to the one right before it
    private static void shadowedByTheNearestAndTheFarthest() {
        for (int shadow = 0; shadow < 15; shadow++) {
            Aclsmith smith = Lists.single(15);
            smith.add(shadow, shadow, 31, 31, 8, true);
            DUE.is("18 shadowedBy " + shadow, smith.shadowedBy(15), shadow);
        }
        Aclsmith last = Lists.single(15);
        last.add(15, 15, 31, 31, 8, true);
        DUE.refuses("18 shadowedBy, not itself", NONE, () -> last.shadowedBy(15));
    }

    // Promise 18: "that matches all packets that it matches", not all but one
    private static void shadowedByNeedsAllPackets() {
        int[][] shadows = {{8, 15, 20, 23, 6}, {7, 16, 19, 24, 7}, {0, 31, 0, 31, 15}};
        int[][] misfits = {{9, 15, 20, 23, 6}, {8, 14, 20, 23, 6}, {8, 15, 21, 23, 6}, {8, 15, 20, 22, 6},
            {8, 15, 20, 23, 2}, {8, 15, 20, 23, 4}, {8, 15, 20, 23, 9}, {0, 31, 0, 31, 13},
            {8, 15, 0, 19, 6}, {16, 31, 20, 23, 6}, {20, 23, 8, 15, 6}};
        for (int[] shadow : shadows) {
            Aclsmith smith = new Aclsmith();
            smith.add(shadow[0], shadow[1], shadow[2], shadow[3], shadow[4], false);
            smith.add(8, 15, 20, 23, 6, true);
            DUE.is("18 shadowedBy", smith.shadowedBy(1), 0);
        }
        for (int[] misfit : misfits) {
            Aclsmith smith = new Aclsmith();
            smith.add(misfit[0], misfit[1], misfit[2], misfit[3], misfit[4], false);
            smith.add(8, 15, 20, 23, 6, true);
            DUE.refuses("18 shadowedBy, a bit too small", NONE, () -> smith.shadowedBy(1));
        }
    }

    // Promise 19: without an only rule all packets are denied
    private static void redundantOnlyRule() {
        Aclsmith deny = new Aclsmith();
        Lists.addAll(deny, false);
        DUE.is("19 isRedundant, an only deny", deny.isRedundant(0), true);
        Aclsmith permit = new Aclsmith();
        permit.add(31, 31, 31, 31, 8, true);
        DUE.is("19 isRedundant, an only permit of one packet", permit.isRedundant(0), false);
    }

    // Terms: "if all packets would be permitted or denied as before without it", all but one is not enough
    private static void redundantForOnePacket() {
        Aclsmith smith = Lists.alike(1);
        smith.add(0, 31, 0, 31, 15, true);
        DUE.is("19 isRedundant, the first of two equal ones", smith.isRedundant(0), true);
        DUE.is("19 isRedundant, the second of two equal ones", smith.isRedundant(1), true);
        smith.remove(1);
        int[][] others = {{1, 31, 0, 31, 15}, {0, 30, 0, 31, 15}, {0, 31, 1, 31, 15}, {0, 31, 0, 30, 15},
            {0, 31, 0, 31, 14}, {0, 31, 0, 31, 7}};
        for (int[] other : others) {
            smith.add(other[0], other[1], other[2], other[3], other[4], true);
            DUE.is("19 isRedundant, the next is a bit smaller", smith.isRedundant(0), false);
            DUE.is("19 isRedundant, shadowed", smith.isRedundant(1), true);
            smith.remove(1);
        }
        Aclsmith one = new Aclsmith();
        one.add(5, 5, 5, 5, 2, false);
        Lists.addAll(one, true);
        DUE.is("19 isRedundant, one packet is permitted without it", one.isRedundant(0), false);
    }

    // Promise 19: shadowed rules, rules of the action behind them, and denies ahead of nothing
    private static void redundantBehindOrAheadOfOthers() {
        Aclsmith smith = new Aclsmith();
        smith.add(0, 7, 0, 31, 15, true);
        smith.add(8, 15, 0, 31, 15, true);
        smith.add(4, 11, 0, 31, 15, false);
        DUE.is("19 isRedundant, shadowed by two", smith.isRedundant(2), true);
        DUE.is("19 isRedundant, what is behind denies", smith.isRedundant(0), false);
        smith.add(0, 15, 0, 31, 15, true);
        DUE.is("19 isRedundant, a deny decides some of it without it", smith.isRedundant(0), false);
        smith.remove(2);
        DUE.is("19 isRedundant, a permit decides it without it", smith.isRedundant(0), true);
        DUE.is("19 isRedundant, a permit decides it without it", smith.isRedundant(1), true);
        smith.add(16, 31, 0, 31, 15, false);
        DUE.is("19 isRedundant, a deny at the end", smith.isRedundant(3), true);
        smith.add(31, 31, 31, 31, 8, true);
        DUE.is("19 isRedundant, a deny ahead of a permit of one packet", smith.isRedundant(3), false);
        DUE.is("19 isRedundant, shadowed by a deny", smith.isRedundant(4), true);
    }

    // Promise 19, a full list: permits are needed, and denies ahead of nothing are not
    private static void redundantOfAFullList() {
        Aclsmith smith = Lists.single(16);
        for (int place = 0; place < 16; place++) {
            DUE.is("19 isRedundant " + place, smith.isRedundant(place), place % 2 == 1);
        }
    }

    // Promise 20: "how many of all packets are permitted", 0 to 4096
    private static void permittedFromNoneToAll() {
        Aclsmith smith = new Aclsmith();
        DUE.is("20 permitted by an empty list", smith.permitted(), 0);
        smith.add(31, 31, 31, 31, 8, true);
        DUE.is("20 permitted, one", smith.permitted(), 1);
        Lists.addAll(smith, true);
        DUE.is("20 permitted, all", smith.permitted(), 4096);
        smith.add(0, 0, 0, 0, 1, false);
        DUE.is("20 permitted, all, as the deny is shadowed", smith.permitted(), 4096);
        smith.move(2, 0);
        DUE.is("20 permitted, all but one", smith.permitted(), 4095);
        DUE.is("20 permitted by a full list", Lists.single(16).permitted(), 8 * 128);
    }

    // Terms: "A packet that no rule matches is denied."
    private static void permittedWithoutAPermit() {
        Aclsmith smith = new Aclsmith();
        smith.add(5, 9, 0, 31, 15, false);
        DUE.is("20 permitted by a deny alone", smith.permitted(), 0);
        Lists.addAll(smith, false);
        Lists.addAll(smith, true);
        DUE.is("20 permitted behind a deny of all", smith.permitted(), 0);
        smith.remove(1);
        DUE.is("20 permitted beside a deny", smith.permitted(), 27 * 128);
    }

    // Promise 20, a full list: the last rule permits what none of the others matches
    private static void permittedBehindFifteenDenies() {
        Aclsmith smith = new Aclsmith();
        for (int place = 0; place < 15; place++) {
            smith.add(0, 31, 2 * place, 2 * place, 15, false);
        }
        Lists.addAll(smith, true);
        DUE.is("20 permitted behind 15 denies", smith.permitted(), 17 * 128);
        DUE.is("3 remove the first deny", smith.remove(0), 128);
        DUE.is("3 remove the last deny", smith.remove(13), 128);
        DUE.is("20 permitted behind 13 denies", smith.permitted(), 19 * 128);
    }

    // Promises 15, 17, 18 and 19: "Throws IndexOutOfBoundsException if there is no such place"
    private static void placesThatAreNotThere() {
        for (int rules : new int[] {0, 1, 2, 15, 16}) {
            Aclsmith smith = Lists.alike(rules);
            DUE.refusesPlaces("15 decides", rules, smith::decides);
            DUE.refusesPlaces("17 isShadowed", rules, smith::isShadowed);
            DUE.refusesPlaces("18 shadowedBy", rules, smith::shadowedBy);
            DUE.refusesPlaces("19 isRedundant", rules, smith::isRedundant);
            for (int place : Lists.farOut()) {
                if (place < 0 || place >= rules) {
                    DUE.refuses("18 shadowedBy " + place, PLACE, () -> smith.shadowedBy(place));
                }
            }
        }
    }

    // Promises 15 to 20 tell of no change
    private static void questionsChangeNothing() {
        Aclsmith smith = Lists.crossed();
        smith.judge(20, 20, 0);
        String before = Lists.state(smith);
        smith.decides(1);
        smith.overlap(0, 1);
        smith.isShadowed(1);
        smith.isRedundant(1);
        smith.permitted();
        DUE.refuses("18 shadowedBy", NONE, () -> smith.shadowedBy(1));
        DUE.is("15 to 20 state", Lists.state(smith), before);
    }
}
