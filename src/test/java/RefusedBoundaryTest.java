import java.util.NoSuchElementException;

/**
 * Terms: "A method that throws an exception changes nothing. If several exceptions apply, the one that is documented
 * first is thrown." Each call that can be refused is made on a list of its own, which must then answer all that a
 * second list answers, made in the same way but without that call.
 */
public final class RefusedBoundaryTest {
    private static final Class<IllegalArgumentException> ARGUMENT = IllegalArgumentException.class;
    private static final Class<IllegalStateException> STATE = IllegalStateException.class;
    private static final Class<IndexOutOfBoundsException> PLACE = IndexOutOfBoundsException.class;
    private static final Class<NoSuchElementException> NONE = NoSuchElementException.class;
    private static final int[] SIZES = {0, 1, 2, 3, 15, 16};

    private static final Due DUE = new Due();

    /** A call of an object. */
    private interface CallOf {
        void of(Aclsmith smith);
    }

    /** A call of an object that asks for a place. */
    private interface PlaceOf {
        void of(Aclsmith smith, int place);
    }

    /** A call of an object that asks for a packet. */
    private interface PacketOf {
        void of(Aclsmith smith, int source, int destination, int protocol);
    }

    public static void main(String[] args) {
        for (int rules : SIZES) {
            wrongRules(rules);
            wrongPlaces(rules);
            wrongSecondPlaces(rules);
            wrongEntries(rules);
            wrongPackets(rules);
            noSuchRule(rules);
        }
        fullList();
        refusedAgainAndAgain();
        DUE.end("RefusedBoundaryTest");
    }

    /** Permits and denies that overlap, with hits and misses, none of whose packets has a source above 23. */
    private static Aclsmith judgedList(int rules) {
        Aclsmith smith = new Aclsmith();
        for (int place = 0; place < rules; place++) {
            smith.add(place, place + 8, place % 5, 20 + place % 3, 1 + place * 7 % 15, place % 3 > 0);
            smith.judge(place + 8, 10, place % 4);
            smith.judge(place + 4, 20, 1);
        }
        smith.judge(31, 31, 3);
        smith.judge(0, 31, 0);
        return smith;
    }

    /** What an object answers, and what it answers after more calls; some 300 calls for a full list. */
    private static String story(Aclsmith smith) {
        StringBuilder words = new StringBuilder(Lists.state(smith));
        smith.judge(20, 15, 2);
        smith.judge(31, 31, 3);
        words.append(", sorted by ").append(smith.sortByHits()).append(": ").append(Lists.state(smith));
        words.append(", shortened by ").append(smith.shorten()).append(": ").append(Lists.state(smith));
        words.append(", place of one more ").append(Lists.addAll(smith, false));
        return words.toString();
    }

    private static void refusedChangesNothing(String call, int rules, Class<? extends RuntimeException> want,
            CallOf refused) {
        Aclsmith smith = judgedList(rules);
        DUE.refuses(call + " on " + rules, want, () -> refused.of(smith));
        DUE.is(call + " on " + rules + ", what it answers then", story(smith), story(judgedList(rules)));
    }

    // Promise 2
    private static void wrongRules(int rules) {
        int[][] wrong = {{-1, 31, 0, 31, 15}, {32, 32, 0, 31, 15}, {5, 4, 0, 31, 15}, {0, 32, 0, 31, 15},
            {0, 31, -1, 31, 15}, {0, 31, 32, 32, 15}, {0, 31, 5, 4, 15}, {0, 31, 0, 32, 15},
            {0, 31, 0, 31, 0}, {0, 31, 0, 31, 16}, {0, 31, 0, 31, -1}, {-1, -2, 40, 3, 99}};
        for (int[] rule : wrong) {
            String call = "2 add " + rule[0] + " " + rule[1] + " " + rule[2] + " " + rule[3] + " " + rule[4];
            refusedChangesNothing(call, rules, ARGUMENT,
                    smith -> smith.add(rule[0], rule[1], rule[2], rule[3], rule[4], true));
        }
    }

    private static void fullList() {
        refusedChangesNothing("2 add to a full list", 16, STATE, smith -> Lists.addAll(smith, true));
        refusedChangesNothing("2 add to a full list", 16, STATE, smith -> smith.add(0, 0, 0, 0, 1, false));
    }

    private static void refusesPlaces(String call, int rules, PlaceOf run) {
        for (int place : new int[] {-1, Integer.MIN_VALUE, rules, rules + 1, 16, 17, Integer.MAX_VALUE}) {
            refusedChangesNothing(call + " " + place, rules, PLACE, smith -> run.of(smith, place));
        }
    }

    // Promises 3, 4, 6 to 9, 12, 15 to 19, 21 and 24 to 26
    private static void wrongPlaces(int rules) {
        refusesPlaces("3 remove", rules, Aclsmith::remove);
        refusesPlaces("4 move from", rules, (smith, place) -> smith.move(place, 0));
        refusesPlaces("4 move from and to", rules, (smith, place) -> smith.move(place, place));
        refusesPlaces("6 sources", rules, Aclsmith::sources);
        refusesPlaces("7 destinations", rules, Aclsmith::destinations);
        refusesPlaces("8 protocols", rules, Aclsmith::protocols);
        refusesPlaces("9 permits", rules, Aclsmith::permits);
        refusesPlaces("12 hits", rules, Aclsmith::hits);
        refusesPlaces("15 decides", rules, Aclsmith::decides);
        refusesPlaces("16 overlap one", rules, (smith, place) -> smith.overlap(place, 0));
        refusesPlaces("17 isShadowed", rules, Aclsmith::isShadowed);
        refusesPlaces("18 shadowedBy", rules, Aclsmith::shadowedBy);
        refusesPlaces("19 isRedundant", rules, Aclsmith::isRedundant);
        refusesPlaces("21 canMerge", rules, Aclsmith::canMerge);
        refusesPlaces("24 entries", rules, Aclsmith::entries);
        refusesPlaces("25 entryValue", rules, (smith, place) -> smith.entryValue(place, 0));
        refusesPlaces("26 entryMask", rules, (smith, place) -> smith.entryMask(place, 0));
        refusedChangesNothing("21 canMerge, none behind", rules, PLACE, smith -> smith.canMerge(rules - 1));
    }

    // Promises 4 and 16, where the first place is there and the second one is not
    private static void wrongSecondPlaces(int rules) {
        refusesPlaces("4 move to", rules, (smith, place) -> smith.move(0, place));
        refusesPlaces("4 move the last to", rules, (smith, place) -> smith.move(rules - 1, place));
        refusesPlaces("16 overlap other", rules, (smith, place) -> smith.overlap(0, place));
        refusesPlaces("16 overlap the last with other", rules, (smith, place) -> smith.overlap(rules - 1, place));
    }

    // Promises 25 and 26, for the first rule and the last one
    private static void wrongEntries(int rules) {
        for (int at : new int[] {0, rules - 1}) {
            int behind = rules == 0 ? 0 : judgedList(rules).entries(at);
            for (int entry : new int[] {-1, Integer.MIN_VALUE, behind, behind + 1, 4096, Integer.MAX_VALUE}) {
                refusedChangesNothing("25 entryValue, entry " + entry, rules, PLACE,
                        smith -> smith.entryValue(at, entry));
                refusedChangesNothing("26 entryMask, entry " + entry, rules, PLACE,
                        smith -> smith.entryMask(at, entry));
            }
        }
    }

    private static void refusesPackets(String call, int rules, PacketOf run) {
        int[][] wrong = {{-1, 0, 0}, {32, 0, 0}, {0, -1, 0}, {0, 32, 0}, {0, 0, -1}, {0, 0, 4}, {-1, 31, 3},
            {31, 32, 3}, {31, 31, 4}, {Integer.MIN_VALUE, 0, 0}, {0, Integer.MAX_VALUE, 0}, {99, 99, 99}};
        for (int[] packet : wrong) {
            refusedChangesNothing(call + " " + packet[0] + " " + packet[1] + " " + packet[2], rules, ARGUMENT,
                    smith -> run.of(smith, packet[0], packet[1], packet[2]));
        }
    }

    // Promises 10 and 11; a wrong packet comes before a packet that no rule matches
    private static void wrongPackets(int rules) {
        refusesPackets("10 judge", rules, Aclsmith::judge);
        refusesPackets("11 decider", rules, Aclsmith::decider);
    }

    // Promises 11 and 18
    private static void noSuchRule(int rules) {
        refusedChangesNothing("11 decider, none", rules, NONE, smith -> smith.decider(31, 31, 3));
        refusedChangesNothing("11 decider, none", rules, NONE, smith -> smith.decider(0, 31, 0));
        if (rules > 0) {
            refusedChangesNothing("18 shadowedBy, the first", rules, NONE, smith -> smith.shadowedBy(0));
        }
    }

    private static void refusedAgainAndAgain() {
        Aclsmith smith = judgedList(16);
        for (int time = 0; time < 20; time++) {
            DUE.refuses("2 add", STATE, () -> Lists.addAll(smith, true));
            DUE.refuses("3 remove", PLACE, () -> smith.remove(16));
            DUE.refuses("4 move", PLACE, () -> smith.move(0, 16));
            DUE.refuses("10 judge", ARGUMENT, () -> smith.judge(0, 0, 4));
            DUE.refuses("11 decider", NONE, () -> smith.decider(31, 31, 3));
        }
        DUE.is("what it answers then", story(smith), story(judgedList(16)));
    }
}
