import java.util.NoSuchElementException;

/** Promises 10 to 14: a test for each sentence that says where a number ends, what is refused, or what is not there. */
public final class PacketsBoundaryTest {
    private static final Class<IllegalArgumentException> ARGUMENT = IllegalArgumentException.class;
    private static final Class<NoSuchElementException> NONE = NoSuchElementException.class;

    private static final Due DUE = new Due();

    /** A call that asks for a packet. */
    private interface AtPacket {
        void at(int source, int destination, int protocol);
    }

    public static void main(String[] args) {
        judgeTakesEachPacket();
        judgeRefusesOtherNumbers();
        judgeOnEmptyList();
        judgeAtTheEdgesOfARule();
        judgeHitsTheFirstRuleAlone();
        judgeRefusedCountsNowhere();
        judgeUpToTheLastCall();
        deciderOfEachPacket();
        deciderRefusesOtherNumbers();
        deciderWithoutARule();
        deciderTellsTheFirstOfSixteen();
        deciderChangesNothing();
        hitsFromNoneUp();
        hitsWithoutSuchPlace();
        missesFromNoneUp();
        missesStay();
        averageLooksOfNone();
        averageLooksOfEmptyList();
        averageLooksOfFirstAndLastPlace();
        averageLooksKeepsWhatWasPaid();
        averageLooksIsAFloatDivision();
        averageLooksWithoutWhatWasRefused();
        DUE.end("PacketsBoundaryTest");
    }

    private static boolean isPacket(int source, int destination, int protocol) {
        return source >= 0 && source <= 31 && destination >= 0 && destination <= 31 && protocol >= 0 && protocol <= 3;
    }

    /** A call must refuse all that is no packet, one number wrong or more. */
    private static void refusesPackets(String call, AtPacket run) {
        int[] sources = {-1, 0, 31, 32};
        int[] protocols = {-1, 0, 3, 4};
        for (int source : sources) {
            for (int destination : sources) {
                for (int protocol : protocols) {
                    if (!isPacket(source, destination, protocol)) {
                        DUE.refuses(call + " " + source + " " + destination + " " + protocol, ARGUMENT,
                                () -> run.at(source, destination, protocol));
                    }
                }
            }
        }
        for (int number : Lists.farOut()) {
            DUE.refuses(call + " source " + number, ARGUMENT, () -> run.at(number, 31, 3));
            DUE.refuses(call + " destination " + number, ARGUMENT, () -> run.at(0, number, 0));
            DUE.refuses(call + " protocol " + number, ARGUMENT, () -> run.at(31, 0, number));
            DUE.refuses(call + " all " + number, ARGUMENT, () -> run.at(number, number, number));
        }
    }

    // Terms: "a source and a destination of 0 to 31 and a protocol of 0 to 3; so there are 4096 packets"
    private static void judgeTakesEachPacket() {
        int permitted = 0;
        for (int source = 0; source <= 31; source++) {
            Aclsmith smith = Lists.alike(1);
            for (int destination = 0; destination <= 31; destination++) {
                for (int protocol = 0; protocol <= 3; protocol++) {
                    permitted += smith.judge(source, destination, protocol) ? 1 : 0;
                }
            }
            DUE.is("10 hits", smith.hits(0), 128);
        }
        DUE.is("10 judge, packets permitted", permitted, 4096);
    }

    // Promise 10: "Throws IllegalArgumentException if one of the parameters is out of range"
    private static void judgeRefusesOtherNumbers() {
        refusesPackets("10 judge on an empty list", new Aclsmith()::judge);
        refusesPackets("10 judge on a rule for all", Lists.alike(1)::judge);
        refusesPackets("10 judge on a full list", Lists.single(16)::judge);
    }

    // Terms: "A packet that no rule matches is denied."
    private static void judgeOnEmptyList() {
        Aclsmith smith = new Aclsmith();
        for (int source : new int[] {0, 31}) {
            for (int destination : new int[] {0, 31}) {
                for (int protocol : new int[] {0, 3}) {
                    DUE.is("10 judge on an empty list", smith.judge(source, destination, protocol), false);
                }
            }
        }
        DUE.is("10 misses", smith.misses(), 8);
        Lists.addAll(smith, true);
        DUE.is("10 judge with a rule", smith.judge(0, 0, 0), true);
        smith.remove(0);
        DUE.is("10 judge, empty again", smith.judge(0, 0, 0), false);
    }

    // Terms: "whose source and destination are in its ranges and whose protocol is in its set"
    private static void judgeAtTheEdgesOfARule() {
        for (int[] range : new int[][] {{0, 0}, {31, 31}, {0, 31}, {1, 30}, {7, 8}, {15, 16}}) {
            Aclsmith smith = new Aclsmith();
            smith.add(range[0], range[1], 31 - range[1], 31 - range[0], 15, true);
            for (int number = 0; number <= 31; number++) {
                boolean within = number >= range[0] && number <= range[1];
                DUE.is("10 judge source " + number, smith.judge(number, 31 - range[0], 0), within);
                DUE.is("10 judge destination " + (31 - number), smith.judge(range[1], 31 - number, 3), within);
            }
        }
        for (int protocols = 1; protocols <= 15; protocols++) {
            Aclsmith smith = new Aclsmith();
            smith.add(0, 0, 31, 31, protocols, true);
            for (int protocol = 0; protocol <= 3; protocol++) {
                DUE.is("10 judge set " + protocols, smith.judge(0, 31, protocol), (protocols >> protocol) % 2 == 1);
            }
        }
    }

    // Promise 10: "The hits of the rule that decides it grow by 1."
    private static void judgeHitsTheFirstRuleAlone() {
        Aclsmith smith = Lists.alike(3);
        smith.move(2, 0);
        DUE.is("10 judge", smith.judge(31, 31, 3), true);
        DUE.is("10 hits of the first that matches", smith.hits(0), 1);
        DUE.is("10 hits of the next that matches", smith.hits(1), 0);
        DUE.is("10 hits of the last that matches", smith.hits(2), 0);
        Aclsmith denied = new Aclsmith();
        Lists.addAll(denied, false);
        DUE.is("10 judge a denied packet", denied.judge(0, 0, 0), false);
        DUE.is("10 hits of a deny", denied.hits(0), 1);
        DUE.is("10 misses", denied.misses(), 0);
        Aclsmith full = Lists.single(16);
        DUE.is("10 judge by the last of 16", full.judge(15, 0, 0), false);
        DUE.is("10 hits of the last of 16", full.hits(15), 1);
        DUE.is("10 judge by the one before it", full.judge(14, 0, 0), true);
        DUE.is("10 hits of the one before it", full.hits(14), 1);
    }

    // Terms: "A method that throws an exception changes nothing."
    private static void judgeRefusedCountsNowhere() {
        Aclsmith smith = Lists.alike(1);
        smith.judge(0, 0, 0);
        refusesPackets("10 judge", smith::judge);
        DUE.is("10 hits", smith.hits(0), 1);
        DUE.is("10 misses", smith.misses(), 0);
        DUE.is("10 averageLooks", smith.averageLooks(), 1f);
    }

    // What it is: "An object is used for at most 512 calls"
    private static void judgeUpToTheLastCall() {
        Aclsmith smith = Lists.single(16);
        Lists.judgeTimes(smith, 15, 31, 3, 250);
        Lists.judgeTimes(smith, 31, 31, 3, 240);
        DUE.is("10 hits", smith.hits(15), 250);
        DUE.is("10 misses", smith.misses(), 240);
        DUE.is("10 averageLooks", smith.averageLooks(), 16f);
        DUE.is("10 sortByHits", smith.sortByHits(), 15);
        DUE.is("10 hits", smith.hits(0), 250);
        DUE.is("10 the 512th call", smith.permitted(), 1024);
    }

    // Promise 11: "Finds the rule that decides a packet.", for each packet that there is
    private static void deciderOfEachPacket() {
        int[] decided = new int[2];
        for (int source = 0; source <= 31; source++) {
            Aclsmith smith = new Aclsmith();
            smith.add(1, 30, 2, 31, 7, false);
            Lists.addAll(smith, true);
            for (int packet = 0; packet < 128; packet++) {
                int place = smith.decider(source, packet / 4, packet % 4);
                boolean first = source >= 1 && source <= 30 && packet / 4 >= 2 && packet % 4 <= 2;
                DUE.is("11 decider " + source + " " + packet, place, first ? 0 : 1);
                decided[first ? 0 : 1]++;
            }
            DUE.is("11 decides", smith.decides(0), 30 * 30 * 3);
        }
        DUE.is("11 packets of the first", decided[0], 30 * 30 * 3);
    }

    // Promise 11: "Throws IllegalArgumentException ..", ahead of "NoSuchElementException if no rule matches"
    private static void deciderRefusesOtherNumbers() {
        refusesPackets("11 decider of an empty list", new Aclsmith()::decider);
        refusesPackets("11 decider of a rule for all", Lists.alike(1)::decider);
        refusesPackets("11 decider of a full list", Lists.single(16)::decider);
    }

    // Promise 11: "Throws NoSuchElementException if no rule matches"
    private static void deciderWithoutARule() {
        Aclsmith smith = new Aclsmith();
        DUE.refuses("11 decider of an empty list", NONE, () -> smith.decider(0, 0, 0));
        DUE.refuses("11 decider of an empty list", NONE, () -> smith.decider(31, 31, 3));
        smith.add(1, 30, 1, 30, 6, false);
        int[][] beside = {{0, 1, 1}, {31, 30, 2}, {1, 0, 1}, {30, 31, 2}, {1, 1, 0}, {30, 30, 3}};
        for (int[] packet : beside) {
            DUE.refuses("11 decider beside the rule", NONE, () -> smith.decider(packet[0], packet[1], packet[2]));
        }
        DUE.is("11 decider that denies", smith.decider(1, 1, 1), 0);
        DUE.is("11 decider that denies", smith.decider(30, 30, 2), 0);
        smith.remove(0);
        DUE.refuses("11 decider after remove", NONE, () -> smith.decider(1, 1, 1));
        DUE.refuses("11 decider of 16 others", NONE, () -> Lists.single(16).decider(16, 0, 0));
    }

    // Terms: "The first rule of the list that matches a packet decides it"
    private static void deciderTellsTheFirstOfSixteen() {
        Aclsmith alike = Lists.alike(16);
        DUE.is("11 decider, the first", alike.decider(31, 31, 3), 0);
        Aclsmith smith = Lists.single(16);
        for (int place = 0; place < 16; place++) {
            DUE.is("11 decider", smith.decider(place, 31, 3), place);
        }
    }

    // Promise 11: "Nothing changes."
    private static void deciderChangesNothing() {
        Aclsmith smith = Lists.crossed();
        smith.judge(0, 0, 0);
        String before = Lists.state(smith);
        smith.decider(0, 0, 0);
        smith.decider(20, 20, 0);
        DUE.refuses("11 decider", NONE, () -> smith.decider(31, 31, 3));
        DUE.is("11 state", Lists.state(smith), before);
    }

    // Promise 12: "Returns the hits of a rule."
    private static void hitsFromNoneUp() {
        Aclsmith smith = Lists.single(16);
        for (int place = 0; place < 16; place++) {
            DUE.is("12 hits at first", smith.hits(place), 0);
            Lists.judgeTimes(smith, place, 0, 0, place);
            DUE.is("12 hits", smith.hits(place), place);
        }
        DUE.is("12 hits stay", smith.hits(1), 1);
        Lists.judgeTimes(smith, 0, 31, 3, 300);
        DUE.is("12 hits, many", smith.hits(0), 300);
    }

    // Promise 12: "Throws IndexOutOfBoundsException if there is no such place"
    private static void hitsWithoutSuchPlace() {
        for (int rules : new int[] {0, 1, 2, 15, 16}) {
            DUE.refusesPlaces("12 hits", rules, Lists.single(rules)::hits);
        }
        Aclsmith smith = Lists.single(2);
        smith.judge(1, 0, 0);
        smith.remove(1);
        DUE.refusesPlaces("12 hits after remove", 1, smith::hits);
    }

    // Promise 13: "Returns how many packets were judged that no rule matched."
    private static void missesFromNoneUp() {
        Aclsmith smith = new Aclsmith();
        DUE.is("13 misses, none judged", smith.misses(), 0);
        smith.judge(0, 0, 0);
        DUE.is("13 misses of an empty list", smith.misses(), 1);
        smith.add(0, 0, 0, 0, 1, false);
        smith.judge(0, 0, 0);
        DUE.is("13 misses, a deny matched", smith.misses(), 1);
        smith.judge(0, 0, 1);
        smith.judge(0, 1, 0);
        smith.judge(1, 0, 0);
        DUE.is("13 misses beside the deny", smith.misses(), 4);
        Lists.judgeTimes(smith, 31, 31, 3, 400);
        DUE.is("13 misses, many", smith.misses(), 404);
    }

    // Promise 13: what was judged stays so, and what was refused was not judged
    private static void missesStay() {
        Aclsmith smith = Lists.crossed();
        smith.judge(31, 31, 3);
        DUE.refuses("13 judge", ARGUMENT, () -> smith.judge(32, 31, 3));
        DUE.refuses("13 decider", NONE, () -> smith.decider(31, 31, 3));
        Lists.addAll(smith, true);
        smith.move(2, 0);
        smith.shorten();
        smith.sortByHits();
        smith.remove(0);
        DUE.is("13 misses", smith.misses(), 1);
    }

    // Promise 14: "0 if none was judged"
    private static void averageLooksOfNone() {
        DUE.is("14 averageLooks of an empty list", new Aclsmith().averageLooks(), 0f);
        Aclsmith smith = Lists.single(16);
        DUE.is("14 averageLooks of a full list", smith.averageLooks(), 0f);
        smith.decider(15, 0, 0);
        DUE.refuses("14 judge", ARGUMENT, () -> smith.judge(0, 0, 4));
        DUE.is("14 averageLooks, none judged", smith.averageLooks(), 0f);
    }

    // Promise 14: "a packet that no rule matches costs all rules that there are at that moment", none here
    private static void averageLooksOfEmptyList() {
        Aclsmith smith = new Aclsmith();
        smith.judge(0, 0, 0);
        DUE.is("14 averageLooks, no rules", smith.averageLooks(), 0f);
        Lists.addAll(smith, true);
        smith.judge(0, 0, 0);
        DUE.is("14 averageLooks, one of two costs 1", smith.averageLooks(), 0.5f);
    }

    // Promise 14: "a rule at the place p that decides costs p + 1 rules"
    private static void averageLooksOfFirstAndLastPlace() {
        for (int place = 0; place < 16; place++) {
            Aclsmith smith = Lists.single(16);
            smith.judge(place, 0, 0);
            DUE.is("14 averageLooks of place " + place, smith.averageLooks(), (float) (place + 1));
        }
        for (int rules = 0; rules <= 16; rules++) {
            Aclsmith smith = Lists.single(rules);
            smith.judge(31, 0, 0);
            DUE.is("14 averageLooks of a miss", smith.averageLooks(), (float) rules);
        }
    }

    // Promise 14: "as p is at that moment", "that there are at that moment"
    private static void averageLooksKeepsWhatWasPaid() {
        Aclsmith smith = Lists.single(4);
        smith.judge(3, 0, 0);
        smith.judge(31, 0, 0);
        smith.move(3, 0);
        DUE.is("14 averageLooks after move", smith.averageLooks(), 4f);
        smith.remove(0);
        DUE.is("14 averageLooks after remove", smith.averageLooks(), 4f);
        Lists.addAll(smith, true);
        smith.sortByHits();
        smith.shorten();
        DUE.is("14 averageLooks after shorten", smith.averageLooks(), 4f);
        while (smith.rules() > 0) {
            smith.remove(0);
        }
        DUE.is("14 averageLooks, no rule left", smith.averageLooks(), 4f);
        smith.judge(3, 0, 0);
        DUE.is("14 averageLooks, a miss that costs nothing", smith.averageLooks(), 8f / 3f);
    }

    // Promise 14: "the sum of these costs, as a float, divided by the number of judged packets, as a float"
    private static void averageLooksIsAFloatDivision() {
        Aclsmith smith = new Aclsmith();
        Lists.judgeTimes(smith, 0, 0, 0, 2);
        Lists.addAll(smith, true);
        for (int judged = 3; judged <= 200; judged++) {
            smith.judge(0, 0, 0);
            DUE.is("14 averageLooks of " + judged, smith.averageLooks(), (float) (judged - 2) / (float) judged);
        }
        Aclsmith full = Lists.single(16);
        Lists.judgeTimes(full, 15, 0, 0, 399);
        Lists.judgeTimes(full, 0, 0, 0, 2);
        DUE.is("14 averageLooks", full.averageLooks(), 6386f / 401f);
    }

    // Terms: "A method that throws an exception changes nothing."
    private static void averageLooksWithoutWhatWasRefused() {
        Aclsmith smith = Lists.single(3);
        smith.judge(2, 0, 0);
        DUE.refuses("14 judge", ARGUMENT, () -> smith.judge(-1, 0, 0));
        DUE.refuses("14 judge", ARGUMENT, () -> smith.judge(0, 32, 0));
        DUE.refuses("14 decider", NONE, () -> smith.decider(31, 31, 3));
        DUE.is("14 averageLooks", smith.averageLooks(), 3f);
    }
}
