import java.util.ArrayList;
import java.util.Collections;
import java.util.List;
import java.util.NoSuchElementException;

/** What the promises say of one another, on lists of many kinds: the answers of two or more calls must agree. */
public final class AcrossPromisesTest {
    private static final int KINDS = 60;
    private static final int[] SIZES = {1, 2, 5, 11, 16};

    private static final Due DUE = new Due();

    private int shadowed = 0;
    private int shadowedByOne = 0;
    private int redundant = 0;
    private int mergeable = 0;
    private int exchanged = 0;

    public static void main(String[] args) {
        AcrossPromisesTest test = new AcrossPromisesTest();
        for (int kind = 0; kind < KINDS; kind++) {
            for (int rules : SIZES) {
                test.decidedPackets(kind, rules);
                test.overlaps(kind, rules);
                test.shadows(kind, rules);
                test.redundantRules(kind, rules);
                test.movedThereAndBack(kind, rules);
                test.mergedNeighbours(kind, rules);
                test.sortedLists(kind, rules);
                test.splitRules(kind, rules);
            }
        }
        for (int kind = 0; kind < KINDS; kind++) {
            rulesGoAlong(kind);
            questionsChangeNothing(kind);
        }
        packetsOneByOne();
        judgedPackets();
        test.sawEachCase();
        DUE.end("AcrossPromisesTest");
    }

    private static String of(String call, int kind, int rules) {
        return call + " of kind " + kind + " with " + rules + " rules";
    }

    // Promises 15 and 20: each packet has one decider or none, and is permitted if it has one that permits
    private void decidedPackets(int kind, int rules) {
        Aclsmith smith = Lists.mixed(kind, rules);
        int decided = 0;
        int permitted = 0;
        for (int place = 0; place < rules; place++) {
            int packets = smith.decides(place);
            decided += packets;
            permitted += smith.permits(place) ? packets : 0;
        }
        DUE.is(of("20 permitted", kind, rules), smith.permitted(), permitted);
        if (rules < 16) {
            Lists.addAll(smith, true);
            DUE.is(of("15 decides what no rule matched", kind, rules), smith.decides(rules), 4096 - decided);
            DUE.is(of("20 permitted then", kind, rules), smith.permitted(), permitted + 4096 - decided);
        }
    }

    private static int commonNumbers(int range, int other) {
        return Math.max(0, Math.min(range % 100, other % 100) - Math.max(range / 100, other / 100) + 1);
    }

    // Promises 6 to 8 and 16
    private void overlaps(int kind, int rules) {
        for (int one = 0; one < rules; one++) {
            Aclsmith smith = Lists.mixed(kind, rules);
            for (int other = 0; other < rules; other++) {
                int packets = commonNumbers(smith.sources(one), smith.sources(other))
                        * commonNumbers(smith.destinations(one), smith.destinations(other))
                        * Integer.bitCount(smith.protocols(one) & smith.protocols(other));
                DUE.is(of("16 overlap", kind, rules), smith.overlap(one, other), packets);
                DUE.is(of("16 overlap turned round", kind, rules), smith.overlap(other, one), packets);
            }
        }
    }

    /** The first rule before a rule that has all its packets in common with it; -1 if none has. */
    private static int firstCover(Aclsmith smith, int place) {
        for (int before = 0; before < place; before++) {
            if (smith.overlap(before, place) == smith.overlap(place, place)) {
                return before;
            }
        }
        return -1;
    }

    // Promises 15 to 19: who decides nothing is shadowed, and who is shadowed is redundant
    private void shadows(int kind, int rules) {
        Aclsmith smith = Lists.mixed(kind, rules);
        for (int place = 0; place < rules; place++) {
            int at = place;
            boolean none = smith.decides(place) == 0;
            int cover = firstCover(smith, place);
            DUE.is(of("17 isShadowed", kind, rules), smith.isShadowed(place), none);
            DUE.is(of("19 isRedundant", kind, rules), smith.isRedundant(place) || !none, true);
            if (cover < 0) {
                DUE.refuses(of("18 shadowedBy", kind, rules), NoSuchElementException.class,
                        () -> smith.shadowedBy(at));
            } else {
                DUE.is(of("18 shadowedBy", kind, rules), smith.shadowedBy(place), cover);
                DUE.is(of("17 isShadowed by one", kind, rules), none, true);
                shadowedByOne++;
            }
            shadowed += none ? 1 : 0;
        }
    }

    // Promises 3, 19 and 20: without a redundant rule nothing changes, and a rule changes packets one way alone
    private void redundantRules(int kind, int rules) {
        for (int place = 0; place < rules; place++) {
            Aclsmith smith = Lists.mixed(kind, rules);
            boolean is = smith.isRedundant(place);
            boolean permit = smith.permits(place);
            int before = smith.permitted();
            int changed = smith.remove(place);
            DUE.is(of("3 remove, a redundant one or not", kind, rules), changed == 0, is);
            DUE.is(of("20 permitted after remove", kind, rules), smith.permitted(),
                    permit ? before - changed : before + changed);
            redundant += is ? 1 : 0;
        }
    }

    // Promise 4: the way back changes as many packets, and then all is as it was
    private void movedThereAndBack(int kind, int rules) {
        for (int from = 0; from < rules; from++) {
            Aclsmith smith = Lists.mixed(kind, rules);
            smith.judge(5, 5, 1);
            String before = Lists.state(smith);
            int to = (from * 5 + kind) % rules;
            int there = smith.move(from, to);
            int permitted = smith.permitted();
            DUE.is(of("4 move back", kind, rules), smith.move(to, from), there);
            DUE.is(of("4 state", kind, rules), Lists.state(smith), before);
            DUE.is(of("20 permitted between", kind, rules), Math.abs(permitted - smith.permitted()) <= there, true);
        }
    }

    /** An object with two rules of a list, and no other one. */
    private static Aclsmith twoOf(Aclsmith smith, int place) {
        Aclsmith two = new Aclsmith();
        for (int at = place; at <= place + 1; at++) {
            two.add(smith.sources(at) / 100, smith.sources(at) % 100, smith.destinations(at) / 100,
                    smith.destinations(at) % 100, smith.protocols(at), smith.permits(at));
        }
        return two;
    }

    // Promises 21 and 22: two permits that can be merged are one rule in the end, which matches what both matched
    private void mergedNeighbours(int kind, int rules) {
        Aclsmith smith = Lists.mixed(kind, rules);
        for (int place = 0; place + 1 < rules; place++) {
            boolean can = smith.canMerge(place);
            mergeable += can ? 1 : 0;
            if (can && smith.permits(place)) {
                Aclsmith two = twoOf(smith, place);
                int permitted = two.permitted();
                DUE.is(of("22 shorten two", kind, rules), two.shorten(), 1);
                DUE.is(of("22 packets of one", kind, rules), two.overlap(0, 0), permitted);
            }
        }
    }

    // Promise 23: neighbours that are left in a wrong order have two actions and a packet in common
    private void sortedLists(int kind, int rules) {
        Aclsmith smith = Lists.mixed(kind, rules);
        for (int packet = 0; packet < 150; packet++) {
            smith.judge(packet % 13, packet % 7, packet % 4);
        }
        int permitted = smith.permitted();
        float looks = smith.averageLooks();
        int exchanges = smith.sortByHits();
        for (int place = 0; place + 1 < rules; place++) {
            boolean stuck = smith.permits(place) != smith.permits(place + 1) && smith.overlap(place, place + 1) > 0;
            DUE.is(of("23 order", kind, rules), stuck || smith.hits(place) >= smith.hits(place + 1), true);
        }
        DUE.is(of("23 permitted", kind, rules), smith.permitted(), permitted);
        DUE.is(of("23 averageLooks", kind, rules), smith.averageLooks(), looks);
        DUE.is(of("23 sortByHits again", kind, rules), smith.sortByHits(), 0);
        exchanged += exchanges;
    }

    // Promises 16 and 24 to 27: the entries of a rule have as many packets as the rule itself
    private void splitRules(int kind, int rules) {
        int all = 0;
        for (int place = 0; place < rules; place++) {
            Aclsmith smith = Lists.mixed(kind, rules);
            int entries = smith.entries(place);
            int packets = 0;
            for (int entry = 0; entry < entries; entry++) {
                packets += 1 << (12 - Integer.bitCount(smith.entryMask(place, entry)));
                boolean decided = isDecided(smith, smith.entryValue(place, entry));
                DUE.is(of("25 decider of a value", kind, rules), decided, true);
            }
            DUE.is(of("26 packets of all entries", kind, rules), packets, smith.overlap(place, place));
            all += entries;
        }
        DUE.is(of("27 allEntries", kind, rules), Lists.mixed(kind, rules).allEntries(), all);
    }

    /** Whether some rule decides the packet with a number: 128 times its source plus 4 times its destination .. */
    private static boolean isDecided(Aclsmith smith, int packet) {
        return smith.decider(packet / 128, packet / 4 % 32, packet % 4) >= 0;
    }

    // Promises 9 to 13 and 15: judge answers as the rule that decides, for each packet that there is
    private static void packetsOneByOne() {
        for (int kind = 0; kind < KINDS; kind += 7) {
            int[] decided = new int[16];
            for (int part = 0; part < 64; part++) {
                Aclsmith smith = Lists.mixed(kind, 16);
                for (int packet = part * 64; packet < part * 64 + 64; packet++) {
                    askAndJudge(smith, packet, decided);
                }
            }
            Aclsmith smith = Lists.mixed(kind, 16);
            for (int place = 0; place < 16; place++) {
                DUE.is("15 decides of kind " + kind, smith.decides(place), decided[place]);
            }
        }
    }

    private static void askAndJudge(Aclsmith smith, int packet, int[] decided) {
        int source = packet / 128;
        int destination = packet / 4 % 32;
        int protocol = packet % 4;
        int misses = smith.misses();
        int place = -1;
        try {
            place = smith.decider(source, destination, protocol);
        } catch (NoSuchElementException none) {
            DUE.is("10 judge what no rule matches", smith.judge(source, destination, protocol), false);
            DUE.is("13 misses", smith.misses(), misses + 1);
        }
        if (place >= 0) {
            int hits = smith.hits(place);
            DUE.is("10 judge", smith.judge(source, destination, protocol), smith.permits(place));
            DUE.is("12 hits", smith.hits(place), hits + 1);
            decided[place]++;
        }
    }

    // Promises 10 to 14: hits and misses together are the judged packets, and the average is what they cost
    private static void judgedPackets() {
        for (int kind = 0; kind < KINDS; kind++) {
            Aclsmith smith = Lists.mixed(kind, 16);
            for (int packet = 0; packet < 200; packet++) {
                smith.judge(packet % 17, packet % 9, packet % 4);
            }
            int judged = smith.misses();
            int costs = 16 * smith.misses();
            for (int place = 0; place < 16; place++) {
                judged += smith.hits(place);
                costs += (place + 1) * smith.hits(place);
            }
            DUE.is("12 and 13 hits and misses of kind " + kind, judged, 200);
            DUE.is("14 averageLooks of kind " + kind, smith.averageLooks(), costs / 200f);
        }
    }

    private static void judgeMany(Aclsmith smith) {
        for (int packet = 0; packet < 100; packet++) {
            smith.judge(packet % 29, packet % 23, packet % 4);
        }
    }

    /** What the object tells of each rule, in their order. */
    private static List<String> told(Aclsmith smith) {
        List<String> all = new ArrayList<String>();
        for (int place = 0; place < smith.rules(); place++) {
            all.add(smith.sources(place) + " " + smith.destinations(place) + " " + smith.protocols(place) + " "
                    + smith.permits(place) + " " + smith.hits(place));
        }
        return all;
    }

    // Promises 2 to 4 and 23: a rule has what it was given and its hits wherever it stands, and no packet was judged
    private static void rulesGoAlong(int kind) {
        Aclsmith smith = Lists.mixed(kind, 11);
        judgeMany(smith);
        int misses = smith.misses();
        float looks = smith.averageLooks();
        List<String> rules = told(smith);
        smith.add(30, 31, 29, 30, 9, true);
        rules.add("3031 2930 9 true 0");
        DUE.is("2 add to kind " + kind, told(smith).toString(), rules.toString());
        smith.move(kind % 12, kind / 5);
        rules.add(kind / 5, rules.remove(kind % 12));
        DUE.is("4 move of kind " + kind, told(smith).toString(), rules.toString());
        smith.remove(kind % 11);
        rules.remove(kind % 11);
        DUE.is("3 remove of kind " + kind, told(smith).toString(), rules.toString());
        smith.sortByHits();
        List<String> sorted = told(smith);
        Collections.sort(sorted);
        Collections.sort(rules);
        DUE.is("23 sortByHits of kind " + kind, sorted.toString(), rules.toString());
        DUE.is("13 misses stay", smith.misses(), misses);
        DUE.is("14 averageLooks stays", smith.averageLooks(), looks);
    }

    // Not promised: "Nothing is promised beyond the answers and state changes described above"
    private static void questionsChangeNothing(int kind) {
        Aclsmith smith = Lists.mixed(kind, 16);
        judgeMany(smith);
        String before = Lists.state(smith);
        int last = kind % 15;
        int entries = smith.entries(last);
        for (int time = 0; time < 2; time++) {
            smith.decides(last);
            smith.overlap(last, 15);
            smith.isShadowed(last);
            smith.isRedundant(last);
            smith.canMerge(last);
            smith.entryValue(last, entries - 1);
            smith.entryMask(last, entries - 1);
            smith.allEntries();
            smith.decider(smith.sources(0) / 100, smith.destinations(0) / 100, firstProtocol(smith));
            DUE.is("state of kind " + kind, Lists.state(smith), before);
        }
    }

    /** The least protocol of the first rule. */
    private static int firstProtocol(Aclsmith smith) {
        return Integer.numberOfTrailingZeros(smith.protocols(0));
    }

    /** A list that has none of what a test asks for would let it pass. */
    private void sawEachCase() {
        DUE.is("shadowed rules seen", shadowed > shadowedByOne && shadowedByOne > 100, true);
        DUE.is("redundant rules seen", redundant > shadowed, true);
        DUE.is("neighbours to be merged seen", mergeable > 20, true);
        DUE.is("exchanges seen", exchanged > 1000, true);
    }
}
