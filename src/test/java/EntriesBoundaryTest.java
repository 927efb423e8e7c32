/** Promises 24 to 27: a test for each sentence that says where a number ends, what is fewest, or what is not there. */
public final class EntriesBoundaryTest {
    private static final Class<IndexOutOfBoundsException> PLACE = IndexOutOfBoundsException.class;

    private static final Due DUE = new Due();

    public static void main(String[] args) {
        rangesAreSplitIntoTheFewestBlocks();
        setsAreSplitIntoTheFewestBlocks();
        entriesFromOneToMost();
        entriesForEachCombination();
        entriesWithoutSuchPlace();
        valuesAscend();
        valuesFromLeastToGreatest();
        valueWithoutSuchEntry();
        valueWithoutSuchPlace();
        masksFromNoneToAll();
        masksOfEachBlockSize();
        maskWithoutSuchEntry();
        maskWithoutSuchPlace();
        entriesMatchJustTheRule();
        allEntriesFromNoneToMost();
        questionsChangeNothing();
        DUE.end("EntriesBoundaryTest");
    }

    /** The fewest blocks of a range, by trying each block that can stand at its beginning. */
    private static int fewestBlocks(int from, int to) {
        if (from > to) {
            return 0;
        }
        int fewest = Integer.MAX_VALUE;
        for (int size = 1; size <= 32; size *= 2) {
            if (from % size == 0 && from + size - 1 <= to) {
                fewest = Math.min(fewest, 1 + fewestBlocks(from + size, to));
            }
        }
        return fewest;
    }

    // Promise 24: "split into the fewest blocks, where a block has 2 to the power of i numbers for some i and begins
    // at a multiple of this power", for every range that there is
    private static void rangesAreSplitIntoTheFewestBlocks() {
        for (int from = 0; from <= 31; from++) {
            Aclsmith smith = new Aclsmith();
            for (int to = from; to <= 31; to++) {
                int fewest = fewestBlocks(from, to);
                smith.add(from, to, 0, 31, 15, true);
                smith.add(0, 31, from, to, 15, false);
                DUE.is("24 entries of sources " + from + " " + to, smith.entries(0), fewest);
                DUE.is("24 entries of destinations " + from + " " + to, smith.entries(1), fewest);
                smith.remove(0);
                smith.remove(0);
            }
        }
    }

    /** The fewest of the seven blocks of protocols that make up a set, by trying each choice of them. */
    private static int fewestOfSet(int set) {
        int[] blocks = {1, 2, 4, 8, 3, 12, 15};
        int fewest = Integer.MAX_VALUE;
        for (int choice = 0; choice < 1 << blocks.length; choice++) {
            int together = 0;
            for (int i = 0; i < blocks.length; i++) {
                together |= (choice >> i) % 2 == 1 ? blocks[i] : 0;
            }
            if (together == set) {
                fewest = Math.min(fewest, Integer.bitCount(choice));
            }
        }
        return fewest;
    }

    // Promise 24: "and its set of protocols into the fewest blocks, too (a set of protocols may have gaps)"
    private static void setsAreSplitIntoTheFewestBlocks() {
        for (int protocols = 1; protocols <= 15; protocols++) {
            Aclsmith smith = new Aclsmith();
            smith.add(0, 31, 0, 31, protocols, true);
            DUE.is("24 entries of set " + protocols, smith.entries(0), fewestOfSet(protocols));
        }
        // 6 is the protocols 1 and 2, which are neighbours but no block, as no block of two begins at 1.
        Aclsmith middle = new Aclsmith();
        middle.add(0, 31, 0, 31, 6, true);
        DUE.is("24 entries of set 6", middle.entries(0), 2);
        DUE.is("25 entryValue", middle.entryValue(0, 0), 1);
        DUE.is("25 entryValue", middle.entryValue(0, 1), 2);
        DUE.is("26 entryMask", middle.entryMask(0, 0), 3);
    }

    // Promise 24: "Returns the number of entries.", 1 to 128
    private static void entriesFromOneToMost() {
        Aclsmith smith = new Aclsmith();
        Lists.addAll(smith, true);
        smith.add(0, 0, 0, 0, 1, true);
        smith.add(31, 31, 31, 31, 8, true);
        smith.add(1, 30, 1, 30, 6, true);
        smith.add(1, 30, 1, 30, 15, true);
        DUE.is("24 entries of all packets", smith.entries(0), 1);
        DUE.is("24 entries of the first packet", smith.entries(1), 1);
        DUE.is("24 entries of the last packet", smith.entries(2), 1);
        DUE.is("24 entries, most", smith.entries(3), 128);
        DUE.is("24 entries of all protocols", smith.entries(4), 64);
    }

    // Promise 24: "There is an entry for each combination of a block of sources, .. destinations and .. protocols."
    private static void entriesForEachCombination() {
        Aclsmith smith = new Aclsmith();
        smith.add(0, 2, 1, 3, 13, true);
        int[] values = {4, 4 + 2, 8, 8 + 2, 256 + 4, 256 + 6, 256 + 8, 256 + 10};
        DUE.is("24 entries", smith.entries(0), values.length);
        for (int entry = 0; entry < values.length; entry++) {
            DUE.is("25 entryValue " + entry, smith.entryValue(0, entry), values[entry]);
        }
        int[] masks = {3968 - 128 + 124 + 3, 3968 - 128 + 124 + 2, 3968 - 128 + 120 + 3, 3968 - 128 + 120 + 2,
            3968 + 124 + 3, 3968 + 124 + 2, 3968 + 120 + 3, 3968 + 120 + 2};
        for (int entry = 0; entry < masks.length; entry++) {
            DUE.is("26 entryMask " + entry, smith.entryMask(0, entry), masks[entry]);
        }
    }

    // Promise 24: "Throws IndexOutOfBoundsException if there is no such place"
    private static void entriesWithoutSuchPlace() {
        for (int rules : new int[] {0, 1, 2, 15, 16}) {
            Aclsmith smith = Lists.single(rules);
            DUE.refusesPlaces("24 entries", rules, smith::entries);
        }
        DUE.is("24 entries of the last place", Lists.single(16).entries(15), 1);
    }

    // Promise 25: "ordered by their blocks of sources, then .. destinations, then .. protocols, .. in ascending order"
    private static void valuesAscend() {
        int[][] ranges = {{0, 31}, {1, 30}, {1, 31}, {0, 30}, {3, 12}, {7, 8}, {15, 16}, {31, 31}};
        for (int[] sources : ranges) {
            for (int[] destinations : ranges) {
                Aclsmith smith = new Aclsmith();
                smith.add(sources[0], sources[1], destinations[0], destinations[1], 9, true);
                int entries = smith.entries(0);
                int before = -1;
                for (int entry = 0; entry < entries; entry++) {
                    int value = smith.entryValue(0, entry);
                    DUE.is("25 entryValue is greater than the one before it", value > before, true);
                    before = value;
                }
            }
        }
    }

    // Promise 25: "128 times the beginning .. plus 4 times the beginning .. plus the beginning ..", 0 to 4095
    private static void valuesFromLeastToGreatest() {
        Aclsmith smith = new Aclsmith();
        Lists.addAll(smith, true);
        smith.add(31, 31, 31, 31, 8, true);
        smith.add(31, 31, 0, 0, 1, true);
        smith.add(0, 0, 31, 31, 1, true);
        smith.add(0, 0, 0, 0, 8, true);
        int[] values = {0, 4095, 31 * 128, 31 * 4, 3};
        for (int place = 0; place < values.length; place++) {
            DUE.is("25 entryValue of " + place, smith.entryValue(place, 0), values[place]);
        }
        // Each range of one number, and so each beginning that there is.
        for (int number = 0; number <= 31; number++) {
            Aclsmith one = new Aclsmith();
            one.add(number, number, 31 - number, 31 - number, 2, false);
            DUE.is("25 entryValue of " + number, one.entryValue(0, 0), 128 * number + 4 * (31 - number) + 1);
            DUE.is("26 entryMask of " + number, one.entryMask(0, 0), 4095);
        }
    }

    /** Rules of 1, 8 and 128 entries. */
    private static Aclsmith fewAndMany() {
        Aclsmith smith = new Aclsmith();
        Lists.addAll(smith, true);
        smith.add(0, 2, 1, 3, 13, true);
        smith.add(1, 30, 1, 30, 6, true);
        return smith;
    }

    /** A question about an entry of a rule. */
    private interface AtEntry {
        int of(Aclsmith smith, int place, int entry);
    }

    private static void refusesEntries(String call, AtEntry run) {
        Aclsmith smith = fewAndMany();
        int[] counts = {1, 8, 128};
        for (int place = 0; place < counts.length; place++) {
            int at = place;
            DUE.is(call + ", the last entry", run.of(smith, at, counts[at] - 1) >= 0, true);
            DUE.refusesPlaces(call + ", entry", counts[at], entry -> run.of(smith, at, entry));
            for (int entry : Lists.farOut()) {
                if (entry < 0 || entry > 128) {
                    DUE.refuses(call + ", entry " + entry, PLACE, () -> run.of(smith, at, entry));
                }
            }
        }
    }

    /** Refuses places, with an entry that other rules have and with one that none has. */
    private static void refusesPlacesOfEntries(String call, AtEntry run, int valueAtTheLastPlace) {
        DUE.refusesPlaces(call + " of an empty list", 0, place -> run.of(new Aclsmith(), place, 0));
        Aclsmith smith = fewAndMany();
        for (int entry : new int[] {0, 7, 127, 128, -1, Integer.MIN_VALUE, Integer.MAX_VALUE}) {
            DUE.refusesPlaces(call + ", entry " + entry, 3, place -> run.of(smith, place, entry));
        }
        DUE.refusesPlaces(call + " of a full list", 16, place -> run.of(Lists.alike(16), place, 0));
        DUE.is(call + " of the last place", run.of(Lists.single(16), 15, 0), valueAtTheLastPlace);
    }

    // Promise 25: "no such entry", "0 for the first entry"
    private static void valueWithoutSuchEntry() {
        refusesEntries("25 entryValue", Aclsmith::entryValue);
    }

    // Promise 25: "no such place"
    private static void valueWithoutSuchPlace() {
        refusesPlacesOfEntries("25 entryValue", Aclsmith::entryValue, 15 * 128);
    }

    // Promise 26: "12 bits, .. which are 1 where a packet must have the same bit as the value", none to all of them
    private static void masksFromNoneToAll() {
        Aclsmith smith = new Aclsmith();
        Lists.addAll(smith, true);
        smith.add(0, 0, 0, 0, 1, true);
        smith.add(31, 31, 31, 31, 8, true);
        smith.add(7, 7, 0, 31, 15, true);
        smith.add(0, 31, 7, 7, 15, true);
        smith.add(0, 31, 0, 31, 4, true);
        int[] masks = {0, 4095, 4095, 31 * 128, 31 * 4, 3};
        for (int place = 0; place < masks.length; place++) {
            DUE.is("26 entryMask of " + place, smith.entryMask(place, 0), masks[place]);
        }
    }

    // Promise 26: "and 0 where it may have any", for each size of a block
    private static void masksOfEachBlockSize() {
        int[] masks = {31, 30, 28, 24, 16, 0};
        for (int power = 0; power <= 5; power++) {
            int size = 1 << power;
            for (int begin = 0; begin < 32; begin += size) {
                Aclsmith smith = new Aclsmith();
                smith.add(begin, begin + size - 1, begin, begin + size - 1, 3, true);
                DUE.is("26 entries of a block", smith.entries(0), 1);
                DUE.is("26 entryMask of " + size + " at " + begin, smith.entryMask(0, 0),
                        128 * masks[power] + 4 * masks[power] + 2);
            }
        }
    }

    // Promise 26: "no such entry", "0 for the first entry"
    private static void maskWithoutSuchEntry() {
        refusesEntries("26 entryMask", Aclsmith::entryMask);
    }

    // Promise 26: "no such place"
    private static void maskWithoutSuchPlace() {
        refusesPlacesOfEntries("26 entryMask", Aclsmith::entryMask, 31 * 128);
    }

    /** How many of the 32 numbers of a part of the packets fit an entry of the only rule, each counted. */
    private static void countFitting(Aclsmith smith, int unit, int from, int to) {
        int[] fitting = new int[32];
        int entries = smith.entries(0);
        for (int entry = 0; entry < entries; entry++) {
            int value = smith.entryValue(0, entry);
            int mask = smith.entryMask(0, entry);
            DUE.is("26 a value has bits outside its mask", value & ~mask, 0);
            DUE.is("26 a mask has bits of a part that is whole", mask & ~(31 * unit), 0);
            for (int number = 0; number < 32; number++) {
                fitting[number] += (number * unit & mask) == value ? 1 : 0;
            }
        }
        for (int number = 0; number < 32; number++) {
            DUE.is("26 entries that " + number + " fits", fitting[number], number >= from && number <= to ? 1 : 0);
        }
    }

    // Promises 24 to 26, every range: a number within it fits just one entry, and no other number fits
    private static void entriesMatchJustTheRule() {
        for (int from = 0; from <= 31; from++) {
            for (int to = from; to <= 31; to++) {
                Aclsmith sources = new Aclsmith();
                sources.add(from, to, 0, 31, 15, true);
                countFitting(sources, 128, from, to);
                Aclsmith destinations = new Aclsmith();
                destinations.add(0, 31, from, to, 15, true);
                countFitting(destinations, 4, from, to);
            }
        }
    }

    // Promise 27: "into how many ternary entries all rules together are split", 0 to 2048
    private static void allEntriesFromNoneToMost() {
        Aclsmith smith = new Aclsmith();
        DUE.is("27 allEntries of an empty list", smith.allEntries(), 0);
        for (int rules = 1; rules <= 16; rules++) {
            smith.add(1, 30, 1, 30, 9, rules % 2 == 0);
            DUE.is("27 allEntries of " + rules, smith.allEntries(), 128 * rules);
        }
        // Shadowed rules count too, and the place does not matter.
        DUE.is("27 isShadowed", smith.isShadowed(15), true);
        smith.remove(0);
        Lists.addAll(smith, true);
        smith.move(15, 0);
        DUE.is("27 allEntries", smith.allEntries(), 128 * 15 + 1);
        DUE.is("27 shorten", smith.shorten(), 15);
        DUE.is("27 allEntries of one", smith.allEntries(), 1);
        smith.remove(0);
        DUE.is("27 allEntries, empty again", smith.allEntries(), 0);
    }

    // Promises 24 to 27 tell of no change
    private static void questionsChangeNothing() {
        Aclsmith smith = fewAndMany();
        smith.judge(0, 0, 0);
        String before = Lists.state(smith);
        smith.entries(2);
        smith.entryValue(2, 127);
        smith.entryMask(2, 127);
        smith.allEntries();
        DUE.refuses("25 entryValue", PLACE, () -> smith.entryValue(2, 128));
        DUE.refuses("26 entryMask", PLACE, () -> smith.entryMask(2, 128));
        DUE.is("24 to 27 state", Lists.state(smith), before);
    }
}
