import java.util.ArrayList;
import java.util.NoSuchElementException;

/** A compiler for packet filters (access control lists). */
public final class Aclsmith {
    private static final int MOST_RULES = 16;
    /** Sources are 0 to 31, and so are destinations: a set of either is an int, a bit for each. */
    private static final int ADDRESSES = 32;
    private static final int ADDRESS_BITS = 5;
    private static final int PROTOCOLS = 4;
    private static final int ALL_PROTOCOLS = 15;
    private static final int NO_PLACE = -1;
    /** An exchange takes one pair out of the wrong order, and 16 rules have 120 pairs. */
    private static final int MOST_PASSES = 256;

    private final ArrayList<Rule> list = new ArrayList<Rule>();
    /** Permitted destinations for each source and protocol, noted ahead of a change. */
    private final int[] noted = new int[ADDRESSES * PROTOCOLS];
    private int judged;
    private int missed;
    private int looks;

    /** Creates a compiler with an empty list. */
    public Aclsmith() {
    }

    // ---- rules.

    /** Adds a rule at the end of the list, and returns its place. */
    public int add(int sourceFrom, int sourceTo, int destinationFrom, int destinationTo, int protocols, boolean permit)
            throws IllegalArgumentException, IllegalStateException {
        if (!isRange(sourceFrom, sourceTo) || !isRange(destinationFrom, destinationTo)) {
            throw new IllegalArgumentException("a range is not within 0 to 31");
        }
        if (protocols < 1 || protocols > ALL_PROTOCOLS) {
            throw new IllegalArgumentException("the set of protocols is not 1 to 15");
        }
        if (list.size() >= MOST_RULES) {
            throw new IllegalStateException("there are 16 rules");
        }
        Range sources = new Range(sourceFrom, sourceTo);
        Range destinations = new Range(destinationFrom, destinationTo);
        list.add(new Rule(sources, destinations, protocols, permit));
        return list.size() - 1;
    }

    /** Removes a rule, and returns how many packets are decided otherwise by that. */
    public int remove(int place) throws IndexOutOfBoundsException {
        checkPlace(place);
        notePermitted();
        list.remove(place);
        return changedSinceNoted();
    }

    /** Moves a rule to another place, and returns how many packets are decided otherwise by that. */
    public int move(int from, int to) throws IndexOutOfBoundsException {
        Rule rule = ruleAt(from);
        checkPlace(to);
        notePermitted();
        list.remove(from);
        list.add(to, rule);
        return changedSinceNoted();
    }

    /** Returns the number of rules. */
    public int rules() {
        return list.size();
    }

    /** Returns 100 times the least source of a rule plus the greatest one. */
    public int sources(int place) throws IndexOutOfBoundsException {
        return ruleAt(place).sources.asNumber();
    }

    /** Returns 100 times the least destination of a rule plus the greatest one. */
    public int destinations(int place) throws IndexOutOfBoundsException {
        return ruleAt(place).destinations.asNumber();
    }

    /** Returns the set of protocols of a rule. */
    public int protocols(int place) throws IndexOutOfBoundsException {
        return ruleAt(place).protocols;
    }

    /** Returns whether the action of a rule is permit. */
    public boolean permits(int place) throws IndexOutOfBoundsException {
        return ruleAt(place).permit;
    }

    // ---- packets.

    /** Judges a packet, and returns whether it is permitted. */
    public boolean judge(int source, int destination, int protocol) throws IllegalArgumentException {
        checkPacket(source, destination, protocol);
        int place = firstMatch(source, destination, protocol);
        judged++;
        if (place >= list.size()) {
            missed++;
            looks += list.size();
            return false;
        }
        Rule rule = list.get(place);
        rule.hits++;
        looks += place + 1;
        return rule.permit;
    }

    /** Returns the place of the rule that decides a packet. */
    public int decider(int source, int destination, int protocol)
            throws IllegalArgumentException, NoSuchElementException {
        checkPacket(source, destination, protocol);
        int place = firstMatch(source, destination, protocol);
        if (place >= list.size()) {
            throw new NoSuchElementException("no rule matches");
        }
        return place;
    }

    /** Returns the hits of a rule. */
    public int hits(int place) throws IndexOutOfBoundsException {
        return ruleAt(place).hits;
    }

    /** Returns how many packets were judged that no rule matched. */
    public int misses() {
        return missed;
    }

    /** Returns how many rules were looked at on the average for a judged packet. */
    public float averageLooks() {
        if (judged == 0) {
            return 0.0f;
        }
        return (float) looks / (float) judged;
    }

    // ---- shadows.

    /** Returns how many packets a rule decides. */
    public int decides(int place) throws IndexOutOfBoundsException {
        return decidedPackets(ruleAt(place), place);
    }

    /** Returns how many packets two rules both match. */
    public int overlap(int one, int other) throws IndexOutOfBoundsException {
        return ruleAt(one).commonPackets(ruleAt(other));
    }

    /** Returns whether a rule decides no packet. */
    public boolean isShadowed(int place) throws IndexOutOfBoundsException {
        return decidedPackets(ruleAt(place), place) == 0;
    }

    /** Returns the place of the first rule before a rule that matches all packets that it matches. */
    public int shadowedBy(int place) throws IndexOutOfBoundsException, NoSuchElementException {
        Rule rule = ruleAt(place);
        for (int before = 0; before < place && before < list.size(); before++) {
            if (list.get(before).covers(rule)) {
                return before;
            }
        }
        throw new NoSuchElementException("no single rule shadows it");
    }

    /** Returns whether all packets would be decided as before without a rule. */
    public boolean isRedundant(int place) throws IndexOutOfBoundsException {
        return isNeedless(ruleAt(place), place);
    }

    /** Returns how many of all packets are permitted. */
    public int permitted() {
        int packets = 0;
        for (int source = 0; source < ADDRESSES; source++) {
            for (int protocol = 0; protocol < PROTOCOLS; protocol++) {
                packets += Integer.bitCount(permittedDestinations(source, protocol, NO_PLACE));
            }
        }
        return packets;
    }

    // ---- shorter lists.

    /** Returns whether a rule and the rule behind it can be merged. */
    public boolean canMerge(int place) throws IndexOutOfBoundsException {
        if (place < 0 || place >= list.size() - 1) {
            throw new IndexOutOfBoundsException("no such place, or no rule behind it");
        }
        return list.get(place).isMergeable(list.get(place + 1));
    }

    /** Removes redundant rules and merges neighbours, and returns how many rules the list is shorter then. */
    public int shorten() {
        int before = list.size();
        boolean shorter = true;
        // Each round but the last takes one rule away, so there are no more rounds than rules.
        for (int round = 0; round < before && shorter; round++) {
            shorter = dropLastNeedless() || mergeFirstNeighbours();
        }
        return before - list.size();
    }

    /** Moves rules with many hits forward, and returns how many exchanges there were. */
    public int sortByHits() {
        int exchanges = 0;
        for (int pass = 0; pass < MOST_PASSES; pass++) {
            int exchanged = exchangeInOnePass();
            if (exchanged == 0) {
                return exchanges;
            }
            exchanges += exchanged;
        }
        return exchanges;
    }

    // ---- ternary entries.

    /** Returns into how many ternary entries a rule is split. */
    public int entries(int place) throws IndexOutOfBoundsException {
        return entryCount(ruleAt(place));
    }

    /** Returns the value of a ternary entry of a rule. */
    public int entryValue(int place, int entry) throws IndexOutOfBoundsException {
        return valueOfEntry(ruleAt(place), entry);
    }

    /** Returns the mask of a ternary entry of a rule. */
    public int entryMask(int place, int entry) throws IndexOutOfBoundsException {
        Rule rule = ruleAt(place);
        int value = valueOfEntry(rule, entry);
        int source = blockMask(rule.sources.set, value >> 7, ADDRESSES);
        int destination = blockMask(rule.destinations.set, (value >> 2) & (ADDRESSES - 1), ADDRESSES);
        int protocol = blockMask(rule.protocols, value & (PROTOCOLS - 1), PROTOCOLS);
        return packetNumber(source, destination, protocol);
    }

    /** Returns into how many ternary entries all rules together are split. */
    public int allEntries() {
        int count = 0;
        for (int place = 0; place < list.size(); place++) {
            count += entryCount(list.get(place));
        }
        return count;
    }

    // ---- what the calls refuse.

    private static boolean isRange(int from, int to) {
        return from >= 0 && from <= to && to < ADDRESSES;
    }

    private static void checkPacket(int source, int destination, int protocol) throws IllegalArgumentException {
        if (source < 0 || source >= ADDRESSES || destination < 0 || destination >= ADDRESSES) {
            throw new IllegalArgumentException("a source or destination is not 0 to 31");
        }
        if (protocol < 0 || protocol >= PROTOCOLS) {
            throw new IllegalArgumentException("a protocol is not 0 to 3");
        }
    }

    private void checkPlace(int place) throws IndexOutOfBoundsException {
        if (place < 0 || place >= list.size()) {
            throw new IndexOutOfBoundsException("no such place");
        }
    }

    private Rule ruleAt(int place) throws IndexOutOfBoundsException {
        checkPlace(place);
        return list.get(place);
    }

    // ---- decisions.

    /** The place of the first rule that matches a packet; the number of rules if none does. */
    private int firstMatch(int source, int destination, int protocol) {
        int place = 0;
        while (place < list.size() && !list.get(place).matches(source, destination, protocol)) {
            place++;
        }
        return place;
    }

    /** The set of destinations to which packets are permitted, if the rule at one place were not there. */
    private int permittedDestinations(int source, int protocol, int leftOut) {
        int undecided = -1;
        int permittedSet = 0;
        for (int place = 0; place < list.size(); place++) {
            Rule rule = list.get(place);
            if (place != leftOut && rule.concerns(source, protocol)) {
                int matched = rule.destinations.set;
                if (rule.permit) {
                    permittedSet |= undecided & matched;
                }
                undecided &= ~matched;
            }
        }
        return permittedSet;
    }

    /** The set of destinations that no rule before the place matches. */
    private int undecidedDestinations(int source, int protocol, int place) {
        int undecided = -1;
        for (int before = 0; before < place && before < list.size(); before++) {
            Rule rule = list.get(before);
            if (rule.concerns(source, protocol)) {
                undecided &= ~rule.destinations.set;
            }
        }
        return undecided;
    }

    private int decidedPackets(Rule rule, int place) {
        int packets = 0;
        for (int source = rule.sources.from; source <= rule.sources.to; source++) {
            for (int protocol = 0; protocol < PROTOCOLS; protocol++) {
                if (holds(rule.protocols, protocol)) {
                    int decided = rule.destinations.set & undecidedDestinations(source, protocol, place);
                    packets += Integer.bitCount(decided);
                }
            }
        }
        return packets;
    }

    private boolean isNeedless(Rule rule, int place) {
        for (int source = rule.sources.from; source <= rule.sources.to; source++) {
            for (int protocol = 0; protocol < PROTOCOLS; protocol++) {
                if (holds(rule.protocols, protocol) && permittedDestinations(source, protocol, NO_PLACE)
                        != permittedDestinations(source, protocol, place)) {
                    return false;
                }
            }
        }
        return true;
    }

    private void notePermitted() {
        for (int i = 0; i < noted.length; i++) {
            noted[i] = permittedDestinations(i / PROTOCOLS, i % PROTOCOLS, NO_PLACE);
        }
    }

    /** How many packets are permitted instead of denied, or denied instead of permitted, since they were noted. */
    private int changedSinceNoted() {
        int packets = 0;
        for (int i = 0; i < noted.length; i++) {
            int now = permittedDestinations(i / PROTOCOLS, i % PROTOCOLS, NO_PLACE);
            packets += Integer.bitCount(noted[i] ^ now);
        }
        return packets;
    }

    // ---- steps to a shorter or sorted list.

    private boolean dropLastNeedless() {
        for (int place = list.size() - 1; place >= 0; place--) {
            if (isNeedless(list.get(place), place)) {
                list.remove(place);
                return true;
            }
        }
        return false;
    }

    private boolean mergeFirstNeighbours() {
        for (int place = 0; place < list.size() - 1; place++) {
            Rule first = list.get(place);
            Rule second = list.get(place + 1);
            if (first.isMergeable(second)) {
                first.absorb(second);
                list.remove(place + 1);
                return true;
            }
        }
        return false;
    }

    private int exchangeInOnePass() {
        int exchanged = 0;
        for (int place = 0; place < list.size() - 1; place++) {
            Rule first = list.get(place);
            Rule second = list.get(place + 1);
            if (second.hits > first.hits && first.isExchangeable(second)) {
                list.set(place, second);
                list.set(place + 1, first);
                exchanged++;
            }
        }
        return exchanged;
    }

    // ---- blocks and entries.

    private static int entryCount(Rule rule) {
        return Integer.bitCount(blockBegins(rule.sources.set))
                * Integer.bitCount(blockBegins(rule.destinations.set))
                * Integer.bitCount(blockBegins(rule.protocols));
    }

    private static int valueOfEntry(Rule rule, int entry) throws IndexOutOfBoundsException {
        int sources = blockBegins(rule.sources.set);
        int destinations = blockBegins(rule.destinations.set);
        int protocols = blockBegins(rule.protocols);
        int before = 0;
        // Where no block begins, the loop within ends before it starts.
        for (int source = 0; source < ADDRESSES; source++) {
            for (int destination = 0; holds(sources, source) && destination < ADDRESSES; destination++) {
                for (int protocol = 0; holds(destinations, destination) && protocol < PROTOCOLS; protocol++) {
                    if (holds(protocols, protocol)) {
                        if (before == entry) {
                            return packetNumber(source, destination, protocol);
                        }
                        before++;
                    }
                }
            }
        }
        throw new IndexOutOfBoundsException("no such entry");
    }

    private static int packetNumber(int source, int destination, int protocol) {
        return source * 128 + destination * 4 + protocol;
    }

    /** The set of the numbers where the fewest blocks of a set begin. */
    private static int blockBegins(int set) {
        int begins = 0;
        for (int number = 0; number < ADDRESSES; number++) {
            int size = blockSize(set, number);
            if (size > 0 && (number & (size - 1)) == 0) {
                begins |= 1 << number;
            }
        }
        return begins;
    }

    /** The size of the greatest block within a set that holds the number; 0 if the set does not hold it. */
    private static int blockSize(int set, int number) {
        int size = 0;
        for (int power = 0; power <= ADDRESS_BITS; power++) {
            int begin = (number >> power) << power;
            int block = setOf(begin, begin + (1 << power) - 1);
            if ((set & block) == block) {
                size = 1 << power;
            }
        }
        return size;
    }

    /** The bits of the numbers below the limit, a power of 2, that are the same in the whole block of a number. */
    private static int blockMask(int set, int number, int limit) {
        return (limit - 1) & -blockSize(set, number);
    }

    /** The set of the numbers from one to another, both 0 to 31. */
    private static int setOf(int from, int to) {
        return (-1 << from) & (-1 >>> (ADDRESSES - 1 - to));
    }

    private static boolean holds(int set, int number) {
        return ((set >> number) & 1) == 1;
    }

    /** A range of sources or destinations. */
    private static final class Range {
        final int from;
        final int to;
        final int set;

        Range(int from, int to) {
            this.from = from;
            this.to = to;
            this.set = setOf(from, to);
        }

        int asNumber() {
            return 100 * from + to;
        }

        boolean includes(int number) {
            return number >= from && number <= to;
        }

        boolean includesAll(Range other) {
            return other.from >= from && other.to <= to;
        }

        boolean isSame(Range other) {
            return other.from == from && other.to == to;
        }

        int commonNumbers(Range other) {
            return Math.max(0, Math.min(to, other.to) - Math.max(from, other.from) + 1);
        }

        /** Whether both ranges together are one range without a gap. */
        boolean isJoinable(Range other) {
            return from <= other.to + 1 && other.from <= to + 1;
        }

        Range joined(Range other) {
            return new Range(Math.min(from, other.from), Math.max(to, other.to));
        }
    }

    /** A rule of the list. */
    private static final class Rule {
        final boolean permit;
        Range sources;
        Range destinations;
        int protocols;
        int hits;

        Rule(Range sources, Range destinations, int protocols, boolean permit) {
            this.sources = sources;
            this.destinations = destinations;
            this.protocols = protocols;
            this.permit = permit;
        }

        boolean concerns(int source, int protocol) {
            return sources.includes(source) && holds(protocols, protocol);
        }

        boolean matches(int source, int destination, int protocol) {
            return concerns(source, protocol) && destinations.includes(destination);
        }

        boolean covers(Rule other) {
            return sources.includesAll(other.sources) && destinations.includesAll(other.destinations)
                    && (protocols & other.protocols) == other.protocols;
        }

        int commonPackets(Rule other) {
            return sources.commonNumbers(other.sources) * destinations.commonNumbers(other.destinations)
                    * Integer.bitCount(protocols & other.protocols);
        }

        boolean isExchangeable(Rule other) {
            return permit == other.permit || commonPackets(other) == 0;
        }

        boolean isMergeable(Rule other) {
            return permit == other.permit && differences(other) <= 1
                    && sources.isJoinable(other.sources) && destinations.isJoinable(other.destinations);
        }

        /** In how many of the two ranges and the set of protocols two rules differ. */
        int differences(Rule other) {
            int count = sources.isSame(other.sources) ? 0 : 1;
            count += destinations.isSame(other.destinations) ? 0 : 1;
            count += protocols == other.protocols ? 0 : 1;
            return count;
        }

        void absorb(Rule other) {
            sources = sources.joined(other.sources);
            destinations = destinations.joined(other.destinations);
            protocols |= other.protocols;
            hits += other.hits;
        }
    }
}
