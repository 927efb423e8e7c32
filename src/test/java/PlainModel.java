import java.util.ArrayList;
import java.util.List;

/**
 * The document's words taken packet by packet, as slowly and plainly as can be.
 * It takes only calls that the document does not refuse; the tests see to the refusals.
 */
final class PlainModel {
    static final class Entry {
        int sourceFrom;
        int sourceTo;
        int destinationFrom;
        int destinationTo;
        int protocols;
        boolean permit;
        int hits;

        boolean matches(int source, int destination, int protocol) {
            return sourceFrom <= source && source <= sourceTo
                    && destinationFrom <= destination && destination <= destinationTo
                    && (protocols & (1 << protocol)) != 0;
        }
    }

    final List<Entry> list = new ArrayList<Entry>();
    int misses = 0;
    private int judged = 0;
    private int costs = 0;

    void add(int sourceFrom, int sourceTo, int destinationFrom, int destinationTo, int protocols, boolean permit) {
        Entry rule = new Entry();
        rule.sourceFrom = sourceFrom;
        rule.sourceTo = sourceTo;
        rule.destinationFrom = destinationFrom;
        rule.destinationTo = destinationTo;
        rule.protocols = protocols;
        rule.permit = permit;
        list.add(rule);
    }

    int remove(int place) {
        boolean[] before = decisions(list);
        list.remove(place);
        return differences(before, decisions(list));
    }

    int move(int from, int to) {
        boolean[] before = decisions(list);
        list.add(to, list.remove(from));
        return differences(before, decisions(list));
    }

    boolean judge(int source, int destination, int protocol) {
        judged++;
        int place = decider(source, destination, protocol);
        if (place < 0) {
            misses++;
            costs += list.size();
            return false;
        }
        costs += place + 1;
        list.get(place).hits++;
        return list.get(place).permit;
    }

    /** The place of the rule that decides a packet, -1 if none does. */
    int decider(int source, int destination, int protocol) {
        return firstOf(list, source, destination, protocol);
    }

    float averageLooks() {
        return judged == 0 ? 0f : (float) costs / (float) judged;
    }

    int decides(int place) {
        int count = 0;
        for (int packet = 0; packet < 4096; packet++) {
            if (decider(packet / 128, packet / 4 % 32, packet % 4) == place) {
                count++;
            }
        }
        return count;
    }

    int overlap(int one, int other) {
        int count = 0;
        for (int packet = 0; packet < 4096; packet++) {
            if (matches(one, packet) && matches(other, packet)) {
                count++;
            }
        }
        return count;
    }

    /** The first rule before a rule that alone shadows it, -1 if none does. */
    int shadowedBy(int place) {
        int all = overlap(place, place);
        for (int before = 0; before < place; before++) {
            if (overlap(before, place) == all) {
                return before;
            }
        }
        return -1;
    }

    boolean isRedundant(int place) {
        List<Entry> without = new ArrayList<Entry>(list);
        without.remove(place);
        return differences(decisions(list), decisions(without)) == 0;
    }

    int permitted() {
        return differences(decisions(list), new boolean[4096]);
    }

    boolean canMerge(int place) {
        Entry one = list.get(place);
        Entry two = list.get(place + 1);
        boolean sources = one.sourceFrom == two.sourceFrom && one.sourceTo == two.sourceTo;
        boolean destinations = one.destinationFrom == two.destinationFrom && one.destinationTo == two.destinationTo;
        boolean protocols = one.protocols == two.protocols;
        if (one.permit != two.permit) {
            return false;
        }
        if (destinations && protocols) {
            return isOneRange(one.sourceFrom, one.sourceTo, two.sourceFrom, two.sourceTo);
        }
        if (sources && protocols) {
            return isOneRange(one.destinationFrom, one.destinationTo, two.destinationFrom, two.destinationTo);
        }
        return sources && destinations;
    }

    int shorten() {
        int before = list.size();
        while (removeRedundant() || mergeNeighbours()) {
            continue;
        }
        return before - list.size();
    }

    int sortByHits() {
        int exchanges = 0;
        int inPass;
        do {
            inPass = 0;
            for (int first = 0; first + 1 < list.size(); first++) {
                Entry one = list.get(first);
                Entry two = list.get(first + 1);
                if (two.hits > one.hits && (one.permit == two.permit || overlap(first, first + 1) == 0)) {
                    list.add(first, list.remove(first + 1));
                    inPass++;
                }
            }
            exchanges += inPass;
        } while (inPass > 0);
        return exchanges;
    }

    /** The entries of a rule in their order, each 4096 times its value plus its mask. */
    List<Integer> entries(int place) {
        Entry rule = list.get(place);
        List<int[]> sources = new ArrayList<int[]>();
        List<int[]> destinations = new ArrayList<int[]>();
        List<int[]> protocols = new ArrayList<int[]>();
        split(range(rule.sourceFrom, rule.sourceTo, 32), 0, 32, sources);
        split(range(rule.destinationFrom, rule.destinationTo, 32), 0, 32, destinations);
        boolean[] set = new boolean[4];
        for (int protocol = 0; protocol < 4; protocol++) {
            set[protocol] = (rule.protocols >> protocol) % 2 == 1;
        }
        split(set, 0, 4, protocols);
        List<Integer> all = new ArrayList<Integer>();
        for (int[] source : sources) {
            for (int[] destination : destinations) {
                for (int[] protocol : protocols) {
                    int value = 128 * source[0] + 4 * destination[0] + protocol[0];
                    int mask = 128 * (32 - source[1]) + 4 * (32 - destination[1]) + (4 - protocol[1]);
                    all.add(4096 * value + mask);
                }
            }
        }
        return all;
    }

    private boolean removeRedundant() {
        for (int place = list.size() - 1; place >= 0; place--) {
            if (isRedundant(place)) {
                list.remove(place);
                return true;
            }
        }
        return false;
    }

    private boolean mergeNeighbours() {
        for (int place = 0; place + 1 < list.size(); place++) {
            if (canMerge(place)) {
                Entry one = list.get(place);
                Entry two = list.remove(place + 1);
                one.sourceFrom = Math.min(one.sourceFrom, two.sourceFrom);
                one.sourceTo = Math.max(one.sourceTo, two.sourceTo);
                one.destinationFrom = Math.min(one.destinationFrom, two.destinationFrom);
                one.destinationTo = Math.max(one.destinationTo, two.destinationTo);
                one.protocols |= two.protocols;
                one.hits += two.hits;
                return true;
            }
        }
        return false;
    }

    private boolean matches(int place, int packet) {
        return list.get(place).matches(packet / 128, packet / 4 % 32, packet % 4);
    }

    private static int firstOf(List<Entry> rules, int source, int destination, int protocol) {
        for (int place = 0; place < rules.size(); place++) {
            if (rules.get(place).matches(source, destination, protocol)) {
                return place;
            }
        }
        return -1;
    }

    private static boolean[] decisions(List<Entry> rules) {
        boolean[] permitted = new boolean[4096];
        for (int packet = 0; packet < 4096; packet++) {
            int place = firstOf(rules, packet / 128, packet / 4 % 32, packet % 4);
            permitted[packet] = place >= 0 && rules.get(place).permit;
        }
        return permitted;
    }

    private static int differences(boolean[] one, boolean[] other) {
        int count = 0;
        for (int packet = 0; packet < 4096; packet++) {
            if (one[packet] != other[packet]) {
                count++;
            }
        }
        return count;
    }

    private static boolean isOneRange(int from, int to, int otherFrom, int otherTo) {
        boolean[] both = range(from, to, 32);
        for (int number = otherFrom; number <= otherTo; number++) {
            both[number] = true;
        }
        for (int number = Math.min(from, otherFrom); number <= Math.max(to, otherTo); number++) {
            if (!both[number]) {
                return false;
            }
        }
        return true;
    }

    private static boolean[] range(int from, int to, int limit) {
        boolean[] set = new boolean[limit];
        for (int number = from; number <= to; number++) {
            set[number] = true;
        }
        return set;
    }

    /** Splits what a set has of a block: it is one block if it is full, else what its halves are split into. */
    private static void split(boolean[] set, int begin, int size, List<int[]> blocks) {
        int held = 0;
        for (int number = begin; number < begin + size; number++) {
            held += set[number] ? 1 : 0;
        }
        if (held == size) {
            blocks.add(new int[] {begin, size});
        } else if (held > 0) {
            split(set, begin, size / 2, blocks);
            split(set, begin + size / 2, size / 2, blocks);
        }
    }
}
