import java.util.NoSuchElementException;

/** The chapters 'What it is' and 'Terms': a test for each sentence that no promise says again. */
public final class TermsTest {
    private static final int CALLS = 512;
    private static final int KINDS = 60;

    private static final Due DUE = new Due();

    public static void main(String[] args) {
        lastCallOfTheRules();
        lastCallOfThePackets();
        lastCallOfTheShadows();
        lastCallOfTheShorterLists();
        lastCallOfTheEntries();
        shortenedAndReorderedDecidesAsBefore();
        setsAreSums();
        rulesHaveWhatTheyWereGiven();
        firstRuleThatMatchesDecides();
        shadowedIsNotRedundantAlone();
        DUE.end("TermsTest");
    }

    /** A list of single sources that was asked so often that its next call is the 512th. */
    private static Aclsmith worn(int rules) {
        Aclsmith smith = Lists.single(rules);
        Lists.judgeTimes(smith, 1, 0, 0, CALLS - 1 - rules);
        return smith;
    }

    // What it is: "An object is used for at most 512 calls after it has been made", so each of them must answer
    private static void lastCallOfTheRules() {
        DUE.is("add", Lists.addAll(worn(15), true), 15);
        DUE.refuses("add", IllegalStateException.class, () -> Lists.addAll(worn(16), true));
        DUE.is("remove", worn(16).remove(0), 128);
        DUE.refuses("remove", IndexOutOfBoundsException.class, () -> worn(16).remove(16));
        DUE.is("move", worn(16).move(0, 15), 0);
        DUE.is("rules", worn(16).rules(), 16);
        DUE.is("sources", worn(16).sources(15), 1515);
        DUE.is("destinations", worn(16).destinations(15), 31);
        DUE.is("protocols", worn(16).protocols(15), 15);
        DUE.is("permits", worn(16).permits(14), true);
    }

    private static void lastCallOfThePackets() {
        DUE.is("judge", worn(16).judge(14, 31, 3), true);
        DUE.is("decider", worn(16).decider(15, 31, 3), 15);
        DUE.refuses("decider", NoSuchElementException.class, () -> worn(16).decider(16, 31, 3));
        DUE.is("hits", worn(16).hits(1), 495);
        DUE.is("misses", worn(1).misses(), 510);
        DUE.is("averageLooks", worn(16).averageLooks(), 2f);
    }

    private static void lastCallOfTheShadows() {
        DUE.is("decides", worn(16).decides(15), 128);
        DUE.is("overlap", worn(16).overlap(15, 15), 128);
        DUE.is("isShadowed", worn(16).isShadowed(15), false);
        DUE.refuses("shadowedBy", NoSuchElementException.class, () -> worn(16).shadowedBy(15));
        DUE.is("isRedundant", worn(16).isRedundant(15), true);
        DUE.is("permitted", worn(16).permitted(), 8 * 128);
    }

    private static void lastCallOfTheShorterLists() {
        DUE.is("canMerge", worn(16).canMerge(14), false);
        DUE.is("shorten", worn(16).shorten(), 8);
        DUE.is("sortByHits", worn(16).sortByHits(), 1);
    }

    private static void lastCallOfTheEntries() {
        DUE.is("entries", worn(16).entries(15), 1);
        DUE.is("entryValue", worn(16).entryValue(15, 0), 15 * 128);
        DUE.is("entryMask", worn(16).entryMask(15, 0), 31 * 128);
        DUE.is("allEntries", worn(16).allEntries(), 16);
    }

    /** Which of the packets of a source are permitted, a sign for each; they are judged, so hits grow. */
    private static String decisions(Aclsmith smith, int source) {
        StringBuilder words = new StringBuilder();
        for (int packet = 0; packet < 128; packet++) {
            words.append(smith.judge(source, packet / 4, packet % 4) ? '+' : '-');
        }
        return words.toString();
    }

    // Terms: "the shortened and reordered list decides every packet as before"
    private static void shortenedAndReorderedDecidesAsBefore() {
        int shorter = 0;
        int exchanges = 0;
        for (int kind = 0; kind < KINDS; kind++) {
            for (int source = 0; source <= 31; source++) {
                Aclsmith smith = Lists.mixed(kind, 16);
                String before = decisions(smith, source);
                boolean sortsFirst = source % 2 == 0;
                exchanges += sortsFirst ? smith.sortByHits() : 0;
                shorter += smith.shorten();
                exchanges += sortsFirst ? 0 : smith.sortByHits();
                DUE.is("kind " + kind + ", source " + source, decisions(smith, source), before);
            }
        }
        DUE.is("some lists became shorter", shorter > KINDS * 32, true);
        DUE.is("some lists were reordered", exchanges > KINDS * 32, true);
    }

    // Terms: "the sum of 1 for the protocol 0, 2 for the protocol 1, 4 for the protocol 2 and 8 for the protocol 3"
    private static void setsAreSums() {
        int[] worth = {1, 2, 4, 8};
        for (int protocol = 0; protocol <= 3; protocol++) {
            Aclsmith smith = new Aclsmith();
            smith.add(0, 31, 0, 31, worth[protocol], false);
            Lists.addAll(smith, true);
            for (int other = 0; other <= 3; other++) {
                DUE.is("decider of protocol " + other, smith.decider(9, 9, other), other == protocol ? 0 : 1);
            }
        }
        Aclsmith pair = new Aclsmith();
        pair.add(0, 31, 0, 31, worth[0] + worth[3], true);
        pair.add(0, 31, 0, 31, worth[1] + worth[2] + worth[3], false);
        DUE.is("overlap of two sums", pair.overlap(0, 1), 1024);
        DUE.is("permitted by a sum", pair.permitted(), 2048);
    }

    // Terms: "A rule has a range of sources, a range of destinations, a set of protocols, an action .., and hits"
    private static void rulesHaveWhatTheyWereGiven() {
        Aclsmith smith = new Aclsmith();
        smith.add(1, 2, 3, 4, 5, true);
        smith.add(10, 20, 0, 31, 10, false);
        smith.add(31, 31, 7, 7, 1, true);
        DUE.is("state", Lists.state(smith), "3 rules, misses 0, looks 0.0, permitted 9"
                + "; 102 304 5 permit 0; 1020 31 10 deny 0; 3131 707 1 permit 0");
        smith.judge(2, 3, 2);
        smith.judge(31, 7, 0);
        DUE.is("state", Lists.state(smith), "3 rules, misses 0, looks 2.0, permitted 9"
                + "; 102 304 5 permit 1; 1020 31 10 deny 0; 3131 707 1 permit 1");
    }

    // Terms: "The first rule of the list that matches a packet decides it: it is permitted or denied by the action of
    // the rule. A packet that no rule matches is denied."
    private static void firstRuleThatMatchesDecides() {
        for (int first = 0; first <= 16; first++) {
            Aclsmith smith = new Aclsmith();
            for (int place = 0; place < 16; place++) {
                boolean matches = place >= first;
                smith.add(matches ? 5 : 6, 6, 0, 31, 15, place == first);
            }
            DUE.is("judge by the first of " + (16 - first), smith.judge(5, 5, 1), first < 16);
            DUE.is("misses", smith.misses(), first < 16 ? 0 : 1);
            DUE.is("hits", first < 16 ? smith.hits(first) : 1, 1);
        }
    }

    // Terms: "A rule is shadowed if it decides no packet. It is redundant if all packets would be permitted or denied
    // as before without it.", so a redundant rule need not be shadowed
    private static void shadowedIsNotRedundantAlone() {
        Aclsmith smith = new Aclsmith();
        smith.add(3, 9, 3, 9, 15, true);
        Lists.addAll(smith, true);
        smith.add(3, 9, 3, 9, 15, false);
        boolean[] shadowed = {false, false, true};
        boolean[] redundant = {true, false, true};
        for (int place = 0; place < 3; place++) {
            DUE.is("isShadowed " + place, smith.isShadowed(place), shadowed[place]);
            DUE.is("isRedundant " + place, smith.isRedundant(place), redundant[place]);
        }
    }
}
