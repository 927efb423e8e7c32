/** Lists of rules that the tests start from, and what they ask of a whole list. */
final class Lists {
    /** No number of the document; those at the end would be in range again if cut to fewer bits. */
    private static final int[] FAR_OUT = {Integer.MIN_VALUE, Integer.MIN_VALUE + 2, -256 + 2, -2, 64 + 2, 256 + 2,
        65536 + 2, Integer.MAX_VALUE - 1, Integer.MAX_VALUE};

    private Lists() {
    }

    static int[] farOut() {
        return FAR_OUT.clone();
    }

    /** A permit and a deny of 1024 packets each, 256 of them common. */
    static Aclsmith crossed() {
        Aclsmith smith = new Aclsmith();
        smith.add(0, 15, 0, 15, 15, true);
        smith.add(8, 23, 8, 23, 15, false);
        return smith;
    }

    /** Rules that match one source each, 0 to n - 1, and have no packet in common; those of even sources permit. */
    static Aclsmith single(int rules) {
        Aclsmith smith = new Aclsmith();
        for (int source = 0; source < rules; source++) {
            smith.add(source, source, 0, 31, 15, source % 2 == 0);
        }
        return smith;
    }

    /** The same permit of all packets again and again. */
    static Aclsmith alike(int rules) {
        Aclsmith smith = new Aclsmith();
        for (int place = 0; place < rules; place++) {
            addAll(smith, true);
        }
        return smith;
    }

    /** Rules of both actions, many of which overlap, touch or are equal in a part; each kind is a list of its own. */
    static Aclsmith mixed(int kind, int rules) {
        Aclsmith smith = new Aclsmith();
        int mix = 977 * kind + 5;
        for (int place = 0; place < rules; place++) {
            mix = mix * 1103515245 + 12345 & Integer.MAX_VALUE;
            int sourceFrom = mix / 256 % 7 * 3;
            int sourceTo = sourceFrom + mix / 2048 % (4 + kind % 9);
            int destinationFrom = mix / 65536 % (1 + kind % 3) * 8;
            int destinationTo = destinationFrom + 7 + mix / 1024 % 2 * (kind % 4);
            int protocols = kind % 2 == 0 ? 15 : 1 + mix / 8192 % 15;
            smith.add(sourceFrom, sourceTo, destinationFrom, destinationTo, protocols, mix / 512 % 3 > 0);
        }
        return smith;
    }

    /** Adds a rule that matches all packets. */
    static int addAll(Aclsmith smith, boolean permit) {
        return smith.add(0, 31, 0, 31, 15, permit);
    }

    static void judgeTimes(Aclsmith smith, int source, int destination, int protocol, int times) {
        for (int i = 0; i < times; i++) {
            smith.judge(source, destination, protocol);
        }
    }

    /** The least sources of all rules, in their order, as one word. */
    static String order(Aclsmith smith) {
        StringBuilder words = new StringBuilder();
        for (int place = 0; place < smith.rules(); place++) {
            words.append(place == 0 ? "" : " ").append(smith.sources(place) / 100);
        }
        return words.toString();
    }

    /** All that an object answers about what it holds, as one text; some 100 calls for a full list. */
    static String state(Aclsmith smith) {
        StringBuilder words = new StringBuilder();
        words.append(smith.rules()).append(" rules, misses ").append(smith.misses());
        words.append(", looks ").append(smith.averageLooks()).append(", permitted ").append(smith.permitted());
        for (int place = 0; place < smith.rules(); place++) {
            words.append("; ").append(smith.sources(place)).append(' ').append(smith.destinations(place));
            words.append(' ').append(smith.protocols(place)).append(smith.permits(place) ? " permit " : " deny ");
            words.append(smith.hits(place));
        }
        return words.toString();
    }
}
