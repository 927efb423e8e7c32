import java.util.List;
import java.util.NoSuchElementException;

/** Long runs of calls, each answer held against the plain model; no object gets more than 512 calls. */
public final class ModelTest {
    private static final int RUNS = 90;
    private static final int CALLS = 340;
    private static final int KINDS = 24;

    private final Due due;
    private final int run;
    private final Aclsmith smith = new Aclsmith();
    private final PlainModel model = new PlainModel();
    private long seed;

    private ModelTest(Due due, int run) {
        this.due = due;
        this.run = run;
        this.seed = 7919L * run + 1;
    }

    public static void main(String[] args) {
        Due due = new Due();
        for (int run = 0; run < RUNS; run++) {
            ModelTest test = new ModelTest(due, run);
            for (int call = 0; call < CALLS; call++) {
                test.callOnce();
            }
            test.lookAtAll();
        }
        due.end("ModelTest");
    }

    private int number(int limit) {
        seed = seed * 6364136223846793005L + 1442695040888963407L;
        return (int) ((seed >>> 33) % limit);
    }

    private String in(String call) {
        return "run " + run + ": " + call;
    }

    /** A place of the list, or now and then one that is not in it. */
    private int somePlace() {
        return number(12) == 0 ? number(2) * (model.list.size() + 1) - 1 : number(Math.max(1, model.list.size()));
    }

    private boolean isPlace(int place) {
        return place >= 0 && place < model.list.size();
    }

    private void callOnce() {
        int kind = number(KINDS);
        if (kind < 5) {
            addOne();
        } else if (kind < 9) {
            judgeOne();
        } else if (kind < 11) {
            askForDecider();
        } else if (kind < 14) {
            changeList(kind);
        } else if (kind < 21) {
            askOneRule(kind, somePlace());
        } else {
            askForAll();
        }
    }

    /** Each third run has ranges of another kind: any, coarse ones, and strips that can often be merged. */
    private int[] someRange(boolean strip) {
        if (run % 3 == 2 && !strip) {
            return new int[] {0, 31};
        }
        int step = run % 3 == 1 ? 8 : 1;
        int from = number(32 / step) * step;
        int to = run % 3 == 2 ? Math.min(31, from + number(4)) : from + number((32 - from) / step) * step + step - 1;
        return new int[] {from, to};
    }

    private void addOne() {
        int[] sources = someRange(true);
        int[] destinations = someRange(false);
        int protocols = run % 3 == 0 ? 1 + number(15) : run % 3 == 1 ? 3 * (1 + 4 * number(2)) : 15;
        boolean permit = number(3) > 0;
        String call = in("add");
        if (model.list.size() == 16) {
            due.refuses(call, IllegalStateException.class, () -> smith.add(sources[0], sources[1],
                    destinations[0], destinations[1], protocols, permit));
            return;
        }
        model.add(sources[0], sources[1], destinations[0], destinations[1], protocols, permit);
        due.is(call, smith.add(sources[0], sources[1], destinations[0], destinations[1], protocols, permit),
                model.list.size() - 1);
    }

    private void judgeOne() {
        int source = number(34) - 1;
        int destination = number(34) - 1;
        int protocol = number(4);
        if (source < 0 || source > 31 || destination < 0 || destination > 31) {
            due.refuses(in("judge"), IllegalArgumentException.class, () -> smith.judge(source, destination, protocol));
            return;
        }
        due.is(in("judge"), smith.judge(source, destination, protocol), model.judge(source, destination, protocol));
    }

    private void askForDecider() {
        int source = number(32);
        int destination = number(32);
        int protocol = number(4);
        int place = model.decider(source, destination, protocol);
        if (place < 0) {
            due.refuses(in("decider"), NoSuchElementException.class,
                    () -> smith.decider(source, destination, protocol));
            return;
        }
        due.is(in("decider"), smith.decider(source, destination, protocol), place);
    }

    private void changeList(int kind) {
        int place = somePlace();
        int to = somePlace();
        if (kind == 11 && number(3) == 0) {
            if (isPlace(place)) {
                due.is(in("remove"), smith.remove(place), model.remove(place));
            } else {
                due.refuses(in("remove"), IndexOutOfBoundsException.class, () -> smith.remove(place));
            }
        } else if (kind == 12) {
            if (isPlace(place) && isPlace(to)) {
                due.is(in("move"), smith.move(place, to), model.move(place, to));
            } else {
                due.refuses(in("move"), IndexOutOfBoundsException.class, () -> smith.move(place, to));
            }
        } else if (kind == 13 && number(3) == 0) {
            due.is(in("shorten"), smith.shorten(), model.shorten());
        } else {
            due.is(in("sortByHits"), smith.sortByHits(), model.sortByHits());
        }
    }

    private void askOneRule(int kind, int place) {
        int other = somePlace();
        if (!isPlace(place)) {
            due.refuses(in("decides"), IndexOutOfBoundsException.class, () -> smith.decides(place));
        } else if (kind == 14) {
            due.is(in("decides"), smith.decides(place), model.decides(place));
        } else if (kind == 15 && isPlace(other)) {
            due.is(in("overlap"), smith.overlap(place, other), model.overlap(place, other));
        } else if (kind == 16) {
            due.is(in("isShadowed"), smith.isShadowed(place), model.decides(place) == 0);
        } else if (kind == 17) {
            askForShadow(place);
        } else if (kind == 18) {
            due.is(in("isRedundant"), smith.isRedundant(place), model.isRedundant(place));
        } else if (kind == 19 && isPlace(place + 1)) {
            due.is(in("canMerge"), smith.canMerge(place), model.canMerge(place));
        } else {
            askForEntry(place);
        }
    }

    private void askForShadow(int place) {
        int shadow = model.shadowedBy(place);
        if (shadow < 0) {
            due.refuses(in("shadowedBy"), NoSuchElementException.class, () -> smith.shadowedBy(place));
            return;
        }
        due.is(in("shadowedBy"), smith.shadowedBy(place), shadow);
    }

    private void askForEntry(int place) {
        List<Integer> all = model.entries(place);
        int entry = number(all.size());
        due.is(in("entries"), smith.entries(place), all.size());
        due.is(in("entryValue"), smith.entryValue(place, entry), all.get(entry) / 4096);
        due.is(in("entryMask"), smith.entryMask(place, entry), all.get(entry) % 4096);
    }

    private void askForAll() {
        int count = 0;
        for (int place = 0; place < model.list.size(); place++) {
            count += model.entries(place).size();
        }
        int kind = number(4);
        if (kind == 0) {
            due.is(in("permitted"), smith.permitted(), model.permitted());
        } else if (kind == 1) {
            due.is(in("misses"), smith.misses(), model.misses);
        } else if (kind == 2) {
            due.is(in("averageLooks"), smith.averageLooks(), model.averageLooks());
        } else {
            due.is(in("allEntries"), smith.allEntries(), count);
        }
    }

    private void lookAtAll() {
        due.is(in("rules"), smith.rules(), model.list.size());
        for (int place = 0; place < Math.min(smith.rules(), model.list.size()); place++) {
            PlainModel.Entry rule = model.list.get(place);
            due.is(in("sources"), smith.sources(place), 100 * rule.sourceFrom + rule.sourceTo);
            due.is(in("destinations"), smith.destinations(place), 100 * rule.destinationFrom + rule.destinationTo);
            due.is(in("protocols"), smith.protocols(place), rule.protocols);
            due.is(in("permits"), smith.permits(place), rule.permit);
            due.is(in("hits"), smith.hits(place), rule.hits);
        }
        due.is(in("averageLooks"), smith.averageLooks(), model.averageLooks());
    }
}
