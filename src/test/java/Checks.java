import java.lang.reflect.InvocationTargetException;
import java.lang.reflect.Method;
import java.lang.reflect.Modifier;
import java.util.ArrayList;
import java.util.Arrays;
import java.util.Comparator;
import java.util.List;
import java.util.function.Supplier;
import java.util.function.ToLongFunction;

/** What the tests by hand share: asking, refusals that change nothing, and running every test of a class. */
final class Checks {
    static final int NONE = -1, BAD = -2, STATE = -3, FULL = -4;
    static final int NOTHING = -11, OUTSIDE = -12, OTHER_SORT = -13, BELOW_ZERO = -14;
    static final int LEAST = Integer.MIN_VALUE, MOST = Integer.MAX_VALUE;
    /** An object answers for 512 calls only. */
    private static final int MOST_CALLS = 440;

    private static String test = "";
    private static int asked = 0;
    private static int wrong = 0;

    private Checks() {
    }

    static void due(String call, long got, long want) {
        asked++;
        if (got != want) {
            wrong++;
            System.out.println(test + ": " + call + " answered " + got + ", due is " + want);
        }
    }

    /** A call is refused as due, and all that can be told of the object stays as if it had not been called. */
    static void refuses(String call, long want, Supplier<WolfVillage> before, ToLongFunction<WolfVillage> refused) {
        WolfVillage called = before.get();
        WolfVillage twin = before.get();
        due(call, refused.applyAsLong(called), want);
        same(call + " changes nothing", called, twin);
    }

    /** What was reckoned for the plan ahead of a change is not answered behind it. */
    static void reckonsAnew(String change, Supplier<WolfVillage> before, ToLongFunction<WolfVillage> changes) {
        WolfVillage asked = before.get();
        WolfVillage fresh = before.get();
        tracePlan(asked, new ArrayList<>());
        due(change, changes.applyAsLong(asked), changes.applyAsLong(fresh));
        same(change + " is reckoned anew", asked, fresh);
    }

    private static void same(String what, WolfVillage x, WolfVillage y) {
        List<Long> got = traceOf(x);
        List<Long> want = traceOf(y);
        due(what + ": as much to tell", got.size(), want.size());
        for (int k = 0; k < Math.min(got.size(), want.size()); k++) {
            if (!got.get(k).equals(want.get(k))) {
                due(what + ": telling " + k, got.get(k), want.get(k));
                return;
            }
        }
    }

    /** Runs each static method whose name begins with promise or term; ends with 1 if an answer was wrong. */
    static void runAll(Class<?> tests) {
        Method[] methods = tests.getDeclaredMethods();
        Arrays.sort(methods, Comparator.comparing(Method::getName));
        int ran = 0;
        for (Method m : methods) {
            boolean named = m.getName().startsWith("promise") || m.getName().startsWith("term");
            if (named && Modifier.isStatic(m.getModifiers()) && m.getParameterCount() == 0) {
                test = m.getName();
                ran++;
                run(m);
            }
        }
        System.out.println(ran + " tests, " + asked + " answers, " + wrong + " wrong");
        if (wrong != 0 || ran == 0) {
            System.exit(1);
        }
    }

    private static void run(Method m) {
        try {
            m.invoke(null);
        } catch (InvocationTargetException e) {
            wrong++;
            System.out.println(test + ": " + e.getCause());
        } catch (IllegalAccessException e) {
            wrong++;
            System.out.println(test + ": " + e);
        }
    }

    // ---- villages

    static int[] way(int kind, int a, int b) {
        return new int[] {kind, a, b};
    }

    static WolfVillage village(int places, int[]... ways) {
        WolfVillage x = new WolfVillage(places - 3);
        for (int k = 0; k < ways.length; k++) {
            due("way " + k + " of a village", x.way(ways[k][0], ways[k][1], ways[k][2]), k);
        }
        return x;
    }

    static WolfVillage wells(WolfVillage x) {
        for (int k = 0; k < x.count(0); k++) {
            x.ground(k, 1);
        }
        return x;
    }

    static WolfVillage twoHunters(WolfVillage x) {
        x.tell(0, 2);
        return x;
    }

    /** 0 - 1 - 2, one hunter. */
    static WolfVillage path() {
        return village(3, way(0, 0, 1), way(0, 1, 2));
    }

    static WolfVillage ring(int places) {
        WolfVillage x = new WolfVillage(places - 3);
        for (int k = 0; k < places; k++) {
            x.way(0, k, (k + 1) % places);
        }
        return x;
    }

    /** Sixteen ways, all of a kind and between 0 and 1, of three places. */
    static WolfVillage fullOf(int kind) {
        WolfVillage x = new WolfVillage(0);
        for (int k = 0; k < 16; k++) {
            x.way(kind, 0, 1);
        }
        return x;
    }

    /** No shutters; a game, a tape, texts and sheets are on, so that a call that changes something is found out. */
    static WolfVillage busy() {
        WolfVillage x = village(6, way(0, 0, 1), way(0, 1, 2), way(1, 2, 3), way(0, 3, 4), way(4, 4, 5), way(0, 5, 0));
        fillRest(x);
        return x;
    }

    /** As busy, with both shutters, a lock and a gate, one of them shut in the game. */
    static WolfVillage busyWithShutters() {
        WolfVillage x = village(6, way(3, 0, 1), way(0, 1, 2), way(2, 2, 3), way(0, 3, 4), way(0, 4, 5), way(0, 5, 0));
        fillRest(x);
        return x;
    }

    private static void fillRest(WolfVillage x) {
        x.tell(0, 2);
        x.tell(1, 0);
        x.ground(4, 3);
        x.ground(2, 2);
        feed(x, "grade ways;fair 1;");
        x.text();
        x.force(1);
        feed(x, "grade 7;fair 3;");
        row(x, 0, 0, 0, 0, 1, 1, 2, 3);
        row(x, 1, 1, 4, 1, 5);
        row(x, 2, 2);
        x.start(0, 2, 4);
        x.move(0);
        x.move(0);
        x.move(1);
    }

    /** A sheet of a sort with these numbers. */
    static void row(WolfVillage x, int sheet, int sort, int... numbers) {
        x.sheet(sheet, sort, numbers.length);
        for (int k = 0; k < numbers.length; k++) {
            x.cell(sheet, k, numbers[k]);
        }
    }

    static void feed(WolfVillage x, String text) {
        for (int at = 0; at < text.length(); at += 8) {
            int n = Math.min(8, text.length() - at);
            long bytes = 0;
            for (int k = 0; k < n; k++) {
                bytes |= (long) (text.charAt(at + k) & 255) << 8 * k;
            }
            x.feed(n, bytes);
        }
    }

    static int read(WolfVillage x, String text) {
        feed(x, text);
        return x.text();
    }

    // ---- all that can be told

    /** What calls tell of an object, which is used up by that. */
    private static List<Long> traceOf(WolfVillage x) {
        List<Long> told = new ArrayList<>();
        for (int what = 0; what <= 8; what++) {
            told.add((long) x.count(what));
            told.add((long) x.told(what));
        }
        tracePlan(x, told);
        traceGame(x, told);
        traceTexts(x, told);
        traceSheets(x, told);
        for (int k = 0; k < x.count(0); k++) {
            told.add((long) x.ground(k, 0));
        }
        if (told.size() > MOST_CALLS) {
            due("calls of a trace", told.size(), MOST_CALLS);
        }
        return told;
    }

    private static void tracePlan(WolfVillage x, List<Long> told) {
        int ways = x.count(1);
        int places = x.count(0);
        for (int w = 0; w < ways; w++) {
            for (int what = 0; what < 5; what++) {
                told.add((long) x.wayTold(w, what));
            }
        }
        for (int what = 0; what < 3; what++) {
            told.add((long) x.solved(what));
        }
        for (int k = 0; k < places; k++) {
            told.add((long) x.length(0, places - 1, k, 1, 0));
            told.add((long) x.sees(k, k));
            told.add((long) x.puzzle(1 + k, -1));
        }
        told.add((long) x.alike(places - 1, places - 2, 0));
        told.add(x.says(0));
        told.add(x.says(1));
        told.add((long) x.turnings());
        told.add((long) x.fairer());
        told.add((long) x.sure(0, 1, (1 << places) - 4));
        told.add((long) x.first(0, 1, (1 << places) - 4));
    }

    private static void traceGame(WolfVillage x, List<Long> told) {
        for (int k = 0; k < 66; k++) {
            long done = x.back();
            told.add(done);
            if (done < 0) {
                return;
            }
            told.add((long) x.told(5));
        }
    }

    private static void traceTexts(WolfVillage x, List<Long> told) {
        told.add((long) x.text());
        for (int k = 0; k < x.count(5); k++) {
            told.add((long) x.force(k));
            told.add(x.says(0));
            told.add(x.says(1));
        }
    }

    private static void traceSheets(WolfVillage x, List<Long> told) {
        for (int sheet = 0; sheet < 4; sheet++) {
            for (int sort = 0; sort < 3; sort++) {
                long taken = x.ways(sheet, sort, 0, 0);
                told.add(taken);
                if (taken == 0) {
                    traceRow(x, sheet, sort, told);
                }
            }
        }
    }

    /** Its numbers as the ways that they make, then how many there are. */
    private static void traceRow(WolfVillage x, int sheet, int sort, List<Long> told) {
        for (int k = x.count(1); k > 0; k--) {
            x.unway();
        }
        told.add((long) x.ways(sheet, sort, 0, 13));
        for (int w = 0; w < x.count(1); w++) {
            for (int what = 0; what < 3; what++) {
                told.add((long) x.wayTold(w, what));
            }
        }
        for (int i = 0; i < 41; i++) {
            long put = x.cell(sheet, i, 0);
            told.add(put);
            if (put < 0) {
                return;
            }
        }
    }
}
