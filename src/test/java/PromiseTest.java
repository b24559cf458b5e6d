/** The promises 1 to 31 by hand: ordinary inputs, the edges that the document names, and wrong inputs. */
public final class PromiseTest {
    private static final int NONE = -1, BAD = -2, STATE = -3, FULL = -4;
    private static int wrong = 0;
    private static int asked = 0;

    private static void due(String call, long got, long want) {
        asked++;
        if (got != want) {
            wrong++;
            System.out.println(call + " answered " + got + ", due is " + want);
        }
    }

    /** 0 - 1 - 2, one hunter. */
    private static WolfVillage path() {
        WolfVillage x = new WolfVillage(0);
        x.way(0, 0, 1);
        x.way(0, 1, 2);
        return x;
    }

    private static WolfVillage pathWithGame() {
        WolfVillage x = path();
        due("start of pathWithGame", x.start(0, 0, 2), 4);
        return x;
    }

    private static void newObject() {
        int[] numbers = {0, 5, 6, -1, -6, -7, 11, Integer.MAX_VALUE, Integer.MIN_VALUE};
        int[] places = {3, 8, 3, 8, 3, 8, 8, 4, 7};
        for (int k = 0; k < numbers.length; k++) {
            due("1: places of " + numbers[k], new WolfVillage(numbers[k]).count(0), places[k]);
        }
        WolfVillage x = new WolfVillage(2);
        int[] counts = {5, 0, 0, 1, 1, 1, 0, 0, 0};
        for (int what = 0; what < counts.length; what++) {
            due("1: count(" + what + ")", x.count(what), counts[what]);
        }
        for (int k = 0; k < 5; k++) {
            due("1: neither well nor hill", x.ground(k, 0), 0);
        }
        for (int k = 0; k < 4; k++) {
            due("1: missing sheet", x.cell(k, 0, 0), -11);
        }
    }

    private static void way() {
        WolfVillage x = new WolfVillage(0);
        due("2: a below", x.way(0, -1, 1), BAD);
        due("2: a above", x.way(0, 3, 1), BAD);
        due("2: b below", x.way(0, 1, -1), BAD);
        due("2: b above", x.way(0, 1, 3), BAD);
        due("2: alike", x.way(0, 2, 2), BAD);
        due("2: kind below", x.way(-1, 0, 1), BAD);
        due("2: kind above", x.way(6, 0, 1), BAD);
        due("2: none came", x.count(1), 0);
        due("2: shutter", x.way(5, 0, 1), 0);
        due("2: shutter", x.way(3, 0, 1), 1);
        due("2: third shutter", x.way(2, 0, 1), FULL);
        due("2: bad ahead of full", x.way(2, 0, 0), BAD);
        for (int k = 2; k < 16; k++) {
            due("2: number", x.way(k % 2 * 4, 0, 1), k);
        }
        due("2: seventeenth", x.way(0, 1, 2), FULL);
        due("2: bad ahead of full", x.way(6, 1, 2), BAD);
        due("2: sixteen", x.count(1), 16);
        WolfVillage y = pathWithGame();
        y.way(0, 0, 0);
        due("2: a refused way leaves the game", y.count(8), 1);
        y.way(0, 0, 2);
        due("2: a way ends the game", y.count(8), 0);
    }

    private static void unway() {
        WolfVillage x = new WolfVillage(0);
        due("3: none", x.unway(), STATE);
        x.way(2, 0, 1);
        x.way(3, 0, 1);
        x.way(0, 0, 1);
        due("3: three less one", x.unway(), 2);
        due("3: shutters", x.count(2), 2);
        due("3: a lock less", x.unway(), 1);
        due("3: shutters", x.count(2), 1);
        due("3: still joined, still seen", x.sees(0, 0), 3);
        due("3: a bridge has room", x.way(5, 1, 2), 1);
        due("3: it is shutter 1", x.wayTold(1, 3), 1);
        due("3: down", x.unway(), 1);
        due("3: down", x.unway(), 0);
        due("3: no more seen", x.sees(0, 0), 1);
        due("3: no more seen", x.sees(1, 1), 2);
        due("3: none again", x.unway(), STATE);
        WolfVillage y = pathWithGame();
        y.unway();
        due("3: ends the game", y.count(8), 0);
    }

    private static void wayTold() {
        WolfVillage x = new WolfVillage(0);
        int[] kinds = {0, 1, 5, 4, 3};
        int[] shutters = {NONE, NONE, 0, NONE, 1};
        int[] shutFor = {0, 0, 1, 0, 2};
        for (int k = 0; k < kinds.length; k++) {
            x.way(kinds[k], k % 3, (k + 1) % 3);
        }
        for (int k = 0; k < kinds.length; k++) {
            due("4: kind", x.wayTold(k, 0), kinds[k]);
            due("4: a", x.wayTold(k, 1), k % 3);
            due("4: b", x.wayTold(k, 2), (k + 1) % 3);
            due("4: shutter", x.wayTold(k, 3), shutters[k]);
            due("4: shut for", x.wayTold(k, 4), shutFor[k]);
        }
        WolfVillage y = new WolfVillage(0);
        y.way(2, 0, 1);
        due("4: gate", y.wayTold(0, 4), 1);
        due("4: way below", y.wayTold(-1, 0), BAD);
        due("4: way above", y.wayTold(1, 0), BAD);
        due("4: what below", y.wayTold(0, -1), BAD);
        due("4: what above", y.wayTold(0, 5), BAD);
    }

    private static void ground() {
        WolfVillage x = new WolfVillage(0);
        due("5: was nothing", x.ground(2, 3), 0);
        due("5: was both", x.ground(2, 1), 3);
        due("5: was a well", x.ground(2, 2), 1);
        due("5: was a hill", x.ground(2, 0), 2);
        due("5: place below", x.ground(-1, 0), BAD);
        due("5: place above", x.ground(3, 0), BAD);
        due("5: bits below", x.ground(0, -1), BAD);
        due("5: bits above", x.ground(0, 4), BAD);
        WolfVillage y = pathWithGame();
        y.ground(0, 4);
        due("5: refused, the game stays", y.count(8), 1);
        y.ground(0, 0);
        due("5: ends the game", y.count(8), 0);
    }

    private static void tell() {
        WolfVillage x = new WolfVillage(0);
        due("6: hunters", x.tell(0, 2), 1);
        due("6: hunters", x.tell(0, 1), 2);
        due("6: hunters below", x.tell(0, 0), BAD);
        due("6: hunters above", x.tell(0, 3), BAD);
        due("6: sight", x.tell(1, 0), 1);
        due("6: sight", x.tell(1, 3), 0);
        due("6: sight below", x.tell(1, -1), BAD);
        due("6: sight above", x.tell(1, 4), BAD);
        due("6: what below", x.tell(-1, 1), BAD);
        due("6: what above", x.tell(2, 1), BAD);
        due("6: hunters stay", x.count(3), 1);
        due("6: sight stays", x.count(4), 3);
        for (int what = 0; what < 2; what++) {
            WolfVillage y = pathWithGame();
            y.tell(what, 9);
            due("6: refused, the game stays", y.count(8), 1);
            y.tell(what, 1);
            due("6: ends the game", y.count(8), 0);
        }
    }

    private static void length() {
        WolfVillage x = path();
        due("7: one step", x.length(0, 9, 1, 0, 0), 1);
        due("7: to the middle, it runs into the hunter", x.length(0, 0, 2, 0, 0), 2);
        due("7: away and back", x.length(0, 0, 1, 1, 0), 3);
        due("7: caught", x.length(1, 1, 1, 0, 0), 0);
        due("7: caught", x.length(1, 1, 1, 1, 0), 0);
        due("7: h", x.length(3, 0, 1, 0, 0), BAD);
        due("7: h", x.length(-1, 0, 1, 0, 0), BAD);
        due("7: r", x.length(0, 0, 3, 0, 0), BAD);
        due("7: r", x.length(0, 0, -1, 0, 0), BAD);
        due("7: turn", x.length(0, 0, 1, 2, 0), BAD);
        due("7: turn", x.length(0, 0, 1, -1, 0), BAD);
        due("7: shut", x.length(0, 0, 1, 0, 1), BAD);
        due("7: shut", x.length(0, 0, 1, 0, -1), BAD);
        x.tell(0, 2);
        due("7: i", x.length(0, 3, 1, 0, 0), BAD);
        due("7: i", x.length(0, -1, 1, 0, 0), BAD);
        due("7: any order", x.length(2, 0, 1, 0, 0), 1);
        WolfVillage gate = new WolfVillage(0);
        gate.way(2, 0, 1);
        gate.ground(1, 1);
        due("7: open", gate.length(0, 0, 1, 0, 0), 1);
        due("7: shut, all wait", gate.length(0, 0, 1, 0, 1), 3);
        due("7: shut for two", gate.length(0, 0, 1, 0, 2), 3);
        due("7: one shutter", gate.length(0, 0, 1, 0, 3), BAD);
        due("7: the runner stays at the well", gate.length(0, 0, 1, 1, 0), 2);
        due("7: an end without way", gate.length(2, 2, 1, 0, 0), NONE);
        gate.ground(1, 0);
        due("7: it must go to the hunter", gate.length(0, 0, 1, 1, 0), 1);
        due("7: it can neither go nor stay", gate.length(0, 0, 1, 1, 1), 0);
        gate.way(3, 0, 2);
        due("7: the lock is the hunters' alone", gate.length(0, 0, 2, 1, 0), 0);
        due("7: nine", gate.length(0, 0, 2, 0, 8), 1);
        due("7: nine", gate.length(0, 0, 2, 0, 9), BAD);
    }

    private static void best() {
        WolfVillage x = path();
        due("8: catch", x.best(0, 0, 1, 0, 0), 1);
        due("8: the runner's", x.best(0, 0, 1, 1, 0), 2);
        due("8: caught", x.best(0, 0, 0, 0, 0), NONE);
        due("8: place", x.best(0, 0, 3, 0, 0), BAD);
        due("8: shut", x.best(0, 0, 1, 0, 1), BAD);
        x.tell(0, 2);
        due("8: the second one catches", x.best(2, 0, 1, 0, 0), 1);
        x.way(0, 0, 2);
        due("8: the greater place's", x.best(1, 1, 2, 0, 0), 2);
        WolfVillage y = new WolfVillage(1);
        y.tell(0, 2);
        y.way(0, 3, 2);
        due("8: the second one's move is 16 more", y.best(3, 0, 2, 0, 0), 17);
        due("8: both orders", y.best(0, 3, 2, 0, 0), 17);
        WolfVillage z = new WolfVillage(0);
        z.way(0, 0, 1);
        z.ground(2, 1);
        due("8: all lead to NONE, the least", z.best(0, 0, 2, 0, 0), 0);
        due("8: it stays at the well", z.best(0, 0, 2, 1, 0), 0);
        z.ground(2, 0);
        due("8: caught, not able to go", z.best(0, 0, 2, 1, 0), NONE);
    }

    private static void moves() {
        WolfVillage x = path();
        due("9: stay and go", x.moves(0, 0, 2, 0, 0), 2);
        due("9: stay and two", x.moves(1, 1, 2, 0, 0), 3);
        due("9: the runner", x.moves(0, 0, 1, 1, 0), 2);
        x.ground(1, 1);
        due("9: at a well", x.moves(0, 0, 1, 1, 0), 3);
        due("9: caught", x.moves(0, 0, 0, 1, 0), 0);
        due("9: place", x.moves(0, 0, 3, 0, 0), BAD);
        due("9: turn", x.moves(0, 0, 1, 2, 0), BAD);
        x.tell(0, 2);
        due("9: two hunters", x.moves(0, 1, 2, 0, 0), 4);
        x.way(0, 1, 0);
        due("9: ways that join the same are two", x.moves(0, 1, 2, 0, 0), 6);
        WolfVillage y = new WolfVillage(1);
        y.way(5, 0, 1);
        y.way(1, 0, 2);
        y.way(4, 2, 3);
        y.way(3, 2, 1);
        due("9: bridge from a", y.moves(0, 0, 3, 0, 0), 2);
        due("9: bridge not from b, the lock", y.moves(1, 1, 3, 0, 0), 2);
        due("9: bridge from b, the lock shut", y.moves(1, 1, 3, 0, 3), 1);
        due("9: the runner over the bridge, the hedge", y.moves(3, 3, 0, 1, 0), 2);
        due("9: over the hedge, the bridge shut", y.moves(3, 3, 0, 1, 1), 1);
        due("9: hedge and creep", y.moves(0, 0, 3, 1, 0), 1);
        due("9: the hunter is beside at the other end of a lock", y.moves(1, 1, 2, 1, 0), 1);
        due("9: the creep's other end is beside", y.moves(2, 2, 3, 1, 0), 0);
    }

    private static void solvedAndPuzzle() {
        WolfVillage x = path();
        due("10: won", x.solved(0), 6);
        due("10: all", x.solved(1), 6);
        due("10: longest", x.solved(2), 2);
        due("10: below", x.solved(-1), BAD);
        due("10: above", x.solved(3), BAD);
        int[] ones = {1, 110, 112, 221};
        due("11: how many", x.puzzle(1, -1), 4);
        for (int k = 0; k < ones.length; k++) {
            due("11: puzzle " + k, x.puzzle(1, k), ones[k]);
        }
        due("11: behind the last", x.puzzle(1, 4), NONE);
        due("11: far behind", x.puzzle(1, Integer.MAX_VALUE), NONE);
        due("11: of length 2", x.puzzle(2, -1), 2);
        due("11: of length 2", x.puzzle(2, 0), 2);
        due("11: of length 2", x.puzzle(2, 1), 220);
        due("11: none of 999", x.puzzle(999, -1), 0);
        due("11: none of 999", x.puzzle(999, 0), NONE);
        due("11: below", x.puzzle(0, -1), BAD);
        due("11: above", x.puzzle(1000, -1), BAD);
        due("11: i below", x.puzzle(1, -2), NONE);
        due("11: length is named first", x.puzzle(0, -2), BAD);
        x.way(0, 0, 1);
        due("11: two moves that lead to one standing", x.puzzle(1, -1), 2);
        WolfVillage none = new WolfVillage(0);
        for (int k = 0; k < 3; k++) {
            none.ground(k, 1);
        }
        due("10: none won", none.solved(0), 0);
        due("10: none longest", none.solved(2), 0);
        WolfVillage both = new WolfVillage(0);
        both.tell(0, 2);
        both.way(0, 0, 1);
        both.ground(1, 1);
        due("11: of both at one place the first one's are looked at", both.puzzle(1, 0), 1);
    }

    private static void turningsAndAlike() {
        WolfVillage x = new WolfVillage(5);
        due("12: all namings of eight", x.turnings(), 40320);
        x.ground(3, 1);
        due("12: a well", x.turnings(), 5040);
        x.ground(4, 2);
        due("12: a well and a hill", x.turnings(), 720);
        x.ground(4, 1);
        due("12: two wells", x.turnings(), 1440);
        WolfVillage ring = new WolfVillage(5);
        for (int k = 0; k < 8; k++) {
            ring.way(0, k, (k + 1) % 8);
        }
        due("12: a ring", ring.turnings(), 16);
        ring.way(0, 1, 0);
        due("12: two ways join two places", ring.turnings(), 2);
        WolfVillage y = new WolfVillage(0);
        y.way(2, 0, 1);
        due("12: a gate", y.turnings(), 2);
        y.unway();
        y.way(5, 1, 0);
        due("12: a bridge", y.turnings(), 1);
        y.way(5, 0, 1);
        due("12: a bridge back", y.turnings(), 2);
        due("12: the shutters' order does not matter", y.alike(1, 1, 0), 1);
        WolfVillage p = path();
        due("13: one hunter", p.alike(2, 9, 1), 1);
        due("13: the middle stays", p.alike(1, 1, 2), 110);
        due("13: h", p.alike(3, 0, 0), BAD);
        due("13: h", p.alike(-1, 0, 0), BAD);
        due("13: r", p.alike(0, 0, 3), BAD);
        p.tell(0, 2);
        due("13: i", p.alike(0, 3, 0), BAD);
        due("13: sorted anew", p.alike(2, 1, 2), 10);
        due("13: sorted anew", p.alike(2, 0, 1), 21);
    }

    private static void fairer() {
        WolfVillage x = new WolfVillage(0);
        x.way(3, 0, 1);
        due("14: a shutter", x.fairer(), STATE);
        x.unway();
        x.tell(0, 2);
        for (int k = 0; k < 3; k++) {
            x.ground(k, 1);
        }
        // Nothing is won of 9; a way 0 - 1 wins the 4 in which a hunter is at its one end, the runner at the other.
        due("14: one way more", x.fairer(), 201);
        WolfVillage full = new WolfVillage(0);
        for (int k = 0; k < 16; k++) {
            full.way(0, 0, 1);
        }
        due("14: sixteen ways, none more", full.fairer(), 100);
        due("14: the plan stays", full.count(1), 16);
    }

    private static void sees() {
        WolfVillage x = new WolfVillage(3);
        int[] kinds = {1, 5, 3, 4, 0};
        for (int k = 0; k < 5; k++) {
            x.way(kinds[k], k + 1, k);
        }
        due("15: one way", x.sees(0, 9), 3);
        x.tell(1, 0);
        due("15: none", x.sees(2, 0), 4);
        x.tell(1, 3);
        due("15: three, of any kind", x.sees(5, 0), 60);
        x.ground(5, 2);
        due("15: from a hill one more", x.sees(5, 0), 62);
        x.tell(0, 2);
        x.tell(1, 0);
        due("15: both", x.sees(5, 0), 49);
        due("15: both", x.sees(0, 5), 49);
        due("15: h", x.sees(6, 0), BAD);
        due("15: i", x.sees(0, 6), BAD);
        due("15: i", x.sees(0, -1), BAD);
    }

    private static void sureAndFirst() {
        WolfVillage x = path();
        x.tell(1, 0);
        due("16: empty", x.sure(0, 0, 0), 0);
        due("17: empty", x.first(0, 0, 0), NONE);
        due("16: none can go", x.sure(1, 1, 5), 1);
        due("17: stay", x.first(1, 1, 5), 0);
        due("16: to the middle", x.sure(0, 0, 6), 1);
        due("17: to the middle", x.first(0, 0, 6), 1);
        due("16: where the hunter is", x.sure(0, 0, 1), 1);
        x.ground(2, 1);
        due("16: to the well in two", x.sure(0, 0, 4), 2);
        due("17: at once", x.first(0, 0, 4), 1);
        due("16: h", x.sure(3, 0, 0), BAD);
        due("17: h", x.first(-1, 0, 0), BAD);
        due("16: bits", x.sure(0, 0, 8), BAD);
        due("17: bits", x.first(0, 0, -1), BAD);
        x.way(2, 0, 2);
        due("16: a shutter", x.sure(0, 0, 4), STATE);
        due("17: a shutter", x.first(0, 0, 4), STATE);
        due("16: bad is named first", x.sure(0, 0, 8), BAD);
        WolfVillage seven = new WolfVillage(4);
        due("16: seven", seven.sure(0, 0, 127), STATE);
        due("17: seven", seven.first(0, 0, 127), STATE);
        due("16: seven, bits", seven.sure(0, 0, 128), BAD);
        WolfVillage ring = new WolfVillage(1);
        for (int k = 0; k < 4; k++) {
            ring.way(0, k, (k + 1) % 4);
            ring.ground(k, 1);
        }
        due("16: one in a ring never", ring.sure(0, 0, 4), NONE);
        due("17: one in a ring never", ring.first(0, 0, 4), NONE);
        ring.tell(0, 2);
        due("16: two hold it, each at one side", ring.sure(1, 3, 4), 1);
        due("17: the least", ring.first(3, 1, 4), 2);
        due("16: i", ring.sure(0, 4, 4), BAD);
    }

    private static void start() {
        WolfVillage x = path();
        due("18: seen", x.start(0, 9, 1), 2);
        due("18: not seen", x.start(0, 0, 2), 4);
        x.tell(1, 0);
        due("18: all but theirs", x.start(0, 0, 2), 6);
        due("18: h", x.start(3, 0, 2), BAD);
        due("18: r", x.start(0, 0, 3), BAD);
        due("18: caught", x.start(0, 0, 0), STATE);
        due("18: refused, the game stays", x.told(2), 2);
        x.tell(0, 2);
        due("18: i", x.start(0, 3, 2), BAD);
        due("18: caught by the second", x.start(0, 2, 2), STATE);
        due("18: no game", x.count(8), 0);
        due("18: sorted", x.start(2, 1, 0), 1);
        due("18: sorted", x.told(0), 1);
        due("18: sorted", x.told(1), 2);
        x.move(0);
        due("18: anew", x.start(0, 0, 1), 6);
        due("18: none done", x.told(6), 0);
        due("18: none kept", x.back(), STATE);
    }

    private static void move() {
        WolfVillage x = path();
        due("19: below, no game", x.move(-1), BAD);
        due("19: above, no game", x.move(33), BAD);
        due("19: no game", x.move(0), STATE);
        x.tell(1, 0);
        x.start(0, 0, 2);
        due("19: no such way", x.move(3), STATE);
        due("19: not there", x.move(2), STATE);
        due("19: no second hunter", x.move(17), STATE);
        due("19: not at all", x.move(32), STATE);
        due("19: the turn stays", x.told(3), 0);
        due("19: stay", x.move(0), 6);
        due("19: the runner has no well", x.move(0), STATE);
        due("19: the runner has no second", x.move(18), STATE);
        due("19: the runner goes, it may come from 1 or 2", x.move(2), 6);
        due("19: the hunter takes it", x.move(1), 2);
        due("19: caught", x.move(0), STATE);
        due("19: above, caught", x.move(33), BAD);
        WolfVillage gate = new WolfVillage(1);
        gate.way(2, 0, 1);
        gate.way(0, 1, 2);
        gate.way(0, 2, 3);
        gate.tell(1, 0);
        gate.ground(3, 1);
        due("19: all but the hunter's", gate.start(0, 0, 3), 14);
        gate.move(1);
        due("19: shut behind", gate.told(4), 1);
        due("19: the runner stays; from 2, 3 and not where the hunter is", gate.move(0), 12);
        due("19: open again", gate.told(4), 0);
        due("19: stay", gate.move(0), 12);
        due("19: open for all", gate.told(4), 0);
    }

    private static void playAndBack() {
        WolfVillage x = path();
        due("20: below", x.play(0), BAD);
        due("20: above", x.play(41), BAD);
        due("20: no game", x.play(40), STATE);
        due("21: no game", x.back(), STATE);
        x.start(0, 0, 2);
        due("21: none done", x.back(), STATE);
        due("20: till it is caught", x.play(40), 2);
        due("20: no more", x.play(1), 0);
        due("20: caught", x.told(7), 1);
        due("21: back", x.back(), 1);
        due("21: not caught", x.told(7), 0);
        due("21: known as it was", x.told(5), 4);
        due("20: one of them", x.play(1), 1);
        due("21: back", x.back(), 1);
        due("21: back", x.back(), 0);
        due("21: none done", x.back(), STATE);
        WolfVillage still = new WolfVillage(0);
        still.ground(1, 1);
        still.start(0, 0, 1);
        due("20: forty", still.play(40), 40);
        due("20: forty", still.play(40), 40);
        due("22: eighty done", still.told(6), 80);
        for (int k = 79; k >= 16; k--) {
            due("21: sixty-four are kept", still.back(), k);
        }
        due("21: no more are kept", still.back(), STATE);
        due("22: sixteen stay done", still.told(6), 16);
        due("20: on", still.play(3), 3);
        due("21: three more", still.back(), 18);
    }

    private static void told() {
        WolfVillage x = path();
        due("22: below", x.told(-1), BAD);
        due("22: above", x.told(9), BAD);
        due("22: no game", x.told(0), STATE);
        x.tell(0, 2);
        x.start(2, 1, 0);
        int[] answers = {1, 2, 0, 0, 0, 1, 0, 0, 1};
        for (int what = 0; what < answers.length; what++) {
            due("22: told(" + what + ")", x.told(what), answers[what]);
        }
        x.move(2);
        due("22: the lesser one went to 2", x.told(0), 2);
        due("22: the runner's turn", x.told(3), 1);
        due("22: one done", x.told(6), 1);
        due("22: above", x.told(9), BAD);
    }

    private static void feedAndText() {
        WolfVillage x = new WolfVillage(0);
        due("23: below", x.feed(0, 1), BAD);
        due("23: above", x.feed(9, 1), BAD);
        for (int k = 1; k <= 14; k++) {
            due("23: eight more", x.feed(8, -1L), 8 * k);
        }
        due("23: seven more", x.feed(7, 0), 119);
        due("23: two too many", x.feed(2, 0), FULL);
        due("23: it stays", x.count(6), 119);
        due("23: one more", x.feed(1, 0), 120);
        due("23: full", x.feed(1, 0), FULL);
        due("23: bad is named first", x.feed(9, 0), BAD);
        due("24: a byte that begins none", x.text(), -100);
        due("24: empty then", x.count(6), 0);
        due("24: nothing there", x.text(), -100);
        for (int k = 1; k < 6; k++) {
            feed(x, "grade " + k + ";fair ways;");
            due("24: its number", x.text(), k);
            due("24: texts", x.count(5), k + 1);
        }
        feed(x, "grade");
        due("24: no room", x.text(), FULL);
        due("24: the tape stays", x.count(6), 5);
        due("25: the first is the rule", x.force(5), 0);
        due("25: which was", x.force(3), 5);
        due("25: the first again", x.force(0), 3);
        due("25: the first again", x.force(3), 0);
        due("25: below", x.force(-1), BAD);
        due("25: above", x.force(6), BAD);
        due("25: it stays", x.count(7), 3);
        due("26: grade", x.says(0), 3);
        x.way(0, 0, 1);
        due("26: fair", x.says(1), 1);
        due("26: below", x.says(-1), WolfVillage.NO);
        due("26: above", x.says(2), WolfVillage.NO);
        due("25: one that is not yet", new WolfVillage(0).force(1), BAD);
        WolfVillage p = path();
        due("26: the first rule's grade", p.says(0), 26);
        due("26: the first rule's fair", p.says(1), 0);
    }

    private static void feed(WolfVillage x, String text) {
        for (int k = 0; k < text.length(); k++) {
            x.feed(1, text.charAt(k) + 256L * 77);
        }
    }

    private static void count() {
        WolfVillage x = pathWithGame();
        x.feed(3, 0);
        int[] answers = {3, 2, 0, 1, 1, 1, 3, 0, 1};
        for (int what = 0; what < answers.length; what++) {
            due("27: count(" + what + ")", x.count(what), answers[what]);
        }
        due("27: below", x.count(-1), BAD);
        due("27: above", x.count(9), BAD);
    }

    private static void sheetAndCell() {
        WolfVillage x = new WolfVillage(0);
        due("28: sheet below", x.sheet(-1, 0, 0), BAD);
        due("28: sheet above", x.sheet(4, 0, 0), BAD);
        due("28: sort below", x.sheet(0, -2, 0), BAD);
        due("28: sort above", x.sheet(0, 3, 0), BAD);
        due("28: size above", x.sheet(0, 0, 41), BAD);
        due("28: size below", x.sheet(0, 0, -1), -14);
        due("28: sort is named ahead of size", x.sheet(0, 3, -1), BAD);
        due("28: still missing", x.cell(0, 0, 0), -11);
        due("28: forty", x.sheet(3, 0, 40), 1);
        due("29: the last", x.cell(3, 39, 1), 1);
        due("29: behind the last", x.cell(3, 40, 1), -12);
        due("29: below", x.cell(3, -1, 1), -12);
        due("29: sheet below", x.cell(-1, 0, 1), BAD);
        due("29: sheet above", x.cell(4, 0, 1), BAD);
        due("28: none", x.sheet(3, 1, 0), 1);
        due("29: none", x.cell(3, 0, 0), -12);
        due("28: missing, whatever n", x.sheet(3, -1, -5), 1);
        due("29: missing", x.cell(3, 0, 0), -11);
        due("28: missing, whatever n", x.sheet(3, -1, 99), 1);
        x.sheet(2, 2, 3);
        x.cell(2, 0, 1);
        x.cell(2, 1, 1);
        due("28: all 0 anew", x.sheet(2, 2, 3), 1);
        due("28: 0 0 0 is no way", x.ways(2, 2, 0, 1), 0);
        x.cell(2, 2, 2);
        due("28: 0 0 2 is a way", x.ways(2, 2, 0, 1), 1);
        due("28: of kind 0", x.wayTold(0, 0), 0);
        due("28: from 0", x.wayTold(0, 1), 0);
    }

    private static void cutCells(int sort, int more, int came) {
        WolfVillage x = new WolfVillage(0);
        x.sheet(1, sort, 3);
        x.cell(1, 0, more + 1);
        x.cell(1, 1, more + 2);
        x.cell(1, 2, more);
        due("29: lowest bits of sort " + sort + " and " + more, x.ways(1, sort, 0, 1), came);
        if (came == 1) {
            due("29: kind", x.wayTold(0, 0), 1);
            due("29: a", x.wayTold(0, 1), 2);
            due("29: b", x.wayTold(0, 2), 0);
        }
    }

    private static void waysOfSheet() {
        cutCells(0, 256, 1);
        cutCells(0, -512, 1);
        cutCells(0, 128, 0);
        cutCells(1, 256, 0);
        cutCells(1, 65536, 1);
        cutCells(2, 65536, 0);
        cutCells(2, 0, 1);
        WolfVillage x = new WolfVillage(0);
        x.sheet(0, 0, 40);
        for (int k = 0; k < 13; k++) {
            x.cell(0, 3 * k + 1, k == 4 ? 1 : 0);
            x.cell(0, 3 * k + 2, 1);
        }
        due("30: sheet below", x.ways(-1, 0, 0, 1), BAD);
        due("30: sheet above", x.ways(4, 0, 0, 1), BAD);
        due("30: sort below", x.ways(0, -1, 0, 1), BAD);
        due("30: sort above", x.ways(0, 3, 0, 1), BAD);
        due("30: n below", x.ways(0, 0, 0, -1), BAD);
        due("30: n above", x.ways(0, 0, 0, 14), BAD);
        due("30: n ahead of the sort", x.ways(0, 1, 0, 14), BAD);
        due("30: another sort", x.ways(0, 1, -9, 1), -13);
        due("30: missing", x.ways(1, 1, -9, 1), -11);
        due("30: outside at once", x.ways(0, 0, -1, 1), -12);
        due("30: outside at once", x.ways(0, 0, Integer.MAX_VALUE, 1), -12);
        due("30: outside at once", x.ways(0, 0, Integer.MIN_VALUE, 13), -12);
        due("30: none asked, none outside", x.ways(0, 0, -1, 0), 0);
        due("30: none came so far", x.count(1), 0);
        x.start(0, 0, 2);
        due("30: left out", x.ways(0, 0, 12, 1), 0);
        due("30: the game stays", x.count(8), 1);
        due("30: all but one", x.ways(0, 0, 0, 13), 12);
        due("30: the game ends", x.count(8), 0);
        due("30: four have room", x.ways(0, 0, 15, 8), 4);
        due("30: sixteen", x.count(1), 16);
        due("30: outside later", x.ways(0, 0, 36, 2), -12);
        WolfVillage y = new WolfVillage(0);
        y.sheet(0, 2, 5);
        y.cell(0, 2, 1);
        y.cell(0, 4, 1);
        due("30: outside in the second", y.ways(0, 2, 0, 2), -12);
        due("30: what stood ahead came", y.count(1), 1);
    }

    private static void taken() {
        int[][] fits = {{1, 0, 0, 0, 0, 0}, {1, 1, 0, 0, 0, 0}, {1, 0, 1, 0, 0, 0},
            {1, 0, 1, 1, 0, 0}, {1, 1, 0, 0, 1, 0}, {1, 0, 1, 0, 0, 1}};
        for (int kind = 0; kind < 6; kind++) {
            WolfVillage x = new WolfVillage(0);
            x.way(kind, 2, 1);
            for (int k = 0; k < 6; k++) {
                due("31: " + kind + " as " + k, x.taken(0, k), fits[kind][k] == 1 ? 2 : -13);
            }
            due("31: k below", x.taken(0, -1), BAD);
            due("31: k above", x.taken(0, 6), BAD);
            due("31: k is named first", x.taken(1, 6), BAD);
            due("31: no such way", x.taken(1, 0), -11);
            due("31: no such way", x.taken(-1, 0), -11);
        }
    }

    public static void main(String[] args) {
        newObject();
        way();
        unway();
        wayTold();
        ground();
        tell();
        length();
        best();
        moves();
        solvedAndPuzzle();
        turningsAndAlike();
        fairer();
        sees();
        sureAndFirst();
        start();
        move();
        playAndBack();
        told();
        feedAndText();
        count();
        sheetAndCell();
        waysOfSheet();
        taken();
        System.out.println(asked + " answers, " + wrong + " wrong");
        if (wrong != 0) {
            System.exit(1);
        }
    }
}
