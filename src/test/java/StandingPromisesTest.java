/** Section 2 of the terms and promises 7 to 11: who may pass, what is shut, who is caught, lengths and puzzles. */
public final class StandingPromisesTest {
    private static final int NONE = Checks.NONE, BAD = Checks.BAD;
    private static final int[] SHUTTERS = {2, 3, 5};

    private static void due(String call, long got, long want) {
        Checks.due(call, got, want);
    }

    private static int[] way(int kind, int a, int b) {
        return Checks.way(kind, a, b);
    }

    // ---- standings and turns

    static void term2_withOneHunterBothPlacesAreIts() {
        WolfVillage x = Checks.path();
        x.start(1, 0, 2);
        due("the first", x.told(0), 1);
        due("the second", x.told(1), 1);
        x.move(1);
        due("both go", x.told(0), 0);
        due("both go", x.told(1), 0);
    }

    static void term2_theLesserHunterIsFirst() {
        WolfVillage x = Checks.twoHunters(Checks.village(4, way(0, 0, 1), way(0, 2, 1)));
        x.start(2, 1, 3);
        due("the lesser", x.told(0), 1);
        due("the greater", x.told(1), 2);
        x.start(1, 2, 3);
        due("the lesser", x.told(0), 1);
        due("the greater", x.told(1), 2);
    }

    static void term2_huntersAreSortedAnewBehindAMove() {
        WolfVillage x = Checks.twoHunters(Checks.village(4, way(0, 1, 2), way(0, 0, 2)));
        x.start(0, 1, 3);
        x.move(2);
        due("0 went to 2", x.told(0), 1);
        due("0 went to 2", x.told(1), 2);
    }

    static void term2_huntersMayAlwaysStay() {
        WolfVillage x = new WolfVillage(0);
        due("only to stay", x.moves(0, 0, 1, 0, 0), 1);
        x.start(0, 0, 1);
        x.move(0);
        due("the runner's turn", x.told(3), 1);
        due("it stayed", x.told(0), 0);
    }

    static void term2_oneOfTheHuntersGoesAndTheOtherStays() {
        WolfVillage x = Checks.twoHunters(Checks.village(5, way(0, 0, 1), way(0, 2, 3)));
        due("stay, the first, the second", x.moves(0, 2, 4, 0, 0), 3);
        x.start(0, 2, 4);
        x.move(1);
        due("the first went", x.told(0), 1);
        due("the second stayed", x.told(1), 2);
        x.back();
        x.move(18);
        due("the first stayed", x.told(0), 0);
        due("the second went", x.told(1), 3);
    }

    static void term2_theRunnerStaysOnlyAtAWell() {
        WolfVillage x = Checks.path();
        x.start(0, 0, 2);
        x.move(0);
        due("no well", x.move(0), Checks.STATE);
        due("no well", x.moves(0, 0, 2, 1, 0), 1);
        x.ground(2, 2);
        due("a hill is none", x.moves(0, 0, 2, 1, 0), 1);
        x.ground(2, 1);
        due("a well", x.moves(0, 0, 2, 1, 0), 2);
        x.start(0, 0, 2);
        x.move(0);
        due("it stays, seen by nobody", x.move(0), 4);
        due("it is there", x.told(2), 2);
    }

    static void term2_whoGoesOverAWayGoesToItsOtherEnd() {
        for (int from = 0; from <= 1; from++) {
            WolfVillage x = Checks.village(3, way(0, 0, 1));
            x.start(from, from, 2);
            x.move(1);
            due("the hunter", x.told(0), 1 - from);
            x.start(2, 2, from);
            x.move(0);
            x.move(1);
            due("the runner", x.told(2), 1 - from);
        }
    }

    // ---- who may pass

    private static void passes(int kind, int huntersFromA, int huntersFromB, int runnerFromA, int runnerFromB) {
        WolfVillage x = Checks.village(3, way(kind, 0, 1));
        due("a hunter from a", x.moves(0, 0, 2, 0, 0), 1 + huntersFromA);
        due("a hunter from b", x.moves(1, 1, 2, 0, 0), 1 + huntersFromB);
        due("the runner from a", x.moves(2, 2, 0, 1, 0), runnerFromA);
        due("the runner from b", x.moves(2, 2, 1, 1, 0), runnerFromB);
        due("a hunter from elsewhere", x.moves(2, 2, 1, 0, 0), 1);
        due("the runner from elsewhere", x.moves(0, 0, 2, 1, 0), 0);
    }

    static void term2_aWayPassAll() {
        passes(0, 1, 1, 1, 1);
    }

    static void term2_aHedgeTheRunnerAlone() {
        passes(1, 0, 0, 1, 1);
    }

    static void term2_aGatePassAll() {
        passes(2, 1, 1, 1, 1);
    }

    static void term2_aLockTheHuntersAlone() {
        passes(3, 1, 1, 0, 0);
    }

    static void term2_aCreepTheRunnerAloneWithNoHunterBeside() {
        passes(4, 0, 0, 1, 1);
    }

    static void term2_aBridgeAllFromAToBAlone() {
        passes(5, 1, 0, 1, 0);
    }

    static void term2_aShutterOnlyIfItsShutIsZero() {
        for (int kind : SHUTTERS) {
            for (int shut = 0; shut <= 2; shut++) {
                WolfVillage x = Checks.village(3, way(kind, 0, 1));
                due("a hunter over " + kind, x.moves(0, 0, 2, 0, shut), shut == 0 ? 2 : 1);
                due("the runner over " + kind, x.moves(2, 2, 0, 1, shut), shut == 0 && kind != 3 ? 1 : 0);
            }
        }
    }

    static void term2_theOtherShuttersShutDoesNotMatter() {
        for (int kind : SHUTTERS) {
            for (int shut = 0; shut <= 8; shut++) {
                WolfVillage x = Checks.village(4, way(kind, 0, 1), way(kind, 2, 3));
                due("over the first", x.moves(0, 0, 3, 0, shut), shut % 3 == 0 ? 2 : 1);
                due("over the second", x.moves(2, 2, 1, 0, shut), shut / 3 == 0 ? 2 : 1);
            }
        }
    }

    static void term2_otherWaysAreNeverShut() {
        for (int shut = 0; shut <= 2; shut++) {
            WolfVillage x = Checks.village(4, way(0, 0, 1), way(1, 0, 1), way(2, 2, 3));
            due("a hunter", x.moves(0, 0, 3, 0, shut), 2);
            due("the runner", x.moves(3, 3, 0, 1, shut), 2);
        }
    }

    // ---- creeps

    static void term2_aHunterIsBesideByAWayOfAnyKind() {
        int[] besideFromA = {1, 1, 1, 0, 0, 1};
        int[] awayFromA = {2, 2, 2, 1, 2, 2};
        int[] besideFromB = {1, 1, 1, 0, 0, 0};
        int[] awayFromB = {2, 2, 2, 1, 2, 1};
        for (int kind = 0; kind <= 5; kind++) {
            WolfVillage x = Checks.village(4, way(4, 0, 1), way(kind, 0, 2));
            due("a creep and " + kind + ", beside", x.moves(2, 2, 0, 1, 0), besideFromA[kind]);
            due("a creep and " + kind + ", not beside", x.moves(3, 3, 0, 1, 0), awayFromA[kind]);
            WolfVillage y = Checks.village(4, way(4, 0, 1), way(kind, 2, 0));
            due("a creep and " + kind + " to it, beside", y.moves(2, 2, 0, 1, 0), besideFromB[kind]);
            due("a creep and " + kind + " to it, not beside", y.moves(3, 3, 0, 1, 0), awayFromB[kind]);
        }
    }

    static void term2_aHunterIsBesideByAShutWayToo() {
        WolfVillage x = Checks.village(4, way(4, 0, 1), way(2, 0, 2));
        due("beside", x.moves(2, 2, 0, 1, 1), 0);
        due("not beside", x.moves(3, 3, 0, 1, 1), 1);
    }

    static void term2_aHunterAtTheCreepsOtherEndIsBeside() {
        WolfVillage x = Checks.village(3, way(4, 0, 1));
        due("from a", x.moves(1, 1, 0, 1, 0), 0);
        due("from b", x.moves(0, 0, 1, 1, 0), 0);
    }

    static void term2_noneOfTwoHuntersMayBeBeside() {
        WolfVillage x = Checks.twoHunters(Checks.village(5, way(4, 0, 1), way(3, 0, 2)));
        due("the first", x.moves(2, 3, 0, 1, 0), 0);
        due("the second", x.moves(2, 1, 0, 1, 0), 0);
        due("the greater", x.moves(4, 2, 0, 1, 0), 0);
        due("none", x.moves(3, 4, 0, 1, 0), 1);
    }

    static void term2_besideIsTheRunnersPlaceNotTheOneItGoesTo() {
        WolfVillage x = Checks.village(3, way(4, 0, 1), way(0, 1, 2));
        due("two ways off", x.moves(2, 2, 0, 1, 0), 1);
    }

    // ---- shut

    /** The hunter goes from 0 over the way, the runner stays at its well; what is shut behind each turn. */
    private static void shutBehind(int kind, int... shut) {
        WolfVillage x = Checks.village(4, way(kind, 0, 1));
        x.ground(3, 1);
        x.start(0, 0, 3);
        due("nothing at first", x.told(4), 0);
        x.move(1);
        for (int k = 0; k < shut.length; k++) {
            due("shut of " + kind + " behind turn " + k, x.told(4), shut[k]);
            x.move(0);
        }
    }

    static void term2_aGateIsShutForOne() {
        shutBehind(2, 1, 0, 0);
    }

    static void term2_aLockIsShutForOneMore() {
        shutBehind(3, 2, 1, 0, 0);
    }

    static void term2_aBridgeIsShutAsAGate() {
        shutBehind(5, 1, 0, 0);
    }

    static void term2_aWayThatIsNoShutterIsNotShut() {
        shutBehind(0, 0, 0);
    }

    static void term2_theRunnerShutsAGateToo() {
        WolfVillage x = Checks.village(4, way(0, 0, 1), way(2, 2, 3));
        x.start(0, 0, 2);
        x.move(0);
        x.move(2);
        due("shut", x.told(4), 1);
        x.move(0);
        due("open", x.told(4), 0);
    }

    static void term2_eachShutIsOneLessButOfTheOneThatWasPassed() {
        WolfVillage x = Checks.village(5, way(3, 0, 1), way(2, 3, 4));
        x.start(0, 0, 3);
        x.move(1);
        due("the lock", x.told(4), 2);
        x.move(2);
        due("the lock one less, the gate", x.told(4), 4);
        x.move(0);
        due("both one less", x.told(4), 0);
    }

    static void term2_theSecondShuttersShutCountsThreeTimes() {
        WolfVillage x = Checks.village(4, way(2, 0, 1), way(3, 1, 2));
        x.ground(3, 1);
        x.start(1, 1, 3);
        int[] shut = {6, 3, 0, 0};
        x.move(2);
        for (int k = 0; k < shut.length; k++) {
            due("turn " + k, x.told(4), shut[k]);
            x.move(0);
        }
    }

    static void term2_shutTwoOfAGateGoesDownToOne() {
        WolfVillage x = Checks.village(3, way(2, 0, 1));
        x.ground(1, 1);
        due("open", x.length(0, 0, 1, 0, 0), 1);
        due("shut for one turn: stay, stay, catch", x.length(0, 0, 1, 0, 1), 3);
        due("shut for two turns: stay, stay, catch", x.length(0, 0, 1, 0, 2), 3);
        due("at the runner's turn", x.length(0, 0, 1, 1, 1), 2);
        due("at the runner's turn, still shut at the hunters'", x.length(0, 0, 1, 1, 2), 4);
    }

    static void term2_shutOfTheSecondShutterGoesDownAsWell() {
        WolfVillage x = Checks.village(4, way(2, 2, 3), way(3, 0, 1));
        x.ground(1, 1);
        int[] huntersTurn = {1, 3, 3};
        int[] runnersTurn = {2, 2, 4};
        for (int shut = 0; shut <= 8; shut++) {
            due("the hunters' turn, shut " + shut, x.length(0, 0, 1, 0, shut), huntersTurn[shut / 3]);
            due("the runner's turn, shut " + shut, x.length(0, 0, 1, 1, shut), runnersTurn[shut / 3]);
        }
    }

    // ---- caught

    static void term2_caughtWhereAHunterIs() {
        WolfVillage x = Checks.wells(Checks.twoHunters(Checks.path()));
        for (int turn = 0; turn <= 1; turn++) {
            due("by the first", x.length(0, 2, 0, turn, 0), 0);
            due("by the second", x.length(0, 2, 2, turn, 0), 0);
            due("in the other order", x.length(2, 0, 0, turn, 0), 0);
            due("by both", x.length(1, 1, 1, turn, 0), 0);
        }
    }

    static void term2_caughtAtItsTurnIfItCanNeitherGoNorStay() {
        WolfVillage x = new WolfVillage(0);
        due("no way", x.length(0, 0, 1, 1, 0), 0);
        due("the hunters' turn: in one", x.length(0, 0, 1, 0, 0), 1);
        due("the hunters may move", x.moves(0, 0, 1, 0, 0), 1);
        x.ground(1, 1);
        due("it can stay", x.length(0, 0, 1, 1, 0), NONE);
        WolfVillage gate = Checks.village(3, way(2, 0, 1));
        due("it can go", gate.length(2, 2, 0, 1, 0), NONE);
        due("shut", gate.length(2, 2, 0, 1, 1), 0);
        due("shut for two", gate.length(2, 2, 0, 1, 2), 0);
    }

    static void term2_theRunnerGoesToAHuntersPlaceIfItLikes() {
        WolfVillage x = Checks.village(3, way(0, 0, 1));
        due("a move", x.moves(0, 0, 1, 1, 0), 1);
        due("the best", x.best(0, 0, 1, 1, 0), 1);
        due("caught then", x.length(0, 0, 1, 1, 0), 1);
        x.start(0, 0, 1);
        x.move(0);
        due("known where it is", x.move(1), 1);
        due("at the hunter's", x.told(2), 0);
        due("caught", x.told(7), 1);
    }

    // ---- moves and best moves

    /** Ways 0 .. 14 join 0 and 1, way 15 joins a and b. */
    private static WolfVillage sixteenth(int a, int b) {
        WolfVillage x = new WolfVillage(2);
        for (int k = 0; k < 15; k++) {
            x.way(0, 0, 1);
        }
        x.way(0, a, b);
        x.tell(0, 2);
        return x;
    }

    static void term2_theSixteenthWaysMoveIsSixteenAndThirtyTwo() {
        due("of the first", sixteenth(2, 3).best(2, 4, 3, 0, 0), 16);
        due("of the second", sixteenth(4, 3).best(2, 4, 3, 0, 0), 32);
        due("of the first, at once", sixteenth(2, 3).length(2, 4, 3, 0, 0), 1);
        due("of the second, at once", sixteenth(4, 3).length(2, 4, 3, 0, 0), 1);
        WolfVillage x = sixteenth(2, 3);
        x.start(2, 4, 3);
        due("of the first", x.move(16), 8);
        due("caught", x.told(7), 1);
        WolfVillage y = sixteenth(4, 3);
        y.start(2, 4, 3);
        due("not of the first", y.move(16), Checks.STATE);
        due("of the second", y.move(32), 8);
        due("caught", y.told(7), 1);
    }

    static void term2_theFirstWaysMoveIsOneAndSeventeen() {
        WolfVillage x = Checks.twoHunters(Checks.village(4, way(0, 3, 2)));
        due("of the second at 3", x.best(0, 3, 2, 0, 0), 17);
        due("of the second at 2", x.best(2, 0, 3, 0, 0), 17);
        due("none is needed", x.best(2, 3, 0, 0, 0), 0);
        WolfVillage y = Checks.twoHunters(Checks.village(4, way(0, 0, 1)));
        due("of the first", y.best(0, 3, 1, 0, 0), 1);
    }

    static void term2_ofLikeBestMovesTheLeast() {
        WolfVillage x = Checks.village(3, way(0, 0, 1), way(0, 1, 0));
        due("two ways", x.best(0, 0, 1, 0, 0), 1);
        due("two ways of the runner", x.best(2, 2, 0, 1, 0), 1);
        WolfVillage both = Checks.twoHunters(Checks.village(3, way(0, 1, 2), way(0, 0, 1)));
        due("the first's over way 1 ahead of the second's over way 0", both.best(0, 2, 1, 0, 0), 2);
        WolfVillage well = Checks.village(3, way(0, 0, 1));
        well.ground(0, 1);
        due("to stay ahead of to go", well.best(2, 2, 0, 1, 0), 0);
    }

    static void term2_huntersTakeNoLengthAsTheGreatest() {
        WolfVillage x = Checks.wells(Checks.village(4, way(0, 0, 1), way(0, 1, 2), way(5, 0, 3)));
        due("to 1, not over the bridge from which none comes back", x.best(0, 0, 2, 0, 0), 1);
        due("in three", x.length(0, 0, 2, 0, 0), 3);
        due("all never: the least", x.best(3, 3, 2, 0, 0), 0);
    }

    static void term2_theRunnerTakesNoLengthAsTheGreatest() {
        WolfVillage x = Checks.village(5, way(0, 0, 1), way(0, 1, 2), way(1, 2, 3), way(1, 3, 4));
        due("over the hedge for ever", x.best(0, 0, 2, 1, 0), 3);
        due("for ever", x.length(0, 0, 2, 1, 0), NONE);
    }

    static void term2_huntersTakeTheFewestTurnsTheRunnerTheMost() {
        WolfVillage x = Checks.path();
        due("one step", x.length(0, 0, 1, 0, 0), 1);
        due("away and back", x.length(0, 0, 1, 1, 0), 3);
        due("away rather than to the hunter", x.best(0, 0, 1, 1, 0), 2);
        due("to the middle, it runs into the hunter", x.length(0, 0, 2, 0, 0), 2);
    }

    // ---- promise 7

    static void promise07_placesTooSmallOrTooLargeAreBad() {
        for (int bad : new int[] {-1, 6, 7, 8, Checks.LEAST, Checks.MOST}) {
            Checks.refuses("h " + bad, BAD, Checks::busy, x -> x.length(bad, 0, 1, 0, 0));
            Checks.refuses("i " + bad, BAD, Checks::busy, x -> x.length(0, bad, 1, 0, 0));
            Checks.refuses("r " + bad, BAD, Checks::busy, x -> x.length(0, 0, bad, 0, 0));
        }
        for (int p = 3; p <= 8; p++) {
            WolfVillage x = Checks.twoHunters(new WolfVillage(p - 3));
            due("the last places of " + p, x.length(p - 1, p - 1, p - 1, 0, 0), 0);
            due("h of " + p, x.length(p, 0, 0, 0, 0), BAD);
            due("i of " + p, x.length(0, p, 0, 0, 0), BAD);
            due("r of " + p, x.length(0, 0, p, 0, 0), BAD);
        }
    }

    static void promise07_huntersInAnyOrder() {
        WolfVillage x = Checks.twoHunters(Checks.ring(6));
        due("rising", x.length(1, 4, 2, 0, 0), 1);
        due("falling", x.length(4, 1, 2, 0, 0), 1);
        due("falling, the runner's turn", x.length(4, 1, 2, 1, 0), x.length(1, 4, 2, 1, 0));
    }

    static void promise07_withOneHunterTheSecondPlaceDoesNotMatter() {
        WolfVillage x = Checks.path();
        for (int i : new int[] {-1, 0, 1, 2, 3, Checks.LEAST, Checks.MOST}) {
            due("i " + i, x.length(0, i, 1, 0, 0), 1);
            due("i " + i, x.length(0, i, 2, 0, 0), 2);
        }
    }

    static void promise07_turnTooSmallOrTooLargeIsBad() {
        for (int turn : new int[] {-1, 2, Checks.LEAST, Checks.MOST}) {
            Checks.refuses("turn " + turn, BAD, Checks::busy, x -> x.length(0, 0, 1, turn, 0));
        }
    }

    static void promise07_shutOfShuttersThatArentThereIsBad() {
        WolfVillage none = Checks.path();
        WolfVillage one = Checks.village(3, way(2, 0, 1));
        WolfVillage two = Checks.village(3, way(2, 0, 1), way(3, 0, 1));
        for (int shut = 0; shut <= 9; shut++) {
            due("none, shut " + shut, none.length(0, 0, 0, 0, shut), shut == 0 ? 0 : BAD);
            due("one, shut " + shut, one.length(0, 0, 0, 0, shut), shut <= 2 ? 0 : BAD);
            due("two, shut " + shut, two.length(0, 0, 0, 0, shut), shut <= 8 ? 0 : BAD);
        }
        for (int shut : new int[] {-1, -3, 9, Checks.LEAST, Checks.MOST}) {
            Checks.refuses("shut " + shut, BAD, Checks::busyWithShutters, x -> x.length(0, 0, 1, 0, shut));
        }
    }

    static void promise07_zeroIfCaughtNoneIfNever() {
        WolfVillage x = Checks.wells(Checks.ring(4));
        due("caught", x.length(0, 0, 0, 0, 0), 0);
        due("never", x.length(0, 0, 2, 0, 0), NONE);
        due("never, the runner's turn", x.length(0, 0, 2, 1, 0), NONE);
        due("at once", x.length(0, 0, 1, 0, 0), 1);
    }

    static void promise07_theFullestPlan() {
        // 0 .. 3 are each joined with 4 .. 7, and two hunters play: the greatest plan that can be.
        WolfVillage x = Checks.twoHunters(Checks.wells(new WolfVillage(5)));
        for (int k = 0; k < 16; k++) {
            x.way(0, k % 4, 4 + k / 4);
        }
        for (int h = 0; h < 8; h += 7) {
            for (int r = 0; r < 8; r++) {
                boolean beside = h / 4 != r / 4;
                due("both at " + h + ", it at " + r, x.length(h, h, r, 0, 0), h == r ? 0 : beside ? 1 : 3);
                due("both at " + h + ", it at " + r + " at its turn", x.length(h, h, r, 1, 0), h == r ? 0 : 4);
            }
        }
        due("all", x.solved(1), 224);
        due("all are won", x.solved(0), 224);
        due("longest", x.solved(2), 3);
    }

    // ---- promise 8

    static void promise08_caughtIsNone() {
        WolfVillage x = Checks.path();
        due("at one place", x.best(0, 0, 0, 0, 0), NONE);
        due("at one place", x.best(0, 0, 0, 1, 0), NONE);
        WolfVillage y = new WolfVillage(0);
        due("it can neither go nor stay", y.best(0, 0, 2, 1, 0), NONE);
        due("the hunters' turn: stay", y.best(0, 0, 2, 0, 0), 0);
    }

    static void promise08_huntersAreTheLesserPlacesAndTheGreatersOne() {
        WolfVillage x = Checks.twoHunters(Checks.village(4, way(0, 3, 2)));
        due("told rising", x.best(0, 3, 2, 0, 0), 17);
        due("told falling", x.best(3, 0, 2, 0, 0), 17);
        WolfVillage y = Checks.twoHunters(Checks.village(4, way(0, 0, 2)));
        due("told rising", y.best(0, 3, 2, 0, 0), 1);
        due("told falling", y.best(3, 0, 2, 0, 0), 1);
    }

    static void promise08_wrongNumbersAreBad() {
        for (int bad : new int[] {-1, 6, Checks.LEAST, Checks.MOST}) {
            Checks.refuses("h " + bad, BAD, Checks::busy, x -> x.best(bad, 0, 1, 0, 0));
            Checks.refuses("i " + bad, BAD, Checks::busy, x -> x.best(0, bad, 1, 0, 0));
            Checks.refuses("r " + bad, BAD, Checks::busy, x -> x.best(0, 0, bad, 0, 0));
            Checks.refuses("turn " + bad, BAD, Checks::busy, x -> x.best(0, 0, 1, bad, 0));
            Checks.refuses("shut " + bad, BAD, Checks::busy, x -> x.best(0, 0, 1, 0, bad));
        }
        Checks.refuses("turn 2", BAD, Checks::busy, x -> x.best(0, 0, 1, 2, 0));
        Checks.refuses("shut 1", BAD, Checks::busy, x -> x.best(0, 0, 1, 0, 1));
        Checks.refuses("shut 9", BAD, Checks::busyWithShutters, x -> x.best(0, 0, 1, 0, 9));
        due("i of one hunter", Checks.path().best(0, 9, 1, 0, 0), 1);
    }

    // ---- promise 9

    static void promise09_caughtHasNoMoves() {
        WolfVillage x = Checks.wells(Checks.path());
        due("at one place", x.moves(1, 1, 1, 0, 0), 0);
        due("at one place", x.moves(1, 1, 1, 1, 0), 0);
        due("at place 0", x.moves(0, 0, 0, 0, 0), 0);
        due("it can neither go nor stay", new WolfVillage(0).moves(0, 0, 1, 1, 0), 0);
    }

    static void promise09_countsStayingAndEveryWay() {
        WolfVillage x = Checks.path();
        due("stay and go", x.moves(0, 0, 2, 0, 0), 2);
        due("stay and two", x.moves(1, 1, 2, 0, 0), 3);
        due("the runner's two", x.moves(0, 0, 1, 1, 0), 2);
        x.tell(0, 2);
        due("of two hunters", x.moves(0, 1, 2, 0, 0), 4);
        x.way(0, 1, 0);
        due("ways that join the same are two", x.moves(0, 1, 2, 0, 0), 6);
    }

    static void promise09_sixteenWaysOfTwoHunters() {
        WolfVillage x = Checks.twoHunters(Checks.fullOf(0));
        due("both go over each", x.moves(0, 1, 2, 0, 0), 33);
        due("the runner", x.moves(2, 2, 0, 1, 0), 16);
        x.ground(0, 1);
        due("the runner at a well", x.moves(2, 2, 0, 1, 0), 17);
    }

    static void promise09_ofBothHuntersAtOnePlaceTheFirstOnesAreLookedAt() {
        WolfVillage x = Checks.twoHunters(Checks.path());
        due("stay and two", x.moves(1, 1, 0, 0, 0), 3);
        due("stay alone", Checks.twoHunters(new WolfVillage(5)).moves(5, 5, 1, 0, 0), 1);
    }

    static void promise09_wrongNumbersAreBad() {
        for (int bad : new int[] {-1, 6, Checks.LEAST, Checks.MOST}) {
            Checks.refuses("h " + bad, BAD, Checks::busy, x -> x.moves(bad, 0, 1, 0, 0));
            Checks.refuses("i " + bad, BAD, Checks::busy, x -> x.moves(0, bad, 1, 0, 0));
            Checks.refuses("r " + bad, BAD, Checks::busy, x -> x.moves(0, 0, bad, 0, 0));
            Checks.refuses("turn " + bad, BAD, Checks::busy, x -> x.moves(0, 0, 1, bad, 0));
            Checks.refuses("shut " + bad, BAD, Checks::busy, x -> x.moves(0, 0, 1, 0, bad));
        }
        Checks.refuses("turn 2", BAD, Checks::busy, x -> x.moves(0, 0, 1, 2, 0));
        Checks.refuses("shut 1", BAD, Checks::busy, x -> x.moves(0, 0, 1, 0, 1));
        Checks.refuses("shut 9", BAD, Checks::busyWithShutters, x -> x.moves(0, 0, 1, 0, 9));
        due("i of one hunter", Checks.path().moves(0, 9, 1, 0, 0), 2);
    }

    // ---- promise 10

    static void promise10_wonAllAndLongest() {
        WolfVillage x = Checks.path();
        due("won", x.solved(0), 6);
        due("all", x.solved(1), 6);
        due("longest", x.solved(2), 2);
        WolfVillage two = Checks.twoHunters(Checks.ring(6));
        two.ground(0, 1);
        due("of two hunters: 21 pairs, the runner elsewhere", two.solved(1), 90);
    }

    static void promise10_noneWonHasLongestZero() {
        WolfVillage x = Checks.wells(new WolfVillage(0));
        due("won", x.solved(0), 0);
        due("all", x.solved(1), 6);
        due("longest", x.solved(2), 0);
    }

    static void promise10_standingsWithSomethingShutAreNotCounted() {
        WolfVillage x = Checks.wells(Checks.village(3, way(2, 0, 1)));
        due("all", x.solved(1), 6);
        due("0 1 and 1 0", x.solved(0), 2);
        due("longest, though shut ones take three", x.solved(2), 1);
    }

    static void promise10_whatTooSmallOrTooLargeIsBad() {
        for (int what : new int[] {-1, 3, Checks.LEAST, Checks.MOST}) {
            Checks.refuses("what " + what, BAD, Checks::busy, x -> x.solved(what));
        }
    }

    // ---- promise 11

    static void promise11_countsAndTellsThemRising() {
        WolfVillage x = Checks.path();
        int[] ones = {1, 110, 112, 221};
        due("how many", x.puzzle(1, -1), 4);
        for (int k = 0; k < ones.length; k++) {
            due("puzzle " + k, x.puzzle(1, k), ones[k]);
        }
        due("of length 2", x.puzzle(2, -1), 2);
        due("the first", x.puzzle(2, 0), 2);
        due("the second", x.puzzle(2, 1), 220);
    }

    static void promise11_risingByBothHunters() {
        WolfVillage x = Checks.twoHunters(Checks.wells(Checks.village(3, way(0, 0, 1))));
        int[] ones = {1, 21, 110, 120};
        due("how many", x.puzzle(1, -1), 4);
        for (int k = 0; k < ones.length; k++) {
            due("puzzle " + k, x.puzzle(1, k), ones[k]);
        }
    }

    static void promise11_behindTheLastIsNone() {
        WolfVillage x = Checks.path();
        due("behind the last", x.puzzle(1, 4), NONE);
        due("far behind", x.puzzle(1, Checks.MOST), NONE);
        due("of a length without any", x.puzzle(3, 0), NONE);
        due("of the greatest length", x.puzzle(999, 0), NONE);
    }

    static void promise11_iBelowMinusOneIsNone() {
        for (int i : new int[] {-2, -3, Checks.LEAST}) {
            Checks.refuses("i " + i, NONE, Checks::busy, x -> x.puzzle(1, i));
        }
    }

    static void promise11_lengthsAreOneTo999() {
        WolfVillage x = Checks.path();
        due("1", x.puzzle(1, -1), 4);
        due("999", x.puzzle(999, -1), 0);
        for (int length : new int[] {-1, 0, 1000, Checks.LEAST, Checks.MOST}) {
            Checks.refuses("length " + length, BAD, Checks::busy, y -> y.puzzle(length, -1));
            Checks.refuses("length " + length + ", i", BAD, Checks::busy, y -> y.puzzle(length, 0));
            Checks.refuses("length is named ahead of i", BAD, Checks::busy, y -> y.puzzle(length, -2));
        }
    }

    static void promise11_twoMovesThatLeadToOneStandingAreTwo() {
        WolfVillage x = Checks.path();
        x.way(0, 0, 1);
        due("1 and 2 alone", x.puzzle(1, -1), 2);
        due("from 1 to 2", x.puzzle(1, 0), 112);
        due("from 2 to 1", x.puzzle(1, 1), 221);
    }

    static void promise11_ofBothHuntersAtOnePlaceTheFirstOnesMovesAreLookedAt() {
        WolfVillage x = Checks.twoHunters(Checks.village(3, way(0, 0, 1)));
        x.ground(1, 1);
        due("both at 0, the runner at 1", x.puzzle(1, 0), 1);
    }

    static void promise11_theSecondHuntersSixteenthWayIsLookedAt() {
        WolfVillage x = Checks.wells(sixteenth(4, 3));
        int found = 0;
        for (int k = 0; k < x.puzzle(1, -1); k++) {
            found += x.puzzle(1, k) == 243 ? 1 : 0;
        }
        due("hunters at 2 and 4, the runner at 3", found, 1);
    }

    static void promise11_wonStandingsAlone() {
        WolfVillage x = Checks.wells(new WolfVillage(0));
        for (int length = 1; length <= 20; length++) {
            due("none of length " + length, x.puzzle(length, -1), 0);
        }
    }

    public static void main(String[] args) {
        Checks.runAll(StandingPromisesTest.class);
    }
}
