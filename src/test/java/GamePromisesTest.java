/** Section 5 of the terms and promises 18 to 22: a game that is played, with what the hunters know. */
public final class GamePromisesTest {
    private static final int NONE = Checks.NONE, BAD = Checks.BAD, STATE = Checks.STATE;

    private static void due(String call, long got, long want) {
        Checks.due(call, got, want);
    }

    private static int[] way(int kind, int a, int b) {
        return Checks.way(kind, a, b);
    }

    private static WolfVillage blind(WolfVillage x) {
        x.tell(1, 0);
        return x;
    }

    private static WolfVillage started(WolfVillage x, int h, int i, int r) {
        due("a game starts", x.start(h, i, r) >= 0 ? 1 : 0, 1);
        return x;
    }

    /** The hunter at 0, the runner for ever at the well of 1. */
    private static WolfVillage still() {
        WolfVillage x = new WolfVillage(0);
        x.ground(1, 1);
        return started(x, 0, 0, 1);
    }

    private static WolfVillage caught() {
        WolfVillage x = started(Checks.path(), 0, 0, 1);
        x.move(1);
        due("caught", x.told(7), 1);
        return x;
    }

    // ---- what is known

    static void term5_atFirstAllButTheirs() {
        due("of one", blind(Checks.path()).start(0, 0, 2), 6);
        due("of two", blind(Checks.twoHunters(new WolfVillage(5))).start(7, 2, 3), 123);
        due("of two at one place", blind(Checks.twoHunters(Checks.path())).start(1, 1, 2), 5);
    }

    static void term5_itIsLookedAtFirst() {
        due("seen: that place alone", Checks.path().start(0, 0, 1), 2);
        due("not seen: those that they don't see", Checks.path().start(0, 0, 2), 4);
        WolfVillage x = Checks.village(4, way(0, 0, 1));
        due("not seen: those that they don't see", x.start(0, 0, 2), 12);
    }

    static void term5_aMoveOfHuntersTakesOutWhereTheyAre() {
        WolfVillage x = started(blind(Checks.path()), 0, 0, 2);
        due("1 is out, 0 is not in again", x.move(1), 4);
    }

    static void term5_stayingTakesNothingOut() {
        due("as it was", started(blind(Checks.path()), 0, 0, 2).move(0), 6);
    }

    static void term5_whereItIsCaughtIsKnown() {
        WolfVillage x = started(blind(Checks.path()), 0, 0, 1);
        due("taken out, then seen", x.move(1), 2);
        WolfVillage y = started(blind(Checks.path()), 0, 0, 1);
        y.move(0);
        due("it went to the hunter", y.move(1), 1);
    }

    static void term5_theRunnersTurnMakesItAllPlacesToWhichItMayGo() {
        WolfVillage x = started(blind(Checks.path()), 0, 0, 2);
        x.move(0);
        due("from 1 to 2, from 2 to 1, not to 0", x.move(2), 6);
        WolfVillage y = started(blind(Checks.village(4, way(0, 0, 1), way(0, 2, 3))), 0, 0, 3);
        y.move(0);
        due("from 1 only to the hunter, from 2 to 3 and back", y.move(2), 12);
    }

    static void term5_fromPlaceZeroToo() {
        WolfVillage x = started(blind(Checks.village(4, way(0, 0, 1), way(0, 2, 3))), 2, 2, 0);
        x.move(0);
        due("from 0 to 1, from 1 to 0, from 3 only to the hunter", x.move(1), 3);
    }

    static void term5_notToWhereOneOfTwoHuntersIs() {
        WolfVillage x = blind(Checks.twoHunters(Checks.village(6, way(0, 0, 1), way(0, 1, 2), way(0, 2, 3), way(0, 4, 5))));
        started(x, 1, 3, 4).move(0);
        due("from 0 and 2 to the hunters alone, from 4 to 5 and back", x.move(4), 48);
    }

    static void term5_itStaysAtWellsAlone() {
        WolfVillage x = blind(new WolfVillage(2));
        x.ground(2, 1);
        x.ground(4, 3);
        x.ground(3, 2);
        started(x, 0, 0, 4).move(0);
        due("2 and 4", x.move(0), 20);
    }

    static void term5_overWaysThatItMayPassAlone() {
        WolfVillage x = blind(Checks.village(5, way(3, 1, 2), way(1, 3, 4)));
        started(x, 0, 0, 3).move(0);
        due("not over the lock, over the hedge", x.move(2), 24);
        WolfVillage y = blind(Checks.village(5, way(5, 1, 2), way(5, 3, 4)));
        started(y, 0, 0, 3).move(0);
        due("over bridges from a to b", y.move(2), 20);
    }

    static void term5_aCreepIsLookedAtFromEachPlace() {
        WolfVillage x = blind(Checks.village(5, way(0, 0, 1), way(4, 1, 2), way(4, 3, 4)));
        started(x, 0, 0, 3).move(0);
        due("the hunter is beside 1, not beside 2", x.move(3), 26);
        WolfVillage y = blind(Checks.twoHunters(Checks.village(6, way(0, 3, 1), way(4, 1, 4), way(4, 0, 5))));
        started(y, 2, 3, 0).move(0);
        due("the second hunter is beside 1, not beside 4", y.move(3), 35);
    }

    static void term5_seenBehindEachTurn() {
        WolfVillage x = started(Checks.wells(Checks.ring(6)), 0, 0, 3);
        due("2 is seen from 1, 5 was seen from 0", x.move(1), 24);
        due("it comes to 2 and is seen", x.move(3), 4);
        due("the hunter goes back: 1 and 5 are seen, 2 is not", x.move(1), 4);
        due("it may go to 1, 3 or stay, is not seen at 1", x.move(0), 12);
    }

    // ---- promise 18

    static void promise18_nothingIsShutItIsTheHuntersTurnNoneIsDone() {
        WolfVillage x = started(Checks.village(4, way(3, 0, 1)), 0, 0, 3);
        x.move(1);
        due("shut", x.told(4), 2);
        due("anew", x.start(0, 0, 3), 12);
        due("nothing is shut", x.told(4), 0);
        due("the hunters' turn", x.told(3), 0);
        due("none done", x.told(6), 0);
        due("none to take back", x.back(), STATE);
    }

    static void promise18_placesTooSmallOrTooLargeAreBad() {
        for (int bad : new int[] {-1, 6, 7, Checks.LEAST, Checks.MOST}) {
            Checks.refuses("h " + bad, BAD, Checks::busy, x -> x.start(bad, 0, 1));
            Checks.refuses("i " + bad, BAD, Checks::busy, x -> x.start(0, bad, 1));
            Checks.refuses("r " + bad, BAD, Checks::busy, x -> x.start(0, 0, bad));
        }
        for (int p = 3; p <= 8; p++) {
            WolfVillage x = Checks.twoHunters(new WolfVillage(p - 3));
            due("h of " + p, x.start(p, 0, 1), BAD);
            due("i of " + p, x.start(0, p, 1), BAD);
            due("r of " + p, x.start(0, 0, p), BAD);
            due("no game", x.count(8), 0);
            due("the last places of " + p, x.start(p - 1, p - 2, 0) >= 0 ? 1 : 0, 1);
        }
    }

    static void promise18_withOneHunterTheSecondPlaceDoesNotMatter() {
        for (int i : new int[] {-1, 2, 3, Checks.LEAST, Checks.MOST}) {
            WolfVillage x = Checks.path();
            due("i " + i, x.start(0, i, 2), 4);
            due("its place twice", x.told(1), 0);
        }
    }

    static void promise18_caughtIsState() {
        Checks.refuses("by the first", STATE, Checks::busy, x -> x.start(1, 3, 1));
        Checks.refuses("by the second", STATE, Checks::busy, x -> x.start(1, 3, 3));
        Checks.refuses("by both", STATE, Checks::busy, x -> x.start(3, 3, 3));
        WolfVillage x = new WolfVillage(0);
        due("by the one", x.start(2, 0, 2), STATE);
        due("no game", x.count(8), 0);
    }

    static void promise18_aRunnerThatCantMoveIsNotYetCaught() {
        WolfVillage x = new WolfVillage(0);
        due("the hunters' turn", x.start(0, 0, 1), 6);
        due("not caught", x.told(7), 0);
        due("its turn", x.move(0), 6);
        due("caught", x.told(7), 1);
    }

    // ---- promise 19

    static void promise19_moveTooSmallOrTooLargeIsBad() {
        for (int m : new int[] {-1, 33, Checks.LEAST, Checks.MOST}) {
            Checks.refuses("move " + m, BAD, Checks::busy, x -> x.move(m));
            due("named ahead of no game", new WolfVillage(0).move(m), BAD);
            due("named ahead of caught", caught().move(m), BAD);
        }
    }

    static void promise19_noGameIsState() {
        for (int m = 0; m <= 32; m++) {
            due("move " + m, Checks.path().move(m), STATE);
        }
    }

    static void promise19_caughtIsState() {
        Checks.refuses("stay", STATE, GamePromisesTest::caught, x -> x.move(0));
        Checks.refuses("go", STATE, GamePromisesTest::caught, x -> x.move(1));
        Checks.refuses("it can neither go nor stay", STATE, () -> {
            WolfVillage x = started(new WolfVillage(0), 0, 0, 1);
            x.move(0);
            return x;
        }, x -> x.move(0));
    }

    static void promise19_whatMayNotBeIsState() {
        WolfVillage x = started(Checks.path(), 0, 0, 2);
        due("a way that the hunter is not at", x.move(2), STATE);
        due("no such way", x.move(3), STATE);
        due("no such way", x.move(16), STATE);
        due("there is no second hunter", x.move(17), STATE);
        due("there is no second hunter", x.move(32), STATE);
        due("still the hunters' turn", x.told(3), 0);
        x.move(0);
        due("the runner is not at a well", x.move(0), STATE);
        due("a way that the runner is not at", x.move(1), STATE);
        due("the runner has no second", x.move(18), STATE);
        due("still the runner's turn", x.told(3), 1);
        due("one done", x.told(6), 1);
    }

    static void promise19_aRefusedMoveChangesNothing() {
        for (int m : new int[] {1, 7, 16, 17, 32}) {
            Checks.refuses("move " + m, STATE, Checks::busy, x -> x.move(m));
        }
        Checks.refuses("back over a lock that is shut", STATE, GamePromisesTest::behindALock, x -> x.move(1));
    }

    /** The hunter went over the lock from 0 to 1, the runner stayed at its well. */
    private static WolfVillage behindALock() {
        WolfVillage x = Checks.village(4, way(3, 0, 1));
        x.ground(3, 1);
        started(x, 0, 0, 3).move(1);
        x.move(0);
        return x;
    }

    static void promise19_aLockOpensAgain() {
        WolfVillage x = behindALock();
        due("shut", x.told(4), 1);
        due("back", x.move(1), STATE);
        x.move(0);
        x.move(0);
        due("open", x.told(4), 0);
        due("back", x.move(1) >= 0 ? 1 : 0, 1);
        due("back", x.told(0), 0);
    }

    static void promise19_aGateIsOpenForTheSecondHunterAtTheirNextTurn() {
        WolfVillage x = started(Checks.twoHunters(Checks.village(4, way(2, 0, 1), way(0, 2, 3))), 0, 0, 2);
        x.move(1);
        due("shut behind the first", x.told(4), 1);
        x.move(2);
        due("open for the second", x.told(4), 0);
        due("the second comes after", x.move(1), 12);
        due("both are there", x.told(0), 1);
        due("both are there", x.told(1), 1);
    }

    static void promise19_bothHuntersAtOnePlaceMoveAsTheFirst() {
        WolfVillage x = started(Checks.twoHunters(Checks.path()), 0, 0, 2);
        due("as the second", x.move(17), STATE);
        due("as the first", x.move(1), 4);
        due("one went", x.told(0), 0);
        due("one went", x.told(1), 1);
    }

    // ---- promise 20

    static void promise20_turnsTooFewOrTooManyAreBad() {
        for (int n : new int[] {-1, 0, 41, Checks.LEAST, Checks.MOST}) {
            Checks.refuses("play " + n, BAD, Checks::busy, x -> x.play(n));
            due("named ahead of no game", new WolfVillage(0).play(n), BAD);
        }
    }

    static void promise20_oneToFortyTurns() {
        WolfVillage x = still();
        due("one", x.play(1), 1);
        due("forty", x.play(40), 40);
        due("done", x.told(6), 41);
    }

    static void promise20_noGameIsState() {
        due("one", Checks.path().play(1), STATE);
        due("forty", Checks.path().play(40), STATE);
    }

    static void promise20_asLongAsItIsntCaught() {
        WolfVillage x = started(Checks.path(), 0, 0, 2);
        due("two of forty", x.play(40), 2);
        due("caught", x.told(7), 1);
        due("none more", x.play(40), 0);
        due("none more", x.told(6), 2);
        Checks.refuses("none more", 0, GamePromisesTest::caught, y -> y.play(1));
    }

    static void promise20_byBestMovesOfBoth() {
        WolfVillage x = started(Checks.twoHunters(Checks.ring(6)), 0, 1, 3);
        for (int k = 0; x.told(7) == 0 && k < 20; k++) {
            int best = x.best(x.told(0), x.told(1), x.told(2), x.told(3), x.told(4));
            int length = x.told(8);
            x.move(best);
            int known = x.told(5);
            int runner = x.told(2);
            int hunters = 10 * x.told(0) + x.told(1);
            due("one less", x.told(8), length - 1);
            x.back();
            due("one", x.play(1), 1);
            due("known", x.told(5), known);
            due("the runner", x.told(2), runner);
            due("the hunters", 10 * x.told(0) + x.told(1), hunters);
        }
        due("caught", x.told(7), 1);
    }

    // ---- promise 21

    static void promise21_noGameIsState() {
        due("no game", Checks.path().back(), STATE);
        WolfVillage x = still();
        x.play(5);
        x.way(0, 0, 2);
        due("the game ended", x.back(), STATE);
    }

    static void promise21_noneDoneIsState() {
        Checks.refuses("at first", STATE, () -> started(Checks.path(), 0, 0, 2), WolfVillage::back);
        WolfVillage x = still();
        x.move(0);
        due("one", x.back(), 0);
        due("none", x.back(), STATE);
    }

    static void promise21_allIsAsItWas() {
        WolfVillage x = blind(Checks.village(4, way(3, 0, 1), way(2, 1, 2), way(0, 2, 3)));
        x.start(0, 0, 3);
        x.move(1);
        x.move(3);
        x.move(2);
        due("caught", x.told(7), 1);
        int[][] were = {{1, 1, 2, 0, 1, 12, 2, 0}, {1, 1, 3, 1, 2, 12, 1, 0}, {0, 0, 3, 0, 0, 14, 0, 0}};
        for (int k = 0; k < were.length; k++) {
            due("done then", x.back(), 2 - k);
            for (int what = 0; what < were[k].length; what++) {
                due("back " + k + ", told " + what, x.told(what), were[k][what]);
            }
        }
    }

    static void promise21_sixtyFourAreKept() {
        WolfVillage x = still();
        x.play(40);
        due("sixty-four", x.play(24), 24);
        for (int k = 63; k >= 0; k--) {
            due("back", x.back(), k);
        }
        due("none done", x.back(), STATE);
    }

    static void promise21_ofMoreTheLatestSixtyFourAreKept() {
        WolfVillage x = still();
        x.play(40);
        due("sixty-five", x.play(25), 25);
        for (int k = 64; k >= 1; k--) {
            due("back", x.back(), k);
        }
        due("no more are kept", x.back(), STATE);
        due("one stays done", x.told(6), 1);
        due("on", x.play(2), 2);
        due("back", x.back(), 2);
        due("back", x.back(), 1);
        due("no more are kept", x.back(), STATE);
    }

    static void promise21_keepsRightOnesWhenMoreThanSixtyFourWereDone() {
        WolfVillage x = started(blind(Checks.wells(Checks.village(5, way(0, 0, 1), way(0, 3, 4)))), 0, 0, 3);
        int[] hunters = new int[100];
        int[] runners = new int[100];
        for (int k = 0; k < 100; k++) {
            hunters[k] = x.told(0);
            runners[k] = x.told(2);
            boolean hunterGoes = k % 2 == 0 && k % 3 == 0;
            boolean runnerGoes = k % 2 == 1 && k % 5 == 0;
            due("turn " + k, x.move(hunterGoes ? 1 : runnerGoes ? 2 : 0) >= 0 ? 1 : 0, 1);
        }
        for (int k = 99; k >= 36; k--) {
            x.back();
            due("the hunter ahead of turn " + k, x.told(0), hunters[k]);
            due("the runner ahead of turn " + k, x.told(2), runners[k]);
        }
    }

    // ---- promise 22

    static void promise22_tellsTheGame() {
        WolfVillage x = started(Checks.twoHunters(Checks.path()), 2, 1, 0);
        int[] answers = {1, 2, 0, 0, 0, 1, 0, 0, 1};
        for (int what = 0; what < answers.length; what++) {
            due("told(" + what + ")", x.told(what), answers[what]);
        }
        x.move(1);
        int[] then = {0, 2, 0, 1, 0, 1, 1, 1, 0};
        for (int what = 0; what < then.length; what++) {
            due("caught, told(" + what + ")", x.told(what), then[what]);
        }
    }

    static void promise22_neverIsLengthNone() {
        due("never", still().told(8), NONE);
        due("not caught", still().told(7), 0);
    }

    static void promise22_whatTooSmallOrTooLargeIsBad() {
        for (int what : new int[] {-1, 9, Checks.LEAST, Checks.MOST}) {
            Checks.refuses("what " + what, BAD, Checks::busy, x -> x.told(what));
            due("named ahead of no game", new WolfVillage(0).told(what), BAD);
        }
    }

    static void promise22_noGameIsState() {
        for (int what = 0; what <= 8; what++) {
            due("told(" + what + ")", Checks.path().told(what), STATE);
        }
    }

    static void promise22_otherCallsLeaveTheGame() {
        WolfVillage x = still();
        x.play(3);
        x.fairer();
        x.sure(0, 0, 2);
        x.turnings();
        x.says(0);
        x.feed(1, 32);
        x.text();
        x.force(0);
        x.sheet(0, 0, 3);
        x.cell(0, 0, 0);
        x.ways(0, 0, 0, 1);
        due("the game is on", x.count(8), 1);
        due("three done", x.told(6), 3);
        due("never", x.told(8), NONE);
        due("on", x.play(1), 1);
    }

    public static void main(String[] args) {
        Checks.runAll(GamePromisesTest.class);
    }
}
