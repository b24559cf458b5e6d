/** Section 1 of the terms and promises 1 to 6: a new object, ways, grounds, hunters and sight. */
public final class PlanPromisesTest {
    private static final int NONE = Checks.NONE, BAD = Checks.BAD, STATE = Checks.STATE, FULL = Checks.FULL;
    private static final int[] SHUTTERS = {2, 3, 5};

    private static void due(String call, long got, long want) {
        Checks.due(call, got, want);
    }

    private static int[] way(int kind, int a, int b) {
        return Checks.way(kind, a, b);
    }

    private static WolfVillage game() {
        WolfVillage x = Checks.path();
        x.start(0, 0, 2);
        due("a game is on", x.count(8), 1);
        return x;
    }

    // ---- the terms

    static void term1_constants() {
        due("NONE", WolfVillage.NONE, -1);
        due("BAD", WolfVillage.BAD, -2);
        due("STATE", WolfVillage.STATE, -3);
        due("FULL", WolfVillage.FULL, -4);
        due("NO", WolfVillage.NO, -(1L << 62));
    }

    static void term1_placesAreThreeAndTheNumberModuloSixFromZero() {
        int[] numbers = {-13, -12, -7, -6, -5, -2, -1, 0, 1, 2, 3, 4, 5, 6, 7, 11, 12, Checks.LEAST, Checks.MOST};
        int[] places = {8, 3, 8, 3, 4, 7, 8, 3, 4, 5, 6, 7, 8, 3, 4, 8, 3, 7, 4};
        for (int k = 0; k < numbers.length; k++) {
            due("places of " + numbers[k], new WolfVillage(numbers[k]).count(0), places[k]);
        }
    }

    static void term1_placesAreNumberedFromZeroToTheLast() {
        for (int p = 3; p <= 8; p++) {
            WolfVillage x = new WolfVillage(p - 3);
            due("the first and the last of " + p, x.way(0, p - 1, 0), 0);
            due("behind the last of " + p, x.way(0, p, 0), BAD);
            due("below the first of " + p, x.way(0, -1, 0), BAD);
        }
    }

    static void term1_noPlaceIsAWellOrAHillAtFirst() {
        WolfVillage x = new WolfVillage(5);
        for (int k = 0; k < 8; k++) {
            due("ground of " + k, x.ground(k, 0), 0);
        }
    }

    static void term1_sixteenWaysNumberedFromZero() {
        WolfVillage x = new WolfVillage(5);
        for (int k = 0; k < 16; k++) {
            due("number of way " + k, x.way(0, k % 8, (k + 3) % 8), k);
        }
        due("the sixteenth has its ends", x.wayTold(15, 1), 7);
        due("the sixteenth has its ends", x.wayTold(15, 2), 2);
        due("a seventeenth", x.way(0, 0, 1), FULL);
    }

    static void term1_severalWaysMayJoinTheSamePlaces() {
        WolfVillage x = Checks.village(3, way(0, 0, 1), way(0, 0, 1), way(0, 1, 0), way(1, 0, 1));
        due("four", x.count(1), 4);
    }

    static void term1_kindsAreZeroToFive() {
        for (int kind = 0; kind <= 5; kind++) {
            WolfVillage x = Checks.village(3, way(kind, 2, 1));
            due("its kind", x.wayTold(0, 0), kind);
        }
        due("6", new WolfVillage(0).way(6, 2, 1), BAD);
        due("-1", new WolfVillage(0).way(-1, 2, 1), BAD);
    }

    static void term1_gatesLocksAndBridgesAreTwoAtMostTogether() {
        for (int first : SHUTTERS) {
            for (int second : SHUTTERS) {
                for (int third : SHUTTERS) {
                    WolfVillage x = Checks.village(3, way(first, 0, 1), way(second, 1, 2));
                    due("a third", x.way(third, 2, 0), FULL);
                    due("two", x.count(2), 2);
                }
            }
        }
    }

    static void term1_shuttersAreNumberedAsTheyCame() {
        for (int first : SHUTTERS) {
            for (int second : SHUTTERS) {
                WolfVillage x = Checks.village(3, way(4, 0, 1), way(first, 0, 1), way(0, 0, 1), way(second, 1, 2), way(1, 0, 1));
                int[] numbers = {NONE, 0, NONE, 1, NONE};
                for (int k = 0; k < numbers.length; k++) {
                    due("shutter of way " + k, x.wayTold(k, 3), numbers[k]);
                }
            }
        }
    }

    // ---- promise 1

    static void promise01_hasNoWays() {
        WolfVillage x = new WolfVillage(2);
        due("ways", x.count(1), 0);
        due("shutters", x.count(2), 0);
        due("the first", x.wayTold(0, 0), BAD);
        due("none is taken away", x.unway(), STATE);
    }

    static void promise01_hasOneHunter() {
        WolfVillage x = new WolfVillage(2);
        due("hunters", x.count(3), 1);
        due("it was 1", x.tell(0, 1), 1);
    }

    static void promise01_hasNoGame() {
        WolfVillage x = new WolfVillage(2);
        due("game", x.count(8), 0);
        due("told", x.told(0), STATE);
        due("move", x.move(0), STATE);
        due("play", x.play(1), STATE);
        due("back", x.back(), STATE);
    }

    static void promise01_hasSightOneOneTextAnEmptyTapeAndNoSheets() {
        WolfVillage x = new WolfVillage(2);
        int[] counts = {5, 0, 0, 1, 1, 1, 0, 0, 0};
        for (int what = 0; what < counts.length; what++) {
            due("count(" + what + ")", x.count(what), counts[what]);
        }
        for (int k = 0; k < 4; k++) {
            due("sheet " + k, x.cell(k, 0, 0), Checks.NOTHING);
        }
    }

    // ---- promise 2

    static void promise02_aTooSmallOrTooLargeIsBad() {
        for (int a : new int[] {-1, 6, 7, 8, 100, Checks.LEAST, Checks.MOST}) {
            Checks.refuses("way(0, " + a + ", 1)", BAD, Checks::busy, x -> x.way(0, a, 1));
        }
    }

    static void promise02_bTooSmallOrTooLargeIsBad() {
        for (int b : new int[] {-1, 6, 7, 8, 100, Checks.LEAST, Checks.MOST}) {
            Checks.refuses("way(0, 1, " + b + ")", BAD, Checks::busy, x -> x.way(0, 1, b));
        }
    }

    static void promise02_aLikeBIsBad() {
        for (int place = 0; place < 6; place++) {
            int both = place;
            Checks.refuses("way to itself", BAD, Checks::busy, x -> x.way(0, both, both));
        }
    }

    static void promise02_kindTooSmallOrTooLargeIsBad() {
        for (int kind : new int[] {-1, 6, 7, Checks.LEAST, Checks.MOST}) {
            Checks.refuses("kind " + kind, BAD, Checks::busy, x -> x.way(kind, 0, 1));
        }
    }

    static void promise02_aSeventeenthWayIsFullOfWhateverKind() {
        for (int kind = 0; kind <= 5; kind++) {
            int k = kind;
            Checks.refuses("a seventeenth", FULL, () -> Checks.fullOf(0), x -> x.way(k, 1, 2));
        }
    }

    static void promise02_aThirdShutterIsFullAndOtherWaysCome() {
        for (int kind : SHUTTERS) {
            Checks.refuses("a third shutter", FULL, Checks::busyWithShutters, x -> x.way(kind, 4, 2));
        }
        for (int kind : new int[] {0, 1, 4}) {
            due("no shutter", Checks.busyWithShutters().way(kind, 4, 2), 6);
        }
    }

    static void promise02_aSecondShutterComesAsTheSixteenthWay() {
        WolfVillage x = Checks.village(3, way(5, 0, 1));
        for (int k = 1; k < 15; k++) {
            x.way(k % 2 * 4, 0, 1);
        }
        due("the sixteenth", x.way(2, 0, 1), 15);
        due("it is shutter 1", x.wayTold(15, 3), 1);
    }

    static void promise02_badIsNamedAheadOfFull() {
        Checks.refuses("kind", BAD, () -> Checks.fullOf(0), x -> x.way(6, 1, 2));
        Checks.refuses("a", BAD, () -> Checks.fullOf(0), x -> x.way(0, 3, 2));
        Checks.refuses("b", BAD, () -> Checks.fullOf(0), x -> x.way(0, 1, -1));
        Checks.refuses("a like b", BAD, () -> Checks.fullOf(0), x -> x.way(0, 1, 1));
        Checks.refuses("a like b of a shutter", BAD, Checks::busyWithShutters, x -> x.way(2, 1, 1));
        Checks.refuses("b of a shutter", BAD, Checks::busyWithShutters, x -> x.way(5, 1, 6));
    }

    static void promise02_allIsReckonedAnew() {
        for (int kind = 0; kind <= 5; kind++) {
            int k = kind;
            Checks.reckonsAnew("kind " + kind, Checks::busy, x -> x.way(k, 1, 4));
        }
    }

    static void promise02_aWayEndsTheGame() {
        WolfVillage x = game();
        due("a way", x.way(0, 0, 2), 2);
        due("no game", x.count(8), 0);
        due("no game", x.told(0), STATE);
    }

    // ---- promise 3

    static void promise03_noneIsState() {
        Checks.refuses("none", STATE, () -> {
            WolfVillage x = new WolfVillage(0);
            x.start(0, 0, 1);
            return x;
        }, WolfVillage::unway);
        WolfVillage y = Checks.path();
        due("two less one", y.unway(), 1);
        due("one less one", y.unway(), 0);
        due("none again", y.unway(), STATE);
    }

    static void promise03_theLatestIsTakenAway() {
        WolfVillage x = Checks.village(3, way(0, 0, 1), way(1, 1, 2));
        due("how many", x.unway(), 1);
        due("the first stays", x.wayTold(0, 2), 1);
        due("the latest is gone", x.wayTold(1, 0), BAD);
        due("its number is free", x.way(4, 2, 0), 1);
        due("for another", x.wayTold(1, 0), 4);
    }

    static void promise03_ofSixteenFifteenAreLeftAndOneHasRoom() {
        WolfVillage x = Checks.fullOf(0);
        due("fifteen", x.unway(), 15);
        due("the sixteenth", x.way(0, 1, 2), 15);
        due("a seventeenth", x.way(0, 1, 2), FULL);
    }

    static void promise03_aShutterTakenAwayLeavesRoomForOne() {
        WolfVillage x = Checks.village(3, way(2, 0, 1), way(3, 0, 1), way(0, 0, 1));
        due("the way", x.unway(), 2);
        due("both shutters stay", x.count(2), 2);
        due("the lock", x.unway(), 1);
        due("one shutter", x.count(2), 1);
        due("its shut is none such", x.length(0, 0, 1, 0, 3), BAD);
        due("a bridge", x.way(5, 1, 2), 1);
        due("it is shutter 1", x.wayTold(1, 3), 1);
        due("shut for as a bridge", x.wayTold(1, 4), 1);
    }

    static void promise03_placesThatAnotherWayJoinsStayJoined() {
        WolfVillage x = Checks.village(3, way(0, 0, 1), way(0, 1, 0));
        x.unway();
        due("joined", x.sees(0, 0), 3);
        due("joined", x.sees(1, 1), 3);
        x.unway();
        due("not joined", x.sees(0, 0), 1);
        due("not joined", x.sees(1, 1), 2);
    }

    static void promise03_allIsReckonedAnew() {
        Checks.reckonsAnew("one less", Checks::busy, WolfVillage::unway);
        Checks.reckonsAnew("one less", Checks::busyWithShutters, WolfVillage::unway);
        Checks.reckonsAnew("the one", () -> Checks.village(3, way(0, 0, 1)), WolfVillage::unway);
        Checks.reckonsAnew("a hedge for a way", Checks::path, x -> {
            x.unway();
            return x.way(1, 1, 2);
        });
        Checks.reckonsAnew("a gate for a lock", () -> Checks.wells(Checks.village(3, way(3, 0, 1))), x -> {
            x.unway();
            return x.way(2, 0, 1);
        });
        Checks.reckonsAnew("a lock for a gate", () -> Checks.wells(Checks.village(3, way(0, 1, 2), way(2, 0, 1))), x -> {
            x.unway();
            return x.way(3, 0, 1);
        });
    }

    static void promise03_theGameEnds() {
        WolfVillage x = game();
        x.unway();
        due("no game", x.count(8), 0);
    }

    // ---- promise 4

    static void promise04_tellsKindEndsShutterAndShutting() {
        int[][] ways = {way(0, 0, 1), way(1, 1, 2), way(5, 2, 0), way(4, 2, 1), way(3, 1, 0)};
        int[] shutters = {NONE, NONE, 0, NONE, 1};
        int[] shutFor = {0, 0, 1, 0, 2};
        WolfVillage x = Checks.village(3, ways);
        for (int k = 0; k < ways.length; k++) {
            due("kind", x.wayTold(k, 0), ways[k][0]);
            due("a", x.wayTold(k, 1), ways[k][1]);
            due("b", x.wayTold(k, 2), ways[k][2]);
            due("shutter", x.wayTold(k, 3), shutters[k]);
            due("shut for", x.wayTold(k, 4), shutFor[k]);
        }
        due("a gate is shut for", Checks.village(3, way(2, 0, 1)).wayTold(0, 4), 1);
    }

    static void promise04_wayTooSmallOrTooLargeIsBad() {
        for (int w : new int[] {-1, 6, 15, 16, Checks.LEAST, Checks.MOST}) {
            Checks.refuses("way " + w, BAD, Checks::busy, x -> x.wayTold(w, 0));
        }
        due("the last of sixteen", Checks.fullOf(1).wayTold(15, 0), 1);
        due("behind sixteen", Checks.fullOf(1).wayTold(16, 0), BAD);
        due("of none", new WolfVillage(0).wayTold(0, 0), BAD);
    }

    static void promise04_whatTooSmallOrTooLargeIsBad() {
        for (int what : new int[] {-1, 5, Checks.LEAST, Checks.MOST}) {
            Checks.refuses("what " + what, BAD, Checks::busy, x -> x.wayTold(0, what));
        }
    }

    // ---- promise 5

    static void promise05_tellsWhatItWas() {
        WolfVillage x = new WolfVillage(0);
        due("nothing", x.ground(2, 3), 0);
        due("both", x.ground(2, 1), 3);
        due("a well", x.ground(2, 2), 1);
        due("a hill", x.ground(2, 0), 2);
        due("another place is as it was", x.ground(1, 0), 0);
    }

    static void promise05_bitZeroIsAWellBitOneAHill() {
        int[] moves = {0, 1, 0, 1};
        int[] seen = {4, 4, 6, 6};
        for (int what = 0; what <= 3; what++) {
            WolfVillage x = Checks.village(3, way(3, 1, 2));
            x.tell(1, 0);
            x.ground(2, what);
            due("stays " + what, x.moves(0, 0, 2, 1, 0), moves[what]);
            due("sees " + what, x.sees(2, 2), seen[what]);
        }
    }

    static void promise05_placeTooSmallOrTooLargeIsBad() {
        for (int place : new int[] {-1, 6, 7, Checks.LEAST, Checks.MOST}) {
            Checks.refuses("place " + place, BAD, Checks::busy, x -> x.ground(place, 1));
        }
        for (int p = 3; p <= 8; p++) {
            due("the last of " + p, new WolfVillage(p - 3).ground(p - 1, 1), 0);
            due("behind the last of " + p, new WolfVillage(p - 3).ground(p, 1), BAD);
        }
    }

    static void promise05_whatTooSmallOrTooLargeIsBad() {
        for (int what : new int[] {-1, 4, 5, Checks.LEAST, Checks.MOST}) {
            Checks.refuses("what " + what, BAD, Checks::busy, x -> x.ground(0, what));
        }
    }

    static void promise05_allIsReckonedAnew() {
        for (int what = 0; what <= 3; what++) {
            int ground = what;
            Checks.reckonsAnew("ground " + what, Checks::busy, x -> x.ground(4, ground));
            Checks.reckonsAnew("ground " + what, Checks::busyWithShutters, x -> x.ground(0, ground));
        }
    }

    static void promise05_theGameEndsEvenIfNothingIsOther() {
        WolfVillage x = game();
        due("as it was", x.ground(0, 0), 0);
        due("no game", x.count(8), 0);
    }

    // ---- promise 6

    static void promise06_huntersAreOneOrTwo() {
        WolfVillage x = new WolfVillage(0);
        due("two", x.tell(0, 2), 1);
        due("one", x.tell(0, 1), 2);
        due("one", x.count(3), 1);
        for (int v : new int[] {-1, 0, 3, Checks.LEAST, Checks.MOST}) {
            Checks.refuses("hunters " + v, BAD, Checks::busy, y -> y.tell(0, v));
        }
    }

    static void promise06_sightIsZeroToThree() {
        WolfVillage x = new WolfVillage(0);
        int was = 1;
        for (int v = 0; v <= 3; v++) {
            due("sight " + v, x.tell(1, v), was);
            due("it is " + v, x.count(4), v);
            was = v;
        }
        for (int v : new int[] {-1, 4, Checks.LEAST, Checks.MOST}) {
            Checks.refuses("sight " + v, BAD, Checks::busy, y -> y.tell(1, v));
        }
    }

    static void promise06_whatTooSmallOrTooLargeIsBad() {
        for (int what : new int[] {-1, 2, Checks.LEAST, Checks.MOST}) {
            Checks.refuses("what " + what, BAD, Checks::busy, x -> x.tell(what, 1));
        }
    }

    static void promise06_allIsReckonedAnew() {
        Checks.reckonsAnew("one hunter", Checks::busy, x -> x.tell(0, 1));
        Checks.reckonsAnew("two hunters", Checks::path, x -> x.tell(0, 2));
        for (int sight = 0; sight <= 3; sight++) {
            int v = sight;
            Checks.reckonsAnew("sight " + sight, Checks::busy, x -> x.tell(1, v));
        }
    }

    static void promise06_theGameEndsEvenIfNothingIsOther() {
        for (int what = 0; what <= 1; what++) {
            WolfVillage x = game();
            due("as it was", x.tell(what, 1), 1);
            due("no game", x.count(8), 0);
        }
    }

    public static void main(String[] args) {
        Checks.runAll(PlanPromisesTest.class);
    }
}
