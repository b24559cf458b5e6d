/** Section 3 of the terms and promises 12 to 14: turnings, rows that are alike, and the fairer plan. */
public final class TurningPromisesTest {
    private static final int BAD = Checks.BAD, STATE = Checks.STATE;

    private static void due(String call, long got, long want) {
        Checks.due(call, got, want);
    }

    private static int[] way(int kind, int a, int b) {
        return Checks.way(kind, a, b);
    }

    // ---- promise 12

    static void promise12_allNamingsOfPlacesWithoutWays() {
        int[] namings = {6, 24, 120, 720, 5040, 40320};
        for (int p = 3; p <= 8; p++) {
            due("of " + p, new WolfVillage(p - 3).turnings(), namings[p - 3]);
        }
    }

    static void promise12_wellsAreWellsHillsAreHills() {
        WolfVillage x = new WolfVillage(5);
        x.ground(3, 1);
        due("a well", x.turnings(), 5040);
        x.ground(4, 2);
        due("a well and a hill", x.turnings(), 720);
        x.ground(4, 1);
        due("two wells", x.turnings(), 1440);
        x.ground(4, 3);
        due("a well and one that is a hill too", x.turnings(), 720);
        x.ground(3, 3);
        due("two that are both", x.turnings(), 1440);
    }

    static void promise12_asManyWaysBetweenEachTwo() {
        WolfVillage ring = Checks.ring(8);
        due("a ring", ring.turnings(), 16);
        ring.way(0, 1, 0);
        due("two ways between 0 and 1", ring.turnings(), 2);
        due("sixteen ways between two", Checks.fullOf(0).turnings(), 2);
        WolfVillage x = Checks.village(3, way(0, 0, 1), way(0, 0, 1), way(0, 1, 2));
        due("two and one", x.turnings(), 1);
        x.way(0, 2, 1);
        due("two and two", x.turnings(), 2);
    }

    static void promise12_ofEachKind() {
        for (int first = 0; first <= 5; first++) {
            for (int second = 0; second <= 5; second++) {
                WolfVillage x = Checks.village(3, way(first, 0, 1), way(second, 0, 2));
                due(first + " and " + second, x.turnings(), first == second ? 2 : 1);
            }
        }
    }

    static void promise12_manyOfOneKindAreNotFewOfAnother() {
        for (int many = 1; many <= 8; many++) {
            for (int kind = 1; kind <= 5; kind++) {
                WolfVillage x = Checks.village(3, way(kind, 0, 2), way(0, 0, 1));
                for (int k = 1; k < many; k++) {
                    x.way(0, 0, 1);
                }
                due(many + " ways and one of kind " + kind, x.turnings(), 1);
            }
        }
    }

    static void promise12_aRingWhoseNeighboursAreFarApartByNumber() {
        WolfVillage x = new WolfVillage(5);
        int[] order = {0, 4, 1, 5, 2, 6, 3, 7};
        for (int k = 0; k < 8; k++) {
            x.way(0, order[k], order[(k + 1) % 8]);
        }
        due("as any ring of eight", x.turnings(), 16);
        due("opposite", x.alike(7, 7, 5), 2);
        due("beside", x.alike(7, 7, 3), 4);
        due("two off", x.alike(7, 7, 4), 1);
    }

    static void promise12_whichEndIsTheFirstMattersForBridgesAlone() {
        for (int kind = 0; kind <= 5; kind++) {
            due("kind " + kind, Checks.village(3, way(kind, 1, 0)).turnings(), kind == 5 ? 1 : 2);
            WolfVillage x = Checks.village(3, way(kind, 0, 1), way(kind, 2, 0));
            due("to 0 and from 0, kind " + kind, x.turnings(), kind == 5 ? 1 : 2);
        }
        due("a bridge and one back", Checks.village(3, way(5, 1, 0), way(5, 0, 1)).turnings(), 2);
        due("two bridges", Checks.village(3, way(5, 1, 0), way(5, 1, 0)).turnings(), 1);
        due("from one to two", Checks.village(3, way(5, 1, 0), way(5, 1, 2)).turnings(), 2);
    }

    static void promise12_whichShutterCameFirstDoesNotMatter() {
        due("gates", Checks.village(4, way(2, 0, 1), way(2, 2, 3)).turnings(), 8);
        due("locks", Checks.village(4, way(3, 0, 1), way(3, 2, 3)).turnings(), 8);
    }

    static void promise12_changesNothing() {
        Checks.refuses("turnings", 1, Checks::busy, WolfVillage::turnings);
    }

    // ---- promise 13

    static void promise13_theLeastThatATurningMakes() {
        WolfVillage x = Checks.ring(6);
        due("beside", x.alike(3, 3, 4), 1);
        due("two off", x.alike(4, 4, 2), 2);
        due("opposite", x.alike(5, 5, 2), 3);
        due("at one place", x.alike(5, 5, 5), 0);
        x.ground(0, 1);
        due("a well stays where it is", x.alike(5, 5, 4), 112);
        due("a well stays where it is", x.alike(0, 0, 5), 1);
    }

    static void promise13_huntersAreSortedAnew() {
        WolfVillage x = Checks.twoHunters(Checks.ring(6));
        due("the runner between", x.alike(4, 2, 3), 21);
        due("the runner opposite", x.alike(1, 5, 3), 24);
        WolfVillage path = Checks.twoHunters(Checks.path());
        due("turned round", path.alike(2, 1, 2), 10);
        due("turned round", path.alike(1, 2, 2), 10);
        due("both ends", path.alike(2, 0, 1), 21);
    }

    static void promise13_wherePlacesBelowStay() {
        // 2 - 3 - 4 - 5 can be turned round; 0 and 1 can't.
        WolfVillage x = Checks.twoHunters(Checks.village(6, way(0, 2, 3), way(0, 3, 4), way(0, 4, 5)));
        x.ground(0, 1);
        x.ground(1, 2);
        due("turned round", x.alike(4, 5, 4), 233);
        due("as they are", x.alike(2, 3, 4), 234);
        due("one that stays", x.alike(1, 5, 0), 120);
    }

    static void promise13_withOneHunterTheSecondPlaceDoesNotMatter() {
        for (int i : new int[] {-1, 0, 2, 3, Checks.LEAST, Checks.MOST}) {
            due("i " + i, Checks.path().alike(2, i, 1), 1);
        }
        due("its place twice", Checks.path().alike(1, 0, 2), 110);
    }

    static void promise13_placesTooSmallOrTooLargeAreBad() {
        for (int bad : new int[] {-1, 6, 7, Checks.LEAST, Checks.MOST}) {
            Checks.refuses("h " + bad, BAD, Checks::busy, x -> x.alike(bad, 0, 0));
            Checks.refuses("i " + bad, BAD, Checks::busy, x -> x.alike(0, bad, 0));
            Checks.refuses("r " + bad, BAD, Checks::busy, x -> x.alike(0, 0, bad));
        }
        for (int p = 3; p <= 8; p++) {
            WolfVillage x = Checks.twoHunters(new WolfVillage(p - 3));
            due("the last places of " + p, x.alike(p - 1, p - 1, p - 1), 0);
            due("h of " + p, x.alike(p, 0, 0), BAD);
            due("i of " + p, x.alike(0, p, 0), BAD);
            due("r of " + p, x.alike(0, 0, p), BAD);
        }
    }

    // ---- promise 14

    static void promise14_shuttersAreState() {
        for (int kind : new int[] {2, 3, 5}) {
            WolfVillage x = Checks.village(3, way(0, 0, 1), way(kind, 0, 1));
            due("a shutter " + kind, x.fairer(), STATE);
            x.unway();
            due("none any more", x.fairer() >= 100 ? 1 : 0, 1);
        }
        Checks.refuses("shutters", STATE, Checks::busyWithShutters, WolfVillage::fairer);
    }

    static void promise14_withoutWaysOneMore() {
        // With wells all round one way wins 2 of 12, whichever it is.
        due("the least a and b", Checks.wells(new WolfVillage(1)).fairer(), 201);
    }

    static void promise14_ofLikeOnesOneWithAWayLess() {
        // One way less wins 0 of 6, one more all 6: both are 6 off.
        due("a way less", Checks.wells(Checks.village(3, way(0, 0, 1))).fairer(), 100);
    }

    static void promise14_ofLikeOnesTheLeastNumber() {
        // Two ways join the same, so it does not matter which is less.
        WolfVillage x = Checks.wells(Checks.village(3, way(0, 0, 1), way(0, 1, 0)));
        due("the first", x.fairer(), 100);
    }

    static void promise14_theLeastAThenB() {
        // Hedges alone win nothing; one way wins 2 of 12: 0 3, 1 2, 1 3 and 2 3 are like.
        WolfVillage x = Checks.wells(Checks.village(4, way(1, 1, 0), way(1, 0, 2)));
        due("0 3 ahead of 1 2", x.fairer(), 203);
        x.way(1, 0, 3);
        due("1 2", x.fairer(), 212);
        x.way(1, 2, 1);
        due("1 3", x.fairer(), 213);
    }

    static void promise14_aWayOfAnyKindJoins() {
        WolfVillage x = Checks.wells(Checks.village(3, way(4, 1, 0), way(1, 0, 2), way(4, 2, 1)));
        due("all are joined: one less, though it wins nothing", x.fairer(), 100);
    }

    static void promise14_theWayThatIsLessMayBeTheLast() {
        // Without the hedge 2 of 6 are won (2 off), without the way none, with one more all.
        due("the second", Checks.wells(Checks.village(3, way(0, 1, 2), way(1, 0, 1))).fairer(), 101);
        WolfVillage x = Checks.wells(new WolfVillage(0));
        for (int k = 0; k < 15; k++) {
            x.way(0, 0, 1);
        }
        x.way(0, 1, 2);
        due("the sixteenth", x.fairer(), 115);
    }

    static void promise14_withAsManyHuntersAsThereAre() {
        // One hunter: 0 - 1 and 0 - 2 win 6 of 12. Two: they win 15 of 24, but 0 - 1 and 2 - 3 win 12.
        WolfVillage x = Checks.wells(Checks.village(4, way(0, 0, 1)));
        due("one", x.fairer(), 202);
        x.tell(0, 2);
        due("two", x.fairer(), 223);
    }

    static void promise14_creepsAreLookedAtInEachPlanByItself() {
        // One less wins 9 of 12; 1 - 2 and 1 - 3 win 7, all others 4.
        WolfVillage x = Checks.village(4, way(4, 2, 3));
        x.ground(1, 1);
        due("1 2", x.fairer(), 212);
    }

    static void promise14_theNearestToZeroFromAbove() {
        // 0 - 1 - 2 and 3: a ring of 0, 1, 2 wins 6 of 12 (0 off), a tree of all 12 (12 above), one way 2 (8 below).
        WolfVillage x = Checks.wells(Checks.village(4, way(0, 0, 1), way(0, 1, 2)));
        due("0 2", x.fairer(), 202);
    }

    static void promise14_sixteenWaysHaveNoRoomForOneMore() {
        WolfVillage x = Checks.fullOf(0);
        due("one less", x.fairer(), 100);
        due("the plan stays", x.count(1), 16);
        due("though one more would win something", Checks.wells(Checks.fullOf(1)).fairer(), 100);
    }

    static void promise14_changesNothing() {
        WolfVillage x = Checks.busy();
        int answer = x.fairer();
        Checks.refuses("fairer", answer, Checks::busy, WolfVillage::fairer);
    }

    public static void main(String[] args) {
        Checks.runAll(TurningPromisesTest.class);
    }
}
