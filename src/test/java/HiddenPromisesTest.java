/** Section 4 of the terms and promises 15 to 17: what hunters see, and the hidden game. */
public final class HiddenPromisesTest {
    private static final int NONE = Checks.NONE, BAD = Checks.BAD, STATE = Checks.STATE;

    private static void due(String call, long got, long want) {
        Checks.due(call, got, want);
    }

    private static int[] way(int kind, int a, int b) {
        return Checks.way(kind, a, b);
    }

    private static WolfVillage blind(WolfVillage x) {
        x.tell(1, 0);
        return x;
    }

    /** 5 - 4 - 3 - 2 - 1 - 0 over ways of five kinds. */
    private static WolfVillage row() {
        return Checks.village(6, way(1, 1, 0), way(5, 2, 1), way(3, 3, 2), way(4, 4, 3), way(0, 5, 4));
    }

    /** 0 in the midst of 1, 2 and 3, wells all. */
    private static WolfVillage star() {
        return Checks.wells(Checks.village(4, way(0, 0, 1), way(0, 0, 2), way(0, 0, 3)));
    }

    /** A plan on which some sets take 12 rounds, and some 13. */
    private static WolfVillage deep() {
        WolfVillage x = Checks.village(6, way(0, 2, 4), way(0, 0, 1), way(4, 1, 3), way(0, 1, 4), way(1, 0, 4),
            way(0, 1, 2), way(0, 1, 0), way(4, 3, 1), way(0, 3, 0), way(0, 0, 5));
        x.ground(2, 1);
        return blind(x);
    }

    // ---- promise 15

    static void promise15_sightIsOneAtFirst() {
        due("from an end", row().sees(0, 0), 3);
        due("from the midst", row().sees(3, 3), 28);
    }

    static void promise15_sightZeroSeesItsOwnPlaceAlone() {
        WolfVillage x = blind(row());
        for (int k = 0; k < 6; k++) {
            due("from " + k, x.sees(k, k), 1 << k);
        }
    }

    static void promise15_asManyWaysAsSightAndNoMore() {
        WolfVillage x = row();
        int[] fromTheLast = {32, 48, 56, 60};
        int[] fromTheFirst = {1, 3, 7, 15};
        for (int sight = 0; sight <= 3; sight++) {
            x.tell(1, sight);
            due("sight " + sight, x.sees(5, 5), fromTheLast[sight]);
            due("sight " + sight, x.sees(0, 0), fromTheFirst[sight]);
        }
    }

    static void promise15_waysOfAnyKindEitherWayRound() {
        for (int kind = 0; kind <= 5; kind++) {
            WolfVillage x = Checks.village(3, way(kind, 0, 1));
            due("from a over " + kind, x.sees(0, 0), 3);
            due("from b over " + kind, x.sees(1, 1), 3);
            due("from elsewhere", x.sees(2, 2), 4);
        }
    }

    static void promise15_fromAHillOneMore() {
        WolfVillage x = row();
        x.ground(5, 2);
        int[] seen = {48, 56, 60, 62};
        for (int sight = 0; sight <= 3; sight++) {
            x.tell(1, sight);
            due("sight " + sight, x.sees(5, 5), seen[sight]);
        }
        due("a hill that is seen is none to see from", x.sees(4, 4), 62);
        x.ground(5, 1);
        due("a well is none", x.sees(5, 5), 60);
    }

    static void promise15_bothHuntersSee() {
        WolfVillage x = blind(Checks.twoHunters(row()));
        x.ground(5, 2);
        due("one from a hill", x.sees(5, 0), 49);
        due("in the other order", x.sees(0, 5), 49);
        due("at one place", x.sees(2, 2), 4);
    }

    static void promise15_withOneHunterTheSecondPlaceDoesNotMatter() {
        for (int i : new int[] {-1, 0, 5, 6, Checks.LEAST, Checks.MOST}) {
            due("i " + i, row().sees(0, i), 3);
        }
    }

    static void promise15_placesTooSmallOrTooLargeAreBad() {
        for (int bad : new int[] {-1, 6, 7, Checks.LEAST, Checks.MOST}) {
            Checks.refuses("h " + bad, BAD, Checks::busy, x -> x.sees(bad, 0));
            Checks.refuses("i " + bad, BAD, Checks::busy, x -> x.sees(0, bad));
        }
        for (int p = 3; p <= 8; p++) {
            WolfVillage x = Checks.twoHunters(new WolfVillage(p - 3));
            due("the last of " + p, x.sees(p - 1, p - 1), 1 << p - 1);
            due("h of " + p, x.sees(p, 0), BAD);
            due("i of " + p, x.sees(0, p), BAD);
        }
    }

    static void promise15_shuttersAndEightPlacesDoNotMatter() {
        due("shutters", Checks.village(8, way(2, 7, 0), way(3, 0, 6)).sees(0, 0), 193);
    }

    // ---- promise 16

    static void promise16_anEmptySetTakesNoRound() {
        for (int p = 3; p <= 6; p++) {
            due("of " + p, Checks.wells(new WolfVillage(p - 3)).sure(0, 0, 0), 0);
        }
    }

    static void promise16_theirOwnPlaceTakesOneRound() {
        due("where the hunter is", Checks.wells(blind(Checks.path())).sure(0, 0, 1), 1);
        due("where both are", Checks.wells(Checks.twoHunters(blind(Checks.path()))).sure(0, 2, 5), 1);
    }

    static void promise16_placesWhereTheyGoToGoOut() {
        WolfVillage x = Checks.wells(blind(Checks.path()));
        due("to the one", x.sure(0, 0, 2), 1);
        due("to the first, to the midst, to the other", x.sure(1, 1, 5), 3);
    }

    static void promise16_fromAPlaceFromWhichItCanDoNeitherItIsCaught() {
        WolfVillage x = blind(new WolfVillage(0));
        due("no ways", x.sure(0, 0, 6), 1);
        x.ground(2, 1);
        due("2 is a well", x.sure(0, 0, 2), 1);
        due("2 is a well", x.sure(0, 0, 6), NONE);
        WolfVillage lone = Checks.village(3, way(4, 1, 2));
        due("a creep with no hunter beside", blind(lone).sure(0, 0, 2), NONE);
    }

    static void promise16_theRunnerDoesNotGoToWhereHuntersAre() {
        WolfVillage x = blind(Checks.path());
        due("both ends hold it", x.sure(1, 1, 5), 1);
        due("the hunter goes to the midst", x.sure(0, 0, 6), 1);
    }

    static void promise16_theRunnerStaysAtAWell() {
        WolfVillage x = blind(Checks.path());
        due("it must go", x.sure(0, 0, 4), 1);
        x.ground(2, 1);
        due("it stays", x.sure(0, 0, 4), 2);
    }

    static void promise16_theRunnerGoesOverHedgesHuntersDoNot() {
        WolfVillage x = blind(Checks.village(3, way(1, 0, 1)));
        due("over the hedge to the hunter it does not go", x.sure(0, 0, 2), 1);
        x.way(1, 1, 2);
        due("to and fro for ever", x.sure(0, 0, 2), NONE);
    }

    static void promise16_theFirstLookTellsWhereItIs() {
        // 3 - 1 - 0 - 2 - 4: seen at 1 it goes to 3, seen at 2 to 4; then the hunter shuts it in.
        WolfVillage x = Checks.village(5, way(0, 0, 1), way(0, 0, 2), way(0, 1, 3), way(0, 2, 4));
        due("seeing", x.sure(0, 0, 6), 2);
        due("blind", blind(x).sure(0, 0, 6) == 2 ? 1 : 0, 0);
    }

    static void promise16_theyLookAgainBehindTheRunnersMove() {
        // The rim of a wheel: from the midst it is seen behind its move, and then taken.
        WolfVillage x = Checks.wells(Checks.village(5, way(0, 0, 1), way(0, 0, 2), way(0, 0, 3), way(0, 0, 4),
            way(0, 1, 2), way(0, 2, 3), way(0, 3, 4), way(0, 4, 1)));
        due("seen, seen, taken", x.sure(0, 0, 30), 2);
    }

    static void promise16_whatIsSeenAndNotThereGoesOut() {
        due("seeing: seen, taken", star().sure(0, 0, 14), 2);
        due("blind: one by one", blind(star()).sure(0, 0, 14), 5);
    }

    static void promise16_seenAtPlaceZero() {
        WolfVillage x = Checks.wells(Checks.village(4, way(0, 3, 0), way(0, 3, 1), way(0, 3, 2)));
        due("a star around 3: seen, taken", x.sure(3, 3, 7), 2);
        due("at 0 alone", x.sure(3, 3, 1), 1);
        WolfVillage wheel = Checks.wells(Checks.village(5, way(0, 4, 0), way(0, 4, 1), way(0, 4, 2), way(0, 4, 3),
            way(0, 0, 1), way(0, 1, 2), way(0, 2, 3), way(0, 3, 0)));
        due("the rim of a wheel around 4", wheel.sure(4, 4, 15), 2);
        WolfVillage ring = Checks.wells(Checks.ring(4));
        ring.tell(1, 3);
        due("seen at 0, but never taken", ring.sure(2, 2, 1), NONE);
        due("at 1 it is taken at once", ring.sure(2, 2, 2), 1);
        due("seen behind its move, but never taken", ring.sure(1, 1, 8), NONE);
    }

    static void promise16_theSecondHuntersSixteenthWay() {
        WolfVillage x = blind(Checks.twoHunters(Checks.wells(new WolfVillage(2))));
        for (int k = 0; k < 15; k++) {
            x.way(0, 0, 1);
        }
        x.way(0, 4, 3);
        due("at once", x.sure(2, 4, 8), 1);
        due("over it", x.first(2, 4, 8), 32);
    }

    static void promise16_twelveRoundsAtMost() {
        WolfVillage x = deep();
        due("twelve", x.sure(1, 1, 21), 12);
        due("thirteen would be needed", x.sure(0, 0, 12), NONE);
        due("eleven", x.sure(0, 0, 18), 11);
    }

    static void promise16_neverIsNone() {
        WolfVillage x = Checks.wells(Checks.ring(4));
        due("one in a ring", x.sure(0, 0, 4), NONE);
        x.tell(0, 2);
        due("two hold it", x.sure(1, 3, 4), 1);
    }

    static void promise16_placesTooSmallOrTooLargeAreBad() {
        for (int bad : new int[] {-1, 6, 7, Checks.LEAST, Checks.MOST}) {
            Checks.refuses("h " + bad, BAD, Checks::busy, x -> x.sure(bad, 0, 1));
            Checks.refuses("i " + bad, BAD, Checks::busy, x -> x.sure(0, bad, 1));
        }
        due("i of one hunter", Checks.path().sure(0, 9, 0), 0);
    }

    static void promise16_bitsOfPlacesThatArentThereAreBad() {
        for (int p = 3; p <= 6; p++) {
            WolfVillage x = new WolfVillage(p - 3);
            due("all of " + p, x.sure(0, 0, (1 << p) - 1), 1);
            due("one more than " + p, x.sure(0, 0, 1 << p), BAD);
        }
        for (int set : new int[] {-1, 64, 65, 128, Checks.LEAST, Checks.MOST}) {
            Checks.refuses("set " + set, BAD, Checks::busy, x -> x.sure(0, 1, set));
        }
    }

    static void promise16_shuttersAreState() {
        for (int kind : new int[] {2, 3, 5}) {
            WolfVillage x = Checks.village(3, way(kind, 0, 1));
            due("a shutter " + kind, x.sure(0, 0, 0), STATE);
            x.unway();
            due("none", x.sure(0, 0, 0), 0);
        }
        Checks.refuses("shutters", STATE, Checks::busyWithShutters, x -> x.sure(0, 1, 4));
    }

    static void promise16_moreThanSixPlacesAreState() {
        due("six", new WolfVillage(3).sure(5, 5, 63), 1);
        due("seven", new WolfVillage(4).sure(0, 0, 127), STATE);
        due("seven, an empty set", new WolfVillage(4).sure(0, 0, 0), STATE);
        due("eight", new WolfVillage(5).sure(0, 0, 255), STATE);
    }

    static void promise16_badIsNamedAheadOfState() {
        due("bits of seven", new WolfVillage(4).sure(0, 0, 128), BAD);
        due("a place of seven", new WolfVillage(4).sure(7, 0, 1), BAD);
        Checks.refuses("bits with shutters", BAD, Checks::busyWithShutters, x -> x.sure(0, 1, 64));
        Checks.refuses("a place with shutters", BAD, Checks::busyWithShutters, x -> x.sure(0, 6, 1));
    }

    // ---- promise 17

    static void promise17_leastZeroOrNoneIsNone() {
        due("empty", Checks.path().first(0, 0, 0), NONE);
        due("never", Checks.wells(Checks.ring(4)).first(0, 0, 4), NONE);
        due("thirteen rounds", deep().first(0, 0, 12), NONE);
        due("twelve rounds", deep().first(1, 1, 21) >= 0 ? 1 : 0, 1);
    }

    static void promise17_theLeastMoveThatIsSureInLeastRounds() {
        due("stay", blind(Checks.path()).first(1, 1, 5), 0);
        due("over way 0", Checks.wells(blind(Checks.path())).first(1, 1, 5), 1);
        due("over way 1", Checks.wells(blind(Checks.path())).first(1, 1, 4), 2);
        WolfVillage x = Checks.wells(blind(Checks.village(3, way(1, 0, 1), way(0, 0, 1), way(0, 1, 0))));
        due("over way 1, 2 does as well", x.first(0, 0, 2), 2);
    }

    static void promise17_aMoveBehindWhichItIsNeverSureIsNone() {
        WolfVillage x = Checks.wells(Checks.ring(4));
        due("to stay would let it go", x.first(0, 0, 2), 1);
        due("to stay would let it go", x.first(0, 0, 8), 4);
    }

    static void promise17_theSecondHuntersMoveIsSixteenMore() {
        WolfVillage x = Checks.wells(blind(Checks.twoHunters(Checks.village(4, way(0, 3, 2)))));
        due("of the greater place's", x.first(0, 3, 4), 17);
        due("in the other order", x.first(3, 0, 4), 17);
        WolfVillage y = Checks.wells(blind(Checks.twoHunters(Checks.village(4, way(0, 0, 2)))));
        due("of the lesser place's", y.first(0, 3, 4), 1);
    }

    static void promise17_placesAndBitsThatArentThereAreBad() {
        for (int bad : new int[] {-1, 6, 7, Checks.LEAST, Checks.MOST}) {
            Checks.refuses("h " + bad, BAD, Checks::busy, x -> x.first(bad, 0, 1));
            Checks.refuses("i " + bad, BAD, Checks::busy, x -> x.first(0, bad, 1));
        }
        for (int set : new int[] {-1, 64, 65, Checks.LEAST, Checks.MOST}) {
            Checks.refuses("set " + set, BAD, Checks::busy, x -> x.first(0, 1, set));
        }
        due("all bits", new WolfVillage(3).first(0, 0, 63), 0);
        due("i of one hunter", Checks.path().first(0, 9, 0), NONE);
    }

    static void promise17_shuttersAndMoreThanSixPlacesAreState() {
        for (int kind : new int[] {2, 3, 5}) {
            due("a shutter " + kind, Checks.village(3, way(kind, 0, 1)).first(0, 0, 0), STATE);
        }
        Checks.refuses("shutters", STATE, Checks::busyWithShutters, x -> x.first(0, 1, 4));
        due("six", new WolfVillage(3).first(0, 0, 63), 0);
        due("seven", new WolfVillage(4).first(0, 0, 127), STATE);
        due("eight", new WolfVillage(5).first(0, 0, 0), STATE);
        due("bad is named ahead", new WolfVillage(4).first(0, 0, 128), BAD);
        due("bad is named ahead", new WolfVillage(4).first(-1, 0, 0), BAD);
    }

    public static void main(String[] args) {
        Checks.runAll(HiddenPromisesTest.class);
    }
}
