/** Section 7 of the terms and promises 28 to 31: sheets, ways by a sheet, ways taken for a kind. */
public final class HostPromisesTest {
    private static final int BAD = Checks.BAD;
    private static final int NOTHING = Checks.NOTHING, OUTSIDE = Checks.OUTSIDE;
    private static final int OTHER_SORT = Checks.OTHER_SORT, BELOW_ZERO = Checks.BELOW_ZERO;

    private static void due(String call, long got, long want) {
        Checks.due(call, got, want);
    }

    /** Eight places and sheet 0, a row of so many of a sort: ways 0 - 1 as far as it goes. */
    private static WolfVillage rowOf(int sort, int n) {
        WolfVillage x = new WolfVillage(5);
        due("a sheet", x.sheet(0, sort, n), 1);
        for (int k = 2; k < n; k += 3) {
            x.cell(0, k, 1);
        }
        return x;
    }

    // ---- promise 28

    static void term7_allSheetsAreMissingAtFirst() {
        WolfVillage x = new WolfVillage(0);
        for (int sheet = 0; sheet <= 3; sheet++) {
            due("cell of " + sheet, x.cell(sheet, 0, 0), NOTHING);
            for (int sort = 0; sort <= 2; sort++) {
                due("ways of " + sheet, x.ways(sheet, sort, 0, 0), NOTHING);
            }
        }
    }

    static void promise28_sheetTooSmallOrTooLargeIsBad() {
        for (int sheet : new int[] {-1, 4, Checks.LEAST, Checks.MOST}) {
            Checks.refuses("sheet " + sheet, BAD, Checks::busy, x -> x.sheet(sheet, 0, 1));
            Checks.refuses("sheet " + sheet + " missing", BAD, Checks::busy, x -> x.sheet(sheet, -1, 1));
            Checks.refuses("named ahead of -14", BAD, Checks::busy, x -> x.sheet(sheet, 0, -1));
        }
        for (int sheet = 0; sheet <= 3; sheet++) {
            due("sheet " + sheet, new WolfVillage(0).sheet(sheet, 0, 1), 1);
        }
    }

    static void promise28_sortTooSmallOrTooLargeIsBad() {
        for (int sort : new int[] {-2, 3, Checks.LEAST, Checks.MOST}) {
            Checks.refuses("sort " + sort, BAD, Checks::busy, x -> x.sheet(0, sort, 1));
            Checks.refuses("named ahead of -14", BAD, Checks::busy, x -> x.sheet(0, sort, -1));
        }
        for (int sort = 0; sort <= 2; sort++) {
            WolfVillage x = new WolfVillage(0);
            due("sort " + sort, x.sheet(1, sort, 1), 1);
            for (int taken = 0; taken <= 2; taken++) {
                due("taken for " + taken, x.ways(1, taken, 0, 0), taken == sort ? 0 : OTHER_SORT);
            }
        }
    }

    static void promise28_sizesAreZeroToForty() {
        for (int sort = 0; sort <= 2; sort++) {
            WolfVillage x = new WolfVillage(0);
            due("forty", x.sheet(0, sort, 40), 1);
            due("the last", x.cell(0, 39, 1), 1);
            due("behind the last", x.cell(0, 40, 1), OUTSIDE);
            due("none", x.sheet(0, sort, 0), 1);
            due("the first of none", x.cell(0, 0, 1), OUTSIDE);
        }
    }

    static void promise28_sizeAboveFortyIsBad() {
        for (int n : new int[] {41, 42, Checks.MOST}) {
            Checks.refuses("size " + n, BAD, Checks::busy, x -> x.sheet(0, 0, n));
            Checks.refuses("size " + n + " of one that is missing", BAD, Checks::busy, x -> x.sheet(3, 2, n));
        }
    }

    static void promise28_sizeBelowZeroIsItsOwn() {
        for (int n : new int[] {-1, -40, Checks.LEAST}) {
            Checks.refuses("size " + n, BELOW_ZERO, Checks::busy, x -> x.sheet(0, 0, n));
            Checks.refuses("size " + n + " of one that is missing", BELOW_ZERO, Checks::busy, x -> x.sheet(3, 2, n));
        }
    }

    static void promise28_sortMinusOneIsMissingWhateverTheSize() {
        for (int n : new int[] {0, 3, 40, 41, -1, Checks.LEAST, Checks.MOST}) {
            WolfVillage x = rowOf(0, 3);
            due("size " + n, x.sheet(0, -1, n), 1);
            due("missing", x.cell(0, 0, 0), NOTHING);
            due("once more", x.sheet(0, -1, n), 1);
        }
    }

    static void promise28_allAreZeroAnew() {
        WolfVillage x = rowOf(2, 3);
        x.cell(0, 0, 1);
        due("anew", x.sheet(0, 2, 3), 1);
        due("0 0 0 is no way", x.ways(0, 2, 0, 1), 0);
        x.cell(0, 2, 1);
        due("0 0 1 is one", x.ways(0, 2, 0, 1), 1);
        due("its kind", x.wayTold(0, 0), 0);
        WolfVillage y = rowOf(1, 6);
        y.sheet(0, 1, 3);
        y.sheet(0, 1, 6);
        due("shorter and longer again", y.ways(0, 1, 0, 2), 0);
    }

    static void promise28_otherSheetsStay() {
        WolfVillage x = rowOf(0, 3);
        x.sheet(1, 1, 3);
        x.sheet(2, -1, 0);
        due("sheet 0", x.ways(0, 0, 0, 1), 1);
        due("sheet 1", x.ways(1, 1, 0, 1), 0);
    }

    // ---- promise 29

    static void promise29_sheetTooSmallOrTooLargeIsBad() {
        for (int sheet : new int[] {-1, 4, Checks.LEAST, Checks.MOST}) {
            Checks.refuses("sheet " + sheet, BAD, Checks::busy, x -> x.cell(sheet, 0, 1));
        }
    }

    static void promise29_aMissingSheetIsNothing() {
        for (int i : new int[] {0, -1, 40, Checks.LEAST, Checks.MOST}) {
            Checks.refuses("item " + i, NOTHING, Checks::busy, x -> x.cell(3, i, 1));
        }
    }

    static void promise29_aPlaceOutside() {
        for (int i : new int[] {-1, 6, 39, 40, Checks.LEAST, Checks.MOST}) {
            Checks.refuses("item " + i + " of six", OUTSIDE, Checks::busy, x -> x.cell(0, i, 1));
            Checks.refuses("item " + i + " of none", OUTSIDE, Checks::busy, x -> x.cell(2, i, 1));
        }
        Checks.refuses("item 0 of none", OUTSIDE, Checks::busy, x -> x.cell(2, 0, 1));
        due("the last of six", Checks.busy().cell(0, 5, 1), 1);
        due("the first of six", Checks.busy().cell(0, 0, 1), 1);
    }

    /** Whether numbers that are 1, 2, 0 and so much more make the way 1, 2, 0. */
    private static void wraps(int sort, int more, boolean comes) {
        WolfVillage x = new WolfVillage(0);
        Checks.row(x, 1, sort, more + 1, more + 2, more);
        due("sort " + sort + " and " + more, x.ways(1, sort, 0, 1), comes ? 1 : 0);
        if (comes) {
            due("kind", x.wayTold(0, 0), 1);
            due("a", x.wayTold(0, 1), 2);
            due("b", x.wayTold(0, 2), 0);
        }
    }

    static void promise29_ofBytesTheLowestEightBits() {
        for (int more : new int[] {0, 256, -256, 512, 65536, 1 << 30, Checks.LEAST}) {
            wraps(0, more, true);
        }
        for (int more : new int[] {1, 128, 255, 64}) {
            wraps(0, 256 + more, false);
        }
    }

    static void promise29_ofShortsTheLowestSixteenBits() {
        for (int more : new int[] {0, 65536, -65536, 131072, 1 << 30, Checks.LEAST}) {
            wraps(1, more, true);
        }
        for (int more : new int[] {256, 128, 32768, 65535}) {
            wraps(1, 65536 + more, false);
        }
    }

    static void promise29_ofIntsAllBits() {
        wraps(2, 0, true);
        for (int more : new int[] {256, 65536, 1 << 30, Checks.LEAST}) {
            wraps(2, more, false);
        }
    }

    // ---- promise 30

    static void promise30_sheetTooSmallOrTooLargeIsBad() {
        for (int sheet : new int[] {-1, 4, Checks.LEAST, Checks.MOST}) {
            Checks.refuses("sheet " + sheet, BAD, Checks::busy, x -> x.ways(sheet, 0, 0, 1));
        }
    }

    static void promise30_sortTooSmallOrTooLargeIsBad() {
        for (int sort : new int[] {-2, -1, 3, Checks.LEAST, Checks.MOST}) {
            Checks.refuses("sort " + sort, BAD, Checks::busy, x -> x.ways(0, sort, 0, 1));
            Checks.refuses("of a sheet that is missing", BAD, Checks::busy, x -> x.ways(3, sort, 0, 1));
        }
    }

    static void promise30_nTooSmallOrTooLargeIsBad() {
        for (int n : new int[] {-1, 14, Checks.LEAST, Checks.MOST}) {
            Checks.refuses("n " + n, BAD, Checks::busy, x -> x.ways(0, 0, 0, n));
            Checks.refuses("named ahead of -13", BAD, Checks::busy, x -> x.ways(0, 1, 0, n));
            Checks.refuses("named ahead of -11", BAD, Checks::busy, x -> x.ways(3, 1, 0, n));
            Checks.refuses("named ahead of -12", BAD, Checks::busy, x -> x.ways(0, 0, -1, n));
        }
    }

    static void promise30_anotherSort() {
        for (int sort = 0; sort <= 2; sort++) {
            for (int taken = 0; taken <= 2; taken++) {
                int of = sort;
                int as = taken;
                if (sort != taken) {
                    Checks.refuses(sort + " as " + taken, OTHER_SORT, () -> rowOf(of, 9), x -> x.ways(0, as, 0, 3));
                    Checks.refuses("named ahead of -12", OTHER_SORT, () -> rowOf(of, 9), x -> x.ways(0, as, -1, 1));
                    Checks.refuses("none of them", OTHER_SORT, () -> rowOf(of, 9), x -> x.ways(0, as, 0, 0));
                } else {
                    due(sort + " as itself", rowOf(sort, 9).ways(0, taken, 0, 3), 3);
                }
            }
        }
    }

    static void promise30_aMissingSheetIsNothing() {
        for (int sort = 0; sort <= 2; sort++) {
            int taken = sort;
            Checks.refuses("some", NOTHING, Checks::busy, x -> x.ways(3, taken, 0, 1));
            Checks.refuses("none", NOTHING, Checks::busy, x -> x.ways(3, taken, 0, 0));
            Checks.refuses("named ahead of -12", NOTHING, Checks::busy, x -> x.ways(3, taken, -1, 1));
        }
        WolfVillage x = rowOf(2, 9);
        x.sheet(0, -1, 0);
        due("one that was", x.ways(0, 2, 0, 1), NOTHING);
    }

    static void promise30_outsideAtOnceChangesNothing() {
        for (int from : new int[] {-1, -3, 4, 5, 6, 40, Checks.LEAST, Checks.MOST, Checks.MOST - 1, Checks.MOST - 2}) {
            Checks.refuses("from " + from, OUTSIDE, Checks::busy, x -> x.ways(0, 0, from, 1));
            Checks.refuses("from " + from, OUTSIDE, Checks::busy, x -> x.ways(0, 0, from, 13));
        }
        Checks.refuses("of a row of none", OUTSIDE, Checks::busy, x -> x.ways(2, 2, 0, 1));
    }

    static void promise30_outsideLaterWhatStoodAheadCame() {
        for (int size = 6; size <= 8; size++) {
            WolfVillage x = rowOf(0, size);
            due("three of " + size, x.ways(0, 0, 0, 3), OUTSIDE);
            due("two came", x.count(1), 2);
        }
        WolfVillage x = rowOf(1, 40);
        due("thirteen from the third on", x.ways(0, 1, 3, 13), OUTSIDE);
        due("twelve came", x.count(1), 12);
        due("the thirteenth item alone is there", rowOf(0, 40).ways(0, 0, 39, 1), OUTSIDE);
    }

    static void promise30_theLastThatFit() {
        due("thirteen of thirty-nine", rowOf(0, 39).ways(0, 0, 0, 13), 13);
        due("thirteen of forty", rowOf(0, 40).ways(0, 0, 0, 13), 13);
        due("the last of thirty-nine", rowOf(0, 39).ways(0, 0, 36, 1), 1);
        due("not quite there", rowOf(0, 39).ways(0, 0, 37, 1), OUTSIDE);
        WolfVillage x = rowOf(0, 40);
        Checks.row(x, 1, 2, 9, 4, 6, 7);
        due("from 1 on", x.ways(1, 2, 1, 1), 1);
        due("kind", x.wayTold(0, 0), 4);
        due("a", x.wayTold(0, 1), 6);
        due("b", x.wayTold(0, 2), 7);
    }

    static void promise30_noneAskedIsNoneWhereverFrom() {
        for (int from : new int[] {0, -1, 40, 41, Checks.LEAST, Checks.MOST}) {
            Checks.refuses("from " + from, 0, Checks::busy, x -> x.ways(0, 0, from, 0));
        }
        Checks.refuses("of a row of none", 0, Checks::busy, x -> x.ways(2, 2, 0, 0));
    }

    static void promise30_othersAreLeftOut() {
        WolfVillage x = new WolfVillage(0);
        Checks.row(x, 0, 2, 0, 0, 1, 6, 0, 1, 0, 1, 1, 0, 3, 1, 0, 1, -1, -1, 0, 1, 2, 0, 1, 3, 1, 2, 5, 2, 0, 1, 0, 2);
        due("four come", x.ways(0, 2, 0, 10), 4);
        int[] kinds = {0, 2, 3, 1};
        for (int k = 0; k < kinds.length; k++) {
            due("the third shutter is left out", x.wayTold(k, 0), kinds[k]);
        }
    }

    static void promise30_beyondSixteenTheyAreLeftOut() {
        WolfVillage x = rowOf(0, 39);
        due("thirteen", x.ways(0, 0, 0, 13), 13);
        due("three have room", x.ways(0, 0, 0, 13), 3);
        due("none has room", x.ways(0, 0, 0, 13), 0);
        due("sixteen", x.count(1), 16);
        due("outside is told though none has room", x.ways(0, 0, 3, 13), OUTSIDE);
    }

    static void promise30_theGameEndsIfAWayCame() {
        WolfVillage x = rowOf(0, 9);
        x.cell(0, 2, 0);
        x.start(0, 0, 2);
        due("left out", x.ways(0, 0, 0, 1), 0);
        due("the game stays", x.count(8), 1);
        due("one comes", x.ways(0, 0, 3, 1), 1);
        due("the game ends", x.count(8), 0);
        WolfVillage y = rowOf(0, 4);
        y.start(0, 0, 2);
        due("outside later", y.ways(0, 0, 0, 2), OUTSIDE);
        due("the game ends", y.count(8), 0);
    }

    // ---- promise 31

    static void promise31_aKindAndThoseUnderIt() {
        int[][] fits = {{1, 0, 0, 0, 0, 0}, {1, 1, 0, 0, 0, 0}, {1, 0, 1, 0, 0, 0},
            {1, 0, 1, 1, 0, 0}, {1, 1, 0, 0, 1, 0}, {1, 0, 1, 0, 0, 1}};
        for (int kind = 0; kind <= 5; kind++) {
            WolfVillage x = new WolfVillage(0);
            x.way(kind, 2, 1);
            for (int k = 0; k <= 5; k++) {
                due(kind + " as " + k, x.taken(0, k), fits[kind][k] == 1 ? 2 : OTHER_SORT);
            }
        }
        Checks.refuses("a way as a hedge", OTHER_SORT, Checks::busy, x -> x.taken(0, 1));
    }

    static void promise31_kTooSmallOrTooLargeIsBad() {
        for (int k : new int[] {-1, 6, Checks.LEAST, Checks.MOST}) {
            Checks.refuses("k " + k, BAD, Checks::busy, x -> x.taken(0, k));
            Checks.refuses("named ahead of -11", BAD, Checks::busy, x -> x.taken(6, k));
            Checks.refuses("named ahead of -11", BAD, Checks::busy, x -> x.taken(-1, k));
        }
    }

    static void promise31_noSuchWayIsNothing() {
        for (int w : new int[] {-1, 6, 15, 16, Checks.LEAST, Checks.MOST}) {
            for (int k = 0; k <= 5; k++) {
                int as = k;
                Checks.refuses("way " + w, NOTHING, Checks::busy, x -> x.taken(w, as));
            }
        }
        due("the sixteenth", Checks.fullOf(0).taken(15, 0), 0);
        due("a seventeenth", Checks.fullOf(0).taken(16, 0), NOTHING);
        due("of none", new WolfVillage(0).taken(0, 0), NOTHING);
        WolfVillage x = Checks.path();
        x.unway();
        due("one that was taken away", x.taken(1, 0), NOTHING);
    }

    public static void main(String[] args) {
        Checks.runAll(HostPromisesTest.class);
    }
}
