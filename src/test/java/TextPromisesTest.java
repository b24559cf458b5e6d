/** Section 6 of the terms and promises 23 to 27: the tape, texts, the rule and what it says. */
public final class TextPromisesTest {
    private static final int BAD = Checks.BAD, FULL = Checks.FULL;
    private static final int FAULTS = -100;

    private static void due(String call, long got, long want) {
        Checks.due(call, got, want);
    }

    /** A text with a fault: the tape is empty then, and no text more is there. */
    private static void fault(String text, int place) {
        WolfVillage x = new WolfVillage(0);
        due("fault of [" + text + "]", Checks.read(x, text), FAULTS - place);
        due("the tape of [" + text + "] is empty", x.count(6), 0);
        due("[" + text + "] is no text", x.count(5), 1);
    }

    private static void good(String text) {
        WolfVillage x = new WolfVillage(0);
        due("text [" + text + "]", Checks.read(x, text), 1);
        due("the tape of [" + text + "] is empty", x.count(6), 0);
        due("[" + text + "] is a text", x.count(5), 2);
    }

    private static void value(String expression, long want) {
        WolfVillage x = Checks.path();
        due("text of " + expression, Checks.read(x, "grade " + expression + ";fair 0;"), 1);
        x.force(1);
        due("value of " + expression, x.says(0), want);
        WolfVillage y = Checks.path();
        due("text of " + expression, Checks.read(y, "grade 0;fair " + expression + ";"), 1);
        y.force(1);
        due("value of " + expression, y.says(1), want);
    }

    // ---- tokens

    static void term6_blanksAre32And10() {
        good("grade 1 ; fair 1 ;");
        good(" \n grade\n1\n;\nfair\n1\n;\n \n");
        good("grade1;fair1;");
        fault("grade\t1;fair 1;", 5);
        fault("grade 1;\rfair 1;", 8);
        fault("grade 1;fair 1;" + (char) 0, 15);
    }

    static void term6_wordsAreAsLongAsCanBe() {
        fault("gradewon;fair 1;", 0);
        fault("grade wonall;fair 1;", 6);
        fault("grade notwon;fair 1;", 6);
        fault("grade wo n;fair 1;", 6);
        good("grade not won;fair 1;");
        good("grade(won)and(all);fair-1;");
    }

    static void term6_numbersAreAsLongAsCanBe() {
        good("grade 9999;fair 0000;");
        fault("grade 10000;fair 1;", 6);
        fault("grade 00001;fair 1;", 6);
        fault("grade 1234567890123456789012345678901234567890;fair 1;", 6);
        fault("grade 1 + 12345;fair 1;", 10);
        fault("grade 12 34;fair 1;", 9);
    }

    static void term6_aWordBehindANumberIsAnotherToken() {
        fault("grade 1won;fair 1;", 7);
        good("grade 1or 2and 3;fair 1;");
        fault("grade won1;fair 1;", 9);
    }

    static void term6_bytesThatBeginNoToken() {
        String begin = "abcdefghijklmnopqrstuvwxyz0123456789();+-*<= \n";
        for (int c = 0; c < 256; c++) {
            if (begin.indexOf((char) c) < 0) {
                fault("grade " + (char) c + ";fair 1;", 6);
                fault("grade won" + (char) c + ";fair 1;", 9);
            }
        }
    }

    static void term6_wordsThatAreNeitherKeysNorNames() {
        String[] words = {"a", "z", "wo", "wons", "al", "alls", "longer", "puzzle", "way", "turning", "grades", "fai", "o", "an", "no"};
        for (String word : words) {
            fault("grade " + word + ";fair 1;", 6);
        }
        fault("grad 1;fair 1;", 0);
        fault("grade (wolf 1);fair 1;", 7);
        fault("grade -wolf 1;fair 1;", 7);
        fault("grade not wolf 1;fair 1;", 10);
        fault("grade grade 1;fair 1;", 6);
        fault("grades 1;fair 1;", 0);
        fault("grade Won;fair 1;", 6);
    }

    static void term6_eachNameAndItsValue() {
        // 0 - 1 - 2 with one hunter: four puzzles of length 1, two of length 2.
        value("won", 6);
        value("all", 6);
        value("longest", 2);
        value("puzzles", 6);
        value("ways", 2);
        value("turnings", 2);
    }

    static void term6_keysAreNoNames() {
        for (String key : new String[] {"grade", "fair", "or", "and"}) {
            fault("grade " + key + ";fair 1;", 6);
        }
        fault("grade not;fair 1;", 9);
    }

    // ---- the grammar and its faults

    static void term6_aTextIsGradeThenFair() {
        fault("fair 1;grade 1;", 0);
        fault("grade 1;grade 1;", 8);
        fault("1;fair 1;", 0);
        fault("grade;fair 1;", 5);
        fault("grade 1 fair 1;", 8);
        fault("grade 1;;fair 1;", 8);
        fault("grade 1;fair;", 12);
    }

    static void term6_behindTheTextThereIsNothing() {
        fault("grade 1;fair 1;;", 15);
        fault("grade 1;fair 1;  1", 17);
        fault("grade 1;fair 1;grade 1;fair 1;", 15);
        good("grade 1;fair 1;  \n ");
    }

    static void term6_aTextThatEndsTooEarlyHasItsSize() {
        String text = "grade ( 1 + - 2 ) * 3 < 4 and not 5 ; fair 6 or 7 ;";
        for (int size = 0; size < text.length(); size++) {
            boolean between = size == 0 || text.charAt(size - 1) == ' ' || text.charAt(size) == ' ';
            if (between) {
                fault(text.substring(0, size), size);
            }
        }
        good(text);
        fault("", 0);
        fault(" ", 1);
        fault(" \n \n ", 5);
        fault("grade 1;fair 1", 14);
        fault("grade 1;fair 1  ", 16);
    }

    static void term6_theFirstTokenThatCantStandThere() {
        fault("grade ) + $;fair 1;", 6);
        fault("grade 1 + + 2;fair 1;", 10);
        fault("grade 1 + * 2;fair 1;", 10);
        fault("grade * 2;fair 1;", 6);
        fault("grade 1 < < 2;fair 1;", 10);
        fault("grade 1 or or 2;fair 1;", 11);
        fault("grade 1 and;fair 1;", 11);
        fault("grade 1 (2);fair 1;", 8);
        fault("grade (1;fair 1;", 8);
        fault("grade 1);fair 1;", 7);
        fault("grade ();fair 1;", 7);
        fault("grade 1 not 2;fair 1;", 8);
    }

    static void term6_oneComparisonAtMost() {
        good("grade 1 < 2;fair 1 = 2;");
        fault("grade 1 < 2 < 3;fair 1;", 12);
        fault("grade 1 = 2 < 3;fair 1;", 12);
        fault("grade 1 < 2 = 3;fair 1;", 12);
        fault("grade not 1 < 2 < 3;fair 1;", 16);
        good("grade 1 < 2 and 2 < 3 or 3 = 4;fair (1 < 2) < 3;");
    }

    static void term6_notStandsAheadOfAComparisonAlone() {
        fault("grade 1 + not 1;fair 1;", 10);
        fault("grade 1 < not 1;fair 1;", 10);
        fault("grade 2 * not 1;fair 1;", 10);
        fault("grade - not 1;fair 1;", 8);
        good("grade 1 + (not 1);fair not not 1;");
        good("grade 1 and not 1 or not 1;fair 1;");
    }

    // ---- five are open at most

    static void term6_fiveParenthesesAreOpenAtMost() {
        good("grade (((((1)))));fair 1;");
        fault("grade ((((((1))))));fair 1;", 11);
    }

    static void term6_fiveNotsAreOpenAtMost() {
        good("grade not not not not not 1;fair 1;");
        fault("grade not not not not not not 1;fair 1;", 26);
    }

    static void term6_fiveMinusSignsAreOpenAtMost() {
        good("grade -----1;fair 1;");
        fault("grade ------1;fair 1;", 11);
    }

    static void term6_theyAreCountedTogether() {
        good("grade not (not (-1));fair 1;");
        good("grade not ( - ( - 1 ) );fair 1;");
        fault("grade not ( - ( - ( 1 ) ) );fair 1;", 18);
        fault("grade not not not not not -1;fair 1;", 26);
        fault("grade -----(1);fair 1;", 11);
        fault("grade (((((not 1)))));fair 1;", 11);
        fault("grade (((((-1)))));fair 1;", 11);
    }

    static void term6_aMinusBetweenIsNotOpen() {
        good("grade (((((1-2-3)))));fair 1;");
        fault("grade (((((1--2)))));fair 1;", 13);
    }

    static void term6_aParenthesisIsOpenTillItsOther() {
        good("grade (((((1))))) + (((((1)))));fair (((((1)))));");
        good("grade ((((1)+(1))+(1))+(1))+(1);fair 1;");
        fault("grade ((((1)+(((1)))))));fair 1;", 15);
    }

    static void term6_aNotIsOpenTillItsComparisonEnds() {
        good("grade not not not not not 1 and not not not not not 1;fair 1;");
        good("grade not 1 + ((((1))));fair 1;");
        fault("grade not 1 + (((((1)))));fair 1;", 18);
        fault("grade not 1 < (((((1)))));fair 1;", 18);
        good("grade not 1 and (((((1)))));fair 1;");
        good("grade not 1 or (((((1)))));fair 1;");
    }

    static void term6_aMinusIsOpenTillItsOneEnds() {
        good("grade -----1 * -----1;fair 1;");
        good("grade - 1 + (((((1)))));fair 1;");
        good("grade - 1 * (((((1)))));fair 1;");
        fault("grade - (((((1)))));fair 1;", 12);
        good("grade - ((((1)))) * (((((1)))));fair 1;");
    }

    static void term6_gradesOpenOnesAreEndedAheadOfFair() {
        good("grade not ----1;fair not ----1;");
        good("grade not not not not not 1;fair not not not not not 1;");
        good("grade -----1;fair -----1;");
    }

    // ---- values

    static void term6_theOrderOfReckoning() {
        value("2 + 3 * 4", 14);
        value("(2 + 3) * 4", 20);
        value("10 - 3 - 2", 5);
        value("10 - 3 + 2", 9);
        value("-3 * 2 + 1", -5);
        value("2 * -3", -6);
        value("--3", 3);
        value("1 or 1 and 0", 1);
        value("(1 or 1) and 0", 0);
        value("not 0 and 0", 0);
        value("not 1 = 2", 1);
        value("(not 1) = 2", 0);
        value("1 + 1 < 3", 1);
    }

    static void term6_comparisonsAndKeysComeToOneOrZero() {
        value("7", 7);
        value("7 or 0", 1);
        value("0 or 7", 1);
        value("0 or 0", 0);
        value("7 and 2", 1);
        value("7 and 0", 0);
        value("0 and 7", 0);
        value("-7 and -2", 1);
        value("not 7", 0);
        value("not 0", 1);
        value("not -1", 0);
        value("not not 7", 1);
        value("2 < 3", 1);
        value("3 < 3", 0);
        value("4 < 3", 0);
        value("-1 < 0", 1);
        value("3 = 3", 1);
        value("3 = 4", 0);
        value("0007 = 7", 1);
    }

    static void term6_intsWrapAround() {
        value("9999 * 9999 * 9999", 9999 * 9999 * 9999);
        value("8192 * 8192 * 32", Integer.MIN_VALUE);
        value("8192 * 8192 * 32 - 1", Integer.MAX_VALUE);
        value("-(8192 * 8192 * 32)", Integer.MIN_VALUE);
        value("0 - 8192 * 8192 * 32", Integer.MIN_VALUE);
        value("8192 * 8192 * 64", 0);
        value("not 8192 * 8192 * 64", 1);
        value("8192 * 8192 * 32 - 1 + 1 < 0", 1);
        value("8192 * 8192 * 32 < 8192 * 8192 * 32 - 1", 1);
    }

    static void term6_textZeroIsTheRuleAtFirst() {
        WolfVillage x = Checks.path();
        due("the rule", x.count(7), 0);
        due("longest * 10 + puzzles", x.says(0), 26);
        due("won * 2 = all", x.says(1), 0);
        WolfVillage half = Checks.wells(Checks.village(4, Checks.way(0, 0, 1), Checks.way(0, 1, 2)));
        due("6 of 12", half.says(1), 1);
        WolfVillage none = Checks.wells(new WolfVillage(0));
        due("none won", none.says(0), 0);
        due("none won", none.says(1), 0);
    }

    // ---- promise 23

    private static WolfVillage tapeOf(int size) {
        WolfVillage x = new WolfVillage(0);
        for (int k = 0; k < size; k++) {
            x.feed(1, 32);
        }
        due("the tape's size", x.count(6), size);
        return x;
    }

    static void promise23_bytesTooFewOrTooManyAreBad() {
        for (int n : new int[] {-1, 0, 9, Checks.LEAST, Checks.MOST}) {
            Checks.refuses("feed " + n, BAD, Checks::busy, x -> x.feed(n, 32));
            due("named ahead of full", tapeOf(120).feed(n, 32), BAD);
        }
    }

    static void promise23_oneToEightBytesComeBehind() {
        WolfVillage x = new WolfVillage(0);
        int size = 0;
        for (int n = 1; n <= 8; n++) {
            size += n;
            due("feed " + n, x.feed(n, 0), size);
        }
    }

    static void promise23_theNLowestBytesTheLowestFirst() {
        WolfVillage x = new WolfVillage(0);
        long grade = 'g' | 'r' << 8 | 'a' << 16 | (long) 'd' << 24 | (long) 'e' << 32;
        due("five, others are left out", x.feed(5, grade | 0x7f8182L << 40), 5);
        due("one", x.feed(1, '1' | 0xffffff00L), 6);
        due("eight", x.feed(8, ';' | 'f' << 8 | 'a' << 16 | (long) 'i' << 24 | (long) 'r' << 32 | (long) '2' << 40
            | (long) ';' << 48 | (long) ' ' << 56), 14);
        due("a text", x.text(), 1);
        x.force(1);
        due("grade", x.says(0), 1);
        due("fair", x.says(1), 2);
    }

    static void promise23_theTapeHas120BytesAtMost() {
        for (int n = 1; n <= 8; n++) {
            due("fits with " + n, tapeOf(120 - n).feed(n, 0), 120);
            due("one too many with " + n, tapeOf(121 - n).feed(n, 0), FULL);
        }
        due("full", tapeOf(120).feed(8, 0), FULL);
    }

    static void promise23_aRefusedFeedAddsNotEvenAPart() {
        Checks.refuses("eight with room for seven", FULL, () -> tapeOf(113), x -> x.feed(8, -1L));
        Checks.refuses("one with room for none", FULL, () -> tapeOf(120), x -> x.feed(1, '1'));
    }

    static void promise23_thereIsRoomAgainBehindAText() {
        WolfVillage x = tapeOf(120);
        due("a fault", x.text(), FAULTS - 120);
        due("room", x.feed(8, 0), 8);
    }

    // ---- promise 24

    private static WolfVillage sixTexts() {
        WolfVillage x = new WolfVillage(0);
        for (int k = 1; k <= 5; k++) {
            due("its number", Checks.read(x, "grade " + k + ";fair ways;"), k);
            due("texts", x.count(5), k + 1);
        }
        return x;
    }

    static void promise24_anEmptyTapeHasItsFaultAtZero() {
        WolfVillage x = new WolfVillage(0);
        due("never fed", x.text(), FAULTS);
        Checks.read(x, "grade 1;fair 1;");
        due("emptied", x.text(), FAULTS);
    }

    static void promise24_aTextOf120Bytes() {
        StringBuilder text = new StringBuilder("grade 1;fair 1");
        while (text.length() < 119) {
            text.append(text.length() % 2 == 0 ? ' ' : '\n');
        }
        good(text + ";");
        fault(text + " ", 120);
        fault(text + "$", 119);
    }

    static void promise24_textsAreNumberedFromOneToFive() {
        due("six with the first", sixTexts().count(5), 6);
    }

    static void promise24_aSeventhTextIsFullAndTheTapeStays() {
        Checks.refuses("a good one", FULL, () -> {
            WolfVillage x = sixTexts();
            Checks.feed(x, "grade 1;fair 1;");
            return x;
        }, WolfVillage::text);
        Checks.refuses("one with a fault", FULL, () -> {
            WolfVillage x = sixTexts();
            Checks.feed(x, "grade");
            return x;
        }, WolfVillage::text);
        Checks.refuses("an empty tape", FULL, TextPromisesTest::sixTexts, WolfVillage::text);
        WolfVillage x = sixTexts();
        x.feed(3, 0);
        due("no room", x.text(), FULL);
        due("behind what stayed", x.feed(2, 0), 5);
    }

    static void promise24_aFaultTakesNoNumber() {
        WolfVillage x = new WolfVillage(0);
        due("a fault", Checks.read(x, "grade $"), FAULTS - 6);
        due("a text", Checks.read(x, "grade 1;fair 1;"), 1);
        due("a fault", Checks.read(x, "grade 1;"), FAULTS - 8);
        due("a text", Checks.read(x, "grade 2;fair 1;"), 2);
    }

    static void promise24_aTextIsNotTheRuleByItself() {
        WolfVillage x = new WolfVillage(0);
        Checks.read(x, "grade 77;fair 1;");
        due("the rule", x.count(7), 0);
        due("the first's grade", x.says(0), 16);
    }

    static void promise24_laterBytesDoNotChangeATextThatIs() {
        WolfVillage x = new WolfVillage(0);
        Checks.read(x, "grade 77;fair 1;");
        Checks.feed(x, "grade 88;fair 0;");
        x.force(1);
        due("its grade", x.says(0), 77);
        due("its fair", x.says(1), 1);
    }

    // ---- promise 25

    static void promise25_tellsWhichWas() {
        WolfVillage x = sixTexts();
        due("the first was", x.force(5), 0);
        due("the last was", x.force(3), 5);
        due("itself", x.force(3), 3);
        due("back to the first", x.force(0), 3);
        due("the rule", x.count(7), 0);
    }

    static void promise25_textTooSmallOrTooLargeIsBad() {
        for (int text : new int[] {-1, 2, 5, 6, Checks.LEAST, Checks.MOST}) {
            Checks.refuses("text " + text, BAD, Checks::busy, x -> x.force(text));
        }
        due("1 of a new object", new WolfVillage(0).force(1), BAD);
        due("6 of six", sixTexts().force(6), BAD);
        due("5 of six", sixTexts().force(5), 0);
    }

    // ---- promise 26

    static void promise26_gradeAndFair() {
        WolfVillage x = sixTexts();
        x.force(4);
        due("grade", x.says(0), 4);
        due("fair", x.says(1), 0);
        x.way(0, 0, 1);
        due("fair of the plan as it is", x.says(1), 1);
    }

    static void promise26_partTooSmallOrTooLargeIsNo() {
        for (int part : new int[] {-1, 2, Checks.LEAST, Checks.MOST}) {
            Checks.refuses("part " + part, WolfVillage.NO, Checks::busy, x -> x.says(part));
        }
    }

    static void promise26_anIntBelowZeroStaysBelowZero() {
        value("-1", -1);
        value("1 - 9999", -9998);
    }

    static void promise26_puzzlesOfAllLengthsAndTurningsOfEightPlaces() {
        WolfVillage x = new WolfVillage(5);
        Checks.read(x, "grade turnings;fair puzzles;");
        x.force(1);
        due("turnings", x.says(0), 40320);
        // Without ways and wells the runner is caught wherever it is: staying is the one move.
        due("puzzles", x.says(1), 56);
    }

    // ---- promise 27

    static void promise27_tellsHowMany() {
        WolfVillage x = Checks.busy();
        int[] answers = {6, 6, 0, 2, 0, 2, 15, 1, 1};
        for (int what = 0; what < answers.length; what++) {
            due("count(" + what + ")", x.count(what), answers[what]);
        }
        due("shutters", Checks.busyWithShutters().count(2), 2);
    }

    static void promise27_whatTooSmallOrTooLargeIsBad() {
        for (int what : new int[] {-1, 9, Checks.LEAST, Checks.MOST}) {
            Checks.refuses("what " + what, BAD, Checks::busy, x -> x.count(what));
        }
    }

    static void promise27_aGameIsThereTillItEndsThoughItIsCaught() {
        WolfVillage x = Checks.path();
        due("none", x.count(8), 0);
        x.start(0, 0, 1);
        due("one", x.count(8), 1);
        x.move(1);
        due("caught", x.told(7), 1);
        due("still one", x.count(8), 1);
        x.unway();
        due("none", x.count(8), 0);
    }

    public static void main(String[] args) {
        Checks.runAll(TextPromisesTest.class);
    }
}
