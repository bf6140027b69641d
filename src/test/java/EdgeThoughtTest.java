/** The boundary cases of promises 19 to 37: what is only thought, beside how days go. */
public final class EdgeThoughtTest extends Edge {
    public static void main(String[] args) {
        run(EdgeThoughtTest.class, 19, 20, 21, 22, 23, 24, 25, 26, 27, 28, 29, 30, 31, 32, 33, 34, 35, 36, 37);
    }

    // ---- promises 19 and 20: crossing, braid

    static KnotLaundry braided(int... crossings) {
        KnotLaundry x = new KnotLaundry();
        for (int k : crossings) x.crossing(k);
        return x;
    }

    static void p19OneToFour() {
        says(19, "(k, 1 .. 4, or less k: the strands at places k - 1 and k change places, the one way or the other)");
        KnotLaundry x = new KnotLaundry();
        due("crossing(1)", x.crossing(1), 1);
        due("crossing(4)", x.crossing(4), 2);
        due("crossing(-1)", x.crossing(-1), 3);
        due("crossing(-4)", x.crossing(-4), 4);
        String was = all(x);
        for (int k : new int[] {5, -5, LEAST, MOST}) due("crossing(" + k + ")", x.crossing(k), NONE);
        same("four refused", was, x);
        due("crossing(2)", x.crossing(2), 5);
    }

    static void p19NoughtEmpties() {
        says(19, "A crossing of BRAID (0: it is empty then): how many");
        KnotLaundry x = braided(1, 2, 3);
        due("braid(NONE)", x.braid(NONE), 3);
        due("crossing(0)", x.crossing(0), 0);
        due("braid(NONE)", x.braid(NONE), 0);
        due("braid(0)", x.braid(0), 0);
        due("crossing(0), empty already", x.crossing(0), 0);
        due("crossing(4)", x.crossing(4), 1);
    }

    static void p19Twelve() {
        says(19, "NONE if one can't be, or there are twelve.");
        KnotLaundry x = new KnotLaundry();
        for (int i = 1; i <= 11; i++) due("crossing(1), " + i, x.crossing(1), i);
        due("crossing(2), the twelfth", x.crossing(2), 12);
        due("braid(NONE)", x.braid(NONE), 12);
        due("braid(0)", x.braid(0), 2);
        String was = all(x);
        due("crossing(1), the thirteenth", x.crossing(1), NONE);
        due("crossing(-2), that would undo the last", x.crossing(-2), NONE);
        same("two refused", was, x);
        due("crossing(0)", x.crossing(0), 0);
        due("crossing(1)", x.crossing(1), 1);
    }

    static void p20Places() {
        says(20, "BRAID: where the strand of place p (0 .. 4) ends; how many are left (p NONE). NONE if one can't be.");
        KnotLaundry x = new KnotLaundry();
        for (int p = 0; p <= 4; p++) due("braid(" + p + "), none told", x.braid(p), p);
        x.crossing(1);
        for (int p : new int[] {-2, 5, LEAST, MOST}) due("braid(" + p + ")", x.braid(p), NONE);
        due("braid(NONE)", x.braid(NONE), 1);
        due("braid(0)", x.braid(0), 1);
        due("braid(1)", x.braid(1), 0);
        due("braid(4)", x.braid(4), 4);
        x.crossing(-4);
        due("braid(3)", x.braid(3), 4);
        due("braid(4)", x.braid(4), 3);
        due("braid(2)", x.braid(2), 2);
    }

    static void p20FromEndToEnd() {
        says(20, "at which place the strand that began at place p ends");
        KnotLaundry x = braided(1, -2, 3, -4);
        due("braid(0), all the way", x.braid(0), 4);
        for (int p = 1; p <= 4; p++) due("braid(" + p + ")", x.braid(p), p - 1);
        KnotLaundry y = braided(4, 3, 2, 1);
        due("braid(4), all the way back", y.braid(4), 0);
        for (int p = 0; p <= 3; p++) due("braid(" + p + ")", y.braid(p), p + 1);
    }

    static void p20NoneTold() {
        says(20, "till there are none (none told: 0)");
        due("braid(NONE)", new KnotLaundry().braid(NONE), 0);
        due("braid(NONE), of one", braided(3).braid(NONE), 1);
        due("braid(NONE), 1 -1", braided(1, -1).braid(NONE), 0);
        due("braid(NONE), -1 1", braided(-1, 1).braid(NONE), 0);
        due("braid(NONE), to and fro", braided(1, -1, 1, -1, 1).braid(NONE), 1);
    }

    static void p20AgainAndAgain() {
        says(20, "if two next to one another that undo each other (k and less k) are taken out again and again");
        due("braid(NONE), 1 1", braided(1, 1).braid(NONE), 2);
        due("braid(NONE), 1 -2", braided(1, -2).braid(NONE), 2);
        due("braid(NONE), 1 2 -1", braided(1, 2, -1).braid(NONE), 3);
        due("braid(NONE), 1 2 -2 -1", braided(1, 2, -2, -1).braid(NONE), 0);
        due("braid(NONE), 1 2 -2 1", braided(1, 2, -2, 1).braid(NONE), 2);
        due("braid(NONE), all twelve", braided(1, 2, 3, 4, -1, 2, -2, 1, -4, -3, -2, -1).braid(NONE), 0);
        due("braid(NONE), the first and the last stay", braided(1, 2, 3, 4, -1, 2, -2, 1, -4, -3, -2, 1).braid(NONE), 2);
    }

    // ---- promise 21: turnings

    static void p21OneToSevenDigits() {
        says(21, "a told row of 1 .. 7 digits behind a 1 (each of 0 .. n - 1 once)");
        KnotLaundry x = new KnotLaundry();
        int[] taken = {10, 101, 110, 1021, 13210, 10123456, 16543210};
        int[] fewest = {0, 0, 1, 3, 1, 0, 1};
        for (int i = 0; i < taken.length; i++) due("turnings(" + taken[i] + ", 0)", x.turnings(taken[i], 0), fewest[i]);
        int[] refused = {1, 0, -1, -10, 9, 11, 19, 20, 99, 100, 111, 102, 112, 120, 201, 1013, 1001, 1020, 1023, 10012345, 10123457,
            20123456, 99999999, 101234567, 107654321, 100000000, 1012345678, LEAST, MOST};
        for (int row : refused) {
            due("turnings(" + row + ", 0)", x.turnings(row, 0), NONE);
            due("turnings(" + row + ", 1)", x.turnings(row, 1), NONE);
        }
    }

    static void p21AnotherWhat() {
        says(21, "TURNINGS of a row what 0 the fewest, 1 how many couples. NONE if one can't be, or another what.");
        KnotLaundry x = new KnotLaundry();
        due("turnings(1021, 0)", x.turnings(1021, 0), 3);
        due("turnings(1021, 1)", x.turnings(1021, 1), 1);
        for (int what : new int[] {-1, 2, LEAST, MOST}) due("turnings(1021, " + what + ")", x.turnings(1021, what), NONE);
    }

    static void p21TheFewest() {
        says(21, "the fewest turnings of some first ones (their order turned about) by which it becomes 0, 1, 2, ..");
        KnotLaundry x = new KnotLaundry();
        // In order already, and the longest that there are of each length.
        int[] inOrder = {10, 101, 1012, 10123, 101234, 1012345, 10123456};
        for (int row : inOrder) due("turnings(" + row + ", 0)", x.turnings(row, 0), 0);
        int[] longest = {110, 1021, 13120, 11302, 12031, 1425031, 1351402, 15130624, 15206314, 14620513, 10642513};
        int[] fewest = {1, 3, 4, 4, 4, 7, 7, 8, 8, 8, 8};
        for (int i = 0; i < longest.length; i++) due("turnings(" + longest[i] + ", 0)", x.turnings(longest[i], 0), fewest[i]);
    }

    static void p21Neighbours() {
        says(21, "how many couples side by side in it are not neighbours as numbers");
        KnotLaundry x = new KnotLaundry();
        due("turnings(10, 1), no couple", x.turnings(10, 1), 0);
        due("turnings(110, 1)", x.turnings(110, 1), 0);
        due("turnings(10123456, 1), upwards", x.turnings(10123456, 1), 0);
        due("turnings(16543210, 1), downwards", x.turnings(16543210, 1), 0);
        due("turnings(11302, 1), all", x.turnings(11302, 1), 3);
        due("turnings(10246135, 1), all", x.turnings(10246135, 1), 6);
        due("turnings(11023456, 1), the second alone", x.turnings(11023456, 1), 1);
        due("turnings(10123465, 1), the one ahead of the last", x.turnings(10123465, 1), 1);
    }

    // ---- promise 22: strip

    static void p22WhichCanBe() {
        says(22, "NONE if one can't be (i 0 .. 2 to the k, less 1), or another what.");
        KnotLaundry x = new KnotLaundry();
        for (int k = 0; k <= 6; k++) {
            int cells = 1 << k;
            for (int what = 0; what <= 2; what++) {
                due("strip(" + 64 * k + ", " + (cells - 1) + ", " + what + ")", x.strip(64 * k, cells - 1, what) == NONE, false);
                due("strip(" + 64 * k + ", 0, " + what + ")", x.strip(64 * k, 0, what) == NONE, false);
                due("strip(" + 64 * k + ", " + cells + ", " + what + ")", x.strip(64 * k, cells, what), NONE);
                due("strip(" + 64 * k + ", -1, " + what + ")", x.strip(64 * k, -1, what), NONE);
            }
        }
        // However great f is, k alone tells how many cells there are.
        for (int k = 0; k <= 6; k++) {
            for (int what = 0; what <= 2; what++) {
                due("strip(" + (64 * k + 63) + ", " + (1 << k) + ", " + what + ")", x.strip(64 * k + 63, 1 << k, what), NONE);
            }
            due("strip(" + (64 * k + 63) + ", " + ((1 << k) - 1) + ", 0)", x.strip(64 * k + 63, (1 << k) - 1, 0) == NONE, false);
        }
        for (int i : new int[] {LEAST, MOST}) due("strip(64, " + i + ", 0)", x.strip(64, i, 0), NONE);
        for (int what : new int[] {-1, 3, LEAST, MOST}) due("strip(64, 0, " + what + ")", x.strip(64, 0, what), NONE);
    }

    static void p22KAndF() {
        says(22, "STRIP: kf is 64 times k and f");
        KnotLaundry x = new KnotLaundry();
        for (int kf : new int[] {-1, 448, -64, LEAST, MOST}) {
            for (int what = 0; what <= 2; what++) due("strip(" + kf + ", 0, " + what + ")", x.strip(kf, 0, what), NONE);
        }
        due("strip(0, 0, 0)", x.strip(0, 0, 0), 0);
        due("strip(0, 0, 2)", x.strip(0, 0, 2), 1);
        due("strip(447, 63, 0), the last of k and f", x.strip(447, 63, 0), 63);
        due("strip(447, 0, 0)", x.strip(447, 0, 0), 62);
        due("strip(384, 63, 0)", x.strip(384, 63, 0), 0);
        due("strip(384, 0, 0)", x.strip(384, 0, 0), 1);
    }

    static void p22BitsFromKOn() {
        says(22, "bits of f from k on do not count");
        KnotLaundry x = new KnotLaundry();
        for (int what = 0; what <= 2; what++) {
            due("strip(63, 0, " + what + "), never folded", x.strip(63, 0, what), what == 2 ? 1 : 0);
            for (int i = 0; i < 4; i++) {
                due("strip(128 + 60, " + i + ", " + what + ")", x.strip(128 + 60, i, what), x.strip(128, i, what));
                due("strip(128 + 63, " + i + ", " + what + ")", x.strip(128 + 63, i, what), x.strip(128 + 3, i, what));
                due("strip(128 + 62, " + i + ", " + what + ")", x.strip(128 + 62, i, what), x.strip(128 + 2, i, what));
            }
        }
        // The highest bit that does count.
        due("strip(64, 0, 0)", x.strip(64, 0, 0), 1);
        due("strip(64 + 1, 0, 0)", x.strip(64 + 1, 0, 0), 0);
        due("strip(128 + 2, 0, 0)", x.strip(128 + 2, 0, 0), 0);
        due("strip(384 + 31, 0, 0) is another than with bit 5", x.strip(384 + 31, 0, 0) == x.strip(447, 0, 0), false);
    }

    static void p22WhichHalfUponWhich() {
        says(22, "0: the right half is turned over upon the left one, 1: the left half upon the right one, the outermost pile upon the outermost one");
        KnotLaundry x = new KnotLaundry();
        // From above, by f.
        int[][] two = {{1, 0}, {0, 1}};
        int[][] four = {{1, 2, 3, 0}, {3, 0, 1, 2}, {0, 3, 2, 1}, {2, 1, 0, 3}};
        for (int f = 0; f < 2; f++) {
            for (int i = 0; i < 2; i++) due("strip(64 + " + f + ", " + i + ", 0)", x.strip(64 + f, i, 0), two[f][i]);
        }
        for (int f = 0; f < 4; f++) {
            for (int i = 0; i < 4; i++) {
                due("strip(128 + " + f + ", " + i + ", 0)", x.strip(128 + f, i, 0), four[f][i]);
                due("strip(128 + " + f + ", " + four[f][i] + ", 1)", x.strip(128 + f, four[f][i], 1), i);
            }
        }
    }

    static void p22OfSixtyFourCells() {
        says(22, "STRIP of 2 to the k cells (k 0 .. 6) in a row, 0 first from the left, each face up");
        KnotLaundry x = new KnotLaundry();
        int[] pile = {0};
        for (int k = 1; k <= 6; k++) {
            // Folded once, each cell j has the one of the right half upon it; a cell that lies face down later turns both.
            int cells = 1 << k;
            int[] next = new int[cells];
            for (int i = 0; i < cells / 2; i++) {
                int j = pile[i];
                next[2 * i] = j % 2 == 0 ? cells - 1 - j : j;
                next[2 * i + 1] = j % 2 == 0 ? j : cells - 1 - j;
            }
            pile = next;
            for (int i = 0; i < cells; i += k < 4 ? 1 : 5) {
                due("strip(" + 64 * k + ", " + i + ", 0)", x.strip(64 * k, i, 0), pile[i]);
                due("strip(" + 64 * k + ", " + pile[i] + ", 1)", x.strip(64 * k, pile[i], 1), i);
                due("strip(" + 64 * k + ", " + i + ", 2)", x.strip(64 * k, i, 2), (i + 1) % 2);
                // The other halves: as in a mirror.
                due("strip(" + (64 * k + 63) + ", " + i + ", 0)", x.strip(64 * k + 63, i, 0), cells - 1 - pile[i]);
            }
        }
    }

    static void p22FaceUp() {
        says(22, "whether cell i lies face up (1, 0)");
        KnotLaundry x = new KnotLaundry();
        due("strip(64, 0, 2), it lay still", x.strip(64, 0, 2), 1);
        due("strip(64, 1, 2), turned once", x.strip(64, 1, 2), 0);
        due("strip(65, 0, 2), turned once", x.strip(65, 0, 2), 0);
        due("strip(65, 1, 2), it lay still", x.strip(65, 1, 2), 1);
        due("strip(128, 2, 2), turned twice", x.strip(128, 2, 2), 1);
        due("strip(128, 3, 2), turned once", x.strip(128, 3, 2), 0);
        due("strip(130, 0, 2), turned once at last", x.strip(130, 0, 2), 0);
        due("strip(130, 3, 2), turned twice", x.strip(130, 3, 2), 1);
    }

    // ---- promises 23 and 24: answer, boxes

    static void p23OneOrNought() {
        says(23, "An answer for BOXES (NONE: none is then): how many");
        KnotLaundry x = new KnotLaundry();
        due("answer(0)", x.answer(0), 1);
        due("answer(1)", x.answer(1), 2);
        String was = all(x);
        for (int v : new int[] {2, -2, LEAST, MOST}) due("answer(" + v + ")", x.answer(v), NONE);
        same("four refused", was, x);
        due("boxes(0)", x.boxes(0), 2);
        due("answer(NONE)", x.answer(NONE), 0);
        due("boxes(0)", x.boxes(0), 1);
        due("boxes(1)", x.boxes(1), 0);
        due("answer(NONE), none already", x.answer(NONE), 0);
        due("answer(1)", x.answer(1), 1);
    }

    static void p23Sixteen() {
        says(23, "NONE if one can't be, or there are sixteen.");
        KnotLaundry x = new KnotLaundry();
        for (int i = 1; i <= 15; i++) due("answer(0), " + i, x.answer(0), i);
        due("answer(1), the sixteenth", x.answer(1), 16);
        due("boxes(0)", x.boxes(0), 2);
        due("boxes(1)", x.boxes(1), 17);
        String was = all(x);
        due("answer(1), the seventeenth", x.answer(1), NONE);
        due("answer(0), the seventeenth", x.answer(0), NONE);
        same("two refused", was, x);
        due("answer(NONE)", x.answer(NONE), 0);
        due("answer(0)", x.answer(0), 1);
    }

    static void p24TheFirstOnDayNought() {
        says(24, "BOXES: up to 16 told answers (1 right, 0 wrong), the first on day 0 in box 1");
        KnotLaundry x = new KnotLaundry();
        x.answer(1);
        due("boxes(0), out of 1", x.boxes(0), 2);
        due("boxes(1), two days behind day 0", x.boxes(1), 2);
        KnotLaundry y = new KnotLaundry();
        for (int i = 0; i < 16; i++) y.answer(i % 2);
        due("boxes(0), the sixteenth was right", y.boxes(0), 2);
        due("boxes(1), eight times 1 and 2", y.boxes(1), 24);
        KnotLaundry z = new KnotLaundry();
        for (int i = 0; i < 16; i++) z.answer(1 - i % 2);
        due("boxes(0), the sixteenth was wrong", z.boxes(0), 1);
        due("boxes(1)", z.boxes(1), 24);
    }

    static void p24FiveAtMost() {
        says(24, "right: into the next box (5 at most, out of 5 into 5), asked again 1, 2, 4, 8, 16 days on, if it comes into box 1, 2, 3, 4, 5");
        KnotLaundry x = new KnotLaundry();
        int[] day = {2, 6, 14, 30, 46, 62};
        for (int i = 0; i < 6; i++) {
            x.answer(1);
            due("boxes(0), right " + (i + 1) + " times", x.boxes(0), Math.min(5, i + 2));
            due("boxes(1), right " + (i + 1) + " times", x.boxes(1), day[i]);
        }
        for (int i = 6; i < 16; i++) x.answer(1);
        due("boxes(0), right 16 times", x.boxes(0), 5);
        due("boxes(1), right 16 times", x.boxes(1), 222);
    }

    static void p24Wrong() {
        says(24, "wrong: into box 1, asked again a day on");
        KnotLaundry x = new KnotLaundry();
        x.answer(0);
        due("boxes(0), out of 1 into 1", x.boxes(0), 1);
        due("boxes(1)", x.boxes(1), 1);
        for (int i = 0; i < 5; i++) x.answer(1);
        due("boxes(0)", x.boxes(0), 5);
        due("boxes(1)", x.boxes(1), 47);
        x.answer(0);
        due("boxes(0), out of 5 into 1", x.boxes(0), 1);
        due("boxes(1)", x.boxes(1), 48);
        x.answer(1);
        due("boxes(0)", x.boxes(0), 2);
        due("boxes(1)", x.boxes(1), 50);
    }

    static void p24NoneTold() {
        says(24, "in which box it is; on which day it is asked next (none told: 1, 0)");
        KnotLaundry x = new KnotLaundry();
        due("boxes(0)", x.boxes(0), 1);
        due("boxes(1)", x.boxes(1), 0);
        x.answer(0);
        due("boxes(0), one told", x.boxes(0), 1);
        due("boxes(1), one told", x.boxes(1), 1);
    }

    static void p24AnotherWhat() {
        says(24, "NONE for another what.");
        KnotLaundry x = new KnotLaundry();
        x.answer(1);
        for (int what : new int[] {-1, 2, LEAST, MOST}) due("boxes(" + what + ")", x.boxes(what), NONE);
        due("boxes(0)", x.boxes(0), 2);
        due("boxes(1)", x.boxes(1), 2);
    }

    // ---- promises 25 and 26: piles, dealt

    static void p25WhichCard() {
        says(25, "PILES: where card at place c comes by p. NONE if one can't be.");
        KnotLaundry x = new KnotLaundry();
        due("piles(0, 1000)", x.piles(0, 1000), 0);
        due("piles(26, 1222)", x.piles(26, 1222), 26);
        due("piles(26, 1000)", x.piles(26, 1000), 0);
        due("piles(0, 1222)", x.piles(0, 1222), 26);
        for (int c : new int[] {-1, 27, LEAST, MOST}) due("piles(" + c + ", 1000)", x.piles(c, 1000), NONE);
    }

    static void p25ThreeDigitsBehindAOne() {
        says(25, "(a for each time, the first one first, as digits behind a 1)");
        KnotLaundry x = new KnotLaundry();
        for (int p : new int[] {999, 1003, 1030, 1300, 1223, 1232, 1322, 1009, 1090, 1900, 2000, 2222, 0, 1, 10, 122, 11000, 10000, 11222, -1000, -1222,
            LEAST, MOST}) due("piles(5, " + p + ")", x.piles(5, p), NONE);
        due("piles(0, 1100), the first counts least", x.piles(0, 1100), 1);
        due("piles(0, 1010)", x.piles(0, 1010), 3);
        due("piles(0, 1001), the last counts most", x.piles(0, 1001), 9);
        due("piles(0, 1200)", x.piles(0, 1200), 2);
        due("piles(0, 1002)", x.piles(0, 1002), 18);
    }

    static void p25ItsPlaceByThree() {
        says(25, "each time the piles are laid on one another, its own one a-th (a 0 .. 2): its place is then 9 times a and its place by 3");
        KnotLaundry x = new KnotLaundry();
        // Wherever it was, three times decide: nothing of where it lay is left.
        for (int c = 0; c <= 26; c++) {
            due("piles(" + c + ", 1012)", x.piles(c, 1012), 21);
            due("piles(" + c + ", 1222)", x.piles(c, 1222), 26);
        }
    }

    static void p26WhichPlace() {
        says(26, "PILES: by which p it comes to place t. NONE if one can't be.");
        KnotLaundry x = new KnotLaundry();
        for (int t : new int[] {-1, 27, LEAST, MOST}) due("dealt(" + t + ")", x.dealt(t), NONE);
        due("dealt(0)", x.dealt(0), 1000);
        due("dealt(26)", x.dealt(26), 1222);
        due("dealt(1)", x.dealt(1), 1100);
        due("dealt(2)", x.dealt(2), 1200);
        due("dealt(3)", x.dealt(3), 1010);
        due("dealt(9)", x.dealt(9), 1001);
        due("dealt(25)", x.dealt(25), 1122);
    }

    static void p26WhereverItWas() {
        says(26, "by which p it comes to place t, wherever it was");
        KnotLaundry x = new KnotLaundry();
        for (int t = 0; t <= 26; t++) {
            int p = x.dealt(t);
            for (int c : new int[] {0, 1, 13, 26}) due("piles(" + c + ", " + p + ")", x.piles(c, p), t);
        }
    }

    // ---- promises 27 and 28: key, table

    static KnotLaundry keyed(int... keys) {
        KnotLaundry x = new KnotLaundry();
        for (int v : keys) x.key(v);
        return x;
    }

    static void p27KeysBounds() {
        says(27, "TABLE of m (2 .. 16) places: up to 12 told keys (0 .. 99)");
        KnotLaundry x = new KnotLaundry();
        due("key(0)", x.key(0), 1);
        due("key(99)", x.key(99), 2);
        String was = all(x);
        for (int v : new int[] {100, -2, LEAST, MOST}) due("key(" + v + ")", x.key(v), NONE);
        same("four refused", was, x);
        due("table(16, 0, 0)", x.table(16, 0, 0), 0);
        due("table(16, 99, 0)", x.table(16, 99, 0), 3);
    }

    static void p27NoneEmpties() {
        says(27, "A key for TABLE (NONE: none is then): how many were told");
        KnotLaundry x = keyed(7);
        due("key(7), told again it counts", x.key(7), 2);
        due("key(8)", x.key(8), 3);
        due("key(NONE)", x.key(NONE), 0);
        due("table(2, 7, 0)", x.table(2, 7, 0), NONE);
        due("key(NONE), none already", x.key(NONE), 0);
        due("key(8)", x.key(8), 1);
        due("table(2, 8, 0)", x.table(2, 8, 0), 0);
    }

    static void p27Twelve() {
        says(27, "NONE if one can't be, or there are twelve.");
        KnotLaundry x = new KnotLaundry();
        for (int i = 1; i <= 11; i++) due("key(" + i + ")", x.key(i), i);
        due("key(12), the twelfth", x.key(12), 12);
        String was = all(x);
        due("key(13), the thirteenth", x.key(13), NONE);
        due("key(1), told again", x.key(1), NONE);
        same("two refused", was, x);
        due("table(16, 12, 0)", x.table(16, 12, 0), 12);
        due("table(16, 13, 0)", x.table(16, 13, 0), NONE);
        KnotLaundry y = new KnotLaundry();
        for (int i = 1; i <= 12; i++) due("key(5), always the same", y.key(5), i);
        due("key(6), the thirteenth told", y.key(6), NONE);
    }

    static void p28WhichCanBe() {
        says(28, "NONE, too, if one can't be (v 0 .. 99), or another what.");
        KnotLaundry x = keyed(0, 99);
        for (int m : new int[] {1, 17, 0, -1, LEAST, MOST}) {
            due("table(" + m + ", 0, 0)", x.table(m, 0, 0), NONE);
            due("table(" + m + ", 0, 1)", x.table(m, 0, 1), NONE);
        }
        for (int v : new int[] {-1, 100, LEAST, MOST}) {
            due("table(5, " + v + ", 0)", x.table(5, v, 0), NONE);
            due("table(5, " + v + ", 1)", x.table(5, v, 1), NONE);
        }
        for (int what : new int[] {-1, 2, LEAST, MOST}) due("table(5, 0, " + what + ")", x.table(5, 0, what), NONE);
        due("table(2, 0, 0)", x.table(2, 0, 0), 0);
        due("table(2, 99, 0)", x.table(2, 99, 0), 1);
        due("table(16, 99, 0)", x.table(16, 99, 0), 3);
        due("table(16, 99, 1)", x.table(16, 99, 1), 1);
    }

    static void p28TheNextFreeOneRound() {
        says(28, "each to its rest by m, or, if that is taken, to the next free one round");
        KnotLaundry x = keyed(5, 11, 17, 23);
        // By 6 the rest of each is 5: the last place, then round.
        int[] place = {5, 0, 1, 2};
        int[] key = {5, 11, 17, 23};
        for (int i = 0; i < 4; i++) due("table(6, " + key[i] + ", 0)", x.table(6, key[i], 0), place[i]);
        due("table(16, 23, 0), by 16 it is another", x.table(16, 23, 0), 7);
        // A key that lies at another's rest sends that one on.
        KnotLaundry y = keyed(15, 31, 0);
        due("table(16, 15, 0)", y.table(16, 15, 0), 15);
        due("table(16, 31, 0)", y.table(16, 31, 0), 0);
        due("table(16, 0, 0)", y.table(16, 0, 0), 1);
    }

    static void p28NoRoom() {
        says(28, "(no room: not there; told again it is there once)");
        KnotLaundry x = keyed(1, 3, 5);
        due("table(2, 1, 0)", x.table(2, 1, 0), 1);
        due("table(2, 3, 0), the last free one", x.table(2, 3, 0), 0);
        due("table(2, 5, 0), no room", x.table(2, 5, 0), NONE);
        due("table(3, 5, 0), room in three", x.table(3, 5, 0), 2);
        KnotLaundry y = keyed(1, 1, 3, 1);
        due("table(3, 1, 0)", y.table(3, 1, 0), 1);
        due("table(3, 3, 0)", y.table(3, 3, 0), 0);
        due("table(3, 2, 1), free yet", y.table(3, 2, 1), 1);
        due("table(2, 3, 0), there is room", y.table(2, 3, 0), 0);
        KnotLaundry z = keyed(0, 1, 2, 3, 4, 5, 6, 7, 8, 9, 10, 11);
        due("table(12, 11, 0), twelve in twelve", z.table(12, 11, 0), 11);
        due("table(11, 11, 0), the twelfth in eleven", z.table(11, 11, 0), NONE);
        due("table(11, 10, 0)", z.table(11, 10, 0), 10);
    }

    static void p28HowManyLooks() {
        says(28, "at how many places one looks for it, from its rest on, till it is found, or a free one (counted, too), or all are seen");
        KnotLaundry x = new KnotLaundry();
        due("table(2, 1, 1), all are free", x.table(2, 1, 1), 1);
        x.key(3);
        due("table(5, 3, 1), found at once", x.table(5, 3, 1), 1);
        due("table(5, 8, 1), a free one behind it", x.table(5, 8, 1), 2);
        x.key(8);
        due("table(5, 8, 1), found", x.table(5, 8, 1), 2);
        due("table(5, 13, 1), round to a free one", x.table(5, 13, 1), 3);
        due("table(5, 4, 1), from its own rest on", x.table(5, 4, 1), 2);
        due("table(2, 3, 1), in a full one", x.table(2, 3, 1), 1);
        due("table(2, 5, 1), all are seen", x.table(2, 5, 1), 2);
        due("table(2, 4, 1), all are seen", x.table(2, 4, 1), 2);
        KnotLaundry y = keyed(0, 16, 32, 48, 64, 80, 96, 1, 2, 3, 4, 5);
        due("table(16, 5, 0)", y.table(16, 5, 0), 11);
        due("table(16, 5, 1)", y.table(16, 5, 1), 7);
        due("table(16, 96, 1)", y.table(16, 96, 1), 7);
        due("table(16, 6, 1), the free one counts", y.table(16, 6, 1), 7);
        due("table(12, 99, 1), all twelve are seen", y.table(12, 99, 1), 12);
        due("table(13, 99, 0)", y.table(13, 99, 0), NONE);
    }

    // ---- promises 29 and 30: ask, pages

    static KnotLaundry askedFor(int... pages) {
        KnotLaundry x = new KnotLaundry();
        for (int v : pages) x.ask(v);
        return x;
    }

    static void p29NoughtToNine() {
        says(29, "PAGES: up to 16 told asked ones (0 .. 9)");
        KnotLaundry x = new KnotLaundry();
        due("ask(0)", x.ask(0), 1);
        due("ask(9)", x.ask(9), 2);
        String was = all(x);
        for (int v : new int[] {10, -2, LEAST, MOST}) due("ask(" + v + ")", x.ask(v), NONE);
        same("four refused", was, x);
        due("pages(5, 0)", x.pages(5, 0), 2);
    }

    static void p29NoneEmpties() {
        says(29, "One asked for in PAGES (NONE: none is then): how many");
        KnotLaundry x = askedFor(1, 2, 3);
        due("ask(3)", x.ask(3), 4);
        due("pages(1, 0)", x.pages(1, 0), 3);
        due("ask(NONE)", x.ask(NONE), 0);
        due("pages(1, 0)", x.pages(1, 0), 0);
        due("pages(1, 1)", x.pages(1, 1), 0);
        due("ask(NONE), none already", x.ask(NONE), 0);
        due("ask(3)", x.ask(3), 1);
    }

    static void p29Sixteen() {
        says(29, "NONE if one can't be, or there are sixteen.");
        KnotLaundry x = new KnotLaundry();
        for (int i = 0; i < 15; i++) due("ask(" + i % 10 + ")", x.ask(i % 10), i + 1);
        due("ask(5), the sixteenth", x.ask(5), 16);
        due("pages(5, 0), it counts", x.pages(5, 0), 16);
        String was = all(x);
        due("ask(6), the seventeenth", x.ask(6), NONE);
        same("the seventeenth", was, x);
        due("pages(5, 0)", x.pages(5, 0), 16);
        due("pages(5, 1), 0 .. 3 are kept", x.pages(5, 1), 12);
    }

    static void p30WhichCanBe() {
        says(30, "PAGES by k what 0 longest ago goes, 1 at the fewest. NONE if one can't be, or another what.");
        KnotLaundry x = askedFor(1, 2, 3, 4, 5, 1, 2, 3, 4, 5);
        for (int k : new int[] {0, 6, -1, LEAST, MOST}) {
            due("pages(" + k + ", 0)", x.pages(k, 0), NONE);
            due("pages(" + k + ", 1)", x.pages(k, 1), NONE);
        }
        for (int what : new int[] {-1, 2, LEAST, MOST}) due("pages(3, " + what + ")", x.pages(3, what), NONE);
        due("pages(1, 0)", x.pages(1, 0), 10);
        due("pages(4, 0)", x.pages(4, 0), 10);
        due("pages(5, 0), room for all", x.pages(5, 0), 5);
        due("pages(5, 1)", x.pages(5, 1), 5);
        due("pages(1, 1)", x.pages(1, 1), 10);
        due("pages(4, 1)", x.pages(4, 1), 6);
    }

    static void p30NoneAtFirst() {
        says(30, "k (1 .. 5) can be kept, none at first");
        KnotLaundry x = new KnotLaundry();
        due("pages(1, 0), none asked for", x.pages(1, 0), 0);
        due("pages(1, 1), none asked for", x.pages(1, 1), 0);
        x.ask(0);
        due("pages(1, 0)", x.pages(1, 0), 1);
        due("pages(5, 1)", x.pages(5, 1), 1);
        x.ask(0);
        due("pages(1, 0), kept", x.pages(1, 0), 1);
        x.ask(9);
        x.ask(0);
        due("pages(1, 0), 0 went", x.pages(1, 0), 3);
        due("pages(2, 0), both are kept", x.pages(2, 0), 2);
    }

    static void p30LongestAgo() {
        says(30, "how often one asked for is not among those kept, if the one asked for longest ago goes for it");
        KnotLaundry x = askedFor(1, 2, 1, 3, 1);
        due("pages(2, 0), 1 was asked for behind 2", x.pages(2, 0), 3);
        x.ask(2);
        due("pages(2, 0), 2 went", x.pages(2, 0), 4);
        due("pages(1, 0)", x.pages(1, 0), 6);
        due("pages(3, 0)", x.pages(3, 0), 3);
        for (int page : new int[] {0, 9}) {
            due("pages(1, 0), " + page + " goes", askedFor(page, 5, page).pages(1, 0), 3);
            due("pages(2, 0), " + page + " goes", askedFor(page, 5, 6, 5, page).pages(2, 0), 4);
        }
    }

    static void p30AtTheFewest() {
        says(30, "at the fewest, whichever go");
        KnotLaundry x = askedFor(1, 2, 3, 1, 2, 3);
        due("pages(2, 0)", x.pages(2, 0), 6);
        due("pages(2, 1)", x.pages(2, 1), 4);
        due("pages(1, 1), nothing to choose", x.pages(1, 1), 6);
        due("pages(3, 1)", x.pages(3, 1), 3);
        // What is asked for is kept then: 2 can't be passed over for 1.
        due("pages(1, 1)", askedFor(1, 2, 1).pages(1, 1), 3);
        // 3 goes for 4 and not 1, though both are asked for again: 1 sooner.
        due("pages(2, 1)", askedFor(1, 3, 4, 1, 3).pages(2, 1), 4);
    }

    // ---- promise 31: truth

    static void p31WhichCanBe() {
        says(31, "TRUTH of a set (0 .. 65535) what 0 how many sides, 1 how many with a case of their own. NONE if one can't be, or another what.");
        KnotLaundry x = new KnotLaundry();
        for (int set : new int[] {-1, 65536, LEAST, MOST}) {
            due("truth(" + set + ", 0)", x.truth(set, 0), NONE);
            due("truth(" + set + ", 1)", x.truth(set, 1), NONE);
        }
        for (int what : new int[] {-1, 2, LEAST, MOST}) due("truth(1, " + what + ")", x.truth(1, what), NONE);
        due("truth(0, 0), nothing is true", x.truth(0, 0), 0);
        due("truth(0, 1)", x.truth(0, 1), 0);
        due("truth(65535, 0), all is true", x.truth(65535, 0), 1);
        due("truth(65535, 1)", x.truth(65535, 1), 1);
    }

    static void p31NoneAndAllToo() {
        says(31, "a side is all cases in which some of the things (none, all, too) are as told, the others anyhow");
        KnotLaundry x = new KnotLaundry();
        due("truth(65535, 0), none told", x.truth(65535, 0), 1);
        for (int v = 0; v < 16; v++) {
            due("truth(" + (1 << v) + ", 0), all told", x.truth(1 << v, 0), 1);
            due("truth(" + (1 << v) + ", 1)", x.truth(1 << v, 1), 1);
            // All cases but one: each thing the other way is a side.
            due("truth(" + (65535 - (1 << v)) + ", 0)", x.truth(65535 - (1 << v), 0), 4);
            due("truth(" + (65535 - (1 << v)) + ", 1)", x.truth(65535 - (1 << v), 1), 4);
        }
    }

    static void p31NoGreaterOne() {
        says(31, "if all its cases are true, and no greater such one has all of them");
        KnotLaundry x = new KnotLaundry();
        due("truth(3, 0), two cases side by side", x.truth(3, 0), 1);
        due("truth(9, 0), two that are not", x.truth(9, 0), 2);
        due("truth(32769, 0), the first and the last", x.truth(32769, 0), 2);
        due("truth(7, 0)", x.truth(7, 0), 2);
        due("truth(15, 0)", x.truth(15, 0), 1);
        due("truth(255, 0)", x.truth(255, 0), 1);
        due("truth(65280, 0)", x.truth(65280, 0), 1);
    }

    static void p31ACaseInNoOther() {
        says(31, "how many of them have a case that is in no other side");
        KnotLaundry x = new KnotLaundry();
        due("truth(0x7E7E, 0), a ring of six", x.truth(0x7E7E, 0), 6);
        due("truth(0x7E7E, 1), none has one", x.truth(0x7E7E, 1), 0);
        due("truth(0x6996, 0), eight that stand alone", x.truth(0x6996, 0), 8);
        due("truth(0x6996, 1), all have one", x.truth(0x6996, 1), 8);
        // Cases 1, 3, 2: in two sides, which share case 3.
        due("truth(14, 1)", x.truth(14, 1), 2);
        // Cases 0, 1, 3, 7 in a chain: the middle one's are in the others.
        due("truth(139, 0)", x.truth(139, 0), 3);
        due("truth(139, 1)", x.truth(139, 1), 2);
    }

    // ---- promises 32 and 33: rounds, meets

    static void p32HowMany() {
        says(32, "ROUNDS of n (2 .. 13)");
        KnotLaundry x = new KnotLaundry();
        for (int n : new int[] {1, 14, 0, -1, LEAST, MOST}) {
            due("rounds(" + n + ", 0, 0)", x.rounds(n, 0, 0), NONE);
            due("meets(" + n + ", 0, 1)", x.meets(n, 0, 1), NONE);
        }
        due("rounds(2, 0, 0)", x.rounds(2, 0, 0), 1);
        due("rounds(2, 0, 1)", x.rounds(2, 0, 1), 0);
        due("rounds(13, 0, 1)", x.rounds(13, 0, 1), 12);
        due("rounds(13, 0, 0), who is alone", x.rounds(13, 0, 0), NONE);
        due("rounds(13, 12, 0)", x.rounds(13, 12, 0), 11);
    }

    static void p32WhichRound() {
        says(32, "NONE, too, if one can't be (r 0 .. how many there are, less 2).");
        KnotLaundry x = new KnotLaundry();
        for (int n = 2; n <= 13; n++) {
            int m = n + n % 2;
            due("rounds(" + n + ", 0, 1)", x.rounds(n, 0, 1) == NONE, false);
            due("rounds(" + n + ", " + (m - 2) + ", 0)", x.rounds(n, m - 2, 0) == NONE, false);
            due("rounds(" + n + ", " + (m - 1) + ", 0)", x.rounds(n, m - 1, 0), NONE);
            due("rounds(" + n + ", " + (m - 1) + ", 1)", x.rounds(n, m - 1, 1), NONE);
            due("rounds(" + n + ", -1, 0)", x.rounds(n, -1, 0), NONE);
            due("rounds(" + n + ", -1, 1)", x.rounds(n, -1, 1), NONE);
        }
        for (int r : new int[] {LEAST, MOST}) due("rounds(4, " + r + ", 0)", x.rounds(4, r, 0), NONE);
    }

    static void p32Whom() {
        says(32, "ROUNDS of n: whom i meets in round r.");
        KnotLaundry x = new KnotLaundry();
        for (int n = 2; n <= 13; n++) {
            due("rounds(" + n + ", 0, -1)", x.rounds(n, 0, -1), NONE);
            due("rounds(" + n + ", 0, " + n + ")", x.rounds(n, 0, n), NONE);
            due("rounds(" + n + ", 0, " + (n - 1) + ")", x.rounds(n, 0, n - 1), n % 2 == 0 ? 0 : 1);
        }
        for (int i : new int[] {LEAST, MOST}) due("rounds(4, 0, " + i + ")", x.rounds(4, 0, i), NONE);
    }

    static void p32TheLastOneIsNotThere() {
        says(32, "m is n, or one more if n is odd (the last one, m less 1, is not there then: who meets him meets NONE)");
        KnotLaundry x = new KnotLaundry();
        // Of three: round 0: 1 and 2; round 1: 0 and 2; round 2: 0 and 1.
        int[][] three = {{NONE, 2, 1}, {2, NONE, 0}, {1, 0, NONE}};
        // Of four: the one alone meets the last one.
        int[][] four = {{3, 2, 1, 0}, {2, 3, 0, 1}, {1, 0, 3, 2}};
        for (int r = 0; r < 3; r++) {
            for (int i = 0; i < 3; i++) due("rounds(3, " + r + ", " + i + ")", x.rounds(3, r, i), three[r][i]);
            for (int i = 0; i < 4; i++) due("rounds(4, " + r + ", " + i + ")", x.rounds(4, r, i), four[r][i]);
            due("rounds(3, " + r + ", 3), not there", x.rounds(3, r, 3), NONE);
        }
    }

    static void p32TwiceTheRound() {
        says(32, "in round r (0 .. m less 2) the last one meets r; any other i meets the one j, neither i nor the last one, for whom i and j are 2 times r modulo m less 1");
        KnotLaundry x = new KnotLaundry();
        for (int r = 0; r <= 10; r++) {
            due("rounds(12, " + r + ", 11)", x.rounds(12, r, 11), r);
            due("rounds(12, " + r + ", " + r + ")", x.rounds(12, r, r), 11);
            int i = (r + 1) % 11;
            due("rounds(12, " + r + ", " + i + ")", x.rounds(12, r, i), (r + 10) % 11);
        }
        for (int r = 0; r <= 12; r++) {
            due("rounds(13, " + r + ", " + r + ")", x.rounds(13, r, r), NONE);
            int i = (r + 6) % 13;
            due("rounds(13, " + r + ", " + i + ")", x.rounds(13, r, i), (r + 7) % 13);
        }
    }

    static void p33WhichCanBe() {
        says(33, "ROUNDS of n: in which round i and j (unlike) meet. NONE if one can't be.");
        KnotLaundry x = new KnotLaundry();
        for (int n = 2; n <= 13; n++) {
            due("meets(" + n + ", 0, " + (n - 1) + ")", x.meets(n, 0, n - 1) == NONE, false);
            due("meets(" + n + ", " + (n - 1) + ", 0)", x.meets(n, n - 1, 0) == NONE, false);
            due("meets(" + n + ", 0, 0), alike", x.meets(n, 0, 0), NONE);
            due("meets(" + n + ", " + (n - 1) + ", " + (n - 1) + "), alike", x.meets(n, n - 1, n - 1), NONE);
            due("meets(" + n + ", 0, " + n + ")", x.meets(n, 0, n), NONE);
            due("meets(" + n + ", " + n + ", 0)", x.meets(n, n, 0), NONE);
            due("meets(" + n + ", 0, -1)", x.meets(n, 0, -1), NONE);
            due("meets(" + n + ", -1, 0)", x.meets(n, -1, 0), NONE);
        }
        for (int v : new int[] {LEAST, MOST}) {
            due("meets(4, 0, " + v + ")", x.meets(4, 0, v), NONE);
            due("meets(4, " + v + ", 0)", x.meets(4, v, 0), NONE);
        }
        for (int n : new int[] {1, 14, LEAST, MOST}) due("meets(" + n + ", 0, 1)", x.meets(n, 0, 1), NONE);
    }

    static void p33InWhichRound() {
        says(33, "in which round i and j meet");
        KnotLaundry x = new KnotLaundry();
        due("meets(2, 0, 1)", x.meets(2, 0, 1), 0);
        due("meets(3, 0, 1)", x.meets(3, 0, 1), 2);
        due("meets(3, 0, 2)", x.meets(3, 0, 2), 1);
        due("meets(3, 1, 2)", x.meets(3, 1, 2), 0);
        for (int i = 0; i < 3; i++) due("meets(4, " + i + ", 3), the last one", x.meets(4, i, 3), i);
        due("meets(4, 3, 2)", x.meets(4, 3, 2), 2);
        due("meets(12, 0, 1)", x.meets(12, 0, 1), 6);
        due("meets(13, 0, 12)", x.meets(13, 0, 12), 6);
        due("meets(13, 11, 12)", x.meets(13, 11, 12), 5);
        due("meets(13, 12, 11)", x.meets(13, 12, 11), 5);
    }

    // ---- promise 34: rows

    static void p34NoughtToTen() {
        says(34, "ROWS: n (0 .. 10) things in k (0 .. 10) rows");
        KnotLaundry x = new KnotLaundry();
        for (int v : new int[] {-1, 11, LEAST, MOST}) {
            due("rows(" + v + ", 0)", x.rows(v, 0), NONE);
            due("rows(" + v + ", 5)", x.rows(v, 5), NONE);
            due("rows(0, " + v + ")", x.rows(0, v), NONE);
            due("rows(5, " + v + ")", x.rows(5, v), NONE);
        }
        due("rows(10, 10)", x.rows(10, 10), 1);
        due("rows(10, 1)", x.rows(10, 1), 3628800);
        due("rows(10, 9)", x.rows(10, 9), 90);
        due("rows(10, 3), the most", x.rows(10, 3), 21772800);
        due("rows(10, 4)", x.rows(10, 4), 12700800);
    }

    static void p34NoneEmpty() {
        says(34, "none empty, the rows not told apart, each in an order: in how many ways");
        KnotLaundry x = new KnotLaundry();
        due("rows(0, 0), the one way", x.rows(0, 0), 1);
        for (int i = 1; i <= 10; i++) {
            due("rows(0, " + i + ")", x.rows(0, i), 0);
            due("rows(" + i + ", 0)", x.rows(i, 0), 0);
            due("rows(" + i + ", " + i + ")", x.rows(i, i), 1);
            due("rows(" + (i - 1) + ", " + i + "), one more", x.rows(i - 1, i), 0);
        }
        due("rows(2, 1), either order", x.rows(2, 1), 2);
        due("rows(3, 2)", x.rows(3, 2), 6);
        due("rows(3, 1)", x.rows(3, 1), 6);
        due("rows(4, 2)", x.rows(4, 2), 36);
    }

    // ---- promises 35 and 36: digit, spelt

    static KnotLaundry told(int... digits) {
        KnotLaundry x = new KnotLaundry();
        for (int v : digits) x.digit(v);
        return x;
    }

    static void p35NoughtToNine() {
        says(35, "A digit for SPELT (NONE: none is then): how many");
        KnotLaundry x = new KnotLaundry();
        due("digit(0)", x.digit(0), 1);
        due("digit(9)", x.digit(9), 2);
        String was = all(x);
        for (int v : new int[] {10, -2, LEAST, MOST}) due("digit(" + v + ")", x.digit(v), NONE);
        same("four refused", was, x);
        due("spelt(NONE, 0)", x.spelt(NONE, 0), 4);
        due("digit(NONE)", x.digit(NONE), 0);
        due("spelt(NONE, 0)", x.spelt(NONE, 0), 1);
        due("spelt(0, 0)", x.spelt(0, 0), NONE);
        due("digit(NONE), none already", x.digit(NONE), 0);
        due("digit(2)", x.digit(2), 1);
    }

    static void p35Ten() {
        says(35, "NONE if one can't be, or there are ten.");
        KnotLaundry x = new KnotLaundry();
        for (int i = 1; i <= 9; i++) due("digit(9), " + i, x.digit(9), i);
        due("digit(7), the tenth", x.digit(7), 10);
        due("spelt(NONE, 0), the most", x.spelt(NONE, 0), 1048576);
        String was = all(x);
        due("digit(2), the eleventh", x.digit(2), NONE);
        due("digit(0), the eleventh", x.digit(0), NONE);
        same("two refused", was, x);
        due("spelt(9, 1048575)", x.spelt(9, 1048575), 3);
        due("spelt(0, 1048575)", x.spelt(0, 1048575), 3);
        due("spelt(10, 0)", x.spelt(10, 0), NONE);
        due("digit(NONE)", x.digit(NONE), 0);
        due("digit(2)", x.digit(2), 1);
    }

    static void p36ThreeOrFourLetters() {
        says(36, "0, 1 spell nothing, 7, 9 one of four letters, each other one of three");
        int[] letters = {0, 0, 3, 3, 3, 3, 3, 4, 3, 4};
        for (int v = 0; v <= 9; v++) {
            KnotLaundry x = told(v);
            due("spelt(NONE, 0) of " + v, x.spelt(NONE, 0), Math.max(1, letters[v]));
            for (int way = 0; way < 4; way++) {
                due("spelt(0, " + way + ") of " + v, x.spelt(0, way), way < letters[v] ? way : NONE);
            }
        }
    }

    static void p36NoneTold() {
        says(36, "in how many ways the row is spelt (0, 1 left out; none told: 1)");
        due("spelt(NONE, 0), none told", new KnotLaundry().spelt(NONE, 0), 1);
        due("spelt(NONE, 0), of 0", told(0).spelt(NONE, 0), 1);
        due("spelt(NONE, 0), of 1 0 1", told(1, 0, 1).spelt(NONE, 0), 1);
        due("spelt(NONE, 0), of 2", told(2).spelt(NONE, 0), 3);
        due("spelt(NONE, 0), of 0 2 1 7 0", told(0, 2, 1, 7, 0).spelt(NONE, 0), 12);
        due("spelt(0, 0), none told", new KnotLaundry().spelt(0, 0), NONE);
    }

    static void p36InOrder() {
        says(36, "of the v-th way (from 0; in order, the choices at the first digit first, the first letter ahead of the second) the choice at digit i (0 .. 3; NONE: it spells nothing)");
        KnotLaundry x = told(2, 1, 7);
        for (int v = 0; v < 12; v++) {
            due("spelt(0, " + v + ")", x.spelt(0, v), v / 4);
            due("spelt(1, " + v + "), of a 1", x.spelt(1, v), NONE);
            due("spelt(2, " + v + ")", x.spelt(2, v), v % 4);
        }
        KnotLaundry y = told(7, 2, 3);
        for (int v = 0; v < 36; v++) {
            due("spelt(0, " + v + ")", y.spelt(0, v), v / 9);
            due("spelt(1, " + v + ")", y.spelt(1, v), v / 3 % 3);
            due("spelt(2, " + v + ")", y.spelt(2, v), v % 3);
        }
    }

    static void p36NoneSuch() {
        says(36, "the choice (0 .. 3) at digit i of the v-th. NONE, too, if there is none such.");
        KnotLaundry x = told(2, 7);
        due("spelt(0, 0), the first", x.spelt(0, 0), 0);
        due("spelt(1, 11), the last", x.spelt(1, 11), 3);
        due("spelt(0, 11), the last", x.spelt(0, 11), 2);
        for (int v : new int[] {-1, 12, LEAST, MOST}) {
            due("spelt(0, " + v + ")", x.spelt(0, v), NONE);
            due("spelt(1, " + v + ")", x.spelt(1, v), NONE);
        }
        for (int i : new int[] {-2, 2, LEAST, MOST}) due("spelt(" + i + ", 0)", x.spelt(i, 0), NONE);
        x.digit(NONE);
        x.digit(3);
        due("spelt(0, 2), of the only digit", x.spelt(0, 2), 2);
        due("spelt(1, 0), of one that was told before", x.spelt(1, 0), NONE);
    }

    static void p36VNotAsked() {
        says(36, "SPELT: in how many ways (i NONE; v not asked)");
        KnotLaundry x = told(2, 7);
        for (int v : new int[] {0, -1, 12, LEAST, MOST}) due("spelt(NONE, " + v + ")", x.spelt(NONE, v), 12);
    }

    // ---- promise 37: game

    static void p37WhichCanBe() {
        says(37, "GAME. NONE, too, if one can't be.");
        KnotLaundry x = new KnotLaundry();
        for (int n : new int[] {2, 17, 0, -1, 31, 32, 35, LEAST, MOST}) due("game(" + n + ", 0)", x.game(n, 0), NONE);
        due("game(3, 0)", x.game(3, 0), 0);
        due("game(16, 0)", x.game(16, 0), 1);
        for (int n = 3; n <= 16; n++) {
            for (int full : new int[] {-1, 1 << n, LEAST, MOST}) due("game(" + n + ", " + full + ")", x.game(n, full), NONE);
        }
        due("game(3, 3), the last place", x.game(3, 3), 2);
        due("game(3, 8), a place that is not in it", x.game(3, 8), NONE);
        due("game(16, 49152), both last places", x.game(16, 49152), 13);
    }

    static void p37ThreeAreSo() {
        says(37, "(NONE: none, or three are so)");
        KnotLaundry x = new KnotLaundry();
        due("game(3, 7)", x.game(3, 7), NONE);
        due("game(16, 7), the first three", x.game(16, 7), NONE);
        due("game(16, 57344), the last three", x.game(16, 57344), NONE);
        due("game(16, 65535), all", x.game(16, 65535), NONE);
        due("game(4, 11), two and one", x.game(4, 11), 2);
        due("game(4, 14), three", x.game(4, 14), NONE);
        due("game(6, 0), who begins does not win", x.game(6, 0), NONE);
        due("game(12, 0), nor of twelve", x.game(12, 0), NONE);
        due("game(3, 1), the other wins", x.game(3, 1), NONE);
    }

    static void p37TheLeastPlace() {
        says(37, "the least place, not full, by which who begins wins");
        KnotLaundry x = new KnotLaundry();
        int[] first = {0, 1, 2, NONE, 3, 3, 0, 1, 2, NONE, 6, 6, 0, 1};
        for (int n = 3; n <= 16; n++) due("game(" + n + ", 0)", x.game(n, 0), first[n - 3]);
        due("game(3, 6), three at once", x.game(3, 6), 0);
        due("game(3, 5), between two", x.game(3, 5), 1);
        due("game(3, 4)", x.game(3, 4), NONE);
        int[][] four = {{1, 3}, {2, NONE}, {8, 0}, {9, NONE}, {10, 2}, {12, 1}, {13, 1}};
        for (int[] f : four) due("game(4, " + f[0] + ")", x.game(4, f[0]), f[1]);
        int[][] sixteen = {{5, 1}, {1, 9}, {32768, 6}, {49152, 13}, {40960, 14}, {32769, 4}, {37449, NONE}};
        for (int[] f : sixteen) due("game(16, " + f[0] + ")", x.game(16, f[0]), f[1]);
    }
}
