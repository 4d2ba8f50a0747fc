import java.math.BigInteger;

/** The boundaries of JOININGS, LOOKS, ROUNDS, PLEATS, averages, ONE OUT and SEEN (part 3, promises 17 to 31). */
public final class ReckoningBoundaryTest extends Bench {
    private static final int LEAST = Integer.MIN_VALUE;
    private static final int GREATEST = Integer.MAX_VALUE;
    private static final String LOOSE = row("rail", 11, 1) + row("cloth", 11, 99);
    private static final String TIGHT = row("rail", 11, 99) + row("cloth", 11, 1);
    private static final String ALL_BROKEN = "rail 1 1;cloth 9 9;broken 0;broken 1;broken 2;";

    private static long choose(int n, int k) {
        long c = 1;
        for (int i = 0; i < k; i++) {
            c = c * (n - i) / (i + 1);
        }
        return c;
    }

    private static void joinings() {
        says("JOININGS: ways to join some HOOKS (all rules of part 2 but RIGHT)");
        due("a SAG of 0", told("rail 5;cloth 5;").joinings(2), 1);
        due("a SAG of -1", told("rail 6;cloth 5;").joinings(2), 0);
        due("one at a time", told("rail 6;cloth 5;").joinings(1), 4);
        due("a broken RING", told("rail 1 1;cloth 9;broken 1;").joinings(2), 1);
        due("all are broken", told(ALL_BROKEN).joinings(1), 0);
        due("none needs to be RIGHT", told("rail 5;cloth 5;law:1=2;").joinings(2), 1);
        due("joins of now don't count", told("rail 5;cloth 5;join 0 1;").joinings(2), 1);

        says("How many JOININGS join just n (0 to 12). -3.");
        HookOver x = told(LOOSE);
        for (int n = 0; n <= 12; n++) {
            due("joinings(" + n + ") of 12 and 12", x.joinings(n), choose(12, n) * choose(12, n));
            due("joinings(" + n + ") of nothing", new HookOver().joinings(n), n == 0 ? 1 : 0);
            due("joinings(" + n + ") of HOOKS alone", told("cloth 1;").joinings(n), n == 0 ? 1 : 0);
        }
        for (int n : new int[] {-1, 13, LEAST, GREATEST}) {
            due("joinings(" + n + ")", x.joinings(n), -3);
            due("joinings(" + n + ") of nothing", new HookOver().joinings(n), -3);
        }

        // The same object with other windows: each is reckoned for itself.
        x.image(0);
        tell(x, TIGHT);
        due("another window", x.joinings(2), 0);
        due("another window", x.full(), 1);
        due("another window", x.evenest(0), 0);
        x.image(1);
        due("the first one again", x.restore(0), 0);
        due("the first one again", x.joinings(2), 66 * 66);
        due("the first one again", x.evenest(0), 98);
        due("the first one again", x.evenest(21), 11);
        due("the second one again", x.restore(1), 0);
        due("the second one again", x.evenest(21), -1);
        due("the second one again", x.joinings(12), 0);
        tell(x, "");
        due("none", x.joinings(1), 0);
        due("none", x.full(), 0);
        due("none", x.evenest(1), 0);
        x.restore(0);

        says("How many are joined in FULL ones.");
        due("all 12", x.full(), 12);
        due("one", told(TIGHT).full(), 1);
        due("none", told(ALL_BROKEN).full(), 0);
        due("no HOOKS", told("rail 1 1;").full(), 0);
        due("no RINGS", told("cloth 1 1;").full(), 0);
        due("fewer RINGS", told("rail 1;" + row("cloth", 11, 9)).full(), 2);
        due("fewer HOOKS", told(row("rail", 11, 1) + "cloth 9;").full(), 2);
    }

    private static void fullOnes() {
        says("in order by HOOKS' RINGS from HOOK 0 on (none behind all RINGS)");
        HookOver x = told("rail 1 1;cloth 9 9 9;");
        // Of four HOOKS three are joined, to RINGS 0, 1, 2: HOOK 3 is left out first, HOOK 0 last.
        int[][] order = {{0, 1, 2, -1}, {0, 1, -1, 2}, {0, -1, 1, 2}, {-1, 0, 1, 2}};
        for (int k = 0; k < 4; k++) {
            for (int h = 0; h < 4; h++) {
                due("fullAt(" + k + ", " + h + ")", x.fullAt(k, h), order[k][h]);
            }
        }
        says("The RING of a HOOK in the k-th of FULL JOININGS, from 0 on (NONE: it isn't joined). -2: the HOOK; -3: k is"
            + " below 0; -5: not so many.");
        due("the last", x.fullAt(3, 0), -1);
        due("one behind", x.fullAt(4, 0), -5);
        due("the greatest k", x.fullAt(GREATEST, 0), -5);
        due("k -1", x.fullAt(-1, 3), -3);
        due("the least k", x.fullAt(LEAST, 3), -3);
        due("HOOK 4", x.fullAt(0, 4), -2);
        due("HOOK -1", x.fullAt(0, -1), -2);
        due("the HOOK is told first", x.fullAt(-1, 4), -2);
        due("the HOOK is told first", x.fullAt(4, 4), -2);
        due("no HOOKS", told("rail 1;").fullAt(0, 0), -2);
        due("none can be joined: one way", told(ALL_BROKEN).fullAt(0, 2), -1);
        due("none can be joined: no more", told(ALL_BROKEN).fullAt(1, 2), -5);
        due("no RINGS: one way", told("cloth 1;").fullAt(0, 1), -1);
        x = told(LOOSE);
        for (int h = 0; h < 12; h++) {
            due("the only one of 12: HOOK " + h, x.fullAt(0, h), h);
        }
        due("no other", x.fullAt(1, 11), -5);
        x = told(TIGHT);
        for (int k = 0; k < 144; k++) {
            due("one HOOK at a time: " + k, x.fullAt(k, k / 12), k % 12);
        }
        due("144", x.fullAt(144, 0), -5);
        // HOOKS 0 and 1 are too near to one another: 0 and 2, then 1 and 2.
        x = told("rail 5;cloth 4 5;");
        int[][] tight = {{0, -1, 1}, {-1, 0, 1}};
        for (int k = 0; k < 2; k++) {
            for (int h = 0; h < 3; h++) {
                due("a SAG below 0 can't be: " + k + ", " + h, x.fullAt(k, h), tight[k][h]);
            }
        }
        due("no more", x.fullAt(2, 0), -5);
        // RINGS 0 and 2 are too far from one another.
        x = told("rail 5 5;cloth 5;");
        due("a SAG of 0", x.fullAt(0, 1), 1);
        due("the other one", x.fullAt(1, 1), 2);
        due("it begins at RING 1", x.fullAt(1, 0), 1);
        due("no more", x.fullAt(2, 1), -5);
        // 924 ways to join 6 of 12 HOOKS to the 6 RINGS.
        x = told(row("rail", 5, 1) + row("cloth", 11, 99));
        due("923 of 924", x.fullAt(923, 11), 5);
        due("923 of 924", x.fullAt(923, 5), -1);
        due("924", x.fullAt(924, 11), -5);
    }

    private static void mended() {
        says("MENDED: of JOININGS in which each join is RIGHT those with the most; of these the fewest HOOKS joined now"
            + " that are not joined to the same RING in it; of these the first.");
        HookOver x = told(LOOSE + "law:1=2;join 0 0;join 11 11;");
        due("nothing is RIGHT", x.mended(0), 0);
        due("so both are unhooked", x.mended(1), 2);
        due("HOOK 11", x.mended(21), -1);
        x = told(LOOSE + "law:1=1;");
        for (int h = 0; h < 12; h++) {
            due("all is RIGHT: HOOK " + h, x.mended(10 + h), h);
        }
        due("all is RIGHT", x.mended(0), 12);
        due("none is unhooked", x.mended(1), 0);
        x = told("rail 5 5;cloth 4;law:1=1;join 1 1;");
        due("only one can be joined: that which is", x.mended(11), 1);
        due("so none is unhooked", x.mended(1), 0);
        x.unhook(1);
        due("of like ones the first", x.mended(10), 0);
        due("of like ones the first", x.mended(11), -1);
        x = told("rail 1 1 1;cloth 9 9;law:1=1;join 0 1;join 2 3;");
        due("both stay", x.mended(1), 0);
        due("HOOK 1 between them", x.mended(11), 2);
        x = told("rail 1 1 1;cloth 9 9;law:hook=2;join 0 0;join 1 1;join 2 2;");
        due("only HOOK 2 can be RIGHT", x.mended(0), 1);
        due("others are unhooked", x.mended(1), 2);
        due("it stays", x.mended(12), 2);
        due("HOOK 0", x.mended(10), -1);
        x = told("rail 1;cloth 9;law:hook=0 and ring=1 or hook=1 and ring=0;join 1 0;");
        due("one of two that would cross: that which is", x.mended(11), 0);
        due("HOOK 0", x.mended(10), -1);
        due("none is unhooked", x.mended(1), 0);
        x.unhook(1);
        due("else the first", x.mended(10), 1);
        due("HOOK 1", x.mended(11), -1);
        x = told(LOOSE + "law:hook<11 and ring=hook+1 or hook=11 and ring<4;join 11 3;");
        due("eleven against one", x.mended(0), 11);
        due("one is unhooked", x.mended(1), 1);
        x = told("rail 1 1 1 1;cloth 9 9 9;law:ring=hook or ring=hook+1;join 0 1;join 1 2;join 3 4;");
        due("three stay", x.mended(1), 0);
        due("HOOK 2 between them", x.mended(12), 3);
        x = told("rail 1 1 1 1;cloth 9 9 9;law:ring=hook or ring=hook+1;join 0 1;join 1 2;join 2 3;join 3 4;");
        due("all stay", x.mended(1), 0);
        due("though another is the first", x.mended(10), 1);
        x = told("rail 5;cloth 4 5;law:1=1;");
        due("HOOK 1 is too near to HOOK 0", x.mended(11), -1);
        due("HOOK 2 isn't", x.mended(12), 1);
        x = told("rail 1;cloth 9;law:ring=0;join 0 1;");
        due("unhooked all the same: the first", x.mended(10), 0);
        due("not HOOK 1", x.mended(11), -1);
        due("one is unhooked", x.mended(1), 1);
        x = told(LOOSE + "law:1=1;");
        due("a large window", x.mended(0), 12);
        tell(x, "rail 5;cloth 4;law:1=1;");
        due("a small one behind it: one", x.mended(0), 1);
        due("the first", x.mended(10), 0);
        due("a SAG of 0 can be", told("rail 5 5;cloth 5;").mended(0), 2);
        due("a SAG of -1 can't", told("rail 6 5;cloth 5;").mended(0), 1);
        due("a broken RING", told("rail 5 5;cloth 5;broken 1;").mended(0), 1);
        x = told("rail 1;cloth 9;join 0 0;broken 0;law:ring=0;");
        due("broken behind its join", x.mended(0), 0);
        due("it is unhooked", x.mended(1), 1);

        says("MENDED, what 0: how many are joined, 1: how many are unhooked for it, 10 + h: the RING of HOOK h (NONE). -2.");
        x = told(LOOSE);
        due("HOOK 0", x.mended(10), 0);
        due("HOOK 11", x.mended(21), 11);
        for (int what : new int[] {-1, 2, 9, 22, LEAST, GREATEST, LEAST + 10}) {
            due("what " + what, x.mended(what), -2);
        }
        x = told("rail 1;cloth 9;");
        due("HOOK 1 of two", x.mended(11), 1);
        due("HOOK 2 of two", x.mended(12), -2);
        due("without HOOKS", new HookOver().mended(0), 0);
        due("without HOOKS", new HookOver().mended(1), 0);
        due("without HOOKS", new HookOver().mended(10), -2);
        due("without RINGS", told("cloth 9;").mended(11), -1);
    }

    private static void evenest() {
        says("EVENEST: of FULL ones that with the least greatest SAG (0 if there is none), then the least sum of squares of"
            + " SAGS, then the first.");
        due("no SAG: nothing is joined", told(ALL_BROKEN).evenest(0), 0);
        due("no SAG: one is joined", told(TIGHT).evenest(0), 0);
        due("no SAG: one is joined", told(TIGHT).evenest(1), 0);
        due("the first of 144", told(TIGHT).evenest(10), 0);
        due("it is the only one", told(TIGHT).evenest(11), -1);
        due("no HOOKS", new HookOver().evenest(1), 0);
        HookOver x = told(LOOSE);
        due("12 joined", x.evenest(0), 98);
        due("11 SAGS", x.evenest(1), 11 * 98 * 98);
        x = told("rail 1;cloth" + times(" 99", 11) + ";");
        due("two of 12 next to one another", x.evenest(0), 98);
        due("the first two", x.evenest(11), 1);
        due("no other", x.evenest(12), -1);
        // RINGS 0 1 2: 5, 4; 1 2 3: 4, 1; others would be below 0.
        x = told("rail 5 6 9;cloth 10 10;");
        due("the least greatest", x.evenest(0), 4);
        due("its squares", x.evenest(1), 17);
        // RINGS 0 1 2: 2, 2; 0 1 3: 2, 1; 1 2 3: 2, 9.
        x = told("rail 8 8 1;cloth 10 10;");
        due("the greatest is 2 in both", x.evenest(0), 2);
        due("less by squares", x.evenest(1), 4 + 1);
        due("so the last RING", x.evenest(12), 3);
        x = told("rail 8 8 8;cloth 10 10;");
        due("two are alike: the first", x.evenest(10), 0);

        x = told("rail 5 9;cloth 5 9;");
        due("SAGS of 0", x.evenest(0), 0);
        due("all are joined", x.evenest(12), 2);
        x = told("rail 5 9 9;cloth 5 9;");
        due("SAGS of 0, so the later one isn't the evenest", x.evenest(1), 0);
        due("HOOK 2", x.evenest(12), 2);

        // HOOKS 0 and 1 are too near to one another; 0 and 2 have a SAG of 5, 1 and 2 one of 4.
        x = told("rail 2;cloth 1 6;");
        due("two HOOKS need two RINGS", x.evenest(0), 4);
        due("HOOK 0", x.evenest(10), -1);
        due("HOOK 1", x.evenest(11), 0);
        x = told(row("rail", 11, 99) + "cloth 50 99;");
        due("12 RINGS, and HOOK 0 at none of them", x.evenest(10), -1);
        due("HOOK 1", x.evenest(11), 0);
        due("a SAG of 0", x.evenest(0), 0);
        for (String empty : new String[] {"", "cloth 9;", "rail 9;", ALL_BROKEN, TIGHT}) {
            x = told(LOOSE);
            due("SAGS", x.evenest(1), 11 * 98 * 98);
            tell(x, empty);
            due("another window, no SAG: the greatest", x.evenest(0), 0);
            due("another window, no SAG: squares", x.evenest(1), 0);
        }

        says("EVENEST, what 0: the greatest SAG, 1: sum of squares, 10 + h: the RING of HOOK h (NONE). -2.");
        x = told(LOOSE);
        due("HOOK 0", x.evenest(10), 0);
        due("HOOK 11", x.evenest(21), 11);
        for (int what : new int[] {-1, 2, 9, 22, LEAST, GREATEST, LEAST + 10}) {
            due("what " + what, x.evenest(what), -2);
        }
        due("HOOK 2 of two", told("rail 1;cloth 9;").evenest(12), -2);
        due("without HOOKS", new HookOver().evenest(10), -2);
        due("without RINGS", told("cloth 9;").evenest(11), -1);
        due("the most squares", told("rail 1;cloth 99;").evenest(1), 98 * 98);

        says("SPREAD: all is joined as EVENEST tells, taking no SECONDS: how many HOOKS are at other RINGS (or at one, at"
            + " none) than they were.");
        due("nothing is there", new HookOver().spread(), 0);
        due("nothing can be joined", told(ALL_BROKEN).spread(), 0);
        x = told(LOOSE + "chair 0 99 99;");
        due("all 12 were at none", x.spread(), 12);
        due("no SECONDS", x.count(3), 0);
        due("the CHAIR stays", x.count(4), 0);
        due("all are as they were", x.spread(), 0);
        x = told("rail 1;cloth 9 9;join 1 0;join 2 1;");
        due("to one, to another, to none", x.spread(), 3);
        due("to one", x.hook(0, 0), 0);
        due("to another", x.hook(1, 0), 1);
        due("to none", x.hook(2, 0), -1);
        x = told("rail 1;cloth 9;join 0 0;broken 0;");
        due("off the broken one", x.spread(), 1);
        due("to the other", x.hook(0, 0), 1);
    }

    private static void looks() {
        says("LOOKS by a TRAY (1 to 20 numbers 0 to 999: SECONDS of a look at each of so many places in a row)");
        HookOver x = new HookOver();
        x.numbers(0, 1, 0);
        due("no number", x.looks(0, 0), -4);
        x.numbers(0, 1, 1);
        due("one of 0", x.looks(0, 0), 0);
        x.write(0, 0, 999);
        due("one of 999", x.looks(0, 0), 999);
        x.write(0, 0, 1000);
        due("one of 1000", x.looks(0, 0), -3);
        x.write(0, 0, -1);
        due("one of -1", x.looks(0, 0), -3);
        x.numbers(0, 1, 20);
        due("20", x.looks(0, 0), 0);
        x.write(0, 19, 1000);
        due("the twentieth is 1000", x.looks(0, 0), -3);
        x.numbers(0, 1, 21);
        due("21", x.looks(0, 0), -4);
        x.numbers(0, 1, 40);
        due("40", x.looks(0, 0), -4);
        fill(x, 1, 3, 1L << 32);
        due("a number that an int has not", x.looks(1, 0), -3);
        fill(x, 1, 3, Long.MIN_VALUE);
        due("the least number", x.looks(1, 2), -3);

        says("the fewest SECONDS at worst by which it is known where it is; the first look by which that can be, the least;"
            + " the fewest looks at worst");
        int[] fewest = {0, 1, 2, 2, 3, 3, 3, 3, 4, 4, 4, 4, 4, 4, 4, 4, 5, 5, 5, 5, 5};
        for (int n = 1; n <= 20; n++) {
            x.numbers(0, 1, n);
            due("looks at " + n + " places of 0", x.looks(0, 2), fewest[n]);
            due("the least first look", x.looks(0, 1), 0);
            due("SECONDS", x.looks(0, 0), 0);
            for (int i = 0; i < n; i++) {
                x.write(0, i, 999);
            }
            due("looks at " + n + " places of 999", x.looks(0, 2), fewest[n]);
            due("SECONDS", x.looks(0, 0), 999 * fewest[n]);
            // Behind the first look no more than 2^(looks - 1) - 1 places may be left.
            due("the least first look", x.looks(0, 1), Math.max(0, n - (1 << fewest[n] - 1)));
        }
        fill(x, 0, 1, 1, 9);
        due("two places", x.looks(0, 0), 10);
        due("either can be the first: the least", x.looks(0, 1), 0);
        fill(x, 0, 1, 9, 1, 1);
        due("at the dear one only if it must be", x.looks(0, 0), 10);
        due("its first look", x.looks(0, 1), 1);
        due("looks", x.looks(0, 2), 2);

        says("LOOKS, what 0: SECONDS at worst, 1: the first look, 2: the fewest looks at worst. -2: the TRAY, what; -6; -4:"
            + " not 1 to 20; -3: one is not 0 to 999.");
        for (int what : new int[] {-1, 3, LEAST, GREATEST}) {
            due("what " + what, x.looks(0, what), -2);
            due("what " + what + " of a MISSING TRAY", x.looks(2, what), -2);
        }
        for (int tray : new int[] {-1, 4, LEAST, GREATEST}) {
            due("TRAY " + tray, x.looks(tray, 0), -2);
        }
        due("MISSING", x.looks(2, 0), -6);
        due("MISSING", x.looks(3, 2), -6);
        x.numbers(3, 1, 21);
        x.write(3, 0, -1);
        for (int what = 0; what < 3; what++) {
            due("-4 is told ahead of -3", x.looks(3, what), -4);
        }
    }

    private static void rounds() {
        says("ROUND by a TRAY (1 to 8 unlike RINGS): the CHAIR goes by all of them, one behind the other, as to unhook"
            + " there: the fewest SECONDS, of like ones the first by places in the TRAY.");
        HookOver x = told(LOOSE + "chair 0 3 1;");
        x.numbers(0, 0, 0);
        due("none", x.rounds(0, 0), -4);
        fill(x, 0, 0, 0);
        due("where the CHAIR stands", x.rounds(0, 0), 1);
        fill(x, 0, 0, 11);
        due("the last RING", x.rounds(0, 0), 3 + 11 + 1);
        fill(x, 0, 0, 11, 10, 9, 8, 7, 6, 5, 4);
        due("eight", x.rounds(0, 0), 8 * 4 + 11);
        for (int k = 0; k < 8; k++) {
            due("the " + k + "th of eight", x.rounds(0, 10 + k), 4 + k);
        }
        fill(x, 0, 0, 11, 10, 9, 8, 7, 6, 5, 4, 3);
        due("nine", x.rounds(0, 0), -4);
        x = told(LOOSE + "chair 9 3 1;");
        fill(x, 0, 0, 5, 9, 1);
        due("all within REACH", x.rounds(0, 0), 3);
        due("the first by places", x.rounds(0, 10), 5);
        due("the second by places", x.rounds(0, 11), 9);
        due("the third by places", x.rounds(0, 12), 1);
        fill(x, 0, 0, 10, 9, 1);
        due("one beyond REACH: the CHAIR reaches all then", x.rounds(0, 0), 3 + 3 + 1);
        due("so it may be the first", x.rounds(0, 10), 10);
        due("SECONDS of now don't count", x.count(3), 0);
        x = told(LOOSE + "chair 1 3 1;");
        fill(x, 0, 0, 6, 2, 4);
        // By RINGS 4 2 6: 7 + 1 + 6; by 2 6 4: 5 + 8 + 1; by others more. 2 6 4 are places 1 0 2, the others 2 1 0.
        due("two ways are least", x.rounds(0, 0), 14);
        due("RING 2 is first", x.rounds(0, 10), 2);
        due("then 6", x.rounds(0, 11), 6);
        due("then 4", x.rounds(0, 12), 4);
        x.join(5, 11);
        // The CHAIR is at RING 10: by 4 6 2: 9 + 1 + 6; by 6 2 4: 7 + 8 + 1; by others more.
        due("from the other side", x.rounds(0, 0), 16);
        due("RING 6 is first", x.rounds(0, 10), 6);
        due("then 2", x.rounds(0, 11), 2);
        due("then 4", x.rounds(0, 12), 4);
        // From RING 6 by 7 11 9 1, by 7 9 11 1 and by 1 7 9 11 it is put on by 15 in all.
        HookOver y = told(LOOSE + "chair 0 10 1;");
        y.join(0, 6);
        fill(y, 0, 0, 7, 1, 11, 9);
        due("four stops", y.rounds(0, 0), 4 * 11 + 15);
        int[] order = {7, 11, 9, 1};
        for (int k = 0; k < 4; k++) {
            due("stop " + k, y.rounds(0, 10 + k), order[k]);
        }

        says("ROUND, what 0: SECONDS, 10 + k: the k-th RING (NONE: not so many). -2: the TRAY, what (10 to 17); -6; -4: not 1"
            + " to 8; -3: one is no RING, two are alike.");
        due("the third", x.rounds(0, 12), 4);
        due("the fourth of three", x.rounds(0, 13), -1);
        due("the eighth of three", x.rounds(0, 17), -1);
        for (int what : new int[] {-1, 1, 9, 18, LEAST, GREATEST}) {
            due("what " + what, x.rounds(0, what), -2);
            due("what " + what + " of a MISSING TRAY", x.rounds(3, what), -2);
        }
        for (int tray : new int[] {-1, 4, LEAST, GREATEST}) {
            due("TRAY " + tray, x.rounds(tray, 0), -2);
        }
        due("MISSING", x.rounds(3, 17), -6);
        fill(x, 1, 0, 12);
        due("RING 12", x.rounds(1, 0), -3);
        fill(x, 1, 0, -1);
        due("RING -1", x.rounds(1, 0), -3);
        due("-3 ahead of NONE", x.rounds(1, 17), -3);
        fill(x, 1, 3, 1L << 32);
        due("a number that an int has not", x.rounds(1, 0), -3);
        fill(x, 1, 0, 3, 4, 3);
        due("two alike", x.rounds(1, 0), -3);
        fill(x, 1, 0, 1, 2, 3, 4, 5, 6, 7, 7);
        due("the last two alike", x.rounds(1, 0), -3);
        fill(x, 1, 0, 1, 2, 3, 4, 5, 6, 7, 7, 99);
        due("-4 is told ahead of -3", x.rounds(1, 0), -4);
        fill(x, 1, 0, 2);
        tell(x, "rail 1;cloth 9;");
        due("RING 2 of two", x.rounds(1, 0), -3);
        x.write(1, 0, 1);
        due("RING 1 of two", x.rounds(1, 0), 2);
        tell(x, "");
        due("no RINGS", x.rounds(1, 0), -3);
    }

    private static void pleats() {
        says("PLEATS: of each joined HOOK how much RING less HOOK is by remainder of pleat; KEPT: the most that are alike;"
            + " REST: of these the least remainder.");
        for (int pleat = 2; pleat <= 6; pleat++) {
            HookOver x = told(LOOSE + "pleat " + pleat + ";");
            for (int r = 0; r < 12; r++) {
                x.join(11, r);
                due("HOOK 11 at RING " + r + ", pleat " + pleat, x.pleats(1), (r - 11 + 12 * pleat) % pleat);
                due("KEPT", x.pleats(0), 1);
                x.unhook(11);
                x.join(0, r);
                due("HOOK 0 at RING " + r + ", pleat " + pleat, x.pleats(1), r % pleat);
                x.unhook(0);
            }
            due("SPREAD", x.spread(), 12);
            due("all are alike", x.pleats(0), 12);
            due("by 0", x.pleats(1), 0);
        }
        HookOver x = told(LOOSE + "pleat 3;join 0 2;join 2 3;");
        due("remainders 2 and 1: the least", x.pleats(1), 1);
        due("one of each", x.pleats(0), 1);
        x.join(3, 5);
        due("2, 1, 2", x.pleats(1), 2);
        due("two of one", x.pleats(0), 2);

        says("PLEATS, what 0: KEPT, 1: REST (NONE: none is joined). -2; -5: no pleat.");
        x = told("rail 1;cloth 9;pleat 2;");
        due("none is joined: KEPT", x.pleats(0), 0);
        due("none is joined: REST", x.pleats(1), -1);
        due("no HOOKS: KEPT", told("pleat 6;").pleats(0), 0);
        due("no HOOKS: REST", told("pleat 6;").pleats(1), -1);
        for (int what : new int[] {-1, 2, LEAST, GREATEST}) {
            due("what " + what, x.pleats(what), -2);
            due("what " + what + " is told ahead of no pleat", new HookOver().pleats(what), -2);
        }
        due("no pleat: KEPT", new HookOver().pleats(0), -5);
        due("no pleat: REST", told("rail 1;cloth 9;join 0 0;").pleats(1), -5);
    }

    /** Upper and lower number of what so many HOOKS take on the average, in lowest terms. */
    private static BigInteger[] averageOf(int hooks, int n, int hang, int slip, int look) {
        BigInteger upper = BigInteger.ZERO;
        BigInteger lower = BigInteger.ONE;
        for (int left = hooks; left > 0; left -= n) {
            int size = Math.min(n, left);
            BigInteger u = BigInteger.valueOf((long) size * hang + look).multiply(BigInteger.TEN.pow(size));
            BigInteger l = BigInteger.valueOf(10 - slip).pow(size);
            upper = upper.multiply(l).add(u.multiply(lower));
            lower = lower.multiply(l);
        }
        BigInteger shared = upper.gcd(lower);
        return new BigInteger[] {upper.divide(shared), lower.divide(shared)};
    }

    private static void averages(int hooks, int hang, int slip, int look) {
        String text = row("cloth", hooks - 1, 1) + "chair 0 0 " + hang + ";slip " + slip + " " + look + ";";
        HookOver x = told(text);
        int best = 0;
        BigInteger[] least = null;
        for (int n = 1; n <= 12; n++) {
            BigInteger[] a = averageOf(hooks, n, hang, slip, look);
            due("upper of " + n + " by " + text, x.average(n, 0), a[0].longValueExact());
            due("lower of " + n + " by " + text, x.average(n, 1), a[1].longValueExact());
            if (n <= hooks && (least == null || a[0].multiply(least[1]).compareTo(least[0].multiply(a[1])) < 0)) {
                best = n;
                least = a;
            }
        }
        due("bestLook() by " + text, x.bestLook(), best);
    }

    private static void averages() {
        says("ON THE AVERAGE: HOOKS are hung from 0 on, each slips by so many tenths; behind every n (the last ones, too, if"
            + " these are fewer) a LOOK: if one slipped, these are hung anew, and looked at, till none does: HOOK SECONDS"
            + " each, LOOK SECONDS each time.");
        HookOver x = told("cloth 1 1;slip 5 10;");
        due("each alone: 3 times 12 twice", x.average(1, 0), 72);
        due("two, then the last one", x.average(2, 0), 14 * 4 + 12 * 2);
        due("all three", x.average(3, 0), 16 * 8);
        for (int slip = 0; slip <= 9; slip++) {
            for (int look : new int[] {0, 1, 10, 999}) {
                for (int hang : new int[] {1, 2, 99}) {
                    for (int hooks : new int[] {2, 3, 5, 11, 12}) {
                        averages(hooks, hang, slip, look);
                    }
                }
            }
        }
        says("SECONDS ON THE AVERAGE with a LOOK behind every n (1 to 12), what 0: the upper, 1: the lower number (in lowest"
            + " terms). -2; -3: n; -5: no HOOKS.");
        x = told("cloth 1;slip 3 10;");
        due("1400 / 49 is 200 / 7", x.average(2, 0), 200);
        due("1400 / 49 is 200 / 7", x.average(2, 1), 7);
        due("12 is all at once", x.average(12, 0), 200);
        for (int n : new int[] {0, -1, 13, LEAST, GREATEST}) {
            due("n " + n, x.average(n, 0), -3);
            due("n " + n + " is told ahead of no HOOKS", new HookOver().average(n, 1), -3);
            due("what is told ahead of n " + n, x.average(n, 2), -2);
        }
        for (int what : new int[] {-1, 2, LEAST, GREATEST}) {
            due("what " + what, x.average(1, what), -2);
            due("what " + what + " is told ahead of no HOOKS", new HookOver().average(1, what), -2);
        }
        due("no HOOKS", told("rail 1;").average(1, 0), -5);
        due("no HOOKS", new HookOver().average(12, 1), -5);

        says("The n (1 to HOOKS) by which these are least, the first. -5: no HOOKS.");
        due("all the same: the first", told("cloth 1 1;slip 0 0;").bestLook(), 1);
        due("all at once, but not beyond HOOKS", told("cloth 1 1;slip 0 1;").bestLook(), 3);
        due("12", told(row("cloth", 11, 1) + "slip 0 1;").bestLook(), 12);
        due("no HOOKS", told("rail 1;").bestLook(), -5);
    }

    private static void oneOut() {
        says("HOOKS below k belong to RINGS of their numbers, others to d more: how many are RIGHT so (no such RING: not"
            + " RIGHT).");
        HookOver x = told("rail 1 1 1;cloth 1 1 1;law:1=1;broken 2;");
        due("HOOK 0 has no RING -1", x.oneOut(0, -1), 3);
        due("HOOK 3 has no RING 4", x.oneOut(0, 1), 3);
        due("at 1 by -1 all have one", x.oneOut(1, -1), 4);
        due("at 3 by 1 the last has none", x.oneOut(3, 1), 3);
        due("at HOOKS all are at their own", x.oneOut(4, 1), 4);
        due("at HOOKS all are at their own", x.oneOut(4, -1), 4);
        x = told("rail 1;cloth 1 1 1;law:1=1;");
        due("fewer RINGS", x.oneOut(4, 1), 2);
        due("fewer RINGS by -1", x.oneOut(0, -1), 2);
        due("fewer RINGS by 1", x.oneOut(0, 1), 1);
        x = told(LOOSE);
        due("12 of 12", x.oneOut(12, 1), 12);
        due("none of 12", x.oneOut(0, 1), 0);
        due("none but the first 11", x.oneOut(11, -1), 11);

        says("ONE OUT at k by d: how many are RIGHT. -3: k isn't 0 to HOOKS, d isn't 1 or -1.");
        for (int k : new int[] {-1, 13, LEAST, GREATEST}) {
            due("k " + k, x.oneOut(k, 1), -3);
        }
        for (int d : new int[] {0, 2, -2, LEAST, GREATEST}) {
            due("d " + d, x.oneOut(0, d), -3);
            due("d " + d, x.out(d, 0), -3);
        }
        due("no HOOKS: k 0", new HookOver().oneOut(0, 1), 0);
        due("no HOOKS: k 1", new HookOver().oneOut(1, 1), -3);
        due("no RINGS", told("cloth 1;").oneOut(2, -1), 0);

        says("OUT: the k (0 to HOOKS; all the same at HOOKS) with the most, the first.");
        due("at HOOKS", x.out(1, 0), 12);
        due("all", x.out(1, 1), 12);
        x = told(LOOSE + "law:ring=hook+1;");
        due("at 0", x.out(1, 0), 0);
        due("all but the last, which has no RING", x.out(1, 1), 11);
        due("by -1 none at all: the first", x.out(-1, 0), 0);
        due("none", x.out(-1, 1), 0);
        x = told(LOOSE + "law:1=1;");
        due("by -1 HOOK 0 has none: 1", x.out(-1, 0), 1);
        due("by 1 HOOK 11 has none: 12", x.out(1, 0), 12);
        due("no HOOKS", new HookOver().out(1, 0), 0);
        due("no HOOKS", new HookOver().out(-1, 1), 0);

        says("OUT, what 0: k, 1: how many are RIGHT. -2; -3: d.");
        for (int what : new int[] {-1, 2, LEAST, GREATEST}) {
            due("what " + what, x.out(1, what), -2);
            due("what " + what + " is told ahead of d", x.out(0, what), -2);
        }
        due("d 0", x.out(0, 1), -3);
    }

    private static long seenBy(HookOver x, long... sight) {
        fill(x, 2, 3, sight);
        return x.seen(2);
    }

    private static void seen() {
        says("SEEN in a TRAY (as many numbers as GAPS: the SAG of that one between whose RINGS the GAP lies, or NONE: not"
            + " seen; -2: of none): FULL JOININGS by which it is so.");
        HookOver x = told("rail 5 5;cloth 10;");
        // RINGS 0 1: 5, of none; 0 2: 0, 0; 1 2: of none, 5.
        long[][] sights = {{-1, -1, 3}, {5, -2, 1}, {-2, 5, 1}, {0, 0, 1}, {-2, -2, 0}, {5, -1, 1}, {-1, 5, 1}, {-2, -1, 1},
            {-1, -2, 1}, {0, -1, 1}, {-1, 0, 1}, {5, 5, 0}, {0, -2, 0}, {5, 0, 0}, {4, -1, 0}, {6, -1, 0},
            {Long.MAX_VALUE, -1, 0}, {1L << 32, 1L << 32, 0}, {(1L << 32) + 5, -1, 0}};
        for (long[] s : sights) {
            due("seen " + s[0] + ", " + s[1], seenBy(x, s[0], s[1]), s[2]);
        }
        x = told("rail 99;cloth 1;");
        due("one is joined: of none", seenBy(x, -2), 4);
        due("one is joined: not seen", seenBy(x, -1), 4);
        due("one is joined: no SAG", seenBy(x, 0), 0);
        x = told(ALL_BROKEN);
        due("none is joined: of none", seenBy(x, -2, -2), 1);
        due("none is joined: not seen", seenBy(x, -1, -1), 1);
        due("none is joined: no SAG", seenBy(x, -1, 0), 0);
        due("no RINGS", seenBy(new HookOver()), 1);
        due("no RINGS, but HOOKS", seenBy(told("cloth 9;")), 1);
        due("no HOOKS", seenBy(told("rail 9 9;"), -2, -1), 1);
        x = told(row("rail", 11, 1) + row("cloth", 11, 1));
        due("12 joined without SAGS", seenBy(x, 0, 0, 0, 0, 0, 0, 0, 0, 0, 0, 0), 1);
        due("the last is not so", seenBy(x, 0, 0, 0, 0, 0, 0, 0, 0, 0, 0, 1), 0);
        due("the last is of none", seenBy(x, 0, 0, 0, 0, 0, 0, 0, 0, 0, 0, -2), 0);
        due("the last isn't seen", seenBy(x, 0, 0, 0, 0, 0, 0, 0, 0, 0, 0, -1), 1);
        x = told("rail 1;" + row("cloth", 11, 99));
        due("the greatest SAG, of HOOKS 0 and 11", seenBy(x, 1088), 1);
        due("one more", seenBy(x, 1089), 0);
        due("66 ways", seenBy(x, -1), 66);
        x = told(row("rail", 5, 1) + row("cloth", 11, 99));
        due("924 ways", seenBy(x, -1, -1, -1, -1, -1), 924);

        says("SEEN: how many. -2: the TRAY; -6; -4: not as many as GAPS; -3: one is below -2.");
        x = told("rail 5 5;cloth 10;");
        for (int tray : new int[] {-1, 4, LEAST, GREATEST}) {
            due("TRAY " + tray, x.seen(tray), -2);
        }
        due("MISSING", x.seen(3), -6);
        due("one too few", seenBy(x, -1), -4);
        due("one too many", seenBy(x, -1, -1, -1), -4);
        due("none", seenBy(x), -4);
        due("the last is -3", seenBy(x, -1, -3), -3);
        due("the first is the least", seenBy(x, Long.MIN_VALUE, -1), -3);
        due("-4 is told ahead of -3", seenBy(x, -3), -4);
        due("no RINGS, a number", seenBy(new HookOver(), -1), -4);

        says("The RING of a HOOK in all of these. NONE: none in all; -8: unlike ones, or there are none; -2 also: the HOOK;"
            + " else as seen().");
        seenBy(x, 5, -2);
        due("HOOK 0", x.sure(2, 0), 0);
        due("HOOK 1", x.sure(2, 1), 1);
        seenBy(x, -1, -1);
        due("unlike ones", x.sure(2, 0), -8);
        seenBy(x, -2, -2);
        due("there are none", x.sure(2, 1), -8);
        due("HOOK 2", x.sure(2, 2), -2);
        due("HOOK -1", x.sure(2, -1), -2);
        due("TRAY 4", x.sure(4, 0), -2);
        due("MISSING", x.sure(3, 0), -6);
        due("-2 is told ahead of that", x.sure(3, 2), -2);
        seenBy(x, -3);
        due("-4", x.sure(2, 0), -4);
        due("-2 is told ahead of that", x.sure(2, 2), -2);
        seenBy(x, -3, -1);
        due("-3", x.sure(2, 1), -3);
        due("no HOOKS", told("rail 1;").sure(2, 0), -2);
        x = told("rail 5 5;cloth 10;");
        fill(x, 0, 0, 5, -2);
        due("without seen() ahead of it", x.sure(0, 1), 1);
        tell(x, "rail 5 5;cloth 1;");
        fill(x, 0, 0, -2, -2);
        due("another window", x.sure(0, 1), -8);
        x = told("rail 5;cloth 3 4;");
        seenBy(x, -1);
        due("at RING 0 in all", x.sure(2, 0), 0);
        due("at none in all", x.sure(2, 1), -1);
        x = told("rail 5;cloth 5 5;");
        seenBy(x, 0);
        due("at none or at one", x.sure(2, 0), -8);
        due("at both", x.sure(2, 1), -8);
        x = told(ALL_BROKEN);
        seenBy(x, -1, -2);
        due("none is joined", x.sure(2, 2), -1);
        seenBy(x, -1, 3);
        due("none is so", x.sure(2, 2), -8);
        // One pair alone has a SAG of 0 at both GAPS: HOOKS 0 and 2 at RINGS 0 and 2.
        x = told("rail 3 1;cloth 1 3;");
        due("one way", seenBy(x, 0, 0), 1);
        due("HOOK 0", x.sure(2, 0), 0);
        due("HOOK 1 at none", x.sure(2, 1), -1);
        due("HOOK 2", x.sure(2, 2), 2);
        // A SAG of 1 at GAP 0, any at GAP 1: HOOK 0 at RING 0, HOOK 1 at RING 2.
        x = told("rail 2 1;cloth 4;");
        due("one way", seenBy(x, 1, -1), 1);
        due("HOOK 0", x.sure(2, 0), 0);
        due("HOOK 1", x.sure(2, 1), 2);
        x = told(row("rail", 11, 1) + row("cloth", 11, 1));
        seenBy(x, 0, 0, 0, 0, 0, 0, 0, 0, 0, 0, -1);
        due("the last of 12", x.sure(2, 11), 11);
        due("one behind", x.sure(2, 12), -2);
    }

    private interface Asked {
        long of(HookOver x);
    }

    /** TRAY 0: SECONDS of looks, 1: a ROUND, 2: what is seen, 3: DEEDS. */
    private static HookOver busy() {
        HookOver x = told("rail 5 6 7 8 9;cloth 7 8 9 9;law:ring<hook+2;chair 1 4 2;pleat 3;slip 3 9;join 1 2;join 3 4;");
        fill(x, 0, 1, 7, 1, 9, 2, 2, 8);
        fill(x, 1, 0, 5, 0, 3, 2);
        fill(x, 2, 0, -1, -1, 3, -1, -1);
        fill(x, 3, 2, 201, 12, 203, 39);
        return x;
    }

    private static void oneBehindTheOther() {
        says("Nothing is promised beyond the answers and state changes described above");
        Asked[] asked = {x -> x.joinings(3), x -> x.full(), x -> x.mended(0), x -> x.mended(12), x -> x.evenest(0),
            x -> x.evenest(1), x -> x.evenest(13), x -> x.fullAt(2, 3), x -> x.looks(0, 0), x -> x.looks(0, 1),
            x -> x.looks(0, 2), x -> x.rounds(1, 0), x -> x.rounds(1, 11), x -> x.seen(2), x -> x.sure(2, 2),
            x -> x.judge(3, 2), x -> x.judge(3, 3), x -> x.average(2, 0), x -> x.bestLook(), x -> x.pleats(1),
            x -> x.out(1, 0), x -> x.undoing(10), x -> x.sags(4), x -> x.why(2, 3), x -> x.count(3)};
        for (int i = 0; i < asked.length; i++) {
            for (int j = 0; j < asked.length; j++) {
                HookOver x = busy();
                asked[i].of(x);
                due("question " + j + " behind question " + i, asked[j].of(x), asked[j].of(busy()));
            }
        }
        HookOver x = busy();
        for (int i = 0; i < asked.length; i++) {
            due("question " + i + " behind all ahead of it", asked[i].of(x), asked[i].of(busy()));
        }
        due("questions join nothing", x.sags(0), 2);
        due("and are not to be UNDONE", x.count(5), 0);
    }

    public static void main(String[] args) {
        oneBehindTheOther();
        joinings();
        fullOnes();
        mended();
        evenest();
        looks();
        rounds();
        pleats();
        averages();
        oneOut();
        seen();
        end(args);
    }
}
