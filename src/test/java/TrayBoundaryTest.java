/** The boundaries of TRAYS, IMAGES and counts (promises 32 to 37). */
public final class TrayBoundaryTest extends Bench {
    private static final int LEAST = Integer.MIN_VALUE;
    private static final int GREATEST = Integer.MAX_VALUE;
    private static final String LARGE = row("rail", 11, 1) + row("cloth", 11, 99);

    private static void numbers() {
        says("TRAYS 0 to 3 are MISSING at first, or have 0 to 40 numbers of 8 bits (sort 0), 16 (1), 32 (2), 64 (3).");
        HookOver x = new HookOver();
        for (int tray = 0; tray < 4; tray++) {
            due("TRAY " + tray + " at first", x.write(tray, 0, 1), -6);
        }
        for (int tray = 0; tray < 4; tray++) {
            due("TRAY " + tray, x.numbers(tray, tray, tray), 0);
            due("its last number", tray == 0 ? 1 : x.write(tray, tray - 1, 1), 1);
            due("one behind", x.write(tray, tray, 1), -7);
            due("the next one is MISSING", tray == 3 ? -6 : x.write(tray + 1, 0, 1), -6);
        }
        x = told("rail 1;");
        due("a new window brings no TRAY", x.perform(0), -6);
        x.numbers(0, 0, 1);
        tell(x, "rail 1;");
        due("and takes none", x.write(0, 0, 7), 7);

        says("A TRAY has n numbers of a sort, all 0 (in place of another one): 0. -2: no such TRAY, sort; -3, and the TRAY"
            + " stays: n is below 0 or above 40.");
        x = new HookOver();
        for (int sort = 0; sort < 4; sort++) {
            due("40 of sort " + sort, x.numbers(0, sort, 40), 0);
            due("the fortieth", x.write(0, 39, 99), 99);
            due("the forty-first", x.write(0, 40, 99), -7);
        }
        for (int i = 0; i < 20; i++) {
            x.write(0, i, 999);
        }
        due("20 in its place", x.numbers(0, 3, 20), 0);
        due("all are 0", x.looks(0, 0), 0);
        due("the twenty-first is gone", x.write(0, 20, 1), -7);
        due("none in its place", x.numbers(0, 1, 0), 0);
        due("no number", x.write(0, 0, 1), -7);
        due("it is not MISSING", x.looks(0, 0), -4);
        fill(x, 0, 1, 500, 1);
        for (int n : new int[] {-1, 41, LEAST, GREATEST}) {
            due("n " + n, x.numbers(0, 3, n), -3);
            due("n " + n + " for a MISSING one", x.numbers(1, 0, n), -3);
        }
        due("the TRAY stays", x.looks(0, 0), 501);
        due("with its sort", x.write(0, 1, 40000), -25536);
        due("the other one is still MISSING", x.looks(1, 0), -6);
        for (int wrong : new int[] {-1, 4, LEAST, GREATEST}) {
            due("TRAY " + wrong, x.numbers(wrong, 0, 1), -2);
            due("sort " + wrong, x.numbers(0, wrong, 1), -2);
            due("TRAY " + wrong + " is told ahead of n", x.numbers(wrong, 0, 41), -2);
            due("sort " + wrong + " is told ahead of n", x.numbers(0, wrong, -1), -2);
        }
        due("the TRAY stays", x.write(0, 1, 40000), -25536);
    }

    private static void cuts() {
        says("Number i of a TRAY is v, cut to its sort: as it is there. -2: no such TRAY; -6; -7.");
        HookOver x = new HookOver();
        long[][] cut = {
            {0, 0, 0}, {0, 127, 127}, {0, 128, -128}, {0, 255, -1}, {0, 256, 0}, {0, -128, -128}, {0, -129, 127},
            {0, Long.MAX_VALUE, -1}, {0, Long.MIN_VALUE, 0},
            {1, 32767, 32767}, {1, 32768, -32768}, {1, 65535, -1}, {1, 65536, 0}, {1, -32768, -32768}, {1, -32769, 32767},
            {2, 2147483647L, 2147483647L}, {2, 2147483648L, -2147483648L}, {2, 4294967295L, -1}, {2, 4294967296L, 0},
            {2, -2147483648L, -2147483648L}, {2, -2147483649L, 2147483647L},
            {3, Long.MAX_VALUE, Long.MAX_VALUE}, {3, Long.MIN_VALUE, Long.MIN_VALUE}, {3, 4294967296L, 4294967296L},
            {3, -1, -1}};
        for (long[] c : cut) {
            x.numbers(2, (int) c[0], 1);
            due("sort " + c[0] + ", v " + c[1], x.write(2, 0, c[1]), c[2]);
        }
        x.numbers(2, 0, 1);
        x.write(2, 0, 256 + 77);
        due("as it is there", x.looks(2, 0), 77);
        x.numbers(2, 0, 3);
        x.write(2, 0, 1);
        x.write(2, 2, 3);
        due("no other is written: 0, then 1 or 3", x.looks(2, 0), 3);
        for (int i : new int[] {-1, 3, 40, LEAST, GREATEST}) {
            due("number " + i, x.write(2, i, 9), -7);
            due("number " + i + " of a MISSING one", x.write(0, i, 9), -6);
            due("number " + i + " of TRAY 4", x.write(4, i, 9), -2);
        }
        for (int tray : new int[] {-1, 4, LEAST, GREATEST}) {
            due("TRAY " + tray, x.write(tray, 0, 1), -2);
        }
        due("nothing was written", x.looks(2, 0), 3);
    }

    private static void copies() {
        says("What would be SEEN now at each GAP (-2 of none) comes into a TRAY, as many as it has places: how many. -2; -6.");
        HookOver x = told("rail 5 5 5 5;cloth 11 5;join 0 1;join 1 3;");
        // GAPS 1 and 2 lie between RINGS 1 and 3: a SAG of 1.
        x.numbers(0, 2, 4);
        due("as many as GAPS", x.copy(0), 4);
        due("in FULL ones three are joined", x.full(), 3);
        due("so no FULL one is like it", x.seen(0), 0);
        x = told("rail 5 5 5 5;cloth 11;join 0 1;join 1 3;");
        x.numbers(0, 2, 4);
        x.copy(0);
        due("one is like it", x.seen(0), 1);
        due("HOOK 0", x.sure(0, 0), 1);
        due("HOOK 1", x.sure(0, 1), 3);
        x.numbers(0, 2, 0);
        due("no places", x.copy(0), 0);
        x.numbers(0, 2, 1);
        due("one place", x.copy(0), 1);
        x.numbers(0, 2, 5);
        x.write(0, 4, 7);
        due("more places than GAPS", x.copy(0), 4);
        due("-2 is no SECONDS", x.looks(0, 0), -3);
        x.write(0, 0, 0);
        x.write(0, 1, 0);
        x.write(0, 2, 0);
        x.write(0, 3, 0);
        due("the fifth stays", x.looks(0, 0), 7);
        x.numbers(0, 2, 40);
        due("40 places", x.copy(0), 4);
        tell(x, "");
        due("no GAPS", x.copy(0), 0);
        tell(x, "cloth 9;");
        due("no RINGS", x.copy(0), 0);
        x = told(LARGE + "join 0 0;join 11 11;");
        x.numbers(0, 2, 11);
        due("11 GAPS", x.copy(0), 11);
        due("1078 at each is too much for a look", x.looks(0, 0), -3);
        x.numbers(0, 0, 11);
        due("cut to 8 bits: 54", x.copy(0), 11);
        due("SECONDS", x.looks(0, 0), 4 * 54);
        x.unhook(11);
        due("one joined HOOK", x.copy(0), 11);
        due("of none at all", x.looks(0, 0), -3);
        for (int i = 0; i < 11; i++) {
            due("number " + i, x.write(0, i, 0), 0);
        }
        x = told("rail 9;cloth 9;join 0 0;join 1 1;");
        x.numbers(0, 0, 1);
        x.write(0, 0, 55);
        x.copy(0);
        due("a SAG of 0 is seen", x.looks(0, 0), 0);
        for (int tray : new int[] {-1, 4, LEAST, GREATEST}) {
            due("TRAY " + tray, x.copy(tray), -2);
        }
        due("MISSING", x.copy(1), -6);
    }

    private static int[] countsOf(HookOver x) {
        int[] found = new int[12];
        for (int what = 0; what < 12; what++) {
            found[what] = x.count(what);
        }
        return found;
    }

    private static void images() {
        says("An IMAGE is made: 0. -2.");
        HookOver x = new HookOver();
        due("image(0)", x.image(0), 0);
        due("image(1)", x.image(1), 0);
        for (int i : new int[] {-1, 2, LEAST, GREATEST}) {
            due("image(" + i + ")", x.image(i), -2);
        }
        says("All that is in an IMAGE is as it was: 0. -2; -5: none was made.");
        for (int i : new int[] {-1, 2, LEAST, GREATEST}) {
            due("restore(" + i + ")", x.restore(i), -2);
        }
        tell(x, LARGE);
        due("an IMAGE without a window", x.restore(0), 0);
        due("no HOOKS", x.count(0), 0);
        due("no LINES", x.count(11), 0);
        x = new HookOver();
        due("none was made", x.restore(0), -5);
        due("none was made", x.restore(1), -5);
        x.image(1);
        due("not this one", x.restore(0), -5);
        due("this one", x.restore(1), 0);

        says("IMAGES 0 to 1: THE WINDOW and what a call could bring back by UNDOING; nothing can be UNDONE behind (none at"
            + " first).");
        String text = "rail 7 8 9;cloth 20 21;law:ring=hook+1;hook 2 mark 3;ring 3 mark 4;broken 0;chair 0 4 3;pleat 5;"
            + "slip 1 8;join 0 1;";
        x = told(text);
        x.join(1, 2);
        x.unhook(1);
        x.join(1, 2);
        due("what can be UNDONE stays as the IMAGE is made", x.image(0) + x.count(5), 3);
        int[] before = countsOf(x);
        long average = x.average(1, 0);
        x.unhook(0);
        x.undo(2);
        tell(x, LARGE + "pleat 2;join 11 11;");
        x.image(1);
        put(x, "pleat 3;");
        fill(x, 0, 0, 5);
        due("restore(0)", x.restore(0), 0);
        int[] due = before.clone();
        due[5] = 0;
        due[10] = 20;
        for (int what = 0; what < 12; what++) {
            due("count(" + what + ") behind", x.count(what), due[what]);
        }
        due("nothing can be UNDONE", x.undo(1), -3);
        due("HOOK 0", x.hook(0, 0), 1);
        due("HOOK 1", x.hook(1, 0), 2);
        due("HOOK 2", x.hook(2, 0), -1);
        due("cloth", x.hook(0, 2), 20);
        due("cloth", x.hook(1, 2), 21);
        due("SAG", x.hook(0, 3), 12);
        due("GAP", x.ring(0, 2), 7);
        due("GAP", x.ring(2, 2), 9);
        due("MARK of HOOK 2", x.hook(2, 1), 3);
        due("MARK of RING 3", x.ring(3, 1), 4);
        due("RING 0", x.ring(0, 3), 1);
        due("the law", x.belongs(2, 3), 1);
        due("the law", x.belongs(2, 2), 0);
        due("slip", x.average(1, 0), average);
        due("FULL", x.full(), 3);
        due("THE TAPE is in no IMAGE", x.window(8), 1);
        due("nor are TRAYS", x.looks(0, 0), 5);
        due("the other one", x.restore(1), 0);
        due("HOOKS", x.count(0), 12);
        due("HOOK 11", x.hook(11, 0), 11);
        due("pleat", x.count(9), 2);
        x.unhook(11);
        x.join(11, 10);
        due("two calls can be UNDONE", x.count(5), 2);
        due("again", x.restore(1), 0);
        due("none can be", x.undo(1), -3);
        due("none can be", x.count(5), 0);
        due("HOOK 11", x.hook(11, 0), 11);
        due("SECONDS", x.count(3), 0);
        x.unhook(11);
        x.image(1);
        x.join(11, 11);
        due("the later one under the same number", x.restore(1), 0);
        due("HOOK 11", x.hook(11, 0), -1);
        due("an IMAGE of what was restored", x.restore(0) + x.image(1) + x.restore(1), 0);
        due("HOOKS", x.count(0), 3);
        due("latest FAULT is of window(), not of an IMAGE", x.fault(0), 0);
    }

    private static void counts() {
        says("0 HOOKS, 1 RINGS, 2 broken ones, 3 SECONDS since THE WINDOW was told, 4 where the CHAIR stands, 5 calls that can"
            + " be UNDONE, 6 REACH, 7 CLIMB, 8 HOOK SECONDS, 9 pleat (0: none), 10 bytes on THE TAPE, 11 LINES. NONE for"
            + " others.");
        HookOver x = new HookOver();
        int[] first = {0, 0, 0, 0, 0, 0, 1, 5, 2, 0, 0, 0};
        for (int what = 0; what < 12; what++) {
            due("count(" + what + ") at first", x.count(what), first[what]);
        }
        for (int what : new int[] {-1, 12, LEAST, GREATEST}) {
            due("count(" + what + ")", x.count(what), -1);
        }
        StringBuilder text = new StringBuilder(LARGE + "chair 9 99 99;pleat 6;");
        for (int r = 0; r < 12; r++) {
            text.append("broken ").append(r).append(';');
        }
        x = told(text.toString());
        int[] most = {12, 12, 12, 0, 0, 0, 9, 99, 99, 6, 0, 16};
        for (int what = 0; what < 12; what++) {
            due("count(" + what + ") at most", x.count(what), most[what]);
        }
        x = told(LARGE + "chair 0 99 99;");
        for (int i = 0; i < 60; i++) {
            x.join(11, i % 2 == 0 ? 11 : 0);
            x.unhook(11);
        }
        due("SECONDS of many calls", x.count(3), 60 * (99 + 11 + 99 + 99));
        due("10 of them can be UNDONE", x.count(5), 10);
        due("the CHAIR", x.count(4), 0);
        x.join(0, 11);
        due("the CHAIR", x.count(4), 11);
    }

    private static void newObject() {
        says("HookOver(): No HOOKS, no RINGS.");
        HookOver x = new HookOver();
        due("HOOKS", x.count(0), 0);
        due("RINGS", x.count(1), 0);
        due("another object has its own", told(LARGE).count(0), 12);
        due("HOOKS of the first", x.count(0), 0);
        says("An object is used for at most 512 calls after it has been made");
        x = new HookOver();
        for (int i = 0; i < 45; i++) {
            x.feed(0x20202020, 0x20202020, 0x20202020, 0x20202020, 0x20202020);
        }
        x.window(900);
        put(x, LARGE);
        x.window(LARGE.length());
        for (int calls = 0; calls < 450; calls++) {
            due("call " + calls, x.day(calls, 60) > 0 ? 1 : 0, 1);
        }
        due("HOOKS", x.count(0), 12);
    }

    public static void main(String[] args) {
        newObject();
        numbers();
        cuts();
        copies();
        images();
        counts();
        end(args);
    }
}
