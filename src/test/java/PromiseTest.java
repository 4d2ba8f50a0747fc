/** For each promise of the document answers that were worked out by hand: ordinary ones, edges, wrong inputs. */
public final class PromiseTest {
    private static int wrong = 0;
    private static int asked = 0;

    private static void due(int promise, String call, long got, long want) {
        asked++;
        if (got != want) {
            wrong++;
            System.out.println("promise " + promise + ": " + call + " answered " + got + ", due is " + want);
        }
    }

    private static int intAt(String text, int i) {
        int x = 0;
        for (int k = i; k < i + 4; k++) {
            x = x << 8 | (k < text.length() ? text.charAt(k) & 255 : 32);
        }
        return x;
    }

    private static void put(HookOver x, String text) {
        for (int i = 0; i < text.length(); i += 20) {
            x.feed(intAt(text, i), intAt(text, i + 4), intAt(text, i + 8), intAt(text, i + 12), intAt(text, i + 16));
        }
    }

    private static int tell(HookOver x, String text) {
        put(x, text);
        return x.window(text.length());
    }

    private static HookOver told(String text) {
        HookOver x = new HookOver();
        int lines = tell(x, text);
        if (lines < 0) {
            wrong++;
            System.out.println("not a window: " + text + " (" + lines + " at " + x.fault(1) + ")");
        }
        return x;
    }

    private static void fill(HookOver x, int tray, int sort, long... values) {
        x.numbers(tray, sort, values.length);
        for (int i = 0; i < values.length; i++) {
            x.write(tray, i, values[i]);
        }
    }

    private static String times(String part, int n) {
        return part.repeat(n);
    }

    private static void newObject() {
        HookOver x = new HookOver();
        int[] counts = {0, 0, 0, 0, 0, 0, 1, 5, 2, 0, 0, 0, -1};
        for (int what = 0; what < counts.length; what++) {
            due(1, "count(" + what + ")", x.count(what), counts[what]);
        }
        due(1, "hook(0, 0)", x.hook(0, 0), -2);
        due(1, "ring(0, 0)", x.ring(0, 0), -2);
        due(1, "fault(0)", x.fault(0), 0);
        due(1, "fault(1)", x.fault(1), -1);
        due(1, "joinings(0)", x.joinings(0), 1);
        due(1, "undo(1)", x.undo(1), -3);
        due(1, "restore(1)", x.restore(1), -5);
        due(1, "copy(3)", x.copy(3), -6);
        x.numbers(0, 0, 0);
        due(1, "seen of no GAPS", x.seen(0), 1);
        due(1, "copy of no GAPS", x.copy(0), 0);
        due(1, "judge nothing", x.judge(0, 0), -1);
        due(1, "perform nothing", x.perform(0), 0);
    }

    private static void feeds() {
        HookOver x = new HookOver();
        for (int i = 1; i <= 45; i++) {
            due(2, "feed " + i, x.feed(0x20202020, 0x20202020, 0x20202020, 0x20202020, 0x20202020), 20 * i);
        }
        due(2, "feed beyond 900", x.feed(0, 0, 0, 0, 0), -5);
        due(2, "count(10)", x.count(10), 900);
        due(2, "window(900) of blanks", x.window(900), 0);
        due(2, "feed behind it", x.feed(0x70656163, 0, 0, 0, 0), 20);
        due(2, "window(4)", x.window(4), -32);
        due(2, "place", x.fault(1), 0);
        x.feed(0x3b000000, 0, 0, 0, 0);
        due(2, "the highest byte is first", x.window(1), -32);
        x.feed(0x20200020, 0, 0, 0, 0);
        due(2, "the third byte is no TOKEN", x.window(4), -31);
        due(2, "its place", x.fault(1), 2);
    }

    private static void windows() {
        HookOver x = new HookOver();
        put(x, "pleat 3;pleat 4;");
        due(3, "window(-1)", x.window(-1), -3);
        due(3, "window(21)", x.window(21), -3);
        due(3, "THE TAPE stays", x.count(10), 20);
        due(3, "window(8)", x.window(8), 1);
        due(3, "THE TAPE is empty", x.count(10), 0);
        due(3, "pleat", x.count(9), 3);
        due(3, "one text on it", tell(x, "rail 1;cloth 5;join 0 0;"), 3);
        due(3, "pleat of a new window", x.count(9), 0);
        due(3, "join", x.join(1, 1), 2);
        due(3, "a FAULT", tell(x, "pleat 2"), -32);
        due(3, "THE TAPE is empty with a FAULT", x.count(10), 0);
        due(3, "HOOKS stay", x.count(0), 2);
        due(3, "SECONDS stay", x.count(3), 2);
        due(3, "UNDOING stays", x.count(5), 1);
        due(3, "LINES stay", x.count(11), 3);
        due(3, "joins stay", x.hook(1, 0), 1);
        due(3, "the same again", tell(x, "rail 1 ; cloth 5\n;join 0 1;  "), 3);
        due(3, "SECONDS", x.count(3), 0);
        due(3, "UNDOING", x.count(5), 0);
        due(3, "its joins", x.hook(0, 0), 1);
        due(3, "no other", x.hook(1, 0), -1);
        due(3, "window(0)", x.window(0), 0);
        due(3, "no RINGS", x.count(1), 0);
        due(3, "all TOKENS without blanks", tell(x, "rail1 2;cloth3;law:[hook=1]or(ring)>hm;join0 0;"), 4);
        due(3, "RINGS", x.count(1), 3);
        x = told("rail 9 9 9;cloth 9 9 9;chair 0 7 3;join 3 3;");
        due(3, "joins at first move no CHAIR", x.count(4), 0);
        due(3, "and take no SECONDS", x.count(3), 0);
        x.unhook(3);
        due(3, "the CHAIR stood at 3", x.count(4), 3);
        tell(x, "rail 9;cloth 9;");
        due(3, "the CHAIR stands at 0", x.count(4), 0);
        due(3, "REACH", x.count(6), 1);
        due(3, "SECONDS", x.count(3), 0);
    }

    private static void faultOf(String text, int kind, int place) {
        HookOver x = new HookOver();
        int want = kind == 0 ? 1 : -30 - kind;
        int got = tell(x, text);
        due(4, "window of '" + text + "'", kind == 0 ? Math.min(1, got) : got, want);
        due(4, "fault(0) of '" + text + "'", x.fault(0), kind);
        due(4, "fault(1) of '" + text + "'", x.fault(1), place);
    }

    private static void faults() {
        String both = "rail 9 9;cloth 9;";
        faultOf("rail 1 1 1 1 1 1 1 1 1 1 1;", 0, -1);
        faultOf("rail 1 1 1 1 1 1 1 1 1 1 1 1;", 4, 27);
        faultOf("rail 1 1 1 1 1 1 1 1 1 1 1 100;", 3, 27);
        faultOf("rail 1 1 1 1 1 1 1 1 1 1 1 1000;", 1, 27);
        faultOf("cloth 99 99 99 99 99 99 99 99 99 99 99 99;", 4, 39);
        faultOf("cloth 0;", 3, 6);
        faultOf("rail 100", 3, 5);
        faultOf("rail 1", 2, 6);
        faultOf("rail 1  ", 2, 8);
        faultOf("rail", 2, 4);
        faultOf("rail 1;;", 2, 7);
        faultOf("; rail 1;", 2, 0);
        faultOf("rail 1;rail 1;", 2, 7);
        faultOf("rail 1;cloth 2;cloth ,", 2, 15);
        faultOf("broken 0;", 2, 0);
        faultOf("rail 1;ring 0 mark 1;", 2, 7);
        faultOf("cloth 1;ring 0 mark 1;", 2, 8);
        faultOf("rail 1 mark;", 2, 7);
        faultOf("mark 1;", 2, 0);
        faultOf("Rail 1;", 1, 0);
        faultOf("rail 1\t;", 1, 6);
        faultOf("rail 1;" + (char) 200, 1, 7);
        faultOf("rail 0 ,", 3, 5);
        faultOf("rail , 0", 1, 5);
        faultOf("pleat 0002;", 1, 6);
        faultOf("pleat 002;", 0, -1);
        faultOf("pleat 2a;", 2, 7);
        faultOf("pleat 1;", 3, 6);
        faultOf("chair 9 99 99;", 0, -1);
        faultOf("chair 9 100 99;", 3, 8);
        faultOf("chair 9 99 100;", 3, 11);
        faultOf("slip 9 999;", 0, -1);
        faultOf("slip 9 999 1;", 2, 11);
        faultOf(both + "hook 1 mark 99;", 0, -1);
        faultOf(both + "hook 2 mark 9;", 3, 22);
        faultOf(both + "ring 2 mark 100;", 3, 29);
        faultOf(both + "broken 3;", 3, 24);
        faultOf(both + "join 2 0;", 3, 22);
        faultOf(both + "join 0 3;", 3, 24);
        faultOf(both + "join 0 0;join 0 1;", 3, 33);
        faultOf(both + "join 0 0;join 1 0;", 3, 33);
        faultOf(both + "join 0 1;join 1 0;", 3, 33);
        faultOf(both + "join 0 0;join 1 2;", 3, 33);
        faultOf(both + "join 0 0;join 1 1;", 0, -1);
        faultOf(both + "broken 2;join 0 2;", 3, 33);
        faultOf(both + "join 0 2;broken 2;", 0, -1);
        lawFaults();
        HookOver x = new HookOver();
        tell(x, "hem;");
        due(4, "fault(2)", x.fault(2), -1);
        due(4, "fault(-1)", x.fault(-1), -1);
        due(4, "window(5)", x.window(5), -3);
        due(4, "a window that wasn't read tells nothing", x.fault(0), 2);
        tell(x, "");
        due(4, "a good one", x.fault(0), 0);
        due(4, "its place", x.fault(1), -1);
    }

    private static void lawFaults() {
        faultOf("law : not [ not [ ( ( 1 ) ) = 1 ] ];", 0, -1);
        faultOf("law : " + times("[", 6) + "1=1" + times("]", 6) + ";", 0, -1);
        faultOf("law : " + times("[", 7) + "1=1" + times("]", 7) + ";", 4, 12);
        faultOf("law : " + times("(", 7) + "1" + times(")", 7) + "=1;", 4, 12);
        faultOf("law : not [ not [ ( ( ( 1 ) ) ) = 1 ] ];", 4, 22);
        faultOf("law : not not not 1 = 1 and not not not not 1 = 1;", 0, -1);
        faultOf("law : not not not not not not ( 1 ) = 1;", 4, 30);
        faultOf("law : not not not not not not ] 1 ) = 1;", 2, 30);
        faultOf("law : 1 = 1 = 1;", 2, 12);
        faultOf("law : ( 1 = 1 );", 2, 10);
        faultOf("law : [ 1 ];", 2, 10);
        faultOf("law : [ 1 = 1 ] = 1;", 2, 16);
        faultOf("law : 1 = not 1;", 2, 10);
        faultOf("law : 1 + = 1;", 2, 10);
        faultOf("law : - 1 = 1;", 2, 6);
        faultOf("law : 1 = 1 or;", 2, 14);
        faultOf("law : 1 = 1 and", 2, 15);
        faultOf("law : 1 = 1 not 1 = 1;", 2, 12);
        faultOf("law : mark = 1;", 2, 6);
        faultOf("law : 1 = 1234;", 1, 10);
        faultOf("law 1 = 1;", 2, 4);
        faultOf("law : 999 = hooks * rings;", 0, -1);
    }

    private static void hooksAndRings() {
        HookOver x = told("rail 5 6 7;cloth 20 30;hook 1 mark 99;ring 3 mark 7;broken 2;join 0 1;join 2 3;");
        long[][] hooks = {{1, 0, 20, 37, 0}, {-1, 99, 30, -1, 0}, {3, 0, -1, -1, 0}};
        for (int h = 0; h < 3; h++) {
            for (int what = 0; what < 5; what++) {
                due(5, "hook(" + h + ", " + what + ")", x.hook(h, what), hooks[h][what]);
            }
        }
        due(5, "hook(3, 0)", x.hook(3, 0), -2);
        due(5, "hook(-1, 0)", x.hook(-1, 0), -2);
        due(5, "hook(0, 5)", x.hook(0, 5), -2);
        due(5, "hook(0, -1)", x.hook(0, -1), -2);
        long[][] rings = {{-1, 0, 5, 0}, {0, 0, 6, 0}, {-1, 0, 7, 1}, {2, 7, -1, 0}};
        for (int r = 0; r < 4; r++) {
            for (int what = 0; what < 4; what++) {
                due(6, "ring(" + r + ", " + what + ")", x.ring(r, what), rings[r][what]);
            }
        }
        due(6, "ring(4, 0)", x.ring(4, 0), -2);
        due(6, "ring(-1, 0)", x.ring(-1, 0), -2);
        due(6, "ring(0, 4)", x.ring(0, 4), -2);
        due(6, "ring(0, -1)", x.ring(0, -1), -2);
        x.join(1, 2);
        due(5, "a broken RING", x.hook(1, 0), -1);
        x = told("rail 5 5;cloth 5 5;join 0 0;join 1 1;");
        due(5, "joined RIGHT", x.hook(1, 4), 1);
        due(5, "not joined", x.hook(2, 4), 0);
        due(5, "a SAG of 0", x.hook(0, 3), 0);
        x = told("rail 5 5;cloth 5 5;join 0 0;broken 0;");
        due(6, "a RING that broke with its HOOK", x.ring(0, 0), 0);
        due(6, "it is broken", x.ring(0, 3), 1);
    }

    private static int lawHolds(String law, int h, int r) {
        return told("rail 1 1 1;cloth 1 1 1 1;hook 2 mark 50;ring 1 mark 40;law : " + law + ";").belongs(h, r);
    }

    private static void laws() {
        HookOver x = told("rail 1 1;cloth 1 1 1;");
        due(7, "without a law", x.belongs(2, 2), 1);
        due(7, "unlike", x.belongs(2, 1), 0);
        due(7, "belongs(3, 3)", x.belongs(3, 3), -2);
        due(7, "belongs(4, 0)", x.belongs(4, 0), -2);
        due(7, "belongs(-1, 0)", x.belongs(-1, 0), -2);
        due(7, "belongs(0, -1)", x.belongs(0, -1), -2);
        due(7, "hm", lawHolds("hm = 50 and rm = 40", 2, 1), 1);
        due(7, "rm", lawHolds("hm = 50 and rm = 40", 2, 2), 0);
        due(7, "hooks, rings", lawHolds("hooks = 5 and rings = 4", 0, 0), 1);
        due(7, "* ahead of +", lawHolds("2 + 3 * 4 = 14", 0, 0), 1);
        due(7, "- from the left", lawHolds("9 - 3 - 2 = 4", 0, 0), 1);
        due(7, "( )", lawHolds("( 2 + 3 ) * 4 = 20", 0, 0), 1);
        due(7, "below 0", lawHolds("hook - ring < 0", 0, 1), 1);
        due(7, "and ahead of or", lawHolds("1 = 1 or 1 = 1 and 1 = 2", 0, 0), 1);
        due(7, "[ ]", lawHolds("[ 1 = 1 or 1 = 1 ] and 1 = 2", 0, 0), 0);
        due(7, "not of one UNIT", lawHolds("not 1 = 2 and 1 = 2", 0, 0), 0);
        due(7, "not not", lawHolds("not not 1 = 1", 0, 0), 1);
        due(7, "kept below", lawHolds("999 * 999 * 999 = 999 * 999 + 999 + 999 + 1", 0, 0), 1);
        due(7, "kept at each", lawHolds("999 * 999 * 999 - 1 = 999 * 999 + 999 + 999", 0, 0), 1);
        due(7, "kept above", lawHolds("( 0 - 999 ) * 999 * 999 = 0 - 999 * 999 - 999 - 999 - 999", 0, 0), 1);
        due(7, "a million less 1 then more", lawHolds("999 * 999 * 999 - 1 + 2 = 999 * 999 * 9", 0, 0), 1);
        x = told("law : 1 = 2;law : hm < rm;rail 1;cloth 1;ring 1 mark 1;");
        due(7, "later ones strike", x.belongs(0, 1), 1);
        due(7, "and marks told later count", x.belongs(0, 0), 0);
    }

    private static void allSags() {
        HookOver x = told("rail 10 10 10;cloth 12 13 14;join 0 0;join 1 1;join 3 2;");
        due(8, "sags(0)", x.sags(0), 3);
        due(8, "sags(1)", x.sags(1), 2);
        due(8, "sags(2)", x.sags(2), 17);
        due(8, "sags(3)", x.sags(3), 19);
        due(8, "sags(4)", x.sags(4), 4 + 289);
        due(8, "sags(5)", x.sags(5), -2);
        due(8, "sags(-1)", x.sags(-1), -2);
        x.unhook(1);
        due(8, "one SAG of two", x.sags(2), 12 + 13 + 14 - 20);
    }

    private static void whys() {
        HookOver x = told("rail 10 10 10 10;cloth 12 12 12;broken 4;join 1 1;");
        due(9, "why(4, 0)", x.why(4, 0), 1);
        due(9, "why(0, 5)", x.why(0, 5), 1);
        due(9, "why(-1, 0)", x.why(-1, 0), 1);
        due(9, "why(0, -1)", x.why(0, -1), 1);
        due(9, "a joined HOOK", x.why(1, 2), 2);
        due(9, "a RING that has one", x.why(0, 1), 2);
        due(9, "a broken RING", x.why(2, 4), 2);
        due(9, "an earlier HOOK behind", x.why(0, 2), 3);
        due(9, "a later HOOK ahead", x.why(2, 0), 3);
        due(9, "too short", x.why(2, 3), 4);
        due(9, "long enough", x.why(3, 3), 0);
        due(9, "ahead", x.why(0, 0), 0);
        due(9, "it changes nothing", x.hook(0, 0), -1);
        x.join(3, 3);
        due(9, "too short on one side", x.why(2, 2), 0);
        x = told("rail 10 10;cloth 30 5;join 0 0;join 2 2;");
        due(9, "too short behind", x.why(1, 1), 4);
        x = told("rail 10 10;cloth 5 30;join 0 0;join 2 2;");
        due(9, "too short ahead", x.why(1, 1), 4);
    }

    private static void deeds() {
        HookOver x = told("rail 1 1 1 1 1 1;cloth 9 9 9 9 9 9;chair 2 50 3;");
        due(10, "within REACH", x.join(0, 2), 3);
        due(10, "just beyond", x.join(1, 3), 50 + 1 + 3);
        due(10, "CHAIR", x.count(4), 1);
        due(10, "far", x.join(5, 6), 50 + 3 + 3);
        due(10, "CHAIR", x.count(4), 4);
        due(10, "SECONDS", x.count(3), 3 + 54 + 56);
        due(10, "no such", x.join(7, 0), -11);
        due(10, "taken", x.join(2, 6), -12);
        due(10, "crossed", x.join(4, 0), -13);
        due(10, "changed nothing", x.count(5), 3);
        due(11, "back", x.unhook(1), 3);
        due(11, "back more", x.unhook(0), 3);
        due(11, "not joined", x.unhook(0), -12);
        due(11, "no such", x.unhook(7), -11);
        due(11, "no such", x.unhook(-1), -11);
        due(11, "RING is free", x.ring(2, 0), -1);
        due(11, "can be UNDONE", x.count(5), 5);
        due(10, "to the left", x.join(0, 0), 50 + 2 + 3);
        due(10, "CHAIR", x.count(4), 2);
        x = told("rail 10 10;cloth 9 9;join 0 0;");
        due(10, "too short", x.join(1, 1), -14);
        due(10, "SECONDS", x.count(3), 0);
    }

    private static void undos() {
        HookOver x = told("rail 1 1 1;cloth 9 9 9;chair 0 1 1;");
        due(12, "nothing", x.undo(1), -3);
        for (int i = 0; i < 6; i++) {
            x.join(0, i % 4);
            x.unhook(0);
        }
        due(12, "10 at most", x.count(5), 10);
        due(12, "n below 1", x.undo(0), -3);
        due(12, "n", x.undo(-1), -3);
        due(12, "n above 10", x.undo(11), -3);
        due(12, "one", x.undo(1), 9);
        due(12, "joined again", x.hook(0, 0), 1);
        due(12, "more than can be", x.undo(10), -3);
        due(12, "it stays", x.hook(0, 0), 1);
        due(12, "all others", x.undo(9), 0);
        due(12, "as it was behind the first two", x.count(3), 2);
        due(12, "CHAIR", x.count(4), 0);
        due(12, "no more", x.undo(1), -3);
        x.join(1, 1);
        fill(x, 0, 2, 212, 24 + 2);
        due(12, "a perform() that did nothing", x.perform(0), 0);
        due(12, "is no call to be UNDONE", x.count(5), 1);
        fill(x, 0, 2, 201, 13, 24 + 2, 201);
        due(12, "perform()", x.perform(0), 4);
        due(12, "is one call", x.undo(1), 1);
        due(12, "its joins", x.hook(2, 0), -1);
        due(12, "its first one", x.hook(1, 0), 1);
        fill(x, 0, 2, 201, 13);
        x.perform(0);
        due(12, "all as it was, but done", x.count(5), 2);
    }

    private static void twelve() {
        StringBuilder text = new StringBuilder("rail" + times(" 1", 11) + ";cloth" + times(" 9", 11) + ";");
        for (int h = 0; h < 12; h++) {
            text.append("join ").append(h).append(' ').append(h).append(';');
        }
        HookOver x = told(text.toString());
        due(5, "the last HOOK", x.hook(11, 0), 11);
        due(8, "all are RIGHT", x.sags(1), 12);
        due(16, "all from the first on", x.undoing(4095), 12 * 2 + 10 * 6);
        x.image(0);
        due(11, "the last", x.unhook(11), 5 + 10 + 2);
        due(11, "the one ahead", x.unhook(10), 2);
        due(12, "both", x.undo(2), 0);
        due(12, "SECONDS", x.count(3), 0);
        due(12, "CHAIR", x.count(4), 0);
        for (int h = 0; h < 12; h++) {
            due(12, "HOOK " + h, x.hook(h, 0), h);
            fill(x, 0, 2, 200 + h, 13 * h);
            due(14, "unhooked and joined again", x.perform(0), 2);
        }
        due(12, "10 of 12", x.count(5), 10);
        due(12, "all of them", x.undo(10), 0);
        due(12, "behind HOOK 1", x.count(3), 4 * 2);
        x.unhook(11);
        due(36, "restore(0)", x.restore(0), 0);
        due(36, "the last HOOK", x.hook(11, 0), 11);
    }

    private static void trayDeeds() {
        HookOver x = told("rail 10 10 10;cloth 10 10 10;chair 0 5 1;join 0 0;");
        due(13, "MISSING", x.judge(0, 0), -6);
        due(13, "no such TRAY", x.judge(4, 0), -2);
        due(13, "no such what", x.judge(0, 4), -2);
        due(13, "no such what", x.judge(0, -1), -2);
        due(14, "MISSING", x.perform(3), -6);
        due(14, "no such TRAY", x.perform(-1), -2);
        fill(x, 0, 3, 13, 200, 26, 13);
        due(13, "place", x.judge(0, 0), 3);
        due(13, "why", x.judge(0, 1), 2);
        due(13, "SECONDS", x.judge(0, 2), 7 + 7 + 8);
        due(13, "joined", x.judge(0, 3), 2);
        due(13, "nothing is done", x.count(3), 0);
        due(14, "perform", x.perform(0), 3);
        due(14, "SECONDS", x.count(3), 22);
        due(14, "CHAIR", x.count(4), 2);
        due(14, "joined", x.hook(2, 0), 2);
        due(14, "one call", x.count(5), 1);
        fill(x, 0, 3, 201, 202);
        due(13, "all can be", x.judge(0, 0), -1);
        due(13, "why", x.judge(0, 1), 0);
        due(13, "joined then", x.judge(0, 3), 0);
        long[][] whys = {{144, 1}, {199, 1}, {212, 1}, {204, 1}, {203, 2}, {-1, 1}, {4, 1}, {48, 1}, {12, 2}, {0, 0},
            {1, 2}, {2, 2}, {3, 3}, {39, 0}, {36, 3}, {1L << 32, 1}, {200 + (1L << 32), 1}, {Long.MIN_VALUE, 1}};
        for (long[] deed : whys) {
            fill(x, 1, 3, deed[0]);
            due(13, "why of " + deed[0], x.judge(1, 1), deed[1]);
        }
    }

    private static void days() {
        HookOver x = told("rail 1 1;cloth 9 9;chair 9 9 2;");
        due(15, "times", x.day(1, 0), -3);
        due(15, "times", x.day(1, 61), -3);
        // x: 1103527590 (HOOK 16838 % 3 = 2, free), 2524885223 (RING 38526 % 3 = 0).
        due(15, "one time", x.day(1, 1), 1);
        due(15, "the HOOK", x.hook(2, 0), 0);
        due(15, "SECONDS", x.count(3), 2);
        due(15, "the same draws unhook it", x.day(1, 1), 1);
        due(15, "the HOOK", x.hook(2, 0), -1);
        due(15, "SECONDS", x.count(3), 4);
        due(15, "two calls", x.count(5), 2);
        x.join(2, 2);
        x.unhook(2);
        x.join(0, 0);
        due(15, "it can't be", x.day(1, 1), 0);
        due(15, "no call to be UNDONE", x.count(5), 5);
        due(15, "no HOOKS", new HookOver().day(1, 1), -5);
        due(15, "times are told first", new HookOver().day(1, 0), -3);
        due(15, "no RINGS", told("cloth 1;").day(1, 60), -5);
    }

    private static void undoings() {
        HookOver x = told("rail 1 1 1 1;cloth 9 9 9 9;chair 0 10 1;join 1 1;");
        x.join(3, 3);
        due(16, "from the last one on", x.undoing(1 << 1 | 1 << 3), 1 + 13);
        due(16, "nothing is done", x.hook(1, 0), 1);
        due(16, "one", x.undoing(2), 13);
        due(16, "none", x.undoing(0), 0);
        due(16, "others", x.undoing(3), -3);
        due(16, "no HOOK", x.undoing(1 << 5), -3);
        due(16, "bit 31", x.undoing(1 << 31), -3);
        x.unhook(1);
        x.join(1, 0);
        due(16, "from the first one on", x.undoing(1 << 1 | 1 << 3), 1 + 14);
    }

    private static long choose(int n, int k) {
        long c = 1;
        for (int i = 0; i < k; i++) {
            c = c * (n - i) / (i + 1);
        }
        return c;
    }

    private static void manyJoinings() {
        HookOver x = told("rail" + times(" 1", 11) + ";cloth" + times(" 99", 11) + ";");
        for (int n = 0; n <= 12; n++) {
            due(17, "joinings(" + n + ") of all", x.joinings(n), choose(12, n) * choose(12, n));
        }
        due(17, "joinings(13)", x.joinings(13), -3);
        due(17, "joinings(-1)", x.joinings(-1), -3);
        due(18, "full()", x.full(), 12);
        x.join(0, 5);
        due(17, "joins of now don't matter", x.joinings(12), 1);
        x = told("rail" + times(" 99", 11) + ";cloth" + times(" 1", 11) + ";");
        due(17, "one at a time", x.joinings(1), 144);
        due(17, "no two", x.joinings(2), 0);
        due(18, "full()", x.full(), 1);
        due(22, "the first", x.fullAt(0, 0), 0);
        due(22, "HOOK 0 at the last", x.fullAt(11, 0), 11);
        due(22, "HOOK 0 at none", x.fullAt(12, 0), -1);
        due(22, "then HOOK 1", x.fullAt(12, 1), 0);
        due(22, "the last", x.fullAt(143, 11), 11);
        due(22, "beyond", x.fullAt(144, 11), -5);
        due(22, "k", x.fullAt(-1, 11), -3);
        due(22, "the HOOK first", x.fullAt(-1, 12), -2);
        x = told("rail 1;cloth" + times(" 9", 11) + ";");
        due(22, "the second of 66", x.fullAt(1, 1), -1);
        due(22, "its HOOK 2", x.fullAt(1, 2), 1);
        due(22, "the last of 66", x.fullAt(65, 9), -1);
        due(22, "the last of 66", x.fullAt(65, 10), 0);
        due(22, "the last of 66", x.fullAt(65, 11), 1);
        due(22, "no more", x.fullAt(66, 0), -5);
        x = told("rail 1 1;cloth 5 5;broken 0;broken 1;broken 2;");
        due(18, "all are broken", x.full(), 0);
        due(22, "the one without joins", x.fullAt(0, 1), -1);
        due(22, "no other", x.fullAt(1, 1), -5);
        due(17, "joinings(0)", x.joinings(0), 1);
        due(17, "joinings(1)", x.joinings(1), 0);
        due(18, "no RINGS", told("cloth 4 4;").full(), 0);
    }

    private static void mends() {
        HookOver x = told("rail 1 1 1;cloth 9 9 9;join 0 1;join 1 2;join 3 3;");
        due(19, "joined", x.mended(0), 4);
        due(19, "unhooked", x.mended(1), 2);
        due(19, "HOOK 2", x.mended(12), 2);
        due(19, "others", x.mended(2), -2);
        due(19, "others", x.mended(9), -2);
        due(19, "no HOOK", x.mended(14), -2);
        due(19, "others", x.mended(-1), -2);
        x = told("rail 1 1;cloth 9;law : 1 = 1;join 0 1;");
        due(19, "fewest unhooked", x.mended(1), 0);
        due(19, "it stays", x.mended(10), 1);
        due(19, "the other one", x.mended(11), 2);
        x.unhook(0);
        due(19, "the first", x.mended(10), 0);
        due(19, "the first", x.mended(11), 1);
        x.join(0, 2);
        due(19, "the most come first", x.mended(0), 2);
        due(19, "so one is unhooked", x.mended(1), 1);
        due(19, "it is elsewhere", x.mended(10), 0);
        x = told("rail 1 1;cloth 9 9;law : ring = hook + 1;broken 1;join 2 2;");
        due(19, "a broken one", x.mended(0), 1);
        due(19, "unhooked", x.mended(1), 1);
        due(19, "none", x.mended(10), -1);
        due(19, "one", x.mended(11), 2);
        due(19, "none", x.mended(12), -1);
    }

    private static void evens() {
        HookOver x = told("rail 5 5 5;cloth 10 10;");
        due(20, "greatest", x.evenest(0), 5);
        due(20, "squares", x.evenest(1), 25);
        due(20, "HOOK 0", x.evenest(10), 0);
        due(20, "HOOK 1", x.evenest(11), 1);
        due(20, "HOOK 2", x.evenest(12), 3);
        due(20, "no HOOK", x.evenest(13), -2);
        due(20, "others", x.evenest(2), -2);
        due(20, "others", x.evenest(-1), -2);
        x = told("rail 5 1 9;cloth 10 10;");
        due(20, "the least greatest", x.evenest(0), 4);
        due(20, "its squares", x.evenest(1), 17);
        due(20, "HOOK 1", x.evenest(11), 2);
        x = told("rail 5 10;cloth 12;");
        due(20, "not the first", x.evenest(10), 1);
        x = told("rail 99 99;cloth 1 1;");
        due(20, "no SAG", x.evenest(0), 0);
        due(20, "the first", x.evenest(10), 0);
        due(20, "none", x.evenest(11), -1);
        x = told("rail 5 5 5;cloth 10 10;chair 0 9 9;join 0 1;join 2 3;");
        due(21, "spread", x.spread(), 2);
        due(21, "no SECONDS", x.count(3), 0);
        due(21, "CHAIR", x.count(4), 0);
        due(21, "HOOK 1", x.hook(1, 0), 1);
        due(21, "one call", x.count(5), 1);
        due(21, "nobody moves", x.spread(), 0);
        due(21, "no call", x.count(5), 1);
        x.undo(1);
        due(21, "undone", x.hook(0, 0), 1);
        due(21, "undone", x.hook(1, 0), -1);
        x = told("rail 1;cloth 9 9;join 2 0;");
        due(21, "one at none, two at one", x.spread(), 3);
        due(21, "at none", x.hook(2, 0), -1);
    }

    private static void someLooks() {
        HookOver x = new HookOver();
        due(23, "MISSING", x.looks(0, 0), -6);
        due(23, "no such TRAY", x.looks(4, 0), -2);
        due(23, "what", x.looks(0, 3), -2);
        due(23, "what", x.looks(0, -1), -2);
        fill(x, 0, 1);
        due(23, "none", x.looks(0, 0), -4);
        x.numbers(0, 1, 21);
        due(23, "21", x.looks(0, 0), -4);
        x.numbers(0, 1, 20);
        due(23, "20 of no SECONDS", x.looks(0, 0), 0);
        due(23, "the least", x.looks(0, 1), 0);
        due(23, "looks", x.looks(0, 2), 5);
        for (int i = 0; i < 20; i++) {
            x.write(0, i, 999);
        }
        due(23, "20 of 999", x.looks(0, 0), 5 * 999);
        due(23, "the least", x.looks(0, 1), 4);
        x.write(0, 19, 1000);
        due(23, "1000", x.looks(0, 0), -3);
        x.write(0, 19, -1);
        due(23, "-1", x.looks(0, 2), -3);
        fill(x, 0, 1, 5, 1, 9, 2);
        due(23, "SECONDS", x.looks(0, 0), 12);
        due(23, "the first look", x.looks(0, 1), 1);
        due(23, "looks", x.looks(0, 2), 3);
        fill(x, 0, 1, 7);
        due(23, "one", x.looks(0, 0), 7);
        due(23, "one", x.looks(0, 1), 0);
        due(23, "one", x.looks(0, 2), 1);
        fill(x, 0, 1, 100, 1, 1);
        due(23, "fewest looks may take more SECONDS", x.looks(0, 2), 2);
        due(23, "SECONDS", x.looks(0, 0), 101);
    }

    private static void someRounds() {
        HookOver x = told("rail 1 1 1 1 1 1 1 1 1;cloth 9;chair 0 3 1;");
        due(24, "MISSING", x.rounds(0, 0), -6);
        due(24, "no such TRAY", x.rounds(-1, 0), -2);
        due(24, "what", x.rounds(0, 1), -2);
        due(24, "what", x.rounds(0, 9), -2);
        due(24, "what", x.rounds(0, 18), -2);
        fill(x, 0, 0);
        due(24, "none", x.rounds(0, 0), -4);
        fill(x, 0, 0, 0, 1, 2, 3, 4, 5, 6, 7, 8);
        due(24, "nine", x.rounds(0, 0), -4);
        fill(x, 0, 0, 0, 1, 0);
        due(24, "two alike", x.rounds(0, 0), -3);
        fill(x, 0, 0, 0, 10);
        due(24, "no RING", x.rounds(0, 10), -3);
        fill(x, 0, 0, -1);
        due(24, "no RING", x.rounds(0, 10), -3);
        fill(x, 0, 0, 5, 0, 2);
        due(24, "SECONDS", x.rounds(0, 0), 1 + 6 + 7);
        due(24, "first", x.rounds(0, 10), 0);
        due(24, "then", x.rounds(0, 11), 2);
        due(24, "then", x.rounds(0, 12), 5);
        due(24, "not so many", x.rounds(0, 13), -1);
        due(24, "not so many", x.rounds(0, 17), -1);
        due(24, "the CHAIR stays", x.count(4), 0);
        x.join(0, 9);
        due(24, "from where the CHAIR stands", x.rounds(0, 10), 5);
        due(24, "SECONDS", x.rounds(0, 0), 8 + 7 + 6);
        x = told("rail 1 1 1;cloth 9;chair 1 3 1;");
        fill(x, 0, 0, 2, 1);
        due(24, "of like ones", x.rounds(0, 0), 6);
        due(24, "the first by places", x.rounds(0, 10), 2);
        fill(x, 0, 0, 1, 2);
        due(24, "the first by places", x.rounds(0, 10), 1);
        x = told("rail 1 1 1 1 1 1 1;cloth 9;chair 0 0 1;");
        fill(x, 0, 0, 7, 6, 5, 4, 3, 2, 1, 0);
        due(24, "eight", x.rounds(0, 0), 7 + 8);
        due(24, "eight", x.rounds(0, 17), 7);
        x = new HookOver();
        fill(x, 0, 0, 0);
        due(24, "no RINGS", x.rounds(0, 0), -3);
    }

    private static void somePleats() {
        HookOver x = told("rail 1 1 1 1 1;cloth 9 9 9 9 9;pleat 3;");
        due(25, "none is joined", x.pleats(0), 0);
        due(25, "none is joined", x.pleats(1), -1);
        due(25, "what", x.pleats(2), -2);
        due(25, "what", x.pleats(-1), -2);
        x.join(4, 2);
        due(25, "below 0", x.pleats(1), 1);
        x.join(0, 0);
        due(25, "the least remainder", x.pleats(1), 0);
        due(25, "KEPT", x.pleats(0), 1);
        x.join(5, 3);
        due(25, "KEPT", x.pleats(0), 2);
        due(25, "REST", x.pleats(1), 1);
        due(25, "no pleat", told("rail 1;cloth 1;").pleats(0), -5);
        due(25, "what first", told("rail 1;cloth 1;").pleats(2), -2);
    }

    private static void averages() {
        HookOver x = told("cloth 9;slip 1 10;");
        due(26, "upper", x.average(1, 0), 80);
        due(26, "lower", x.average(1, 1), 3);
        due(26, "upper", x.average(2, 0), 1400);
        due(26, "lower", x.average(2, 1), 81);
        due(26, "beyond HOOKS", x.average(12, 1), 81);
        due(26, "n", x.average(0, 0), -3);
        due(26, "n", x.average(13, 0), -3);
        due(26, "what", x.average(0, 2), -2);
        due(26, "what", x.average(1, -1), -2);
        due(26, "no HOOKS", told("rail 9;").average(1, 0), -5);
        due(26, "n first", new HookOver().average(13, 0), -3);
        due(27, "two at once", x.bestLook(), 2);
        due(27, "no HOOKS", new HookOver().bestLook(), -5);
        x = told("cloth" + times(" 1", 11) + ";chair 1 1 99;slip 3 999;");
        due(26, "upper", x.average(12, 0), 2187000000000000L);
        due(26, "lower", x.average(12, 1), 13841287201L);
        x = told("cloth" + times(" 1", 11) + ";chair 1 1 99;slip 9 999;");
        due(26, "upper", x.average(12, 0), 2187000000000000L);
        due(26, "lower", x.average(12, 1), 1);
        due(26, "parts of 5, 5, 2", x.average(5, 0), 2 * (495 + 999) * 100000L + (198 + 999) * 100L);
        due(27, "one at once", x.bestLook(), 1);
        x = told("cloth 1 1 1;chair 1 1 1;slip 0 0;");
        due(27, "all the same", x.bestLook(), 1);
        due(26, "without slips", x.average(3, 0), 4);
        due(26, "default LOOK", told("cloth 1 1;").average(2, 0), 6 + 20);
    }

    private static void oneOuts() {
        HookOver x = told("rail 1 1 1;cloth 1 1 1;law : ring = hook or ring = hook + 1 and hook > 1;broken 3;");
        due(28, "none out", x.oneOut(4, 1), 4);
        due(28, "at 2", x.oneOut(2, 1), 3);
        due(28, "at 0", x.oneOut(0, 1), 1);
        due(28, "down", x.oneOut(0, -1), 0);
        due(28, "k", x.oneOut(5, 1), -3);
        due(28, "k", x.oneOut(-1, 1), -3);
        due(28, "d", x.oneOut(0, 0), -3);
        due(28, "d", x.oneOut(0, 2), -3);
        due(29, "none out", x.out(1, 0), 4);
        due(29, "RIGHT", x.out(1, 1), 4);
        due(29, "what", x.out(1, 2), -2);
        due(29, "what first", x.out(0, -1), -2);
        due(29, "d", x.out(0, 0), -3);
        x = told("rail 1 1 1;cloth 1 1;law : hook < 2 and ring = hook or hook = 2 and ring = 1;");
        due(29, "out by -1", x.out(-1, 0), 2);
        due(29, "RIGHT", x.out(-1, 1), 3);
        x = told("rail 1 1 1;cloth 1 1;law : 1 = 1;");
        due(29, "the first", x.out(1, 0), 0);
        due(29, "the first", x.out(-1, 0), 1);
    }

    private static long seenBy(HookOver x, long... sight) {
        fill(x, 2, 2, sight);
        return x.seen(2);
    }

    private static void sights() {
        HookOver x = told("rail 5 5;cloth 10;");
        due(30, "MISSING", x.seen(1), -6);
        due(30, "no such TRAY", x.seen(4), -2);
        due(30, "nothing is seen", seenBy(x, -1, -1), 3);
        due(31, "unlike ones", x.sure(2, 0), -8);
        due(30, "a SAG and none", seenBy(x, 5, -2), 1);
        due(31, "HOOK 0", x.sure(2, 0), 0);
        due(31, "HOOK 1", x.sure(2, 1), 1);
        due(30, "one SAG over both", seenBy(x, 0, 0), 1);
        due(31, "HOOK 1", x.sure(2, 1), 2);
        due(30, "it can't be", seenBy(x, 5, 5), 0);
        due(31, "there are none", x.sure(2, 0), -8);
        due(30, "none ahead", seenBy(x, -2, -1), 1);
        due(30, "some SAG there", seenBy(x, -1, 0), 1);
        due(30, "too few", seenBy(x, -1), -4);
        due(30, "too many", seenBy(x, -1, -1, -1), -4);
        due(30, "-3", seenBy(x, -1, -3), -3);
        due(31, "-3", x.sure(2, 0), -3);
        due(31, "the HOOK", x.sure(2, 2), -2);
        due(31, "the HOOK", x.sure(2, -1), -2);
        due(31, "the TRAY", x.sure(4, 0), -2);
        due(31, "MISSING", x.sure(1, 0), -6);
        due(31, "the HOOK first", x.sure(1, 2), -2);
        fill(x, 2, 3, 1L << 32, -1);
        due(30, "no such SAG", x.seen(2), 0);
        x = told("rail 5;cloth 3 4;");
        due(30, "one HOOK is left out", seenBy(x, -1), 1);
        due(31, "none in all", x.sure(2, 1), -1);
        due(31, "HOOK 2", x.sure(2, 2), 1);
        x = told("rail 1 1;cloth 1;broken 0;broken 1;broken 2;");
        due(30, "no joins", seenBy(x, -2, -1), 1);
        due(31, "none", x.sure(2, 0), -1);
        due(30, "a SAG without joins", seenBy(x, 0, -1), 0);
        due(31, "there are none", x.sure(2, 0), -8);
        x = told("rail" + times(" 1", 11) + ";cloth 99 99;");
        x.numbers(2, 0, 11);
        for (int i = 0; i < 11; i++) {
            x.write(2, i, -1);
        }
        due(30, "220 of three HOOKS", x.seen(2), 220);
        x.write(2, 0, -2);
        x.write(2, 10, -2);
        due(30, "120 within", x.seen(2), 120);
    }

    private static void trays() {
        HookOver x = told("rail 10 10 10;cloth 99 99 99 99 99;join 1 1;join 5 2;");
        due(32, "no such TRAY", x.numbers(4, 0, 0), -2);
        due(32, "no such TRAY", x.numbers(-1, 0, 0), -2);
        due(32, "no such sort", x.numbers(0, 4, 0), -2);
        due(32, "no such sort", x.numbers(0, -1, 41), -2);
        due(32, "n", x.numbers(0, 0, 41), -3);
        due(32, "n", x.numbers(0, 0, -1), -3);
        due(32, "still MISSING", x.write(0, 0, 0), -6);
        due(32, "40", x.numbers(0, 0, 40), 0);
        due(33, "the last", x.write(0, 39, 127), 127);
        due(33, "beyond", x.write(0, 40, 1), -7);
        due(33, "below", x.write(0, -1, 1), -7);
        due(33, "no such TRAY", x.write(4, 0, 1), -2);
        due(33, "8 bits", x.write(0, 0, 200), -56);
        x.numbers(0, 1, 1);
        due(33, "16 bits", x.write(0, 0, 40000), -25536);
        x.numbers(0, 2, 1);
        due(33, "32 bits", x.write(0, 0, 1L << 31), -(1L << 31));
        x.numbers(0, 3, 1);
        due(33, "64 bits", x.write(0, 0, Long.MIN_VALUE), Long.MIN_VALUE);
        due(32, "it stays", x.numbers(0, 3, 41), -3);
        due(33, "none", x.write(0, 1, 5), -7);
        x.numbers(0, 3, 1);
        due(32, "0: HOOK 0 to RING 0", x.judge(0, 3), 3);
        due(34, "no such TRAY", x.copy(4), -2);
        due(34, "MISSING", x.copy(1), -6);
        x.numbers(1, 1, 3);
        due(34, "copy", x.copy(1), 3);
        due(34, "it fits, but isn't FULL", x.seen(1), 0);
        x.spread();
        due(34, "copy", x.copy(1), 3);
        due(34, "FULL ones that fit", x.seen(1) > 0 ? 1 : 0, 1);
        x.undo(1);
        x.numbers(1, 1, 2);
        due(34, "fewer places", x.copy(1), 2);
        x.numbers(1, 1, 5);
        due(34, "more places", x.copy(1), 3);
        x.numbers(1, 1, 0);
        due(34, "no places", x.copy(1), 0);
        copies();
    }

    private static void copies() {
        HookOver x = told("rail 5 5 5;cloth 11 4;join 0 1;join 1 2;");
        x.numbers(0, 0, 3);
        due(34, "copy", x.copy(0), 3);
        due(34, "6 between 1 and 2, of none elsewhere", x.seen(0), 1);
        due(34, "HOOK 2 isn't joined in it", x.sure(0, 2), -1);
        due(34, "HOOK 0", x.sure(0, 0), 1);
        x = told("rail 1 1;cloth 99 99 99;join 0 0;join 3 2;");
        x.numbers(0, 0, 3);
        x.write(0, 2, 100);
        due(34, "two GAPS", x.copy(0), 2);
        due(34, "295 cut to 8 bits is 39, twice; 100 stays", x.looks(0, 0), 139);
    }

    private static void images() {
        HookOver x = told("rail 1 1 1;cloth 9 9;law : ring = hook + 1;chair 0 4 3;join 0 1;");
        due(35, "image(2)", x.image(2), -2);
        due(35, "image(-1)", x.image(-1), -2);
        due(36, "restore(2)", x.restore(2), -2);
        due(36, "none was made", x.restore(0), -5);
        x.join(1, 2);
        due(35, "image(1)", x.image(1), 0);
        due(35, "it changes nothing", x.count(5), 1);
        due(36, "the other one", x.restore(0), -5);
        x.unhook(0);
        x.numbers(3, 0, 7);
        tell(x, "rail 5;cloth 5;pleat 2;");
        due(35, "image(0)", x.image(0), 0);
        put(x, "pleat 4;");
        due(36, "restore(1)", x.restore(1), 0);
        due(36, "HOOKS", x.count(0), 3);
        due(36, "SECONDS", x.count(3), 9);
        due(36, "CHAIR", x.count(4), 2);
        due(36, "UNDOING", x.count(5), 0);
        due(36, "nothing behind", x.undo(1), -3);
        due(36, "pleat", x.count(9), 0);
        due(36, "LINES", x.count(11), 5);
        due(36, "THE TAPE", x.count(10), 20);
        due(36, "the law", x.belongs(2, 3), 1);
        due(36, "HOOK 0", x.hook(0, 0), 1);
        due(36, "HOOK 1", x.hook(1, 0), 2);
        due(36, "TRAYS", x.write(3, 6, 1), 1);
        due(36, "joinings", x.full(), 3);
        x.unhook(1);
        due(36, "again", x.restore(1), 0);
        due(36, "the IMAGE didn't change", x.hook(1, 0), 2);
        due(36, "the other", x.restore(0), 0);
        due(36, "pleat", x.count(9), 2);
        due(36, "its joinings", x.full(), 2);
        due(36, "no joins", x.sags(0), 0);
    }

    private static void counts() {
        HookOver x = told("rail 1 1 1;cloth 9 9;broken 1;broken 3;broken 1;chair 2 7 8;pleat 6;");
        put(x, "join");
        x.join(0, 2);
        int[] want = {3, 4, 2, 8, 0, 1, 2, 7, 8, 6, 20, 7};
        for (int what = 0; what < want.length; what++) {
            due(37, "count(" + what + ")", x.count(what), want[what]);
        }
        due(37, "count(12)", x.count(12), -1);
        due(37, "count(-1)", x.count(-1), -1);
        x.unhook(0);
        due(37, "SECONDS", x.count(3), 16);
    }

    public static void main(String[] args) {
        newObject();
        feeds();
        windows();
        faults();
        hooksAndRings();
        laws();
        allSags();
        whys();
        deeds();
        undos();
        twelve();
        trayDeeds();
        days();
        undoings();
        manyJoinings();
        mends();
        evens();
        someLooks();
        someRounds();
        somePleats();
        averages();
        oneOuts();
        sights();
        trays();
        images();
        counts();
        System.out.println(wrong == 0 ? "all " + asked + " answers are as due" : wrong + " answers are not as due");
        if (wrong != 0) {
            System.exit(1);
        }
    }
}
