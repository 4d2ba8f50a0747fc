/** The boundaries of joins, SAGS, the CHAIR, the law, DEEDS and UNDOING (part 2 of the document, promises 5 to 16). */
public final class DeedBoundaryTest extends Bench {
    private static final int[] FAR = {Integer.MIN_VALUE, Integer.MIN_VALUE + 10, -200, -12, -2, -1};
    private static final String LARGE = row("rail", 11, 1) + row("cloth", 11, 9);

    private static String joined(int from, int to) {
        StringBuilder b = new StringBuilder();
        for (int h = from; h <= to; h++) {
            b.append("join ").append(h).append(' ').append(h).append(';');
        }
        return b.toString();
    }

    private static void joins() {
        says("A HOOK is joined to one RING or none, a RING to one HOOK at most; of two joined HOOKS the later one is at"
            + " the later RING.");
        HookOver x = told("rail 1 1 1;cloth 9 9 9;join 1 1;");
        due("the HOOK again", x.join(1, 2), -12);
        due("the RING again", x.join(2, 1), -12);
        due("a later HOOK one RING earlier", x.join(2, 0), -13);
        due("an earlier HOOK one RING later", x.join(0, 2), -13);
        due("a later HOOK one RING later", x.join(2, 2), 5 + 1 + 2);
        due("an earlier HOOK one RING earlier", x.join(0, 0), 2);
        due("the HOOK at RING 2", x.ring(2, 0), 2);
        due("HOOK 3 at none", x.hook(3, 0), -1);

        says("SAG of a joined HOOK: all cloth to the next one that is joined, less all GAPS between their RINGS (none"
            + " behind the last one).");
        x = told("rail 10 10 10;cloth 12 13 14;join 0 0;join 3 3;");
        due("all cloth less all GAPS", x.hook(0, 3), 9);
        due("the last one", x.hook(3, 3), -1);
        due("one that isn't joined", x.hook(1, 3), -1);
        x.unhook(3);
        due("the only one", x.hook(0, 3), -1);
        due("no SAGS at all", x.sags(3), 0);
        x = told("rail 30;cloth 10 20;join 0 0;join 2 1;");
        due("a SAG of 0", x.hook(0, 3), 0);
        x = told(row("rail", 11, 1) + row("cloth", 11, 99) + "join 0 0;join 11 1;");
        due("the greatest SAG that can be", x.hook(0, 3), 11 * 99 - 1);
        due("its square", x.sags(4), 1088 * 1088);

        says("To JOIN can't be, the least of: 1 no such HOOK, RING; 2 the HOOK is joined, the RING has one or is broken;"
            + " 3 it would not be the later at the later; 4 some SAG would be below 0.");
        x = told("rail 5 5 5 5;cloth 5 5 5;broken 4;join 1 1;");
        due("the last HOOK and a RING", x.why(3, 3), 0);
        due("one HOOK behind", x.why(4, 3), 1);
        due("one RING behind", x.why(0, 5), 1);
        due("a joined HOOK, no RING", x.why(1, 5), 1);
        due("no HOOK, a broken RING", x.why(4, 4), 1);
        due("a joined HOOK at its own RING", x.why(1, 1), 2);
        due("a joined HOOK, a broken RING", x.why(1, 4), 2);
        due("a later HOOK at a broken RING too far", x.why(2, 4), 2);
        due("an earlier HOOK at a broken RING", x.why(0, 4), 2);
        due("an earlier HOOK behind, too far", x.why(0, 3), 3);
        due("a SAG of -5", x.why(2, 3), 4);
        due("a SAG of 0", x.why(2, 2), 0);
        x = told("rail 5 5;cloth 4 6;join 0 0;join 2 2;");
        due("ahead it would be -1, behind it 1", x.why(1, 1), 4);
        x = told("rail 5 5;cloth 6 4;join 0 0;join 2 2;");
        due("ahead it would be 1, behind it -1", x.why(1, 1), 4);
        x = told("rail 5 5;cloth 5 5;join 0 0;join 2 2;");
        due("both would be 0", x.why(1, 1), 0);
        for (int far : FAR) {
            due("HOOK " + far, x.why(far, 1), 1);
            due("RING " + far, x.why(1, far), 1);
            due("HOOK and RING " + far, x.why(~far, ~far), ~far == 1 ? 0 : ~far == 0 ? 2 : 1);
        }

        says("To UNHOOK can't be: 1 no such HOOK; 2 it isn't joined.");
        due("the last one", x.unhook(2), 5 + 1 + 2);
        due("not any more", x.unhook(2), -12);
        due("one behind", x.unhook(3), -11);
        for (int far : FAR) {
            due("HOOK " + far, x.unhook(far), -11);
        }
        due("the greatest int", x.unhook(Integer.MAX_VALUE), -11);
    }

    private static void chair() {
        says("The CHAIR stands at a RING (0 at first; without RINGS, too)");
        due("without RINGS", new HookOver().count(4), 0);
        due("with RINGS", told(LARGE + "join 0 11;").count(4), 0);

        says("it reaches RINGS up to REACH on either side; if a RING to be joined or unhooked is farther, it is put where"
            + " it just reaches (SECONDS: CLIMB, and 1 for each RING it is put on); then HOOK SECONDS.");
        for (int reach = 0; reach <= 9; reach++) {
            String text = LARGE + "chair " + reach + " 50 3;";
            HookOver x = told(text);
            due("REACH " + reach + ": just so far", x.join(0, reach), 3);
            due("the CHAIR stays", x.count(4), 0);
            x = told(text);
            due("REACH " + reach + ": one farther", x.join(0, reach + 1), 50 + 1 + 3);
            due("the CHAIR goes on by 1", x.count(4), 1);
            x = told(text + "join 0 11;");
            due("REACH " + reach + ": the last RING", x.unhook(0), 50 + 11 - reach + 3);
            due("the CHAIR just reaches", x.count(4), 11 - reach);
            if (11 - 2 * reach > 0) {
                due("just so far to the left", x.join(0, 11 - 2 * reach), 3);
                due("the CHAIR stays", x.count(4), 11 - reach);
                x.unhook(0);
                due("one farther to the left", x.join(0, 10 - 2 * reach), 50 + 1 + 3);
                due("the CHAIR goes back by 1", x.count(4), 10 - reach);
            }
        }
        HookOver x = told(LARGE + "chair 0 0 1;");
        due("CLIMB 0", x.join(11, 11), 11 + 1);
        x = told(LARGE + "chair 0 99 99;");
        due("the most SECONDS that can be", x.join(11, 11), 99 + 11 + 99);
        due("SECONDS", x.count(3), 209);
        due("without putting the CHAIR on", x.unhook(11), 99);
    }

    private static int holds(String law, int h, int r) {
        return told("rail 1 1 1;cloth 1 1;law : " + law + ";").belongs(h, r);
    }

    private static void law() {
        says("if the law holds (without one: both numbers are the same)");
        HookOver x = told("rail 1;cloth 1 1;");
        due("0 and 0", x.belongs(0, 0), 1);
        due("1 and 0", x.belongs(1, 0), 0);
        due("1 and 1", x.belongs(1, 1), 1);
        due("2 and 1", x.belongs(2, 1), 0);
        due("the last HOOK has no such RING", x.belongs(2, 2), -2);

        says("hook, ring: numbers, hm, rm: MARKS, hooks, rings: how many");
        due("the last HOOK", holds("hook = 2", 2, 0), 1);
        due("the last RING", holds("ring = 3", 0, 3), 1);
        due("HOOKS", holds("hooks = 3", 0, 0), 1);
        due("RINGS", holds("rings = 4", 0, 0), 1);
        due("MARKS not told", holds("hm + rm = 0", 2, 3), 1);
        x = told("law : hm = 99 and rm = 98;rail 1;cloth 1;hook 1 mark 1;hook 1 mark 99;ring 1 mark 98;");
        due("MARKS told behind the law, the later one", x.belongs(1, 1), 1);
        due("no MARKS", x.belongs(0, 1), 0);
        x = told("law : hooks = 12 and rings = 12;" + LARGE);
        due("12 of both, told behind the law", x.belongs(11, 11), 1);
        x = told(LARGE + "law : hm = 9 and rm = 8;hook 11 mark 9;ring 11 mark 8;");
        due("MARKS of the twelfth of both", x.belongs(11, 11), 1);
        due("MARK of the eleventh HOOK", x.belongs(10, 11), 0);
        due("MARK of the eleventh RING", x.belongs(11, 10), 0);

        says("each + - * kept from -1,000,000 to 1,000,000");
        String million = "100 * 100 * 100";
        due("1,000,000 is above 999,999", holds("999 * 999 + 999 + 999 < " + million, 0, 0), 1);
        due("999,999 and 1 is 1,000,000", holds("999 * 999 + 999 + 999 + 1 = " + million, 0, 0), 1);
        due("and 1 more is no more", holds(million + " + 1 = " + million, 0, 0), 1);
        due("1 less is less", holds(million + " - 1 < " + million, 0, 0), 1);
        due("kept ahead of what comes next", holds(million + " + 999 - 1 < " + million, 0, 0), 1);
        due("-1,000,000 is below -999,999", holds("0 - " + million + " < 0 - 999 * 999 - 999 - 999", 0, 0), 1);
        due("and 1 less is no less", holds("0 - " + million + " - 1 = 0 - " + million, 0, 0), 1);
        due("1 more is more", holds("0 - " + million + " + 1 > 0 - " + million, 0, 0), 1);
        due("kept below, then more", holds("0 - " + million + " - 999 + 1 > 0 - " + million, 0, 0), 1);
        due("* above", holds("999 * 999 * 999 = " + million, 0, 0), 1);
        due("* 2 above", holds(million + " * 2 = " + million, 0, 0), 1);
        due("* below", holds("( 0 - 999 ) * 999 * 999 = 0 - " + million, 0, 0), 1);
        due("* of the greatest", holds("( 999 * 999 ) * ( 999 * 999 ) = " + million, 0, 0), 1);
        due("* of the least", holds("( 0 - 999 * 999 ) * ( 0 - 999 * 999 ) = " + million, 0, 0), 1);
        due("* of both", holds("( 0 - 999 * 999 ) * ( 999 * 999 ) = 0 - " + million, 0, 0), 1);
        due("- below 0", holds("hook - ring < 0", 0, 1), 1);
        due("= 0", holds("hook - ring = 0", 1, 1), 1);
        due("not of what holds", holds("not 1 = 1", 0, 0), 0);
        due("not of what doesn't", holds("not 1 = 2", 0, 0), 1);
        due("six times not", holds("not not not not not not 1 = 1", 0, 0), 1);
        due("five times not", holds("not not not not not 1 = 1", 0, 0), 0);
        due("not of a whole", holds("not [ 1 = 1 and 1 = 2 ]", 0, 0), 1);
        due("not of one UNIT alone", holds("not 1 = 2 and 1 = 2", 0, 0), 0);
        due("not <", holds("1 < 1", 0, 0), 0);
        due("not >", holds("1 > 1", 0, 0), 0);
        for (String sign : new String[] {"=", "<", ">"}) {
            String yes = sign.equals("=") ? "5 = 5" : sign.equals("<") ? "4 < 5" : "5 > 4";
            String no = sign.equals("=") ? "5 = 4" : "5 " + sign + " 5";
            due(yes, holds(yes, 0, 0), 1);
            due(no, holds(no, 0, 0), 0);
            due("not " + yes, holds("not " + yes, 0, 0), 0);
            due("not " + no, holds("not " + no, 0, 0), 1);
            due(yes + " and", holds(yes + " and 1 = 1", 0, 0), 1);
            due("and " + yes, holds("1 = 1 and " + yes, 0, 0), 1);
            due("or " + yes, holds("1 = 2 or " + yes, 0, 0), 1);
            due(no + " and", holds(no + " and 1 = 1", 0, 0), 0);
            due("or " + no, holds("1 = 2 or " + no, 0, 0), 0);
        }
    }

    private static void askedOfHooks() {
        HookOver x = told("rail 5 6 7;cloth 20 30;hook 1 mark 99;ring 3 mark 7;broken 2;join 0 1;join 2 3;");
        says("Of a HOOK, what 0: its RING (NONE), 1: MARK, 2: cloth to the next HOOK (NONE: the last), 3: SAG (NONE: it"
            + " isn't joined, or the last joined one), 4: 1 if it is joined RIGHT, else 0. -2.");
        due("a RING", x.hook(0, 0), 1);
        due("no RING", x.hook(1, 0), -1);
        due("cloth of the one ahead of the last", x.hook(1, 2), 30);
        due("cloth of the last", x.hook(2, 2), -1);
        due("joined, but not RIGHT", x.hook(0, 4), 0);
        due("joined RIGHT", told("rail 1;cloth 1;join 1 1;").hook(1, 4), 1);
        due("not joined", x.hook(1, 4), 0);
        due("the last what", x.hook(2, 4), 0);
        due("what 5", x.hook(2, 5), -2);
        due("what -1", x.hook(0, -1), -2);
        due("the last HOOK", x.hook(2, 0), 3);
        due("one behind", x.hook(3, 0), -2);
        due("one behind, of which NONE could be told", x.hook(3, 2), -2);
        says("Of a RING, what 0: the HOOK at it (NONE), 1: MARK, 2: the GAP to the next RING (NONE: the last), 3: 1 if it"
            + " is broken, else 0. -2.");
        due("a HOOK", x.ring(3, 0), 2);
        due("no HOOK", x.ring(2, 0), -1);
        due("the GAP ahead of the last", x.ring(2, 2), 7);
        due("behind the last", x.ring(3, 2), -1);
        due("broken", x.ring(2, 3), 1);
        due("what 4", x.ring(2, 4), -2);
        due("what -1", x.ring(2, -1), -2);
        due("one behind", x.ring(4, 0), -2);
        says("Whether a HOOK belongs to a RING: 1, 0. -2: one of both.");
        due("the last HOOK", x.belongs(2, 2), 1);
        due("one behind", x.belongs(3, 3), -2);
        due("the last RING", x.belongs(2, 3), 0);
        due("one behind", x.belongs(2, 4), -2);
        for (int far : FAR) {
            due("belongs: HOOK " + far, x.belongs(far, 0), -2);
            due("belongs: RING " + far, x.belongs(0, far), -2);
            due("HOOK " + far, x.hook(far, 0), -2);
            due("RING " + far, x.ring(far, 0), -2);
            due("hook: what " + far, x.hook(0, far), -2);
            due("ring: what " + far, x.ring(0, far), -2);
            due("HOOK " + (far ^ -1 << 31), x.hook(far ^ -1 << 31, 0), far == Integer.MIN_VALUE ? 1 : -2);
        }
        says("What 0: how many are joined, 1: how many RIGHT, 2: the greatest SAG (0), 3: all SAGS, 4: sum of their"
            + " squares. -2.");
        for (int what = 0; what <= 4; what++) {
            due("nothing is there: " + what, new HookOver().sags(what), 0);
            due("nothing is joined: " + what, told(LARGE).sags(what), 0);
            due("one is joined, not RIGHT: " + what, told(LARGE + "join 0 1;").sags(what), what == 0 ? 1 : 0);
            due("one is joined RIGHT: " + what, told(LARGE + "join 1 1;").sags(what), what <= 1 ? 1 : 0);
        }
        int[] all = {12, 12, 8, 88, 11 * 64};
        x = told(LARGE + joined(0, 11));
        for (int what = 0; what <= 4; what++) {
            due("all are joined: " + what, x.sags(what), all[what]);
        }
        due("the greatest is that of HOOK 0", told("rail 1 1;cloth 9 8;join 0 0;join 1 1;join 2 2;").sags(2), 8);
        due("the greatest is the last one", told("rail 1 1;cloth 8 9;join 0 0;join 1 1;join 2 2;").sags(2), 8);
        due("what 5", x.sags(5), -2);
        due("what -1", x.sags(-1), -2);
        due("the least what", x.sags(Integer.MIN_VALUE), -2);
        due("the greatest what", x.sags(Integer.MAX_VALUE), -2);
    }

    private static void joinCalls() {
        says("Why a HOOK can't be JOINED to a RING; 0.");
        HookOver x = told("rail 5 5 5;cloth 5 5;broken 3;join 1 1;");
        int[][] whys = {{3, 0, 1}, {0, 4, 1}, {1, 2, 2}, {2, 3, 2}, {0, 2, 3}, {2, 0, 3}, {0, 0, 0}, {2, 2, 0}};
        for (int[] w : whys) {
            due("why(" + w[0] + ", " + w[1] + ")", x.why(w[0], w[1]), w[2]);
        }
        due("too short", told("rail 5 5;cloth 5;join 0 0;").why(1, 2), 4);
        says("To JOIN: SECONDS it took. -11 to -14.");
        for (int[] w : whys) {
            if (w[2] != 0) {
                due("join(" + w[0] + ", " + w[1] + ")", x.join(w[0], w[1]), -10 - w[2]);
            }
        }
        due("too short", told("rail 5 5;cloth 5;join 0 0;").join(1, 2), -14);
        due("it can be", x.join(2, 2), 5 + 1 + 2);
        says("To UNHOOK: SECONDS it took. -11, -12.");
        due("no HOOK", x.unhook(3), -11);
        due("not joined", x.unhook(0), -12);
        due("it can be", x.unhook(2), 2);
    }

    private static void undone() {
        says("can be UNDONE each as a whole, the latest first, 10 at most (eldest are forgotten): joins, CHAIR, SECONDS");
        for (int many = 1; many <= 25; many++) {
            HookOver x = told(LARGE + "chair 0 1 1;");
            for (int i = 0; i < many; i++) {
                due("call " + i, i % 2 == 0 ? x.join(0, i % 12) : x.unhook(0), secondsAt(i));
            }
            int held = Math.min(many, 10);
            due("calls that can be UNDONE behind " + many, x.count(5), held);
            due("all of them", x.undo(held), 0);
            due("SECONDS behind " + many, x.count(3), secondsOf(many - held));
            due("the CHAIR behind " + many, x.count(4), chairOf(many - held));
            due("the join", x.hook(0, 0), (many - held) % 2 == 0 ? -1 : (many - held - 1) % 12);
            due("none is left", x.undo(1), -3);
        }
        HookOver x = told(LARGE);
        x.join(0, 0);
        fill(x, 0, 1, 12 + 1, 24 + 2, 200);
        due("a whole perform()", x.perform(0), 3);
        due("a whole day()", x.day(5, 60) > 1 ? 1 : 0, 1);
        due("a SPREAD", x.spread() > 0 ? 1 : 0, 1);
        due("four calls", x.count(5), 4);
        due("the SPREAD and the day()", x.undo(2), 2);
        due("HOOK 0", x.hook(0, 0), -1);
        due("HOOK 2", x.hook(2, 0), 2);
        due("how many are joined", x.sags(0), 2);
        due("the perform()", x.undo(1), 1);
        due("HOOK 0", x.hook(0, 0), 0);
        due("how many are joined", x.sags(0), 1);

        says("Calls that JOINED or UNHOOKED some, and SPREAD by which some HOOK is elsewhere");
        x = told("rail 1;cloth 9;");
        due("SPREAD", x.spread(), 2);
        due("it is one", x.count(5), 1);
        x.undo(1);
        due("UNDONE", x.sags(0), 0);
        x.join(1, 1);
        x.unhook(1);
        x.undo(1);
        due("SPREAD by which one is", x.spread(), 1);
        due("UNDONE", x.undo(1), 1);
        due("HOOK 0", x.hook(0, 0), -1);
        due("HOOK 1", x.hook(1, 0), 1);
        x.undo(1);
        x.spread();
        due("SPREAD by which none is", x.spread(), 0);
        due("it is none", x.count(5), 1);
        x.numbers(0, 0, 0);
        due("no DEEDS", x.perform(0), 0);
        due("it is none", x.count(5), 1);
        fill(x, 0, 0, 0);
        due("a DEED that can't be", x.perform(0), 0);
        due("it is none", x.count(5), 1);
        fill(x, 0, 2, 200, 200);
        due("one that can and one that can't", x.perform(0), 1);
        due("it is one", x.count(5), 2);
        x = told("rail 1;cloth 9;broken 0;broken 1;");
        due("a day on which nothing can be", x.day(7, 60), 0);
        due("it is none", x.count(5), 0);
        x.join(0, 0);
        due("a join that can't be is none", x.count(5), 0);

        says("n calls (1 to 10) are UNDONE: how many still can be. -3: n, more than can be.");
        x = told(LARGE);
        for (int i = 0; i < 6; i++) {
            x.join(0, 0);
            x.unhook(0);
        }
        for (int n : new int[] {0, -1, 11, 12, Integer.MIN_VALUE, Integer.MAX_VALUE}) {
            due("undo(" + n + ")", x.undo(n), -3);
        }
        due("undo(1)", x.undo(1), 9);
        due("undo(10) of 9", x.undo(10), -3);
        due("undo(9)", x.undo(9), 0);
        due("undo(1) of none", x.undo(1), -3);
        for (int i = 0; i < 5; i++) {
            x.join(0, 0);
            x.unhook(0);
        }
        due("undo(10) of 10", x.undo(10), 0);
    }

    // With REACH 0, CLIMB 1 and HOOK 1 call i joins at RING i modulo 12, or unhooks where the one ahead of it joined.
    private static int secondsAt(int i) {
        int way = i % 2 == 0 ? Math.abs(i % 12 - chairOf(i)) : 0;
        return way == 0 ? 1 : 1 + way + 1;
    }

    private static int chairOf(int calls) {
        return calls == 0 ? 0 : (calls - 1) / 2 * 2 % 12;
    }

    private static int secondsOf(int calls) {
        int sum = 0;
        for (int i = 0; i < calls; i++) {
            sum += secondsAt(i);
        }
        return sum;
    }

    private static void deeds() {
        says("DEEDS in a TRAY: 0 to 143: 12 times the HOOK, and the RING: to JOIN; 200 and the HOOK: to UNHOOK.");
        HookOver x = told(row("rail", 11, 1) + row("cloth", 11, 99));
        long[][] whys = {{0, 0}, {143, 0}, {11, 0}, {132, 0}, {144, 1}, {155, 1}, {199, 1}, {200, 2}, {211, 2}, {212, 1},
            {-1, 1}, {-12, 1}, {1L << 32, 1}, {(1L << 32) + 200, 1}, {Long.MIN_VALUE, 1}, {Long.MAX_VALUE, 1}};
        for (long[] deed : whys) {
            fill(x, 0, 3, deed[0]);
            due("why of DEED " + deed[0], x.judge(0, 1), deed[1]);
            due("its place", x.judge(0, 0), deed[1] == 0 ? -1 : 0);
        }
        fill(x, 0, 3, 143, 211, 0, 200);
        due("the last HOOK to the last RING and away, the first one too", x.perform(0), 4);
        fill(x, 0, 3, 143);
        x.perform(0);
        due("143", x.hook(11, 0), 11);
        x = told("rail 1;cloth 9;");
        long[][] small = {{1, 0}, {2, 1}, {11, 1}, {12, 0}, {13, 0}, {24, 1}, {143, 1}, {200, 2}, {201, 2}, {202, 1}};
        for (long[] deed : small) {
            fill(x, 0, 3, deed[0]);
            due("two HOOKS: why of DEED " + deed[0], x.judge(0, 1), deed[1]);
        }

        says("DEEDS, judged as if done, what 0: the first place that can't be (NONE), 1: why (0; 1 also: no such number),"
            + " 2: SECONDS these take, 3: how many are joined then. -2: the TRAY, what; -6.");
        x = told("rail 1 1;cloth 9 9;chair 0 5 1;join 0 0;");
        x.numbers(0, 2, 0);
        int[] empty = {-1, 0, 0, 1};
        for (int what = 0; what < 4; what++) {
            due("no DEEDS, what " + what, x.judge(0, what), empty[what]);
        }
        fill(x, 0, 2, 26, 999, 200);
        int[] stopped = {1, 1, 8, 2};
        for (int what = 0; what < 4; what++) {
            due("one of three, what " + what, x.judge(0, what), stopped[what]);
        }
        x.numbers(1, 2, 40);
        for (int i = 0; i < 40; i++) {
            x.write(1, i, i % 2 == 0 ? 200 : 0);
        }
        int[] most = {-1, 0, 40, 1};
        for (int what = 0; what < 4; what++) {
            due("40 DEEDS, what " + what, x.judge(1, what), most[what]);
        }
        x.write(1, 39, 1);
        x.write(1, 38, 1);
        due("the last but one can't be", x.judge(1, 0), 38);
        x.write(1, 38, 200);
        x.write(1, 39, 200);
        due("the last can't be", x.judge(1, 0), 39);
        due("why", x.judge(1, 1), 2);
        due("SECONDS are as before", x.count(3), 0);
        due("and joins", x.hook(0, 0), 0);
        due("and what can be UNDONE", x.count(5), 0);
        x.unhook(0);
        x.join(0, 0);
        due("SECONDS of before are not these", x.judge(0, 2), 8);
        x.undo(2);
        due("what 4", x.judge(0, 4), -2);
        due("what -1", x.judge(0, -1), -2);
        due("TRAY 4", x.judge(4, 0), -2);
        due("TRAY -1", x.judge(-1, 0), -2);
        due("TRAY 3 is MISSING", x.judge(3, 0), -6);
        due("what is told ahead of that", x.judge(3, 4), -2);

        says("They are done, till one can't be: how many. -2; -6.");
        due("39 of 40", x.perform(1), 39);
        due("SECONDS", x.count(3), 39);
        due("one of three", x.perform(0), 1);
        due("TRAY 4", x.perform(4), -2);
        due("TRAY -1", x.perform(-1), -2);
        due("TRAY 3 is MISSING", x.perform(3), -6);
        x.numbers(3, 0, 0);
        due("it is empty", x.perform(3), 0);
    }

    /** What a day does, by the draws, with a HOOK that can always be joined: as many as times. */
    private static int dayOf(int seed, int times, int[] ringOf, int hooks, int rings) {
        long state = seed & 0xffffffffL;
        int done = 0;
        for (int i = 0; i < times; i++) {
            state = (state * 1103515245L + 12345L) & 0xffffffffL;
            int h = (int) ((state >> 16) % hooks);
            if (ringOf[h] >= 0) {
                ringOf[h] = -1;
                done++;
                continue;
            }
            state = (state * 1103515245L + 12345L) & 0xffffffffL;
            int r = (int) ((state >> 16) % rings);
            boolean can = true;
            for (int g = 0; g < hooks; g++) {
                can &= ringOf[g] < 0 || (g < h ? ringOf[g] < r : ringOf[g] > r);
            }
            if (can) {
                ringOf[h] = r;
                done++;
            }
        }
        return done;
    }

    private static void days() {
        says("A DAY by a SEED (x, an int; a DRAW: x becomes 1103515245 x + 12345, it is x >>> 16): so many times (1 to"
            + " 60): HOOK DRAW modulo HOOKS: if it is joined it is UNHOOKED, else JOINED to RING DRAW modulo RINGS, if it"
            + " can be.");
        int[] seeds = {0, 1, -1, Integer.MIN_VALUE, Integer.MAX_VALUE, 12345, 1 << 30, -1103515245, 65535, 65536};
        int[][] sizes = {{12, 12}, {2, 2}, {2, 12}, {12, 2}, {7, 5}};
        for (int[] size : sizes) {
            // Each cloth is as long as the whole rail, so that order alone tells what can be.
            HookOver x = told(row("rail", size[1] - 1, 1) + row("cloth", size[0] - 1, 11));
            int[] ringOf = new int[size[0]];
            java.util.Arrays.fill(ringOf, -1);
            for (int seed : seeds) {
                due("day(" + seed + ", 60)", x.day(seed, 60), dayOf(seed, 60, ringOf, size[0], size[1]));
                due("day(" + seed + ", 1)", x.day(seed, 1), dayOf(seed, 1, ringOf, size[0], size[1]));
                for (int h = 0; h < size[0]; h++) {
                    due("HOOK " + h + " behind it", x.hook(h, 0), ringOf[h]);
                }
            }
        }
        says("A DAY: how many were JOINED or UNHOOKED. -3: how many times; -5: no HOOKS, no RINGS.");
        HookOver x = told(LARGE);
        for (int times : new int[] {0, -1, 61, Integer.MIN_VALUE, Integer.MAX_VALUE}) {
            due("day(1, " + times + ")", x.day(1, times), -3);
            due("-3 is told first", new HookOver().day(1, times), -3);
        }
        due("no HOOKS", told("rail 1;").day(1, 1), -5);
        due("no RINGS", told("cloth 1;").day(1, 60), -5);
        due("neither", new HookOver().day(1, 1), -5);
        x = told("rail 1;cloth 9;");
        due("both", x.day(1, 1), 1);
        due("one is enough to be UNDONE", x.undo(1), 0);
        due("it is as before", x.sags(0), 0);
    }

    private static void undoing() {
        says("SECONDS to UNHOOK a set of joined HOOKS (bits), from the first one on or from the last one on, the less of"
            + " both. -3: it has others.");
        due("the empty set of nothing", new HookOver().undoing(0), 0);
        for (int bit = 0; bit < 32; bit++) {
            due("bit " + bit + " without HOOKS", new HookOver().undoing(1 << bit), -3);
        }
        HookOver x = told(row("rail", 11, 1) + row("cloth", 11, 99) + "chair 0 9 1;" + joined(0, 11));
        due("the empty set", x.undoing(0), 0);
        due("HOOK 0", x.undoing(1), 1);
        due("HOOK 11", x.undoing(1 << 11), 9 + 11 + 1);
        due("all", x.undoing(4095), 12 + 11 * 10);
        for (int bit = 12; bit < 32; bit++) {
            due("all and bit " + bit, x.undoing(4095 | 1 << bit), -3);
        }
        due("all bits", x.undoing(-1), -3);
        x.unhook(11);
        due("from the last one on, the CHAIR being there", x.undoing(1 | 1 << 10), 11 + 20);
        due("one that isn't joined", x.undoing(1 << 11), -3);
        due("all joined ones", x.undoing(2047), 11 + 11 * 10);
        x = told("rail 1 1;cloth 9 9;" + joined(0, 2));
        due("all three", x.undoing(7), 2 + 2 + 8);
        due("one behind the last", x.undoing(8), -3);
        x = told(row("rail", 11, 1) + row("cloth", 11, 99) + "chair 0 9 1;" + joined(0, 11));
        x.unhook(5);
        due("from the first one on is less", x.undoing(1 << 3 | 1 << 11), 9 + 2 + 1 + 9 + 8 + 1);
        due("from the last one on is less", x.undoing(1 << 0 | 1 << 8), 9 + 3 + 1 + 9 + 8 + 1);
        due("nothing is done", x.sags(0), 11);
    }

    public static void main(String[] args) {
        joins();
        chair();
        law();
        askedOfHooks();
        joinCalls();
        undone();
        deeds();
        days();
        undoing();
        end(args);
    }
}
