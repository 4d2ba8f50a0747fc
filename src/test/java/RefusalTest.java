import java.util.ArrayList;
import java.util.List;

/**
 * Each code of each refused call, and that the call changed nothing: of two objects that were made ready in the same
 * way one is asked the refused call; all that can be asked of both behind it must be answered alike.
 */
public final class RefusalTest extends Bench {
    private static final int LEAST = Integer.MIN_VALUE;
    private static final int GREATEST = Integer.MAX_VALUE;
    private static final int[] NO_TRAY = {-1, 4, LEAST, GREATEST};

    private interface Call {
        long on(HookOver x);
    }

    /** TRAY 0 has DEEDS, 1 SECONDS of looks, 2 what is seen, 3 is MISSING; IMAGE 0 is made, 1 isn't. */
    private static HookOver ready() {
        HookOver x = new HookOver();
        tell(x, "rail 3 3 3 3;cloth 4 4;pleat 3;join 0 2;");
        x.image(0);
        tell(x, "rail 5 6 7 8;cloth 9 9 9;law:ring=hook or ring=hook+1;hook 1 mark 2;ring 2 mark 3;broken 4;"
            + "chair 0 4 3;pleat 2;slip 2 7;join 0 0;");
        x.join(1, 1);
        x.join(2, 2);
        x.unhook(1);
        fill(x, 0, 2, 12 + 1, 200, 500);
        fill(x, 1, 1, 3, 0, 2);
        fill(x, 2, 0, -1, -1, -1, -2);
        tell(x, "pleat 9;");
        put(x, "pleat 4;");
        return x;
    }

    /** An object with a TAPE that is full, no window and no HOOKS. */
    private static HookOver full() {
        HookOver x = new HookOver();
        put(x, "rail 9;cloth 9;" + times(" ", 885));
        return x;
    }

    private static HookOver railAlone() {
        HookOver x = told("rail 3 3;pleat 2;");
        fill(x, 0, 0, 1);
        return x;
    }

    private static void askShort(HookOver x, List<Long> found) {
        for (int what = 0; what < 12; what++) {
            found.add((long) x.count(what));
        }
        for (int h = 0; h < x.count(0); h++) {
            found.add((long) x.hook(h, 0));
        }
    }

    private static void askTray(HookOver x, int tray, List<Long> found) {
        for (int what = 0; what < 4; what++) {
            found.add((long) x.judge(tray, what));
        }
        for (int what = 0; what < 3; what++) {
            found.add((long) x.looks(tray, what));
        }
        found.add((long) x.rounds(tray, 0));
        found.add((long) x.rounds(tray, 10));
        found.add(x.seen(tray));
        found.add((long) x.sure(tray, 1));
    }

    private static void askAll(HookOver x, List<Long> found) {
        askShort(x, found);
        int hooks = x.count(0);
        int rings = x.count(1);
        for (int h = 0; h < hooks; h++) {
            for (int what = 1; what < 5; what++) {
                found.add((long) x.hook(h, what));
            }
            for (int r = 0; r < rings; r++) {
                found.add((long) x.belongs(h, r));
            }
            found.add((long) x.mended(10 + h));
            found.add((long) x.evenest(10 + h));
            found.add((long) x.fullAt(1, h));
        }
        for (int r = 0; r < rings; r++) {
            for (int what = 0; what < 4; what++) {
                found.add((long) x.ring(r, what));
            }
        }
        for (int what = 0; what < 5; what++) {
            found.add((long) x.sags(what));
        }
        found.add((long) x.pleats(1));
        found.add(x.average(2, 0));
        for (int tray = 0; tray < 4; tray++) {
            askTray(x, tray, found);
        }
    }

    /** All answers of an object, and of what it can be brought back to: UNDOING, IMAGES, THE TAPE. */
    private static List<Long> traceOf(HookOver x) {
        List<Long> found = new ArrayList<>();
        found.add((long) x.fault(0));
        found.add((long) x.fault(1));
        askAll(x, found);
        for (int left = x.count(5); left > 0; left--) {
            found.add((long) x.undo(1));
            askShort(x, found);
        }
        for (int i = 0; i < 2; i++) {
            found.add((long) x.restore(i));
            askShort(x, found);
        }
        found.add((long) x.window(x.count(10)));
        askShort(x, found);
        for (int tray = 0; tray < 4; tray++) {
            found.add(x.write(tray, 2, 40000));
        }
        return found;
    }

    private interface Maker {
        HookOver make();
    }

    private static void refused(String what, Maker maker, long code, Call call) {
        HookOver asked = maker.make();
        HookOver spared = maker.make();
        due(what, call.on(asked), code);
        due(what + ", again", call.on(asked), code);
        List<Long> got = traceOf(asked);
        List<Long> want = traceOf(spared);
        for (int i = 0; i < Math.min(got.size(), want.size()); i++) {
            if (!got.get(i).equals(want.get(i))) {
                fail(what + " changed something: answer " + i + " is " + got.get(i) + " in place of " + want.get(i));
                return;
            }
        }
        due(what + ": answers behind it", got.size(), want.size());
    }

    private static void refused(String what, long code, Call call) {
        refused(what, RefusalTest::ready, code, call);
    }

    private static void readiness() {
        says("Refused calls answer by a code and change nothing");
        HookOver x = ready();
        due("three calls can be UNDONE", x.count(5), 3);
        due("the CHAIR was put on", x.count(4), 1);
        due("THE TAPE has bytes", x.count(10), 20);
        due("a FAULT was found", x.fault(0), 3);
        due("DEEDS that can be", x.judge(0, 0), 2);
        due("looks", x.looks(1, 0), 3);
        due("something is seen", x.seen(2) > 0 ? 1 : 0, 1);
        due("answers that are held against one another", traceOf(ready()).size(), 237);
    }

    private static void noneSuch() {
        says("-2 there is none such");
        for (int n : new int[] {-1, 4, LEAST, GREATEST}) {
            refused("hook(" + n + ", 0)", -2, x -> x.hook(n, 0));
            refused("belongs(" + n + ", 0)", -2, x -> x.belongs(n, 0));
            refused("fullAt(0, " + n + ")", -2, x -> x.fullAt(0, n));
            refused("sure(2, " + n + ")", -2, x -> x.sure(2, n));
        }
        for (int n : new int[] {-1, 5, LEAST, GREATEST}) {
            refused("ring(" + n + ", 0)", -2, x -> x.ring(n, 0));
            refused("belongs(0, " + n + ")", -2, x -> x.belongs(0, n));
            refused("hook(0, " + n + ")", -2, x -> x.hook(0, n));
            refused("sags(" + n + ")", -2, x -> x.sags(n));
        }
        for (int n : NO_TRAY) {
            refused("ring(0, " + n + ")", -2, x -> x.ring(0, n));
            refused("judge(" + n + ", 0)", -2, x -> x.judge(n, 0));
            refused("judge(0, " + n + ")", -2, x -> x.judge(0, n));
            refused("perform(" + n + ")", -2, x -> x.perform(n));
            refused("looks(" + n + ", 0)", -2, x -> x.looks(n, 0));
            refused("rounds(" + n + ", 0)", -2, x -> x.rounds(n, 0));
            refused("seen(" + n + ")", -2, x -> x.seen(n));
            refused("sure(" + n + ", 0)", -2, x -> x.sure(n, 0));
            refused("numbers(" + n + ", 0, 3)", -2, x -> x.numbers(n, 0, 3));
            refused("numbers(0, " + n + ", 3)", -2, x -> x.numbers(0, n, 3));
            refused("write(" + n + ", 0, 1)", -2, x -> x.write(n, 0, 1));
            refused("copy(" + n + ")", -2, x -> x.copy(n));
        }
        for (int n : new int[] {-1, 2, 9, 14, LEAST, GREATEST}) {
            refused("mended(" + n + ")", -2, x -> x.mended(n));
            refused("evenest(" + n + ")", -2, x -> x.evenest(n));
        }
        for (int n : new int[] {-1, 2, LEAST, GREATEST}) {
            refused("pleats(" + n + ")", -2, x -> x.pleats(n));
            refused("average(1, " + n + ")", -2, x -> x.average(1, n));
            refused("out(1, " + n + ")", -2, x -> x.out(1, n));
            refused("image(" + n + ")", -2, x -> x.image(n));
            refused("restore(" + n + ")", -2, x -> x.restore(n));
        }
        for (int n : new int[] {-1, 3, LEAST, GREATEST}) {
            refused("looks(1, " + n + ")", -2, x -> x.looks(1, n));
        }
        for (int n : new int[] {-1, 1, 9, 18, LEAST, GREATEST}) {
            refused("rounds(1, " + n + ")", -2, x -> x.rounds(1, n));
        }
    }

    private static HookOver with(int tray, int sort, long... values) {
        HookOver x = ready();
        fill(x, tray, sort, values);
        return x;
    }

    private static void badNumbers() {
        says("-3 a number can't be");
        for (int n : new int[] {-1, 21, LEAST, GREATEST}) {
            refused("window(" + n + ")", -3, x -> x.window(n));
        }
        refused("window(901)", RefusalTest::full, -3, x -> x.window(901));
        for (int n : new int[] {0, -1, 4, 10, 11, LEAST, GREATEST}) {
            refused("undo(" + n + ")", -3, x -> x.undo(n));
        }
        for (int n : new int[] {0, -1, 61, LEAST, GREATEST}) {
            refused("day(1, " + n + ")", -3, x -> x.day(1, n));
        }
        for (int set : new int[] {2, 3, 7, 8, 16, 1 << 12, 1 << 31, -1, LEAST + 1, GREATEST}) {
            refused("undoing(" + set + ")", -3, x -> x.undoing(set));
        }
        for (int n : new int[] {-1, 13, LEAST, GREATEST}) {
            refused("joinings(" + n + ")", -3, x -> x.joinings(n));
        }
        refused("fullAt(-1, 0)", -3, x -> x.fullAt(-1, 0));
        for (int n : new int[] {0, -1, 13, LEAST, GREATEST}) {
            refused("average(" + n + ", 0)", -3, x -> x.average(n, 0));
        }
        for (int k : new int[] {-1, 5, LEAST, GREATEST}) {
            refused("oneOut(" + k + ", 1)", -3, x -> x.oneOut(k, 1));
        }
        for (int d : new int[] {0, 2, -2, LEAST, GREATEST}) {
            refused("oneOut(0, " + d + ")", -3, x -> x.oneOut(0, d));
            refused("out(" + d + ", 0)", -3, x -> x.out(d, 0));
        }
        for (int n : new int[] {-1, 41, LEAST, GREATEST}) {
            refused("numbers(0, 0, " + n + ")", -3, x -> x.numbers(0, 0, n));
            refused("numbers(3, 3, " + n + ")", -3, x -> x.numbers(3, 3, n));
        }
        refused("looks of -1", () -> with(1, 1, 4, -1), -3, x -> x.looks(1, 0));
        refused("looks of 1000", () -> with(1, 1, 4, 1000), -3, x -> x.looks(1, 1));
        refused("rounds of two alike", () -> with(1, 1, 4, 0, 4), -3, x -> x.rounds(1, 10));
        refused("rounds of RING 5", () -> with(1, 1, 5), -3, x -> x.rounds(1, 0));
        refused("rounds of RING -1", () -> with(1, 1, -1), -3, x -> x.rounds(1, 17));
        refused("seen of -3", () -> with(2, 1, -1, -1, -1, -3), -3, x -> x.seen(2));
        refused("sure of -3", () -> with(2, 1, -3, -1, -1, -1), -3, x -> x.sure(2, 3));
    }

    private static void tooMany() {
        says("-4 too many");
        refused("looks of none", () -> with(1, 1), -4, x -> x.looks(1, 0));
        refused("looks of 21", () -> with(1, 1, new long[21]), -4, x -> x.looks(1, 2));
        refused("rounds of none", () -> with(1, 1), -4, x -> x.rounds(1, 0));
        refused("rounds of 9", () -> with(1, 1, 0, 1, 2, 3, 4, 5, 6, 7, 8), -4, x -> x.rounds(1, 10));
        refused("seen of 3 for 4 GAPS", () -> with(2, 1, -1, -1, -1), -4, x -> x.seen(2));
        refused("seen of 5 for 4 GAPS", () -> with(2, 1, -1, -1, -1, -1, -1), -4, x -> x.seen(2));
        refused("sure of 5 for 4 GAPS", () -> with(2, 1, -1, -1, -1, -1, -1), -4, x -> x.sure(2, 0));
    }

    private static void notNow() {
        says("-5 it can't be now");
        refused("feed() on a full TAPE", RefusalTest::full, -5, x -> x.feed(-1, 0, 1, 2, 3));
        refused("day() without HOOKS", RefusalTest::railAlone, -5, x -> x.day(1, 60));
        refused("average() without HOOKS", RefusalTest::railAlone, -5, x -> x.average(12, 1));
        refused("bestLook() without HOOKS", RefusalTest::railAlone, -5, HookOver::bestLook);
        refused("day() without RINGS", () -> told("cloth 9;"), -5, x -> x.day(1, 1));
        refused("pleats() without a pleat", () -> told("rail 9;cloth 9;join 0 0;"), -5, x -> x.pleats(0));
        refused("restore(1)", -5, x -> x.restore(1));
        refused("restore(0) of a new object", HookOver::new, -5, x -> x.restore(0));
        refused("fullAt() beyond", -5, x -> x.fullAt(924, 0));
        refused("fullAt() far beyond", -5, x -> x.fullAt(GREATEST, 3));
    }

    private static void missing() {
        says("-6 a TRAY is MISSING");
        refused("judge(3, 3)", -6, x -> x.judge(3, 3));
        refused("perform(3)", -6, x -> x.perform(3));
        refused("looks(3, 2)", -6, x -> x.looks(3, 2));
        refused("rounds(3, 17)", -6, x -> x.rounds(3, 17));
        refused("seen(3)", -6, x -> x.seen(3));
        refused("sure(3, 0)", -6, x -> x.sure(3, 0));
        refused("write(3, 0, 1)", -6, x -> x.write(3, 0, 1));
        refused("copy(3)", -6, x -> x.copy(3));
        says("-7 it has no such number");
        for (int i : new int[] {-1, 3, 40, LEAST, GREATEST}) {
            refused("write(0, " + i + ", 1)", -7, x -> x.write(0, i, 1));
        }
        refused("write() into an empty one", () -> with(1, 3), -7, x -> x.write(1, 0, 1));
    }

    private static void cannot() {
        says("-11 to -14 it can't be (1 to 4)");
        for (int n : new int[] {-1, 4, LEAST, GREATEST}) {
            refused("join(" + n + ", 3)", -11, x -> x.join(n, 3));
            refused("unhook(" + n + ")", -11, x -> x.unhook(n));
        }
        for (int n : new int[] {-1, 5, LEAST, GREATEST}) {
            refused("join(1, " + n + ")", -11, x -> x.join(1, n));
        }
        refused("join(0, 1): it is joined", -12, x -> x.join(0, 1));
        refused("join(1, 2): the RING has one", -12, x -> x.join(1, 2));
        refused("join(3, 4): it is broken", -12, x -> x.join(3, 4));
        refused("unhook(1): it isn't joined", -12, x -> x.unhook(1));
        refused("join(1, 3): not the later at the later", -13, x -> x.join(1, 3));
        refused("join(3, 1): not the later at the later", -13, x -> x.join(3, 1));
        refused("join(1, 1): a SAG of -1", () -> told("rail 5 5;cloth 4 9;join 0 0;join 2 2;"), -14, x -> x.join(1, 1));
        refused("a perform() that does nothing", () -> with(0, 3, 1, 200), 0, x -> x.perform(0));
        refused("a day() that does nothing", () -> told("rail 1;cloth 9;broken 0;broken 1;"), 0, x -> x.day(3, 60));
    }

    private static void faults() {
        says("-30 less the FAULT: a text");
        String[] texts = {"pleat 5;rail 1;,", "pleat 5;cloth 1;rail 1", "rail 9 9;cloth 9;broken 1;pleat 5;join 0 1;",
            "pleat 5;" + row("cloth", 12, 1)};
        for (int kind = 1; kind <= 4; kind++) {
            HookOver asked = ready();
            HookOver spared = ready();
            // THE TAPE is empty behind a text with a FAULT too, so that it must be empty in both.
            due("a text of one letter", asked.window(1), -32);
            due("a text of one letter", spared.window(1), -32);
            due("THE TAPE", asked.count(10), 0);
            due("text '" + texts[kind - 1] + "'", tell(asked, texts[kind - 1]), -30 - kind);
            due("its FAULT", asked.fault(0), kind);
            due("THE TAPE", asked.count(10), 0);
            List<Long> got = traceOf(asked);
            List<Long> want = traceOf(spared);
            due("all but the FAULT stays", got.subList(2, got.size()).equals(want.subList(2, want.size())) ? 1 : 0, 1);
        }
    }

    private static void order() {
        says("(Of several that which the call tells first; all these ahead of NONE.)");
        refused("judge(3, 4): what, MISSING", -2, x -> x.judge(3, 4));
        refused("looks(3, 3): what, MISSING", -2, x -> x.looks(3, 3));
        refused("rounds(3, 18): what, MISSING", -2, x -> x.rounds(3, 18));
        refused("sure(3, 4): the HOOK, MISSING", -2, x -> x.sure(3, 4));
        refused("looks: 21, one of -1", () -> with(1, 1, new long[] {-1, 0, 0, 0, 0, 0, 0, 0, 0, 0, 0, 0, 0, 0, 0, 0, 0, 0, 0,
            0, 0}), -4, x -> x.looks(1, 0));
        refused("rounds: nine, all alike", () -> with(1, 1, new long[9]), -4, x -> x.rounds(1, 0));
        refused("rounds: -3 ahead of NONE", () -> with(1, 1, 2, 2), -3, x -> x.rounds(1, 17));
        refused("seen: too few, below -2", () -> with(2, 1, -3), -4, x -> x.seen(2));
        refused("fullAt(-1, 4): the HOOK, k", -2, x -> x.fullAt(-1, 4));
        refused("fullAt(924, -1): the HOOK, k", -2, x -> x.fullAt(924, -1));
        refused("day(1, 0): times, no HOOKS", RefusalTest::railAlone, -3, x -> x.day(1, 0));
        refused("average(0, 2): what, n", -2, x -> x.average(0, 2));
        refused("average(0, 0): n, no HOOKS", RefusalTest::railAlone, -3, x -> x.average(0, 0));
        refused("average(1, 2): what, no HOOKS", RefusalTest::railAlone, -2, x -> x.average(1, 2));
        refused("pleats(2): what, no pleat", HookOver::new, -2, x -> x.pleats(2));
        refused("out(0, 2): what, d", -2, x -> x.out(0, 2));
        refused("numbers(4, 0, 41): the TRAY, n", -2, x -> x.numbers(4, 0, 41));
        refused("numbers(0, 4, 41): the sort, n", -2, x -> x.numbers(0, 4, 41));
        refused("write(4, -1, 0): the TRAY, the number", -2, x -> x.write(4, -1, 0));
        refused("write(3, -1, 0): MISSING, the number", -6, x -> x.write(3, -1, 0));
        refused("hook(4, 0): no HOOK ahead of no RING", -2, x -> x.hook(4, 0));
        refused("hook(3, 5): what ahead of NONE", -2, x -> x.hook(3, 5));
        refused("ring(4, 4): what ahead of NONE", -2, x -> x.ring(4, 4));
    }

    public static void main(String[] args) {
        readiness();
        noneSuch();
        badNumbers();
        tooMany();
        notNow();
        missing();
        cannot();
        faults();
        order();
        end(args);
    }
}
