import java.util.Arrays;

/** One hook over: a rail's rings, a curtain's hooks, and what belongs to what. */
public final class HookOver {
    public static final int NONE = -1;

    private static final int NO_SUCH = -2;
    private static final int BAD_NUMBER = -3;
    private static final int TOO_MANY = -4;
    private static final int NOT_NOW = -5;
    private static final int MISSING = -6;
    private static final int NO_PLACE = -7;
    private static final int UNSURE = -8;
    private static final int CANNOT = -10;
    private static final int FAULTY = -30;

    private static final int MOST = 12;
    private static final int TAPE_BYTES = 900;
    private static final int TRAYS = 4;
    private static final int TRAY_PLACES = 40;
    private static final int IMAGES = 2;
    private static final int MOST_UNDONE = 10;
    private static final int MOST_TIMES = 60;
    private static final int MOST_LOOKS = 20;
    private static final int MOST_IN_ROUND = 8;
    private static final int DETAIL = 10;

    /** Above all sums that are told; one of these can be added to it. */
    private static final int FAR = 1 << 29;

    /** A table has a cell for each HOOK, each RING and each number of joins (below MOST) beside that one. */
    private static final int TABLE = MOST * MOST * MOST;

    private final byte[] tape;
    private int tapeBytes;
    private final Reader reader;
    private int lastFault;
    private int lastPlace;
    private Window told;
    private Window spare;
    private final Hanging hung;
    private final Hanging other;
    private final History history;
    private final Tray[] trays;
    private final Window[] imageWindows;
    private final Hanging[] imageHangings;
    private final boolean[] imageMade;
    private final Joinings ways;
    private final Mender mender;
    private final Watcher watcher;
    /** Two tables that each reckoning writes over, so that no call makes new ones. */
    private final int[] sheet;
    private final int[] order;

    public HookOver() {
        tape = new byte[TAPE_BYTES];
        tapeBytes = 0;
        reader = new Reader();
        lastFault = 0;
        lastPlace = NONE;
        told = new Window();
        spare = new Window();
        hung = new Hanging();
        other = new Hanging();
        history = new History();
        trays = new Tray[TRAYS];
        for (int i = 0; i < TRAYS; i++) {
            trays[i] = new Tray();
        }
        imageWindows = new Window[IMAGES];
        imageHangings = new Hanging[IMAGES];
        imageMade = new boolean[IMAGES];
        for (int i = 0; i < IMAGES; i++) {
            imageWindows[i] = new Window();
            imageHangings[i] = new Hanging();
        }
        ways = new Joinings();
        mender = new Mender();
        watcher = new Watcher();
        sheet = new int[2 * TABLE];
        order = new int[MOST_IN_ROUND];
    }

    // ---- the window

    public int feed(int a, int b, int c, int d, int e) {
        if (tapeBytes + 20 > TAPE_BYTES) {
            return NOT_NOW;
        }
        putOnTape(a);
        putOnTape(b);
        putOnTape(c);
        putOnTape(d);
        putOnTape(e);
        return tapeBytes;
    }

    private void putOnTape(int word) {
        for (int shift = 24; shift >= 0 && tapeBytes < TAPE_BYTES; shift -= 8) {
            tape[tapeBytes] = (byte) (word >>> shift);
            tapeBytes++;
        }
    }

    public int window(int n) {
        if (n < 0 || n > tapeBytes) {
            return BAD_NUMBER;
        }
        tapeBytes = 0;
        // Until the text is known to be good, the hanging now in force must stay.
        reader.readText(tape, n, spare, other);
        lastFault = reader.foundFault();
        lastPlace = reader.foundPlace();
        if (lastFault != 0) {
            return FAULTY - lastFault;
        }
        Window former = told;
        told = spare;
        spare = former;
        hung.takeFrom(other);
        history.forget();
        ways.forget();
        return told.lines;
    }

    public int fault(int what) {
        if (what == 0) {
            return lastFault;
        }
        return what == 1 ? lastPlace : NONE;
    }

    public int hook(int h, int what) {
        if (!told.isHook(h)) {
            return NO_SUCH;
        }
        switch (what) {
            case 0:
                return hung.ringOf[h];
            case 1:
                return told.hookMark[h];
            case 2:
                return h + 1 < told.hooks ? told.hookAt[h + 1] - told.hookAt[h] : NONE;
            case 3:
                return hung.sagOf(told, h);
            case 4:
                return hung.isRightlyJoined(told, h) ? 1 : 0;
            default:
                return NO_SUCH;
        }
    }

    public int ring(int r, int what) {
        if (!told.isRing(r)) {
            return NO_SUCH;
        }
        switch (what) {
            case 0:
                return hung.hookOn(told, r);
            case 1:
                return told.ringMark[r];
            case 2:
                return r + 1 < told.rings ? told.ringAt[r + 1] - told.ringAt[r] : NONE;
            case 3:
                return told.isBroken(r) ? 1 : 0;
            default:
                return NO_SUCH;
        }
    }

    public int belongs(int h, int r) {
        if (!told.isHook(h) || !told.isRing(r)) {
            return NO_SUCH;
        }
        return told.isRight(h, r) ? 1 : 0;
    }

    public int sags(int what) {
        switch (what) {
            case 0:
                return hung.joinedIn(told);
            case 1:
                return hung.rightIn(told);
            case 2:
                return hung.greatestSag(told);
            case 3:
                return hung.sagSum(told, false);
            case 4:
                return hung.sagSum(told, true);
            default:
                return NO_SUCH;
        }
    }

    // ---- deeds

    public int why(int h, int r) {
        return hung.whyNotJoin(told, h, r);
    }

    public int join(int h, int r) {
        int reason = hung.whyNotJoin(told, h, r);
        if (reason != 0) {
            return CANNOT - reason;
        }
        history.push(hung);
        return hung.attach(told, h, r);
    }

    public int unhook(int h) {
        int reason = hung.whyNotUnhook(told, h);
        if (reason != 0) {
            return CANNOT - reason;
        }
        history.push(hung);
        return hung.detach(told, h);
    }

    public int undo(int n) {
        if (n < 1 || n > MOST_UNDONE || n > history.held) {
            return BAD_NUMBER;
        }
        history.pop(n, hung);
        return history.held;
    }

    public int judge(int tray, int what) {
        if (!isTray(tray) || what < 0 || what > 3) {
            return NO_SUCH;
        }
        Tray deeds = trays[tray];
        if (deeds.isMissing()) {
            return MISSING;
        }
        other.takeFrom(hung);
        int done = other.doDeeds(told, deeds);
        boolean stopped = done < deeds.size;
        switch (what) {
            case 0:
                return stopped ? done : NONE;
            case 1:
                return stopped ? other.whyNotDeed(told, deeds.at(done)) : 0;
            case 2:
                return other.seconds - hung.seconds;
            default:
                return other.joinedIn(told);
        }
    }

    public int perform(int tray) {
        int code = trayCode(tray);
        if (code != 0) {
            return code;
        }
        other.takeFrom(hung);
        int done = hung.doDeeds(told, trays[tray]);
        if (done > 0) {
            history.push(other);
        }
        return done;
    }

    public int day(int seed, int times) {
        if (times < 1 || times > MOST_TIMES) {
            return BAD_NUMBER;
        }
        if (told.hooks == 0 || told.rings == 0) {
            return NOT_NOW;
        }
        other.takeFrom(hung);
        int done = hung.spendDay(told, seed, times);
        if (done > 0) {
            history.push(other);
        }
        return done;
    }

    public int undoing(int set) {
        for (int h = 0; h < 32; h++) {
            boolean wanted = (set >>> h & 1) != 0;
            if (wanted && (!told.isHook(h) || !hung.isJoined(h))) {
                return BAD_NUMBER;
            }
        }
        return Math.min(hung.secondsToUnhook(told, set, false), hung.secondsToUnhook(told, set, true));
    }

    // ---- joinings

    public long joinings(int n) {
        if (n < 0 || n > MOST) {
            return BAD_NUMBER;
        }
        ways.countFor(told);
        return ways.totals[n];
    }

    public int full() {
        ways.countFor(told);
        return ways.most;
    }

    public int mended(int what) {
        boolean ofHook = what >= DETAIL && told.isHook(what - DETAIL);
        if (what != 0 && what != 1 && !ofHook) {
            return NO_SUCH;
        }
        mender.mend(told, hung);
        if (ofHook) {
            return mender.rings[what - DETAIL];
        }
        return what == 0 ? mender.joined : mender.unhooked;
    }

    public int evenest(int what) {
        boolean ofHook = what >= DETAIL && told.isHook(what - DETAIL);
        if (what != 0 && what != 1 && !ofHook) {
            return NO_SUCH;
        }
        ways.evenFor(told, sheet);
        if (ofHook) {
            return ways.evenRings[what - DETAIL];
        }
        return what == 0 ? ways.evenGreatest : ways.evenSquares;
    }

    public int spread() {
        ways.evenFor(told, sheet);
        other.takeFrom(hung);
        int moved = 0;
        for (int h = 0; h < told.hooks; h++) {
            if (hung.ringOf[h] != ways.evenRings[h]) {
                hung.ringOf[h] = ways.evenRings[h];
                moved++;
            }
        }
        if (moved > 0) {
            history.push(other);
        }
        return moved;
    }

    public int fullAt(int k, int h) {
        if (!told.isHook(h)) {
            return NO_SUCH;
        }
        if (k < 0) {
            return BAD_NUMBER;
        }
        ways.countFor(told);
        if (k >= ways.totals[ways.most]) {
            return NOT_NOW;
        }
        return ways.ringInFull(told, k, h);
    }

    // ---- looks, rounds

    public int looks(int tray, int what) {
        if (!isTray(tray) || what < 0 || what > 2) {
            return NO_SUCH;
        }
        Tray seconds = trays[tray];
        if (seconds.isMissing()) {
            return MISSING;
        }
        if (seconds.size < 1 || seconds.size > MOST_LOOKS) {
            return TOO_MANY;
        }
        if (!seconds.isWithin(0, 999)) {
            return BAD_NUMBER;
        }
        int worst = Reckoner.worstOfLooks(seconds, what == 2, sheet);
        return what == 1 ? Reckoner.firstLook(seconds, sheet) : worst;
    }

    public int rounds(int tray, int what) {
        boolean ofPlace = what >= DETAIL && what < DETAIL + MOST_IN_ROUND;
        if (!isTray(tray) || what != 0 && !ofPlace) {
            return NO_SUCH;
        }
        Tray stops = trays[tray];
        if (stops.isMissing()) {
            return MISSING;
        }
        if (stops.size < 1 || stops.size > MOST_IN_ROUND) {
            return TOO_MANY;
        }
        if (!stops.isWithin(0, told.rings - 1) || stops.hasTwins()) {
            return BAD_NUMBER;
        }
        Reckoner.fillRounds(told, stops, sheet);
        if (what == 0) {
            return Reckoner.secondsOfRound(hung.chair, sheet);
        }
        if (what - DETAIL >= stops.size) {
            return NONE;
        }
        Reckoner.orderRound(told, stops, hung.chair, sheet, order);
        return order[what - DETAIL];
    }

    // ---- pleats, slips, lists

    public int pleats(int what) {
        if (what != 0 && what != 1) {
            return NO_SUCH;
        }
        if (told.pleat == 0) {
            return NOT_NOW;
        }
        int kept = 0;
        int rest = NONE;
        for (int remainder = 0; remainder < told.pleat; remainder++) {
            int alike = hung.joinedWithRemainder(told, remainder);
            if (alike > kept) {
                kept = alike;
                rest = remainder;
            }
        }
        return what == 0 ? kept : rest;
    }

    public long average(int n, int what) {
        if (what != 0 && what != 1) {
            return NO_SUCH;
        }
        if (n < 1 || n > MOST) {
            return BAD_NUMBER;
        }
        if (told.hooks == 0) {
            return NOT_NOW;
        }
        long upper = Reckoner.averageUpper(told, n);
        long lower = Reckoner.averageLower(told);
        long shared = Reckoner.commonDivisor(upper, lower);
        if (shared == 0) {
            return 0;
        }
        return what == 0 ? upper / shared : lower / shared;
    }

    public int bestLook() {
        if (told.hooks == 0) {
            return NOT_NOW;
        }
        int best = 1;
        long least = Reckoner.averageUpper(told, 1);
        for (int n = 2; n <= told.hooks; n++) {
            long upper = Reckoner.averageUpper(told, n);
            if (upper < least) {
                least = upper;
                best = n;
            }
        }
        return best;
    }

    public int oneOut(int k, int d) {
        if (k < 0 || k > told.hooks || d != 1 && d != -1) {
            return BAD_NUMBER;
        }
        return told.rightOneOut(k, d);
    }

    public int out(int d, int what) {
        if (what != 0 && what != 1) {
            return NO_SUCH;
        }
        if (d != 1 && d != -1) {
            return BAD_NUMBER;
        }
        int best = 0;
        int most = told.rightOneOut(0, d);
        for (int k = 1; k <= told.hooks; k++) {
            int right = told.rightOneOut(k, d);
            if (right > most) {
                most = right;
                best = k;
            }
        }
        return what == 0 ? best : most;
    }

    // ---- seen

    public long seen(int tray) {
        int code = sightCode(tray);
        if (code != 0) {
            return code;
        }
        ways.countFor(told);
        return watcher.countFits(told, trays[tray], ways.most, sheet);
    }

    public int sure(int tray, int h) {
        if (!told.isHook(h)) {
            return NO_SUCH;
        }
        int code = sightCode(tray);
        if (code != 0) {
            return code;
        }
        ways.countFor(told);
        int all = watcher.countFits(told, trays[tray], ways.most, sheet);
        return watcher.ringInAll(told, h, all, ways.most, sheet);
    }

    private int sightCode(int tray) {
        int code = trayCode(tray);
        if (code != 0) {
            return code;
        }
        Tray sight = trays[tray];
        if (sight.size != told.gaps()) {
            return TOO_MANY;
        }
        return sight.least() < -2 ? BAD_NUMBER : 0;
    }

    // ---- trays, images

    public int numbers(int tray, int sort, int n) {
        if (!isTray(tray) || sort < 0 || sort > 3) {
            return NO_SUCH;
        }
        if (n < 0 || n > TRAY_PLACES) {
            return BAD_NUMBER;
        }
        trays[tray].make(sort, n);
        return 0;
    }

    public long write(int tray, int i, long v) {
        int code = trayCode(tray);
        if (code != 0) {
            return code;
        }
        Tray chosen = trays[tray];
        if (i < 0 || i >= chosen.size) {
            return NO_PLACE;
        }
        return chosen.put(i, v);
    }

    public int copy(int tray) {
        int code = trayCode(tray);
        if (code != 0) {
            return code;
        }
        Tray chosen = trays[tray];
        int places = Math.min(chosen.size, told.gaps());
        for (int gap = 0; gap < places; gap++) {
            chosen.put(gap, hung.seenAt(told, gap));
        }
        return places;
    }

    public int image(int i) {
        if (i < 0 || i >= IMAGES) {
            return NO_SUCH;
        }
        imageWindows[i].takeFrom(told);
        imageHangings[i].takeFrom(hung);
        imageMade[i] = true;
        return 0;
    }

    public int restore(int i) {
        if (i < 0 || i >= IMAGES) {
            return NO_SUCH;
        }
        if (!imageMade[i]) {
            return NOT_NOW;
        }
        told.takeFrom(imageWindows[i]);
        hung.takeFrom(imageHangings[i]);
        history.forget();
        ways.forget();
        return 0;
    }

    public int count(int what) {
        switch (what) {
            case 0:
                return told.hooks;
            case 1:
                return told.rings;
            case 2:
                return Integer.bitCount(told.broken);
            case 3:
                return hung.seconds;
            case 4:
                return hung.chair;
            case 5:
                return history.held;
            case 6:
                return told.reach;
            case 7:
                return told.climb;
            case 8:
                return told.hang;
            case 9:
                return told.pleat;
            case 10:
                return tapeBytes;
            case 11:
                return told.lines;
            default:
                return NONE;
        }
    }

    private static boolean isTray(int tray) {
        return tray >= 0 && tray < TRAYS;
    }

    private int trayCode(int tray) {
        if (!isTray(tray)) {
            return NO_SUCH;
        }
        return trays[tray].isMissing() ? MISSING : 0;
    }

    /** Where the row of numbers of joins of a HOOK at a RING begins in a table. */
    private static int rowOf(int h, int r) {
        return (h * MOST + r) * MOST;
    }

    /** THE WINDOW as it is told, without what is done to it later. */
    private static final class Window {
        /** All cloth ahead of a HOOK, all GAPS ahead of a RING: what lies between two is one difference. */
        final int[] hookAt;
        final int[] ringAt;
        final int[] hookMark;
        final int[] ringMark;
        /** For each HOOK the RINGS (bits) to which it belongs. */
        final int[] right;
        int hooks;
        int rings;
        int broken;
        int reach;
        int climb;
        int hang;
        int pleat;
        int slip;
        int look;
        int lines;

        Window() {
            hookAt = new int[MOST];
            ringAt = new int[MOST];
            hookMark = new int[MOST];
            ringMark = new int[MOST];
            right = new int[MOST];
            empty();
        }

        void empty() {
            Arrays.fill(hookAt, 0);
            Arrays.fill(ringAt, 0);
            Arrays.fill(hookMark, 0);
            Arrays.fill(ringMark, 0);
            Arrays.fill(right, 0);
            hooks = 0;
            rings = 0;
            broken = 0;
            reach = 1;
            climb = 5;
            hang = 2;
            pleat = 0;
            slip = 0;
            look = 10;
            lines = 0;
        }

        void takeFrom(Window from) {
            System.arraycopy(from.hookAt, 0, hookAt, 0, MOST);
            System.arraycopy(from.ringAt, 0, ringAt, 0, MOST);
            System.arraycopy(from.hookMark, 0, hookMark, 0, MOST);
            System.arraycopy(from.ringMark, 0, ringMark, 0, MOST);
            System.arraycopy(from.right, 0, right, 0, MOST);
            hooks = from.hooks;
            rings = from.rings;
            broken = from.broken;
            reach = from.reach;
            climb = from.climb;
            hang = from.hang;
            pleat = from.pleat;
            slip = from.slip;
            look = from.look;
            lines = from.lines;
        }

        boolean isHook(int h) {
            return h >= 0 && h < hooks;
        }

        boolean isRing(int r) {
            return r >= 0 && r < rings;
        }

        boolean isBroken(int r) {
            return (broken >>> r & 1) != 0;
        }

        boolean isRight(int h, int r) {
            return isHook(h) && isRing(r) && (right[h] >>> r & 1) != 0;
        }

        int gaps() {
            return rings > 0 ? rings - 1 : 0;
        }

        /** The SAG of a HOOK at a RING if the next one is at a later RING; below 0 if that can't be. */
        int sagBetween(int h, int r, int nextHook, int nextRing) {
            return hookAt[nextHook] - hookAt[h] - (ringAt[nextRing] - ringAt[r]);
        }

        /** Whether a later HOOK can be the next one that is joined, at that RING; any can behind HOOK NONE. */
        boolean canFollow(int h, int r, int nextHook, int nextRing) {
            return h == NONE || nextRing > r && sagBetween(h, r, nextHook, nextRing) >= 0;
        }

        int rightOneOut(int k, int d) {
            int found = 0;
            for (int h = 0; h < hooks; h++) {
                if (isRight(h, h < k ? h : h + d)) {
                    found++;
                }
            }
            return found;
        }

        int chairFor(int chair, int r) {
            if (r > chair + reach) {
                return r - reach;
            }
            if (r < chair - reach) {
                return r + reach;
            }
            return chair;
        }

        int secondsAt(int chair, int r) {
            int moved = Math.abs(chairFor(chair, r) - chair);
            return moved == 0 ? hang : climb + moved + hang;
        }
    }

    /** What a call could bring back by UNDOING: joins, CHAIR, SECONDS. */
    private static final class Hanging {
        private static final int HOOK_STEP = 12;
        private static final int UNHOOK_DEED = 200;

        final int[] ringOf;
        int chair;
        int seconds;

        Hanging() {
            ringOf = new int[MOST];
            empty();
        }

        void empty() {
            Arrays.fill(ringOf, NONE);
            chair = 0;
            seconds = 0;
        }

        void takeFrom(Hanging from) {
            System.arraycopy(from.ringOf, 0, ringOf, 0, MOST);
            chair = from.chair;
            seconds = from.seconds;
        }

        boolean isJoined(int h) {
            return h >= 0 && h < MOST && ringOf[h] != NONE;
        }

        boolean isRightlyJoined(Window w, int h) {
            return isJoined(h) && w.isRight(h, ringOf[h]);
        }

        int hookOn(Window w, int r) {
            for (int h = 0; h < w.hooks; h++) {
                if (ringOf[h] == r) {
                    return h;
                }
            }
            return NONE;
        }

        int joinedIn(Window w) {
            int found = 0;
            for (int h = 0; h < w.hooks; h++) {
                if (isJoined(h)) {
                    found++;
                }
            }
            return found;
        }

        int rightIn(Window w) {
            int found = 0;
            for (int h = 0; h < w.hooks; h++) {
                if (isRightlyJoined(w, h)) {
                    found++;
                }
            }
            return found;
        }

        private int joinedBehind(Window w, int h) {
            for (int g = h + 1; g < w.hooks; g++) {
                if (isJoined(g)) {
                    return g;
                }
            }
            return NONE;
        }

        private int joinedAhead(int h) {
            for (int g = h - 1; g >= 0; g--) {
                if (isJoined(g)) {
                    return g;
                }
            }
            return NONE;
        }

        int sagOf(Window w, int h) {
            int behind = joinedBehind(w, h);
            if (!isJoined(h) || behind == NONE) {
                return NONE;
            }
            return w.sagBetween(h, ringOf[h], behind, ringOf[behind]);
        }

        int greatestSag(Window w) {
            int greatest = 0;
            for (int h = 0; h < w.hooks; h++) {
                greatest = Math.max(greatest, sagOf(w, h));
            }
            return greatest;
        }

        int sagSum(Window w, boolean squares) {
            int sum = 0;
            for (int h = 0; h < w.hooks; h++) {
                int sag = sagOf(w, h);
                if (sag != NONE) {
                    sum += squares ? sag * sag : sag;
                }
            }
            return sum;
        }

        /** What is SEEN at a GAP: a SAG, or -2. */
        int seenAt(Window w, int gap) {
            for (int h = 0; h < w.hooks; h++) {
                int behind = joinedBehind(w, h);
                if (isJoined(h) && behind != NONE && ringOf[h] <= gap && ringOf[behind] > gap) {
                    return sagOf(w, h);
                }
            }
            return -2;
        }

        int joinedWithRemainder(Window w, int remainder) {
            int found = 0;
            for (int h = 0; h < w.hooks; h++) {
                if (isJoined(h) && w.pleat > 0 && Math.floorMod(ringOf[h] - h, w.pleat) == remainder) {
                    found++;
                }
            }
            return found;
        }

        int whyNotJoin(Window w, int h, int r) {
            if (!w.isHook(h) || !w.isRing(r)) {
                return 1;
            }
            if (isJoined(h) || w.isBroken(r) || hookOn(w, r) != NONE) {
                return 2;
            }
            // The joins in force are in order, so that the nearest on either side tell of all.
            int ahead = joinedAhead(h);
            int behind = joinedBehind(w, h);
            if (ahead != NONE && ringOf[ahead] > r || behind != NONE && ringOf[behind] < r) {
                return 3;
            }
            if (ahead != NONE && w.sagBetween(ahead, ringOf[ahead], h, r) < 0) {
                return 4;
            }
            return behind != NONE && w.sagBetween(h, r, behind, ringOf[behind]) < 0 ? 4 : 0;
        }

        int whyNotUnhook(Window w, int h) {
            if (!w.isHook(h)) {
                return 1;
            }
            return isJoined(h) ? 0 : 2;
        }

        private int workAt(Window w, int r) {
            int taken = w.secondsAt(chair, r);
            chair = w.chairFor(chair, r);
            seconds += taken;
            return taken;
        }

        /** Only behind whyNotJoin(). */
        int attach(Window w, int h, int r) {
            ringOf[h] = r;
            return workAt(w, r);
        }

        /** Only behind whyNotUnhook(). */
        int detach(Window w, int h) {
            int r = ringOf[h];
            ringOf[h] = NONE;
            return workAt(w, r);
        }

        private static boolean isJoinDeed(long deed) {
            return deed >= 0 && deed < MOST * HOOK_STEP;
        }

        private static boolean isUnhookDeed(long deed) {
            return deed >= UNHOOK_DEED && deed < UNHOOK_DEED + MOST;
        }

        int whyNotDeed(Window w, long deed) {
            if (isJoinDeed(deed)) {
                return whyNotJoin(w, (int) deed / HOOK_STEP, (int) deed % HOOK_STEP);
            }
            return isUnhookDeed(deed) ? whyNotUnhook(w, (int) deed - UNHOOK_DEED) : 1;
        }

        /** DEEDS are done till one can't be: how many were. */
        int doDeeds(Window w, Tray deeds) {
            for (int i = 0; i < deeds.size; i++) {
                long deed = deeds.at(i);
                if (whyNotDeed(w, deed) != 0) {
                    return i;
                }
                if (isJoinDeed(deed)) {
                    attach(w, (int) deed / HOOK_STEP, (int) deed % HOOK_STEP);
                } else {
                    detach(w, (int) deed - UNHOOK_DEED);
                }
            }
            return deeds.size;
        }

        private static int nextDraw(int x) {
            return 1103515245 * x + 12345;
        }

        int spendDay(Window w, int seed, int times) {
            if (w.hooks <= 0 || w.rings <= 0) {
                return 0;
            }
            int x = seed;
            int done = 0;
            for (int i = 0; i < times; i++) {
                x = nextDraw(x);
                int h = (x >>> 16) % w.hooks;
                if (isJoined(h)) {
                    detach(w, h);
                    done++;
                    continue;
                }
                x = nextDraw(x);
                int r = (x >>> 16) % w.rings;
                if (whyNotJoin(w, h, r) == 0) {
                    attach(w, h, r);
                    done++;
                }
            }
            return done;
        }

        int secondsToUnhook(Window w, int set, boolean fromLast) {
            int place = chair;
            int sum = 0;
            for (int i = 0; i < w.hooks; i++) {
                int h = fromLast ? w.hooks - 1 - i : i;
                if ((set >>> h & 1) != 0 && isJoined(h)) {
                    sum += w.secondsAt(place, ringOf[h]);
                    place = w.chairFor(place, ringOf[h]);
                }
            }
            return sum;
        }
    }

    /** The latest hangings ahead of calls that can be UNDONE. */
    private static final class History {
        private static final int CHAIR_AT = MOST;
        private static final int SECONDS_AT = MOST + 1;
        private static final int RECORD = MOST + 2;

        private final int[] records;
        private int next;
        int held;

        History() {
            records = new int[MOST_UNDONE * RECORD];
            next = 0;
            held = 0;
        }

        void forget() {
            held = 0;
        }

        void push(Hanging hanging) {
            int base = next * RECORD;
            System.arraycopy(hanging.ringOf, 0, records, base, MOST);
            records[base + CHAIR_AT] = hanging.chair;
            records[base + SECONDS_AT] = hanging.seconds;
            next = (next + 1) % MOST_UNDONE;
            held = Math.min(held + 1, MOST_UNDONE);
        }

        /** Only with n from 1 to held. */
        void pop(int n, Hanging into) {
            held -= n;
            next = Math.floorMod(next - n, MOST_UNDONE);
            int base = next * RECORD;
            System.arraycopy(records, base, into.ringOf, 0, MOST);
            into.chair = records[base + CHAIR_AT];
            into.seconds = records[base + SECONDS_AT];
        }
    }

    private static final class Tray {
        private final long[] places;
        private int sort;
        int size;

        Tray() {
            places = new long[TRAY_PLACES];
            sort = 0;
            size = NONE;
        }

        boolean isMissing() {
            return size == NONE;
        }

        void make(int newSort, int n) {
            Arrays.fill(places, 0L);
            sort = newSort;
            size = n;
        }

        long at(int i) {
            return i >= 0 && i < size ? places[i] : 0L;
        }

        long put(int i, long v) {
            if (i < 0 || i >= size) {
                return 0L;
            }
            places[i] = cut(v);
            return places[i];
        }

        private long cut(long v) {
            switch (sort) {
                case 0:
                    return (byte) v;
                case 1:
                    return (short) v;
                case 2:
                    return (int) v;
                default:
                    return v;
            }
        }

        boolean isWithin(long least, long most) {
            for (int i = 0; i < size; i++) {
                if (places[i] < least || places[i] > most) {
                    return false;
                }
            }
            return true;
        }

        long least() {
            long least = 0;
            for (int i = 0; i < size; i++) {
                least = Math.min(least, places[i]);
            }
            return least;
        }

        boolean hasTwins() {
            for (int i = 0; i < size; i++) {
                for (int j = i + 1; j < size; j++) {
                    if (places[i] == places[j]) {
                        return true;
                    }
                }
            }
            return false;
        }
    }

    /** The TOKENS of a text, one at a time, and the first FAULT. */
    private static final class Tokens {
        static final int END = 0;
        static final int BAD = 1;
        static final int NUMBER = 2;
        static final int STRANGE_WORD = 3;
        // A sign's kind is its byte; the words' kinds lie behind all bytes, in the order of WORDS.
        static final int RAIL = 128;
        static final int CLOTH = 129;
        static final int HOOK = 130;
        static final int RING = 131;
        static final int BROKEN = 132;
        static final int LAW = 133;
        static final int CHAIR = 134;
        static final int PLEAT = 135;
        static final int SLIP = 136;
        static final int JOIN = 137;
        static final int MARK = 138;
        static final int OR = 139;
        static final int AND = 140;
        static final int NOT = 141;
        static final int HM = 142;
        static final int RM = 143;
        static final int HOOKS = 144;
        static final int RINGS = 145;
        private static final String WORDS =
            "rail cloth hook ring broken law chair pleat slip join mark or and not hm rm hooks rings ";
        private static final String SIGNS = ";:+-*()[]=<>";
        private static final int MOST_DIGITS = 3;

        private byte[] text;
        private int length;
        private int at;
        int kind;
        int value;
        int start;
        int fault;
        int place;

        Tokens() {
            text = new byte[0];
            length = 0;
            at = 0;
            kind = END;
            value = 0;
            start = 0;
            fault = 0;
            place = NONE;
        }

        void open(byte[] from, int n) {
            text = from;
            length = Math.max(0, Math.min(n, from.length));
            at = 0;
            fault = 0;
            place = NONE;
            step();
        }

        void step() {
            while (at < length && (text[at] == 32 || text[at] == 10)) {
                at++;
            }
            start = at;
            kind = END;
            if (at < length) {
                kind = kindOf(text[at]);
                at++;
            }
            while (at < length && (kind == NUMBER || kind == STRANGE_WORD) && kindOf(text[at]) == kind) {
                at++;
            }
            if (kind == NUMBER) {
                readNumber();
            } else if (kind == STRANGE_WORD) {
                findWord();
            }
        }

        /** The kind of a TOKEN that begins with this byte: a word is strange until it is found. */
        private static int kindOf(byte b) {
            if (b >= '0' && b <= '9') {
                return NUMBER;
            }
            if (b >= 'a' && b <= 'z') {
                return STRANGE_WORD;
            }
            return b > 0 && SIGNS.indexOf((char) b) >= 0 ? b : BAD;
        }

        private void readNumber() {
            value = 0;
            if (at - start > MOST_DIGITS) {
                kind = BAD;
                return;
            }
            for (int i = start; i < at; i++) {
                value = value * 10 + text[i] - '0';
            }
        }

        private void findWord() {
            int word = RAIL;
            int i = start;
            boolean alike = true;
            for (int k = 0; k < WORDS.length() && kind == STRANGE_WORD; k++) {
                char letter = WORDS.charAt(k);
                if (letter != ' ') {
                    alike = alike && i < at && text[i] == letter;
                    i++;
                } else if (alike && i == at) {
                    kind = word;
                } else {
                    word++;
                    i = start;
                    alike = true;
                }
            }
        }

        boolean isSound() {
            return fault == 0;
        }

        void failAt(int where, int newFault) {
            if (fault == 0) {
                fault = newFault;
                place = where;
            }
        }

        /** The TOKEN can't stand here; one that is none at all is the lesser FAULT. */
        void refuse() {
            failAt(start, kind == BAD ? 1 : 2);
        }

        void pass(int wanted) {
            if (kind == wanted) {
                step();
            } else {
                refuse();
            }
        }

        /** An N within its bounds, else a FAULT. */
        int passNumber(int least, int most) {
            int n = value;
            if (kind != NUMBER) {
                refuse();
                return least;
            }
            if (n < least || n > most) {
                failAt(start, 3);
                return least;
            }
            step();
            return n;
        }
    }

    /** A law, kept as a row in which each operation comes behind what it is done to. */
    private static final class Law {
        private static final int FIRST_NUMBER = 1000;
        private static final int MOST_WITHIN = 6;
        private static final int LIMIT = 1000000;
        private static final int STACK = 64;
        // What a TRUTH is made of, from the outermost to the innermost.
        private static final int TRUTH = 0;
        private static final int UNIT = 2;
        private static final int SUM = 3;
        private static final int ATOM = 5;

        private final int[] code;
        private final int[] stack;
        private int size;
        private int top;

        Law() {
            code = new int[TAPE_BYTES];
            stack = new int[STACK];
            size = 0;
            top = 0;
        }

        void strike() {
            size = 0;
        }

        void readTruth(Tokens t) {
            strike();
            readPart(t, TRUTH, 0);
        }

        private void emit(int cell) {
            if (size < code.length) {
                code[size] = cell;
                size++;
            }
        }

        /** Whether a sign or word stands between two parts of the level below this one. */
        private static boolean isBetween(int level, int kind) {
            switch (level) {
                case 0:
                    return kind == Tokens.OR;
                case 1:
                    return kind == Tokens.AND;
                case 3:
                    return kind == '+' || kind == '-';
                case 4:
                    return kind == '*';
                default:
                    return false;
            }
        }

        private void readPart(Tokens t, int level, int within) {
            if (within > MOST_WITHIN || !t.isSound()) {
                return;
            }
            if (level == UNIT) {
                readUnit(t, within);
                return;
            }
            if (level >= ATOM) {
                readAtom(t, within);
                return;
            }
            readPart(t, level + 1, within);
            for (int i = 0; i < TAPE_BYTES && t.isSound() && isBetween(level, t.kind); i++) {
                int operation = t.kind;
                t.step();
                readPart(t, level + 1, within);
                emit(operation);
            }
        }

        /** Whether one of not [ ( may be gone into; else it is a FAULT. */
        private static boolean mayEnter(Tokens t, int within) {
            if (within >= MOST_WITHIN) {
                t.failAt(t.start, 4);
                return false;
            }
            return true;
        }

        private void readUnit(Tokens t, int within) {
            if (t.kind == Tokens.NOT) {
                if (mayEnter(t, within)) {
                    t.step();
                    readPart(t, UNIT, within + 1);
                    emit(Tokens.NOT);
                }
                return;
            }
            if (t.kind == '[') {
                if (mayEnter(t, within)) {
                    t.step();
                    readPart(t, TRUTH, within + 1);
                    if (t.kind == ']') {
                        t.step();
                    } else {
                        t.refuse();
                    }
                }
                return;
            }
            readPart(t, SUM, within);
            int comparison = t.kind;
            if (comparison == '=' || comparison == '<' || comparison == '>') {
                t.step();
                readPart(t, SUM, within);
                emit(comparison);
            } else {
                t.refuse();
            }
        }

        private void readAtom(Tokens t, int within) {
            if (t.kind == '(') {
                if (mayEnter(t, within)) {
                    t.step();
                    readPart(t, SUM, within + 1);
                    if (t.kind == ')') {
                        t.step();
                    } else {
                        t.refuse();
                    }
                }
            } else if (t.kind == Tokens.NUMBER) {
                emit(FIRST_NUMBER + t.value);
                t.step();
            } else if (isName(t.kind)) {
                emit(t.kind);
                t.step();
            } else {
                t.refuse();
            }
        }

        private static boolean isName(int kind) {
            return kind == Tokens.HOOK || kind == Tokens.RING || kind >= Tokens.HM && kind <= Tokens.RINGS;
        }

        /** Tells a window which HOOK belongs to which RING; without a law the numbers tell. */
        void settle(Window w) {
            for (int h = 0; h < w.hooks; h++) {
                int bits = 0;
                for (int r = 0; r < w.rings; r++) {
                    if (size == 0 ? h == r : holds(w, h, r)) {
                        bits |= 1 << r;
                    }
                }
                w.right[h] = bits;
            }
        }

        private boolean holds(Window w, int h, int r) {
            top = 0;
            for (int i = 0; i < size; i++) {
                int cell = code[i];
                if (cell >= FIRST_NUMBER) {
                    push(cell - FIRST_NUMBER);
                } else if (isName(cell)) {
                    push(valueOf(cell, w, h, r));
                } else if (cell == Tokens.NOT) {
                    push(1 - pull());
                } else {
                    int second = pull();
                    push(combine(cell, pull(), second));
                }
            }
            return pull() != 0;
        }

        private void push(int value) {
            if (top < STACK) {
                stack[top] = value;
                top++;
            }
        }

        private int pull() {
            if (top == 0) {
                return 0;
            }
            top--;
            return stack[top];
        }

        private static int valueOf(int name, Window w, int h, int r) {
            switch (name) {
                case Tokens.HOOK:
                    return h;
                case Tokens.RING:
                    return r;
                case Tokens.HM:
                    return w.hookMark[h];
                case Tokens.RM:
                    return w.ringMark[r];
                case Tokens.HOOKS:
                    return w.hooks;
                default:
                    return w.rings;
            }
        }

        private static int combine(int operation, int a, int b) {
            switch (operation) {
                case '+':
                    return kept((long) a + b);
                case '-':
                    return kept((long) a - b);
                case '*':
                    return kept((long) a * b);
                case '=':
                    return a == b ? 1 : 0;
                case '<':
                    return a < b ? 1 : 0;
                case '>':
                    return a > b ? 1 : 0;
                case Tokens.AND:
                    return a & b;
                default:
                    return a | b;
            }
        }

        private static int kept(long n) {
            return (int) Math.max(-LIMIT, Math.min(LIMIT, n));
        }
    }

    /** Reads the LINES of a text into a window and a first hanging. */
    private static final class Reader {
        private final Tokens tokens;
        private final Law law;

        Reader() {
            tokens = new Tokens();
            law = new Law();
        }

        int foundFault() {
            return tokens.fault;
        }

        int foundPlace() {
            return tokens.place;
        }

        void readText(byte[] text, int length, Window w, Hanging first) {
            w.empty();
            first.empty();
            law.strike();
            tokens.open(text, length);
            for (int i = 0; i < TAPE_BYTES && tokens.isSound() && tokens.kind != Tokens.END; i++) {
                readLine(w, first);
                tokens.pass(';');
                w.lines++;
            }
            // Only the whole text tells the marks and how many there are.
            if (tokens.isSound()) {
                law.settle(w);
            }
        }

        private void readLine(Window w, Hanging first) {
            int head = tokens.kind;
            if (!mayBegin(head, w)) {
                tokens.refuse();
                return;
            }
            tokens.step();
            switch (head) {
                case Tokens.RAIL:
                    w.rings = readRow(w.ringAt);
                    break;
                case Tokens.CLOTH:
                    w.hooks = readRow(w.hookAt);
                    break;
                case Tokens.HOOK:
                    readMark(w.hookMark, w.hooks);
                    break;
                case Tokens.RING:
                    readMark(w.ringMark, w.rings);
                    break;
                case Tokens.BROKEN:
                    w.broken |= 1 << tokens.passNumber(0, w.rings - 1);
                    break;
                case Tokens.JOIN:
                    readJoin(w, first);
                    break;
                case Tokens.LAW:
                    tokens.pass(':');
                    law.readTruth(tokens);
                    break;
                default:
                    readSetting(head, w);
            }
        }

        private static boolean mayBegin(int head, Window w) {
            switch (head) {
                case Tokens.RAIL:
                    return w.rings == 0;
                case Tokens.CLOTH:
                    return w.hooks == 0;
                case Tokens.HOOK:
                case Tokens.RING:
                case Tokens.BROKEN:
                case Tokens.JOIN:
                    return w.rings > 0 && w.hooks > 0;
                default:
                    return head >= Tokens.LAW && head <= Tokens.SLIP;
            }
        }

        /** GAPS or cloth, added up: how many RINGS or HOOKS these part. */
        private int readRow(int[] at) {
            int told = 1;
            for (int i = 0; i <= MOST && (i == 0 || tokens.kind == Tokens.NUMBER); i++) {
                int where = tokens.start;
                int n = tokens.passNumber(1, 99);
                if (!tokens.isSound()) {
                    return told;
                }
                if (told == MOST) {
                    tokens.failAt(where, 4);
                    return told;
                }
                at[told] = at[told - 1] + n;
                told++;
            }
            return told;
        }

        private void readMark(int[] marks, int many) {
            int which = tokens.passNumber(0, many - 1);
            tokens.pass(Tokens.MARK);
            int mark = tokens.passNumber(0, 99);
            if (tokens.isSound() && which < marks.length) {
                marks[which] = mark;
            }
        }

        private void readJoin(Window w, Hanging first) {
            int h = tokens.passNumber(0, w.hooks - 1);
            int where = tokens.start;
            int r = tokens.passNumber(0, w.rings - 1);
            if (!tokens.isSound()) {
                return;
            }
            if (first.whyNotJoin(w, h, r) == 0) {
                first.ringOf[h] = r;
            } else {
                tokens.failAt(where, 3);
            }
        }

        private void readSetting(int head, Window w) {
            if (head == Tokens.CHAIR) {
                w.reach = tokens.passNumber(0, 9);
                w.climb = tokens.passNumber(0, 99);
                w.hang = tokens.passNumber(1, 99);
            } else if (head == Tokens.PLEAT) {
                w.pleat = tokens.passNumber(2, 6);
            } else {
                w.slip = tokens.passNumber(0, 9);
                w.look = tokens.passNumber(0, 999);
            }
        }
    }

    /** How many JOININGS there are, the FULL ones, and the EVENEST of these. */
    private static final class Joinings {
        /** In the row of a HOOK at a RING: how many ways there are to join so many more behind it. */
        private final int[] more;
        final int[] totals;
        int most;
        private boolean counted;
        final int[] evenRings;
        int evenGreatest;
        int evenSquares;
        private boolean evened;

        Joinings() {
            more = new int[TABLE];
            totals = new int[MOST + 1];
            evenRings = new int[MOST];
            most = 0;
            counted = false;
            evenGreatest = 0;
            evenSquares = 0;
            evened = false;
        }

        void forget() {
            counted = false;
            evened = false;
        }

        void countFor(Window w) {
            if (counted) {
                return;
            }
            counted = true;
            Arrays.fill(more, 0);
            Arrays.fill(totals, 0);
            totals[0] = 1;
            for (int h = w.hooks - 1; h >= 0; h--) {
                for (int r = w.rings - 1; r >= 0; r--) {
                    if (!w.isBroken(r)) {
                        countBehind(w, h, r);
                    }
                }
            }
            most = 0;
            for (int n = 1; n <= MOST; n++) {
                if (totals[n] > 0) {
                    most = n;
                }
            }
        }

        private void countBehind(Window w, int h, int r) {
            int row = rowOf(h, r);
            more[row] = 1;
            for (int g = h + 1; g < w.hooks; g++) {
                for (int s = r + 1; s < w.rings; s++) {
                    if (w.sagBetween(h, r, g, s) >= 0) {
                        addMoved(rowOf(g, s), row);
                    }
                }
            }
            for (int n = 0; n < MOST; n++) {
                totals[n + 1] += more[row + n];
            }
        }

        private void addMoved(int from, int into) {
            // A row ends with zeros: behind its last join nothing more can be joined.
            for (int n = 1; n < MOST && more[from + n - 1] != 0; n++) {
                more[into + n] += more[from + n - 1];
            }
        }

        /** The RING of a HOOK in the k-th FULL one; only with k below how many there are. */
        int ringInFull(Window w, int k, int wanted) {
            int rest = k;
            int left = most;
            int lastHook = NONE;
            int lastRing = NONE;
            for (int h = 0; h <= wanted; h++) {
                int found = NONE;
                for (int r = lastRing + 1; r < w.rings && left > 0 && found == NONE; r++) {
                    int here = w.canFollow(lastHook, lastRing, h, r) ? more[rowOf(h, r) + left - 1] : 0;
                    if (rest < here) {
                        found = r;
                    } else {
                        rest -= here;
                    }
                }
                if (h == wanted) {
                    return found;
                }
                if (found != NONE) {
                    lastHook = h;
                    lastRing = found;
                    left--;
                }
            }
            return NONE;
        }

        void evenFor(Window w, int[] sheet) {
            countFor(w);
            if (evened) {
                return;
            }
            evened = true;
            Arrays.fill(evenRings, NONE);
            evenGreatest = 0;
            evenSquares = 0;
            if (most == 0) {
                return;
            }
            evenGreatest = leastOfFull(w, sheet, false);
            evenSquares = leastOfFull(w, sheet, true);
            chooseEven(w, sheet);
        }

        /** The least greatest SAG; or, with none above that, the least sum of squares. */
        private int leastOfFull(Window w, int[] sheet, boolean squares) {
            Arrays.fill(sheet, FAR);
            int least = FAR;
            for (int h = w.hooks - 1; h >= 0; h--) {
                for (int r = w.rings - 1; r >= 0; r--) {
                    if (!w.isBroken(r)) {
                        measureBehind(w, h, r, sheet, squares);
                        least = Math.min(least, sheet[rowOf(h, r) + most - 1]);
                    }
                }
            }
            return least;
        }

        private void measureBehind(Window w, int h, int r, int[] sheet, boolean squares) {
            int row = rowOf(h, r);
            sheet[row] = 0;
            for (int g = h + 1; g < w.hooks; g++) {
                for (int s = r + 1; s < w.rings; s++) {
                    int sag = w.sagBetween(h, r, g, s);
                    if (sag < 0 || squares && sag > evenGreatest) {
                        continue;
                    }
                    int from = rowOf(g, s);
                    for (int n = 1; n < most && more[from + n - 1] != 0; n++) {
                        int rest = sheet[from + n - 1];
                        int whole = squares ? sag * sag + rest : Math.max(sag, rest);
                        sheet[row + n] = Math.min(sheet[row + n], whole);
                    }
                }
            }
        }

        private void chooseEven(Window w, int[] sheet) {
            int rest = evenSquares;
            int left = most;
            int lastHook = NONE;
            int lastRing = NONE;
            for (int h = 0; h < w.hooks && left > 0; h++) {
                for (int r = lastRing + 1; r < w.rings && evenRings[h] == NONE; r++) {
                    int sag = lastHook == NONE ? 0 : w.sagBetween(lastHook, lastRing, h, r);
                    int behind = sheet[rowOf(h, r) + left - 1];
                    if (sag >= 0 && sag <= evenGreatest && sag * sag + behind == rest) {
                        evenRings[h] = r;
                        rest = behind;
                    }
                }
                if (evenRings[h] != NONE) {
                    lastHook = h;
                    lastRing = evenRings[h];
                    left--;
                }
            }
        }
    }

    /** The MENDED joining. */
    private static final class Mender {
        /** A join is worth more than all HOOKS that may be unhooked for it. */
        private static final int JOIN_WORTH = 100;

        final int[] rings;
        int joined;
        int unhooked;
        /** For a HOOK at a RING the worth of the best that can be done with the HOOKS behind it. */
        private final int[] worth;
        /** How many of the HOOKS ahead of each are joined now. */
        private final int[] joinedAhead;

        Mender() {
            rings = new int[MOST];
            joined = 0;
            unhooked = 0;
            worth = new int[MOST * MOST];
            joinedAhead = new int[MOST + 1];
        }

        void mend(Window w, Hanging now) {
            Arrays.fill(rings, NONE);
            for (int h = 0; h < w.hooks; h++) {
                joinedAhead[h + 1] = joinedAhead[h] + (now.isJoined(h) ? 1 : 0);
            }
            for (int h = w.hooks - 1; h >= 0; h--) {
                for (int r = w.rings - 1; r >= 0; r--) {
                    if (canStand(w, h, r)) {
                        worth[h * MOST + r] = bestBehind(w, now, h, r);
                    }
                }
            }
            choose(w, now, bestBehind(w, now, NONE, NONE));
            tell(w, now);
        }

        private static boolean canStand(Window w, int h, int r) {
            return !w.isBroken(r) && w.isRight(h, r);
        }

        private static boolean canCome(Window w, int h, int r, int g, int s) {
            return canStand(w, g, s) && w.canFollow(h, r, g, s);
        }

        private int worthOf(Hanging now, int h, int r) {
            boolean moved = now.isJoined(h) && now.ringOf[h] != r;
            return worth[h * MOST + r] + JOIN_WORTH - (moved ? 1 : 0);
        }

        /** With HOOK NONE: behind none, the best of all. */
        private int bestBehind(Window w, Hanging now, int h, int r) {
            int best = joinedAhead[h + 1] - joinedAhead[w.hooks];
            for (int g = h + 1; g < w.hooks; g++) {
                int passed = joinedAhead[g] - joinedAhead[h + 1];
                for (int s = r + 1; s < w.rings; s++) {
                    if (canCome(w, h, r, g, s)) {
                        best = Math.max(best, worthOf(now, g, s) - passed);
                    }
                }
            }
            return best;
        }

        private void choose(Window w, Hanging now, int best) {
            int rest = best;
            int lastHook = NONE;
            int lastRing = NONE;
            for (int h = 0; h < w.hooks; h++) {
                for (int r = lastRing + 1; r < w.rings && rings[h] == NONE; r++) {
                    if (canCome(w, lastHook, lastRing, h, r) && worthOf(now, h, r) == rest) {
                        rings[h] = r;
                    }
                }
                if (rings[h] != NONE) {
                    rest = worth[h * MOST + rings[h]];
                    lastHook = h;
                    lastRing = rings[h];
                } else if (now.isJoined(h)) {
                    rest++;
                }
            }
        }

        private void tell(Window w, Hanging now) {
            joined = 0;
            unhooked = 0;
            for (int h = 0; h < w.hooks; h++) {
                if (rings[h] != NONE) {
                    joined++;
                }
                if (now.isJoined(h) && now.ringOf[h] != rings[h]) {
                    unhooked++;
                }
            }
        }
    }

    /** FULL JOININGS by which it is as SEEN. */
    private static final class Watcher {
        private static final int OF_NONE = -2;
        private static final int CLASH = -3;
        /** Above all SAGS: what is seen so is never so. */
        private static final int TOO_GREAT = 9999;

        /** The SAG that is seen from one RING to another; NONE: any; CLASH: no one SAG. */
        private final int[] span;
        /** RINGS (bits) ahead of which, and behind which, all GAPS may lie between no HOOKS. */
        private int openAhead;
        private int openBehind;

        Watcher() {
            span = new int[MOST * MOST];
            openAhead = 0;
            openBehind = 0;
        }

        private static int seenAt(Tray sight, int gap) {
            return (int) Math.min(sight.at(gap), TOO_GREAT);
        }

        private static int narrowed(int span, int sight) {
            if (sight == NONE) {
                return span;
            }
            if (sight == OF_NONE || span != NONE && span != sight) {
                return CLASH;
            }
            return sight;
        }

        private void survey(Window w, Tray sight) {
            openAhead = 0;
            openBehind = 0;
            boolean open = true;
            for (int r = 0; r < w.rings; r++) {
                open = open && (r == 0 || seenAt(sight, r - 1) < 0);
                openAhead |= open ? 1 << r : 0;
                int sag = NONE;
                for (int s = r + 1; s < w.rings; s++) {
                    sag = narrowed(sag, seenAt(sight, s - 1));
                    span[r * MOST + s] = sag;
                }
            }
            open = true;
            for (int r = w.rings - 1; r >= 0; r--) {
                open = open && (r == w.rings - 1 || seenAt(sight, r) < 0);
                openBehind |= open ? 1 << r : 0;
            }
        }

        private boolean fits(Window w, int h, int r, int g, int s) {
            int sag = w.sagBetween(h, r, g, s);
            int sight = span[r * MOST + s];
            return sag >= 0 && (sight == NONE || sight == sag);
        }

        private static boolean has(int bits, int r) {
            return (bits >>> r & 1) != 0;
        }

        /** How many fit; the first table of the sheet then tells how many do behind each join. */
        int countFits(Window w, Tray sight, int most, int[] sheet) {
            survey(w, sight);
            if (most == 0) {
                return w.rings == 0 || has(openAhead, w.rings - 1) ? 1 : 0;
            }
            Arrays.fill(sheet, 0);
            int all = 0;
            for (int h = w.hooks - 1; h >= 0; h--) {
                for (int r = w.rings - 1; r >= 0; r--) {
                    if (!w.isBroken(r)) {
                        countBehind(w, h, r, most, sheet);
                        all += has(openAhead, r) ? sheet[rowOf(h, r) + most - 1] : 0;
                    }
                }
            }
            return all;
        }

        private void countBehind(Window w, int h, int r, int most, int[] sheet) {
            int row = rowOf(h, r);
            sheet[row] = has(openBehind, r) ? 1 : 0;
            for (int g = h + 1; g < w.hooks; g++) {
                for (int s = r + 1; s < w.rings; s++) {
                    if (!w.isBroken(s) && fits(w, h, r, g, s)) {
                        int behind = Math.min(w.hooks - g, w.rings - s);
                        addMoved(sheet, rowOf(g, s), row, Math.min(most - 1, behind));
                    }
                }
            }
        }

        private static void addMoved(int[] sheet, int from, int into, int last) {
            for (int n = 1; n <= last; n++) {
                sheet[into + n] += sheet[from + n - 1];
            }
        }

        /** Only behind countFits(), which told all. */
        int ringInAll(Window w, int wanted, int all, int most, int[] sheet) {
            if (all == 0) {
                return UNSURE;
            }
            if (most == 0) {
                return NONE;
            }
            countAhead(w, wanted, most, sheet);
            int joined = 0;
            for (int r = 0; r < w.rings; r++) {
                int here = countThrough(rowOf(wanted, r), most, sheet);
                if (here == all) {
                    return r;
                }
                joined += here;
            }
            return joined == 0 ? NONE : UNSURE;
        }

        /** The second table of the sheet: how many ways there are to join so many ahead of each join. */
        private void countAhead(Window w, int last, int most, int[] sheet) {
            for (int g = 0; g <= last; g++) {
                for (int s = 0; s < w.rings; s++) {
                    if (!w.isBroken(s)) {
                        countAheadOf(w, g, s, most, sheet);
                    }
                }
            }
        }

        private void countAheadOf(Window w, int g, int s, int most, int[] sheet) {
            int row = TABLE + rowOf(g, s);
            sheet[row] = has(openAhead, s) ? 1 : 0;
            for (int h = 0; h < g; h++) {
                for (int r = 0; r < s; r++) {
                    if (!w.isBroken(r) && fits(w, h, r, g, s)) {
                        int ahead = Math.min(h, r) + 1;
                        addMoved(sheet, TABLE + rowOf(h, r), row, Math.min(most - 1, ahead));
                    }
                }
            }
        }

        private static int countThrough(int row, int most, int[] sheet) {
            int sum = 0;
            for (int ahead = 0; ahead < most; ahead++) {
                sum += sheet[TABLE + row + ahead] * sheet[row + most - 1 - ahead];
            }
            return sum;
        }
    }

    /** Looks, rounds and averages; what is worked out lies on the sheet that is handed in. */
    private static final class Reckoner {
        private static final int SIDE = MOST_LOOKS + 1;
        private static final int TENTHS = 10;

        private Reckoner() {
        }

        private static int costAt(Tray seconds, int place, boolean each) {
            return each ? 1 : (int) seconds.at(place);
        }

        /** At i and j on the sheet: the worst, if the slip is known to be ahead of one of places i to j. */
        static int worstOfLooks(Tray seconds, boolean each, int[] sheet) {
            int n = Math.min(seconds.size, MOST_LOOKS);
            for (int i = n; i >= 0; i--) {
                sheet[i * SIDE + i] = 0;
                for (int j = i + 1; j <= n; j++) {
                    int least = FAR;
                    for (int look = i; look < j; look++) {
                        least = Math.min(least, worstWith(seconds, each, i, look, j, sheet));
                    }
                    sheet[i * SIDE + j] = least;
                }
            }
            return n > 0 ? sheet[n] : 0;
        }

        private static int worstWith(Tray seconds, boolean each, int i, int look, int j, int[] sheet) {
            int ahead = sheet[i * SIDE + look];
            int behind = sheet[(look + 1) * SIDE + j];
            return costAt(seconds, look, each) + Math.max(ahead, behind);
        }

        /** Only behind worstOfLooks() by SECONDS. */
        static int firstLook(Tray seconds, int[] sheet) {
            int n = Math.min(seconds.size, MOST_LOOKS);
            for (int look = 0; look < n; look++) {
                if (worstWith(seconds, false, 0, look, n, sheet) == sheet[n]) {
                    return look;
                }
            }
            return NONE;
        }

        /** At a set of places gone by and where the CHAIR stands: the fewest SECONDS for the others. */
        static void fillRounds(Window w, Tray stops, int[] sheet) {
            int n = Math.min(stops.size, MOST_IN_ROUND);
            int all = (1 << n) - 1;
            for (int gone = all; gone >= 0; gone--) {
                for (int chair = 0; chair < w.rings; chair++) {
                    int least = gone == all ? 0 : FAR;
                    for (int i = 0; i < n; i++) {
                        if ((gone >>> i & 1) == 0) {
                            least = Math.min(least, secondsBy(w, stops, gone, chair, i, sheet));
                        }
                    }
                    sheet[gone * MOST + chair] = least;
                }
            }
        }

        private static int secondsBy(Window w, Tray stops, int gone, int chair, int i, int[] sheet) {
            int r = (int) stops.at(i);
            return w.secondsAt(chair, r) + sheet[(gone | 1 << i) * MOST + w.chairFor(chair, r)];
        }

        /** Only behind fillRounds(). */
        static int secondsOfRound(int chair, int[] sheet) {
            return chair >= 0 && chair < MOST ? sheet[chair] : 0;
        }

        /** Only behind fillRounds(). */
        static void orderRound(Window w, Tray stops, int start, int[] sheet, int[] order) {
            int n = Math.min(stops.size, MOST_IN_ROUND);
            int gone = 0;
            int chair = start;
            for (int k = 0; k < n; k++) {
                int least = sheet[gone * MOST + chair];
                int next = NONE;
                for (int i = 0; i < n && next == NONE; i++) {
                    if ((gone >>> i & 1) == 0 && secondsBy(w, stops, gone, chair, i, sheet) == least) {
                        next = i;
                    }
                }
                if (next == NONE) {
                    return;
                }
                order[k] = (int) stops.at(next);
                gone |= 1 << next;
                chair = w.chairFor(chair, order[k]);
            }
        }

        private static long power(long base, int times) {
            long product = 1;
            for (int i = 0; i < times; i++) {
                product *= base;
            }
            return product;
        }

        /** The same for every n, so that averages can be compared by their upper numbers. */
        static long averageLower(Window w) {
            return power(TENTHS - w.slip, MOST);
        }

        static long averageUpper(Window w, int n) {
            long sum = 0;
            int step = Math.max(1, n);
            for (int first = 0; first < w.hooks; first += step) {
                sum += upperOfGroup(w, Math.min(step, w.hooks - first));
            }
            return sum;
        }

        /** So many are tried 10^size / (10 - slip)^size times on the average. */
        private static long upperOfGroup(Window w, int size) {
            long seconds = (long) size * w.hang + w.look;
            return seconds * power(TENTHS, size) * power(TENTHS - w.slip, MOST - size);
        }

        static long commonDivisor(long a, long b) {
            long upper = a;
            long lower = b;
            for (int i = 0; i < 200 && lower != 0; i++) {
                long rest = upper % lower;
                upper = lower;
                lower = rest;
            }
            return upper;
        }
    }
}
