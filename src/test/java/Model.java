import java.math.BigInteger;
import java.util.ArrayDeque;
import java.util.ArrayList;
import java.util.Arrays;
import java.util.Comparator;
import java.util.Deque;
import java.util.List;

/**
 * The document once more, by the slowest means: every JOINING is listed, every order of a round is gone by, a law is
 * read anew for each pair. ModelTest holds the class against it.
 */
final class Model {
    static final class Fault extends RuntimeException {
        final int kind;
        final int place;

        Fault(int kind, int place) {
            super(null, null, false, false);
            this.kind = kind;
            this.place = place;
        }
    }

    record Token(String text, int place) {
        boolean isNumber() {
            return !text.isEmpty() && Character.isDigit(text.charAt(0));
        }
    }

    static final class State implements Cloneable {
        List<Integer> gaps = new ArrayList<>();
        List<Integer> cloth = new ArrayList<>();
        int[] hookMark = new int[12];
        int[] ringMark = new int[12];
        boolean[] broken = new boolean[12];
        List<Token> law;
        int reach = 1, climb = 5, hang = 2, pleat = 0, slip = 0, look = 10, lines = 0;
        int[] join = new int[12];
        int chair = 0, seconds = 0;

        State() {
            Arrays.fill(join, -1);
        }

        int hooks() {
            return cloth.isEmpty() ? 0 : cloth.size() + 1;
        }

        int rings() {
            return gaps.isEmpty() ? 0 : gaps.size() + 1;
        }

        State twin() {
            try {
                State s = (State) clone();
                s.join = join.clone();
                return s;
            } catch (CloneNotSupportedException e) {
                throw new IllegalStateException(e);
            }
        }

        int clothFrom(int a, int b) {
            return cloth.subList(a, b).stream().mapToInt(x -> x).sum();
        }

        int gapsFrom(int a, int b) {
            return gaps.subList(a, b).stream().mapToInt(x -> x).sum();
        }

        /** SAGS by HOOK, or null if the joins break a rule. */
        Integer[] sagsOf(int[] rings) {
            Integer[] sags = new Integer[12];
            int last = -1;
            for (int h = 0; h < hooks(); h++) {
                if (rings[h] < 0) {
                    continue;
                }
                if (last >= 0) {
                    if (rings[last] >= rings[h]) {
                        return null;
                    }
                    int sag = clothFrom(last, h) - gapsFrom(rings[last], rings[h]);
                    if (sag < 0) {
                        return null;
                    }
                    sags[last] = sag;
                }
                last = h;
            }
            return sags;
        }

        int whyJoin(int h, int r) {
            if (h < 0 || h >= hooks() || r < 0 || r >= rings()) {
                return 1;
            }
            boolean taken = false;
            boolean crossed = false;
            for (int g = 0; g < hooks(); g++) {
                taken |= join[g] == r;
                crossed |= join[g] >= 0 && (g < h ? join[g] > r : g > h && join[g] < r);
            }
            if (join[h] >= 0 || taken || broken[r]) {
                return 2;
            }
            if (crossed) {
                return 3;
            }
            int[] then = join.clone();
            then[h] = r;
            return sagsOf(then) == null ? 4 : 0;
        }

        int whyUnhook(int h) {
            return h < 0 || h >= hooks() ? 1 : join[h] < 0 ? 2 : 0;
        }

        /** As if something were done there: SECONDS. */
        int work(int r) {
            int taken = 0;
            if (Math.abs(r - chair) > reach) {
                int to = r > chair ? r - reach : r + reach;
                taken = climb + Math.abs(to - chair);
                chair = to;
            }
            taken += hang;
            seconds += taken;
            return taken;
        }

        boolean right(int h, int r) {
            if (law == null) {
                return h == r;
            }
            return new LawWalk(this, law, h, r).truthAll();
        }
    }

    /** Walks over a law that is known to be good. */
    static final class LawWalk {
        final State s;
        final List<Token> law;
        final int h;
        final int r;
        int at = 0;

        LawWalk(State s, List<Token> law, int h, int r) {
            this.s = s;
            this.law = law;
            this.h = h;
            this.r = r;
        }

        String peek() {
            return at < law.size() ? law.get(at).text() : "";
        }

        boolean truthAll() {
            boolean v = both();
            while (peek().equals("or")) {
                at++;
                v |= both();
            }
            return v;
        }

        boolean both() {
            boolean v = unit();
            while (peek().equals("and")) {
                at++;
                v &= unit();
            }
            return v;
        }

        boolean unit() {
            if (peek().equals("not")) {
                at++;
                return !unit();
            }
            if (peek().equals("[")) {
                at++;
                boolean v = truthAll();
                at++;
                return v;
            }
            long a = sum();
            String sign = peek();
            at++;
            long b = sum();
            return sign.equals("=") ? a == b : sign.equals("<") ? a < b : a > b;
        }

        static long kept(long v) {
            return v > 1000000 ? 1000000 : v < -1000000 ? -1000000 : v;
        }

        long sum() {
            long v = term();
            while (peek().equals("+") || peek().equals("-")) {
                int sign = peek().equals("+") ? 1 : -1;
                at++;
                v = kept(v + sign * term());
            }
            return v;
        }

        long term() {
            long v = atom();
            while (peek().equals("*")) {
                at++;
                v = kept(v * atom());
            }
            return v;
        }

        long atom() {
            String t = peek();
            at++;
            switch (t) {
                case "(":
                    long v = sum();
                    at++;
                    return v;
                case "hook":
                    return h;
                case "ring":
                    return r;
                case "hm":
                    return s.hookMark[h];
                case "rm":
                    return s.ringMark[r];
                case "hooks":
                    return s.hooks();
                case "rings":
                    return s.rings();
                default:
                    return Integer.parseInt(t);
            }
        }
    }

    /** Reads a text; throws the first Fault. */
    static final class TextReader {
        final String text;
        int at = 0;
        Token next;
        State s = new State();

        TextReader(String text) {
            this.text = text;
        }

        /** The next TOKEN without going on; an empty one is the end. */
        Token look() {
            if (next != null) {
                return next;
            }
            while (at < text.length() && (text.charAt(at) == ' ' || text.charAt(at) == '\n')) {
                at++;
            }
            int from = at;
            while (at < text.length() && text.substring(from, at + 1).matches("[a-z]+|[0-9]+|[-;:+*()\\[\\]=<>]")) {
                at++;
            }
            if (from == at && at < text.length() || text.substring(from, at).matches("[0-9]{4,}")) {
                throw new Fault(1, from);
            }
            next = new Token(text.substring(from, at), from);
            return next;
        }

        Token take() {
            Token t = look();
            next = null;
            return t;
        }

        boolean is(String... words) {
            return Arrays.asList(words).contains(look().text());
        }

        Token must(String... words) {
            Token t = look();
            if (!is(words)) {
                throw new Fault(2, t.place());
            }
            return take();
        }

        int number(int least, int most) {
            Token t = look();
            if (!t.isNumber()) {
                throw new Fault(2, t.place());
            }
            int n = Integer.parseInt(t.text());
            if (n < least || n > most) {
                throw new Fault(3, t.place());
            }
            take();
            return n;
        }

        State read() {
            while (!look().text().isEmpty()) {
                line();
                must(";");
                s.lines++;
            }
            return s;
        }

        void line() {
            Token head = must("rail", "cloth", "hook", "ring", "broken", "law", "chair", "pleat", "slip", "join");
            boolean early = s.gaps.isEmpty() || s.cloth.isEmpty();
            switch (head.text()) {
                case "rail" -> row(head, s.gaps);
                case "cloth" -> row(head, s.cloth);
                case "hook" -> mark(head, early, s.hookMark, s.hooks());
                case "ring" -> mark(head, early, s.ringMark, s.rings());
                case "broken" -> {
                    refuseIf(early, head);
                    s.broken[number(0, s.rings() - 1)] = true;
                }
                case "join" -> {
                    refuseIf(early, head);
                    int h = number(0, s.hooks() - 1);
                    int place = look().place();
                    int r = number(0, s.rings() - 1);
                    if (s.whyJoin(h, r) != 0) {
                        throw new Fault(3, place);
                    }
                    s.join[h] = r;
                }
                case "law" -> {
                    must(":");
                    List<Token> law = new ArrayList<>();
                    truth(law, 0);
                    s.law = law;
                }
                case "chair" -> {
                    s.reach = number(0, 9);
                    s.climb = number(0, 99);
                    s.hang = number(1, 99);
                }
                case "pleat" -> s.pleat = number(2, 6);
                default -> {
                    s.slip = number(0, 9);
                    s.look = number(0, 999);
                }
            }
        }

        static void refuseIf(boolean bad, Token at) {
            if (bad) {
                throw new Fault(2, at.place());
            }
        }

        void row(Token head, List<Integer> row) {
            refuseIf(!row.isEmpty(), head);
            List<Integer> read = new ArrayList<>();
            do {
                int place = look().place();
                int n = number(1, 99);
                if (read.size() == 11) {
                    throw new Fault(4, place);
                }
                read.add(n);
            } while (look().isNumber());
            row.addAll(read);
        }

        void mark(Token head, boolean early, int[] marks, int many) {
            refuseIf(early, head);
            int which = number(0, many - 1);
            must("mark");
            marks[which] = number(0, 99);
        }

        void truth(List<Token> law, int within) {
            both(law, within);
            while (is("or")) {
                law.add(take());
                both(law, within);
            }
        }

        void both(List<Token> law, int within) {
            unit(law, within);
            while (is("and")) {
                law.add(take());
                unit(law, within);
            }
        }

        void open(List<Token> law, int within) {
            if (within == 6) {
                throw new Fault(4, look().place());
            }
            law.add(take());
        }

        void unit(List<Token> law, int within) {
            if (is("not")) {
                open(law, within);
                unit(law, within + 1);
            } else if (is("[")) {
                open(law, within);
                truth(law, within + 1);
                law.add(must("]"));
            } else {
                sum(law, within);
                law.add(must("=", "<", ">"));
                sum(law, within);
            }
        }

        void sum(List<Token> law, int within) {
            term(law, within);
            while (is("+", "-")) {
                law.add(take());
                term(law, within);
            }
        }

        void term(List<Token> law, int within) {
            atom(law, within);
            while (is("*")) {
                law.add(take());
                atom(law, within);
            }
        }

        void atom(List<Token> law, int within) {
            if (is("(")) {
                open(law, within);
                sum(law, within + 1);
                law.add(must(")"));
            } else if (look().isNumber()) {
                law.add(take());
            } else {
                law.add(must("hook", "ring", "hm", "rm", "hooks", "rings"));
            }
        }
    }

    private final StringBuilder tape = new StringBuilder();
    private State s = new State();
    private int fault = 0;
    private int place = -1;
    private final Deque<State> past = new ArrayDeque<>();
    private final long[][] trays = new long[4][];
    private final int[] sorts = new int[4];
    private final State[] images = new State[2];
    private List<int[]> listed;

    int feed(int a, int b, int c, int d, int e) {
        if (tape.length() + 20 > 900) {
            return -5;
        }
        for (int x : new int[] {a, b, c, d, e}) {
            tape.append((char) (x >> 24 & 255)).append((char) (x >> 16 & 255));
            tape.append((char) (x >> 8 & 255)).append((char) (x & 255));
        }
        return tape.length();
    }

    int window(int n) {
        if (n < 0 || n > tape.length()) {
            return -3;
        }
        String text = tape.substring(0, n);
        tape.setLength(0);
        try {
            s = new TextReader(text).read();
        } catch (Fault f) {
            fault = f.kind;
            place = f.place;
            return -30 - f.kind;
        }
        fault = 0;
        place = -1;
        past.clear();
        listed = null;
        return s.lines;
    }

    int fault(int what) {
        return what == 0 ? fault : what == 1 ? place : -1;
    }

    boolean isHook(int h) {
        return h >= 0 && h < s.hooks();
    }

    boolean isRing(int r) {
        return r >= 0 && r < s.rings();
    }

    int hook(int h, int what) {
        if (!isHook(h) || what < 0 || what > 4) {
            return -2;
        }
        Integer sag = s.sagsOf(s.join)[h];
        return switch (what) {
            case 0 -> s.join[h];
            case 1 -> s.hookMark[h];
            case 2 -> h == s.cloth.size() ? -1 : s.cloth.get(h);
            case 3 -> sag == null ? -1 : sag;
            default -> s.join[h] >= 0 && s.right(h, s.join[h]) ? 1 : 0;
        };
    }

    int ring(int r, int what) {
        if (!isRing(r) || what < 0 || what > 3) {
            return -2;
        }
        return switch (what) {
            case 0 -> {
                int found = -1;
                for (int h = 0; h < s.hooks(); h++) {
                    found = s.join[h] == r ? h : found;
                }
                yield found;
            }
            case 1 -> s.ringMark[r];
            case 2 -> r == s.gaps.size() ? -1 : s.gaps.get(r);
            default -> s.broken[r] ? 1 : 0;
        };
    }

    int belongs(int h, int r) {
        return !isHook(h) || !isRing(r) ? -2 : s.right(h, r) ? 1 : 0;
    }

    int sags(int what) {
        int joined = 0, right = 0, greatest = 0, all = 0, squares = 0;
        for (int h = 0; h < s.hooks(); h++) {
            joined += s.join[h] >= 0 ? 1 : 0;
            right += hook(h, 4);
            int sag = hook(h, 3);
            if (sag >= 0) {
                greatest = Math.max(greatest, sag);
                all += sag;
                squares += sag * sag;
            }
        }
        return what < 0 || what > 4 ? -2 : new int[] {joined, right, greatest, all, squares}[what];
    }

    int why(int h, int r) {
        return s.whyJoin(h, r);
    }

    void remember(State before) {
        past.addLast(before);
        if (past.size() > 10) {
            past.removeFirst();
        }
    }

    static int doJoin(State s, int h, int r) {
        s.join[h] = r;
        return s.work(r);
    }

    static int doUnhook(State s, int h) {
        int r = s.join[h];
        s.join[h] = -1;
        return s.work(r);
    }

    int join(int h, int r) {
        int why = s.whyJoin(h, r);
        if (why != 0) {
            return -10 - why;
        }
        remember(s.twin());
        return doJoin(s, h, r);
    }

    int unhook(int h) {
        int why = s.whyUnhook(h);
        if (why != 0) {
            return -10 - why;
        }
        remember(s.twin());
        return doUnhook(s, h);
    }

    int undo(int n) {
        if (n < 1 || n > 10 || n > past.size()) {
            return -3;
        }
        for (int i = 0; i < n; i++) {
            s = past.removeLast();
        }
        return past.size();
    }

    int trayCode(int tray) {
        return tray < 0 || tray > 3 ? -2 : trays[tray] == null ? -6 : 0;
    }

    static int deedWhy(State t, long deed) {
        if (deed >= 0 && deed <= 143) {
            return t.whyJoin((int) deed / 12, (int) deed % 12);
        }
        return deed >= 200 && deed <= 211 ? t.whyUnhook((int) deed - 200) : 1;
    }

    static int doDeeds(State t, long[] deeds) {
        int done = 0;
        while (done < deeds.length && deedWhy(t, deeds[done]) == 0) {
            int deed = (int) deeds[done];
            if (deed >= 200) {
                doUnhook(t, deed - 200);
            } else {
                doJoin(t, deed / 12, deed % 12);
            }
            done++;
        }
        return done;
    }

    int judge(int tray, int what) {
        if (what < 0 || what > 3) {
            return -2;
        }
        if (trayCode(tray) != 0) {
            return trayCode(tray);
        }
        State t = s.twin();
        int done = doDeeds(t, trays[tray]);
        boolean all = done == trays[tray].length;
        return switch (what) {
            case 0 -> all ? -1 : done;
            case 1 -> all ? 0 : deedWhy(t, trays[tray][done]);
            case 2 -> t.seconds - s.seconds;
            default -> (int) Arrays.stream(t.join).filter(r -> r >= 0).count();
        };
    }

    int perform(int tray) {
        if (trayCode(tray) != 0) {
            return trayCode(tray);
        }
        State before = s.twin();
        int done = doDeeds(s, trays[tray]);
        if (done > 0) {
            remember(before);
        }
        return done;
    }

    int day(int seed, int times) {
        if (times < 1 || times > 60) {
            return -3;
        }
        if (s.hooks() == 0 || s.rings() == 0) {
            return -5;
        }
        State before = s.twin();
        int x = seed;
        int done = 0;
        for (int i = 0; i < times; i++) {
            x = 1103515245 * x + 12345;
            int h = (x >>> 16) % s.hooks();
            if (s.join[h] >= 0) {
                doUnhook(s, h);
                done++;
            } else {
                x = 1103515245 * x + 12345;
                int r = (x >>> 16) % s.rings();
                if (s.whyJoin(h, r) == 0) {
                    doJoin(s, h, r);
                    done++;
                }
            }
        }
        if (done > 0) {
            remember(before);
        }
        return done;
    }

    int undoing(int set) {
        List<Integer> hooks = new ArrayList<>();
        for (int h = 0; h < 32; h++) {
            if ((set >> h & 1) == 1) {
                if (h >= s.hooks() || s.join[h] < 0) {
                    return -3;
                }
                hooks.add(h);
            }
        }
        State up = s.twin();
        State down = s.twin();
        for (int i = 0; i < hooks.size(); i++) {
            up.work(s.join[hooks.get(i)]);
            down.work(s.join[hooks.get(hooks.size() - 1 - i)]);
        }
        return Math.min(up.seconds, down.seconds) - s.seconds;
    }

    /** All JOININGS in their order. */
    List<int[]> all() {
        if (listed == null) {
            listed = new ArrayList<>();
            int[] rings = new int[12];
            Arrays.fill(rings, -1);
            list(rings, 0);
        }
        return listed;
    }

    private void list(int[] rings, int h) {
        if (s.sagsOf(rings) == null) {
            return;
        }
        if (h == s.hooks()) {
            listed.add(rings.clone());
            return;
        }
        for (int r = 0; r < s.rings(); r++) {
            if (!s.broken[r]) {
                rings[h] = r;
                list(rings, h + 1);
            }
        }
        rings[h] = -1;
        list(rings, h + 1);
    }

    static int joinedIn(int[] rings) {
        return (int) Arrays.stream(rings).filter(r -> r >= 0).count();
    }

    long joinings(int n) {
        return n < 0 || n > 12 ? -3 : all().stream().filter(j -> joinedIn(j) == n).count();
    }

    int full() {
        return all().stream().mapToInt(Model::joinedIn).max().getAsInt();
    }

    List<int[]> fulls() {
        int full = full();
        return all().stream().filter(j -> joinedIn(j) == full).toList();
    }

    int unhookedFor(int[] j) {
        int n = 0;
        for (int h = 0; h < s.hooks(); h++) {
            n += s.join[h] >= 0 && s.join[h] != j[h] ? 1 : 0;
        }
        return n;
    }

    boolean allRight(int[] j, boolean[][] right) {
        for (int h = 0; h < s.hooks(); h++) {
            if (j[h] >= 0 && !right[h][j[h]]) {
                return false;
            }
        }
        return true;
    }

    int mended(int what) {
        if (what != 0 && what != 1 && !(what >= 10 && isHook(what - 10))) {
            return -2;
        }
        boolean[][] right = new boolean[12][12];
        for (int h = 0; h < s.hooks(); h++) {
            for (int r = 0; r < s.rings(); r++) {
                right[h][r] = s.right(h, r);
            }
        }
        int[] best = all().stream().filter(j -> allRight(j, right))
            .min(Comparator.comparingInt((int[] j) -> -joinedIn(j)).thenComparingInt(this::unhookedFor)).get();
        return what == 0 ? joinedIn(best) : what == 1 ? unhookedFor(best) : best[what - 10];
    }

    int greatest(int[] j) {
        return Arrays.stream(s.sagsOf(j)).filter(x -> x != null).mapToInt(x -> x).max().orElse(0);
    }

    int squares(int[] j) {
        return Arrays.stream(s.sagsOf(j)).filter(x -> x != null).mapToInt(x -> x * x).sum();
    }

    int[] even() {
        return fulls().stream().min(Comparator.comparingInt(this::greatest).thenComparingInt(this::squares)).get();
    }

    int evenest(int what) {
        if (what != 0 && what != 1 && !(what >= 10 && isHook(what - 10))) {
            return -2;
        }
        int[] best = even();
        return what == 0 ? greatest(best) : what == 1 ? squares(best) : best[what - 10];
    }

    int spread() {
        State before = s.twin();
        s.join = even().clone();
        int moved = 0;
        for (int h = 0; h < 12; h++) {
            moved += s.join[h] != before.join[h] ? 1 : 0;
        }
        if (moved > 0) {
            remember(before);
        }
        return moved;
    }

    int fullAt(int k, int h) {
        if (!isHook(h)) {
            return -2;
        }
        return k < 0 ? -3 : k >= fulls().size() ? -5 : fulls().get(k)[h];
    }

    /** The worst for places i to j - 1 that may still have to be looked at. */
    static int worst(int[] cost, int i, int j, Integer[][] known) {
        if (i == j) {
            return 0;
        }
        if (known[i][j] == null) {
            int least = Integer.MAX_VALUE;
            for (int p = i; p < j; p++) {
                least = Math.min(least, cost[p] + Math.max(worst(cost, i, p, known), worst(cost, p + 1, j, known)));
            }
            known[i][j] = least;
        }
        return known[i][j];
    }

    int looks(int tray, int what) {
        if (what < 0 || what > 2) {
            return -2;
        }
        if (trayCode(tray) != 0) {
            return trayCode(tray);
        }
        int n = trays[tray].length;
        if (n < 1 || n > 20) {
            return -4;
        }
        int[] cost = new int[n];
        for (int i = 0; i < n; i++) {
            if (trays[tray][i] < 0 || trays[tray][i] > 999) {
                return -3;
            }
            cost[i] = (int) trays[tray][i];
        }
        if (what == 2) {
            int looks = 0;
            while (1 << looks < n + 1) {
                looks++;
            }
            return looks;
        }
        Integer[][] known = new Integer[n + 1][n + 1];
        int least = worst(cost, 0, n, known);
        int first = 0;
        while (cost[first] + Math.max(worst(cost, 0, first, known), worst(cost, first + 1, n, known)) != least) {
            first++;
        }
        return what == 0 ? least : first;
    }

    private int bestRound;
    private int[] bestOrder;

    private void goRound(State t, int[] stops, int[] order, int k, boolean[] gone) {
        if (k == stops.length) {
            if (t.seconds - s.seconds < bestRound) {
                bestRound = t.seconds - s.seconds;
                bestOrder = order.clone();
            }
            return;
        }
        for (int i = 0; i < stops.length; i++) {
            if (!gone[i]) {
                int chair = t.chair;
                int seconds = t.seconds;
                gone[i] = true;
                order[k] = stops[i];
                t.work(stops[i]);
                goRound(t, stops, order, k + 1, gone);
                gone[i] = false;
                t.chair = chair;
                t.seconds = seconds;
            }
        }
    }

    int rounds(int tray, int what) {
        if (what != 0 && (what < 10 || what > 17)) {
            return -2;
        }
        if (trayCode(tray) != 0) {
            return trayCode(tray);
        }
        long[] t = trays[tray];
        if (t.length < 1 || t.length > 8) {
            return -4;
        }
        for (long r : t) {
            if (r < 0 || r >= s.rings()) {
                return -3;
            }
        }
        if (Arrays.stream(t).distinct().count() < t.length) {
            return -3;
        }
        bestRound = Integer.MAX_VALUE;
        int[] stops = Arrays.stream(t).mapToInt(r -> (int) r).toArray();
        goRound(s.twin(), stops, new int[t.length], 0, new boolean[t.length]);
        return what == 0 ? bestRound : what - 10 < t.length ? bestOrder[what - 10] : -1;
    }

    int pleats(int what) {
        if (what != 0 && what != 1) {
            return -2;
        }
        if (s.pleat == 0) {
            return -5;
        }
        int[] many = new int[s.pleat];
        for (int h = 0; h < s.hooks(); h++) {
            if (s.join[h] >= 0) {
                many[(s.join[h] - h + 60) % s.pleat]++;
            }
        }
        int kept = Arrays.stream(many).max().getAsInt();
        if (what == 0) {
            return kept;
        }
        int rest = 0;
        while (many[rest] != kept) {
            rest++;
        }
        return kept == 0 ? -1 : rest;
    }

    /** Upper and lower number, in lowest terms. */
    BigInteger[] averageBy(int n) {
        BigInteger up = BigInteger.ZERO;
        BigInteger low = BigInteger.ONE;
        for (int left = s.hooks(); left > 0; left -= n) {
            int m = Math.min(n, left);
            BigInteger u = BigInteger.valueOf((long) m * s.hang + s.look).multiply(BigInteger.TEN.pow(m));
            BigInteger l = BigInteger.valueOf(10 - s.slip).pow(m);
            up = up.multiply(l).add(u.multiply(low));
            low = low.multiply(l);
        }
        BigInteger g = up.gcd(low);
        return new BigInteger[] {up.divide(g), low.divide(g)};
    }

    long average(int n, int what) {
        if (what != 0 && what != 1) {
            return -2;
        }
        return n < 1 || n > 12 ? -3 : s.hooks() == 0 ? -5 : averageBy(n)[what].longValueExact();
    }

    int bestLook() {
        if (s.hooks() == 0) {
            return -5;
        }
        int best = 1;
        for (int n = 2; n <= s.hooks(); n++) {
            BigInteger[] a = averageBy(n);
            BigInteger[] b = averageBy(best);
            if (a[0].multiply(b[1]).compareTo(b[0].multiply(a[1])) < 0) {
                best = n;
            }
        }
        return best;
    }

    int oneOut(int k, int d) {
        if (k < 0 || k > s.hooks() || Math.abs(d) != 1) {
            return -3;
        }
        int n = 0;
        for (int h = 0; h < s.hooks(); h++) {
            n += belongs(h, h < k ? h : h + d) == 1 ? 1 : 0;
        }
        return n;
    }

    int out(int d, int what) {
        if (what != 0 && what != 1) {
            return -2;
        }
        if (d != 1 && d != -1) {
            return -3;
        }
        int best = 0;
        for (int k = 0; k <= s.hooks(); k++) {
            best = oneOut(k, d) > oneOut(best, d) ? k : best;
        }
        return what == 0 ? best : oneOut(best, d);
    }

    /** What is SEEN at each GAP by some joins. */
    int[] sight(int[] j) {
        int[] seen = new int[s.gaps.size()];
        Arrays.fill(seen, -2);
        Integer[] sags = s.sagsOf(j);
        int last = -1;
        for (int h = 0; h < s.hooks(); h++) {
            if (j[h] >= 0) {
                if (last >= 0) {
                    Arrays.fill(seen, j[last], j[h], sags[last]);
                }
                last = h;
            }
        }
        return seen;
    }

    List<int[]> fitting(long[] tray) {
        List<int[]> fit = new ArrayList<>();
        for (int[] j : fulls()) {
            int[] seen = sight(j);
            boolean fits = true;
            for (int g = 0; g < seen.length; g++) {
                fits &= tray[g] == -1 || tray[g] == seen[g];
            }
            if (fits) {
                fit.add(j);
            }
        }
        return fit;
    }

    int seenCode(int tray) {
        if (trayCode(tray) != 0) {
            return trayCode(tray);
        }
        if (trays[tray].length != s.gaps.size()) {
            return -4;
        }
        return Arrays.stream(trays[tray]).anyMatch(v -> v < -2) ? -3 : 0;
    }

    long seen(int tray) {
        return seenCode(tray) != 0 ? seenCode(tray) : fitting(trays[tray]).size();
    }

    int sure(int tray, int h) {
        if (!isHook(h)) {
            return -2;
        }
        if (seenCode(tray) != 0) {
            return seenCode(tray);
        }
        int[] rings = fitting(trays[tray]).stream().mapToInt(j -> j[h]).distinct().toArray();
        return rings.length == 1 ? rings[0] : -8;
    }

    int numbers(int tray, int sort, int n) {
        if (tray < 0 || tray > 3 || sort < 0 || sort > 3) {
            return -2;
        }
        if (n < 0 || n > 40) {
            return -3;
        }
        trays[tray] = new long[n];
        sorts[tray] = sort;
        return 0;
    }

    long write(int tray, int i, long v) {
        if (trayCode(tray) != 0) {
            return trayCode(tray);
        }
        if (i < 0 || i >= trays[tray].length) {
            return -7;
        }
        int cut = 64 - (8 << sorts[tray]);
        trays[tray][i] = v << cut >> cut;
        return trays[tray][i];
    }

    int copy(int tray) {
        if (trayCode(tray) != 0) {
            return trayCode(tray);
        }
        int[] seen = sight(s.join);
        int n = Math.min(seen.length, trays[tray].length);
        for (int g = 0; g < n; g++) {
            write(tray, g, seen[g]);
        }
        return n;
    }

    int image(int i) {
        if (i < 0 || i > 1) {
            return -2;
        }
        images[i] = s.twin();
        return 0;
    }

    int restore(int i) {
        if (i < 0 || i > 1) {
            return -2;
        }
        if (images[i] == null) {
            return -5;
        }
        s = images[i].twin();
        past.clear();
        listed = null;
        return 0;
    }

    int count(int what) {
        int broken = 0;
        for (boolean b : s.broken) {
            broken += b ? 1 : 0;
        }
        int[] all = {s.hooks(), s.rings(), broken, s.seconds, s.chair, past.size(), s.reach, s.climb, s.hang, s.pleat,
            tape.length(), s.lines};
        return what < 0 || what > 11 ? -1 : all[what];
    }
}
