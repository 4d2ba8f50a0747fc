import java.lang.reflect.Method;
import java.util.ArrayList;
import java.util.Arrays;
import java.util.List;
import java.util.Random;
import java.util.TreeMap;

/** Runs of drawn calls (the same ones each time) on the class and on Model: every answer must be the same. */
public final class ModelTest {
    private static final int RUNS = 600;
    private static final String[] NAMES = {"hook", "ring", "belongs", "sags", "why", "join", "unhook", "undo", "judge",
        "perform", "day", "undoing", "joinings", "full", "mended", "evenest", "spread", "fullAt", "looks", "rounds",
        "pleats", "average", "bestLook", "oneOut", "out", "seen", "sure", "numbers", "write", "copy", "image",
        "restore", "count", "feed", "window", "fault"};

    private static final List<String> LISTING = List.of("joinings", "full", "mended", "evenest", "spread", "fullAt",
        "seen", "sure");

    private static final TreeMap<String, Method> OURS = new TreeMap<>();
    private static final TreeMap<String, Method> THEIRS = new TreeMap<>();
    private static final TreeMap<String, Integer> GOOD = new TreeMap<>();
    private static int wrong = 0;

    private final Random draw;
    private final HookOver ours = new HookOver();
    private final Model theirs = new Model();
    private final List<String> calls = new ArrayList<>();
    private boolean astray = false;

    private ModelTest(long seed) {
        draw = new Random(seed);
    }

    private int to(int most) {
        return draw.nextInt(most + 1);
    }

    private boolean chance(int ofHundred) {
        return draw.nextInt(100) < ofHundred;
    }

    private long ask(String name, Object... args) {
        try {
            long due = ((Number) THEIRS.get(name).invoke(theirs, args)).longValue();
            long got = ((Number) OURS.get(name).invoke(ours, args)).longValue();
            calls.add(name + Arrays.toString(args) + " = " + got);
            if (due >= -1) {
                GOOD.merge(name, 1, Integer::sum);
            }
            if (got != due && !astray) {
                astray = true;
                wrong++;
                System.out.println(String.join("\n", calls.subList(Math.max(0, calls.size() - 60), calls.size())));
                System.out.println("  due is " + due);
            }
            return due;
        } catch (ReflectiveOperationException e) {
            astray = true;
            wrong++;
            System.out.println(calls + " then " + name + Arrays.toString(args) + " threw " + e.getCause());
            return 0;
        }
    }

    private String sumText(int deep) {
        String[] names = {"hook", "ring", "hm", "rm", "hooks", "rings"};
        StringBuilder b = new StringBuilder();
        int parts = 1 + to(2);
        for (int i = 0; i < parts; i++) {
            b.append(i == 0 ? "" : new String[] {" + ", "-", " * "}[to(2)]);
            if (deep > 0 && chance(20)) {
                b.append("(").append(sumText(deep - 1)).append(")");
            } else if (chance(70)) {
                b.append(" ").append(names[to(5)]).append(" ");
            } else {
                b.append(" ").append(chance(80) ? to(12) : to(999));
            }
        }
        return b.toString();
    }

    private String truthText(int deep) {
        StringBuilder b = new StringBuilder();
        int parts = 1 + to(2);
        for (int i = 0; i < parts; i++) {
            b.append(i == 0 ? "" : chance(50) ? " or " : " and ");
            b.append(chance(20) ? "not " : "");
            if (deep > 0 && chance(30)) {
                b.append("[").append(truthText(deep - 1)).append("]");
            } else {
                b.append(sumText(deep)).append("=<>".charAt(to(2))).append(sumText(deep));
            }
        }
        return b.toString();
    }

    private String rowText(String head, int many, int most) {
        StringBuilder b = new StringBuilder(head);
        for (int i = 0; i < many; i++) {
            b.append(' ').append(1 + to(most - 1));
        }
        return b.append(';').toString();
    }

    private String windowText() {
        boolean large = chance(15);
        int gaps = large ? 6 + to(5) : 1 + to(5);
        int cloth = large ? 6 + to(5) : 1 + to(5);
        int most = chance(50) ? 4 : chance(50) ? 20 : 99;
        List<String> head = new ArrayList<>();
        if (!chance(3)) {
            head.add(rowText("rail", gaps, most));
        }
        if (!chance(3)) {
            head.add(rowText(chance(50) ? "cloth" : "\ncloth  ", cloth, large ? most / 4 + 1 : chance(30) ? most / 2 + 1 : most));
        }
        List<String> rest = new ArrayList<>();
        for (int i = to(6); i > 0 && head.size() == 2; i--) {
            switch (large ? to(2) : to(4)) {
                case 0 -> rest.add("hook " + to(cloth) + " mark " + to(chance(80) ? 3 : 99) + ";");
                case 1 -> rest.add("ring " + to(gaps) + " mark " + to(chance(80) ? 3 : 99) + ";");
                case 2 -> rest.add("broken " + to(gaps) + " ;");
                default -> rest.add("join " + to(cloth) + " " + to(gaps) + ";");
            }
        }
        if (chance(60)) {
            rest.add(to(rest.size()), "law : " + truthText(2) + ";");
        }
        if (chance(60)) {
            head.add(to(head.size()), "chair " + to(chance(70) ? 2 : 9) + " " + to(chance(50) ? 3 : 99) + " "
                + (1 + to(chance(50) ? 3 : 98)) + ";");
        }
        if (chance(50)) {
            rest.add(to(rest.size()), "pleat " + (2 + to(4)) + ";");
        }
        if (chance(60)) {
            rest.add(to(rest.size()), "slip " + to(9) + " " + to(chance(50) ? 20 : 999) + ";");
        }
        return String.join(chance(50) ? "" : " ", head) + String.join(chance(50) ? "" : "\n", rest);
    }

    private String spoiled(String text) {
        StringBuilder b = new StringBuilder(text);
        String[] bits = {"not ", "[", "]", "(", ")", ";", ":", " 1", "0", "100", "999", "1000", " hook ", " ring ",
            " rail ", " cloth 1", "law : ", "mark", ",", "\t", "=", "<", "+", " and ", " or ", "join 0 0;", "broken 1;",
            "A", "not not not not not not not", "((((((("};
        for (int i = to(2); i >= 0 && b.length() > 0; i--) {
            int place = to(b.length() - 1);
            switch (to(3)) {
                case 0 -> b.deleteCharAt(place);
                case 1 -> b.setCharAt(place, b.charAt(to(b.length() - 1)));
                default -> b.insert(place, bits[to(bits.length - 1)]);
            }
        }
        return b.toString();
    }

    private void feedText(String text) {
        StringBuilder b = new StringBuilder(text);
        while (b.length() % 20 != 0) {
            b.append(' ');
        }
        for (int i = 0; i < b.length(); i += 20) {
            Object[] ints = new Object[5];
            for (int k = 0; k < 5; k++) {
                int x = 0;
                for (int j = 0; j < 4; j++) {
                    x = x << 8 | b.charAt(i + 4 * k + j) & 255;
                }
                ints[k] = x;
            }
            ask("feed", ints);
        }
    }

    private void tellWindow() {
        String text = windowText();
        if (chance(35)) {
            text = spoiled(text);
        }
        if (text.length() > 900 - 20 || theirs.count(10) != 0) {
            ask("window", 0);
            return;
        }
        feedText(text);
        ask("window", chance(97) ? text.length() : to(text.length() + 30) - 5);
        ask("fault", 0);
        ask("fault", 1);
    }

    private int near(int most) {
        if (chance(94)) {
            return to(most);
        }
        int[] far = {Integer.MIN_VALUE, Integer.MAX_VALUE, Integer.MIN_VALUE + 10, draw.nextInt()};
        return chance(80) ? draw.nextInt(most + 20) - 10 : far[to(3)];
    }

    private int hookNumber() {
        return near(Math.max(0, theirs.count(0) - 1));
    }

    private int ringNumber() {
        return near(Math.max(0, theirs.count(1) - 1));
    }

    /** Numbers that a call about a TRAY can use, one sort of use at a time. */
    private void fillTray() {
        int tray = to(3);
        int gaps = Math.max(0, theirs.count(1) - 1);
        int use = to(3);
        if (use == 1 && isLong()) {
            use = 0;
        }
        int n = use == 0 ? 1 + to(6) : use == 1 ? gaps : use == 2 ? 1 + to(chance(80) ? 4 : 7) : to(21);
        if (ask("numbers", tray, chance(80) ? 2 + to(1) : to(1), n) != 0) {
            return;
        }
        if (use == 1 && chance(60)) {
            ask("copy", tray);
        }
        int from = to(Math.max(0, theirs.count(1) - 1));
        for (int i = 0; i < n; i++) {
            long v = switch (use) {
                case 0 -> chance(50) ? 200 + hookNumber() : chance(95) ? 12 * hookNumber() + ringNumber() : to(300);
                case 1 -> chance(70) ? -1 : chance(50) ? -2 : chance(95) ? to(12) : -3;
                case 2 -> chance(90) ? (from + i) % Math.max(1, theirs.count(1)) : ringNumber();
                default -> chance(50) ? to(5) : chance(98) ? to(999) : draw.nextLong();
            };
            if (use != 1 || chance(50)) {
                ask("write", tray, i, v);
            }
        }
        ask("write", tray, n, 1L);
        switch (use) {
            case 0 -> {
                for (int what = 0; what < 4; what++) {
                    ask("judge", tray, what);
                }
                ask("perform", tray);
            }
            case 1 -> {
                ask("seen", tray);
                ask("sure", tray, hookNumber());
            }
            case 2 -> {
                for (int what = 9; what < 19; what++) {
                    ask("rounds", tray, what == 9 ? 0 : what);
                }
            }
            default -> {
                for (int what = 0; what < 3; what++) {
                    ask("looks", tray, what);
                }
            }
        }
    }

    /** Whether Model can list all JOININGS of this window in good time. */
    private boolean isLong() {
        long all = 0;
        for (int n = 0; n <= 12; n++) {
            all += ours.joinings(n);
        }
        return all > 30000;
    }

    private void anyCall() {
        String name = NAMES[to(NAMES.length - 1)];
        if (LISTING.contains(name) && isLong()) {
            return;
        }
        switch (name) {
            case "hook" -> ask(name, hookNumber(), near(4));
            case "ring" -> ask(name, ringNumber(), near(3));
            case "belongs", "why", "join" -> ask(name, hookNumber(), ringNumber());
            case "sags", "pleats" -> ask(name, near(name.equals("sags") ? 4 : 1));
            case "unhook" -> ask(name, hookNumber());
            case "undo" -> ask(name, near(3));
            case "judge", "looks" -> ask(name, near(3), near(3));
            case "perform", "copy", "seen" -> ask(name, near(3));
            case "day" -> ask(name, draw.nextInt(), chance(90) ? 1 + to(9) : near(61));
            case "undoing" -> {
                int set = 0;
                for (int h = 0; h < theirs.count(0); h++) {
                    set |= theirs.hook(h, 0) >= 0 && chance(60) ? 1 << h : 0;
                }
                ask(name, chance(90) ? set : set | 1 << to(31));
            }
            case "joinings" -> ask(name, near(chance(70) ? 6 : 12));
            case "full", "spread", "bestLook" -> ask(name);
            case "mended", "evenest" -> ask(name, chance(40) ? near(1) : 10 + hookNumber());
            case "fullAt" -> ask(name, near(chance(70) ? 9 : 200), hookNumber());
            case "rounds" -> ask(name, near(3), chance(40) ? 0 : 10 + near(7));
            case "average" -> ask(name, near(12), near(1));
            case "oneOut" -> ask(name, hookNumber() + (chance(50) ? 1 : 0), chance(90) ? 2 * to(1) - 1 : near(2));
            case "out" -> ask(name, chance(90) ? 2 * to(1) - 1 : near(2), near(1));
            case "sure" -> ask(name, near(3), hookNumber());
            case "numbers" -> ask(name, near(3), near(3), near(40));
            case "write" -> ask(name, near(3), near(39), chance(50) ? draw.nextLong() : (long) to(300));
            case "image", "restore" -> ask(name, near(1));
            case "feed" -> {
                if (chance(10)) {
                    ask(name, draw.nextInt(), draw.nextInt(), draw.nextInt(), draw.nextInt(), draw.nextInt());
                }
            }
            case "window" -> {
                if (chance(20)) {
                    tellWindow();
                }
            }
            case "fault" -> ask(name, near(2));
            default -> ask("count", near(12));
        }
    }

    private void askAll() {
        for (int what = 0; what < 12; what++) {
            ask("count", what);
        }
        for (int h = 0; h < theirs.count(0); h++) {
            ask("hook", h, 0);
        }
    }

    private void run() {
        for (int tries = 0; tries < 6 && theirs.count(0) == 0; tries++) {
            tellWindow();
        }
        for (int i = 0; i < 120 && calls.size() < 420 && !astray; i++) {
            if (chance(8)) {
                fillTray();
            } else {
                anyCall();
            }
        }
        askAll();
    }

    private static void gather(Class<?> of, TreeMap<String, Method> into) {
        for (Method m : of.getDeclaredMethods()) {
            if (Arrays.asList(NAMES).contains(m.getName())) {
                m.setAccessible(true);
                into.put(m.getName(), m);
            }
        }
    }

    public static void main(String[] args) {
        int runs = args.length > 0 ? Integer.parseInt(args[0]) : RUNS;
        long first = args.length > 1 ? Long.parseLong(args[1]) : 1;
        gather(HookOver.class, OURS);
        gather(Model.class, THEIRS);
        for (int i = 0; i < runs && wrong < 3; i++) {
            new ModelTest(first + i).run();
        }
        System.out.println("answered without a code: " + GOOD);
        for (String name : NAMES) {
            if (!GOOD.containsKey(name)) {
                wrong++;
                System.out.println(name + " was never answered but by a code");
            }
        }
        System.out.println(wrong == 0 ? "all answers are as due" : wrong + " runs went astray");
        if (wrong != 0) {
            System.exit(1);
        }
    }
}
