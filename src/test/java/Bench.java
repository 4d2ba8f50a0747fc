import java.io.IOException;
import java.nio.file.Files;
import java.nio.file.Path;
import java.util.ArrayList;
import java.util.List;

/** What the boundary tests share. Each check stands behind the words of the document that it holds the class to. */
class Bench {
    private static final List<String> SENTENCES = new ArrayList<>();
    private static String sentence = "";
    private static int wrong = 0;
    private static int asked = 0;

    /** The words of the document to which the checks behind this belong. */
    static void says(String words) {
        sentence = words;
        SENTENCES.add(words);
    }

    static void due(String call, long got, long want) {
        asked++;
        if (got != want) {
            wrong++;
            System.out.println("'" + sentence + "': " + call + " answered " + got + ", due is " + want);
        }
    }

    static void fail(String what) {
        wrong++;
        System.out.println("'" + sentence + "': " + what);
    }

    private static int intAt(String text, int i) {
        int x = 0;
        for (int k = i; k < i + 4; k++) {
            x = x << 8 | (k < text.length() ? text.charAt(k) & 255 : 32);
        }
        return x;
    }

    /** A text comes onto THE TAPE, with blanks up to twenty bytes; what the last feed() answered. */
    static int put(HookOver x, String text) {
        int last = 0;
        for (int i = 0; i < text.length(); i += 20) {
            last = x.feed(intAt(text, i), intAt(text, i + 4), intAt(text, i + 8), intAt(text, i + 12),
                intAt(text, i + 16));
        }
        return last;
    }

    static int tell(HookOver x, String text) {
        put(x, text);
        return x.window(text.length());
    }

    static HookOver told(String text) {
        HookOver x = new HookOver();
        int lines = tell(x, text);
        if (lines < 0) {
            fail("not a window: " + text + " (" + lines + " at " + x.fault(1) + ")");
        }
        return x;
    }

    /** A text that must have no FAULT. */
    static void good(String text) {
        HookOver x = new HookOver();
        int lines = tell(x, text);
        due("window of '" + text + "'", Math.min(lines, 0), 0);
        due("fault(0) of '" + text + "'", x.fault(0), 0);
        due("fault(1) of '" + text + "'", x.fault(1), -1);
    }

    /** A text that must have this FAULT, at this place. */
    static void bad(String text, int kind, int place) {
        HookOver x = new HookOver();
        due("window of '" + text + "'", tell(x, text), -30 - kind);
        due("fault(0) of '" + text + "'", x.fault(0), kind);
        due("fault(1) of '" + text + "'", x.fault(1), place);
    }

    /** The same, the place being told by the mark | in the text. */
    static void bad(String marked, int kind) {
        int place = marked.indexOf('|');
        bad(marked.substring(0, place) + marked.substring(place + 1), kind, place);
    }

    static void fill(HookOver x, int tray, int sort, long... values) {
        x.numbers(tray, sort, values.length);
        for (int i = 0; i < values.length; i++) {
            x.write(tray, i, values[i]);
        }
    }

    static String times(String part, int n) {
        return part.repeat(n);
    }

    /** A rail or a cloth with n times the same N. */
    static String row(String head, int n, int each) {
        return head + times(" " + each, n) + ";";
    }

    /** With the document's path as an argument: which of the words quoted here it doesn't have. */
    static void end(String[] args) {
        if (args.length > 0) {
            listStrange(args[0]);
        }
        System.out.println(wrong == 0 ? "all " + asked + " answers of " + SENTENCES.size() + " sentences are as due"
            : wrong + " answers are not as due");
        if (wrong != 0) {
            System.exit(1);
        }
    }

    private static void listStrange(String path) {
        try {
            String document = Files.readString(Path.of(path)).replaceAll("\\s+", " ").replace("`", "");
            for (String words : SENTENCES) {
                if (!document.contains(words)) {
                    System.out.println("not in the document: " + words);
                }
            }
        } catch (IOException e) {
            System.out.println("no document at " + path);
        }
    }
}
