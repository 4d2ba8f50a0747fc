/** The boundaries of THE TAPE, of a text, its LINES, TOKENS and FAULTS (part 1 of the document, promises 1 to 4). */
public final class TextBoundaryTest extends Bench {
    private static final String BOTH = "rail 9 9;cloth 9;";

    private static void sizeOfText() {
        says("THE WINDOW is a TEXT of at most 900 bytes");
        HookOver x = new HookOver();
        String text = "pleat 2;" + times(" ", 884) + "pleat 3;";
        due("length of that text", text.length(), 900);
        due("feeding it", put(x, text), 900);
        due("window(900)", x.window(900), 2);
        due("its last LINE counts", x.count(9), 3);
        String law = "law:1=1" + times(" or 1=1", 127) + ";";
        due("length of a long law", law.length(), 897);
        x = told("rail 9;cloth 9;");
        due("the longest law", tell(x, law), 1);
        String signs = "law:1" + times("*1", 446) + "=1;";
        due("length of a long TERM", signs.length(), 900);
        due("the most TOKENS in a law", tell(x, signs), 1);
        String lines = times("pleat2;", 128);
        due("length of many LINES", lines.length(), 896);
        due("many LINES", tell(x, lines), 128);

        says("(without one: no HOOKS, no RINGS)");
        x = new HookOver();
        due("HOOKS", x.count(0), 0);
        due("RINGS", x.count(1), 0);
        due("HOOK 0", x.hook(0, 0), -2);
        due("RING 0", x.ring(0, 0), -2);
        due("which belong", x.belongs(0, 0), -2);

        says("{ LINE ; }");
        due("no LINE", told("").count(11), 0);
        due("blanks alone", told("  \n ").count(11), 0);
        due("one", told("pleat 2;").count(11), 1);
        bad("pleat 2|", 2);
        bad("|;", 2);
        bad("pleat 2;|;", 2);
        bad("pleat 2 |pleat 3;", 2);
    }

    private static void rows() {
        says("rail N { N } | cloth N { N }");
        bad("rail |;", 2);
        bad("cloth |;", 2);
        bad("rail |", 2);
        bad("cloth |", 2);
        bad("rail 1 |rail 1;", 2);
        bad("cloth 1 |mark;", 2);
        good("rail 1;");
        good("cloth 1;");

        says("rail: GAPS between RINGS, 1 to 99, 11 at most: RINGS are one more, numbered from 0 on");
        bad("rail |0;", 3);
        bad("rail 1 |0;", 3);
        bad("rail |100;", 3);
        bad("rail |999;", 3);
        due("a GAP of 1", told("rail 1;").ring(0, 2), 1);
        due("a GAP of 99", told("rail 99;").ring(0, 2), 99);
        for (int n = 1; n <= 11; n++) {
            HookOver x = told(row("rail", n, n));
            due("RINGS of " + n + " GAPS", x.count(1), n + 1);
            due("the last GAP", x.ring(n - 1, 2), n);
            due("the last RING", x.ring(n, 2), -1);
            due("one behind", x.ring(n + 1, 2), -2);
        }
        bad("rail" + times(" 7", 11) + " |7;", 4);

        says("cloth: between HOOKS, 1 to 99, 11 at most: HOOKS are one more, numbered from 0 on");
        bad("cloth |0;", 3);
        bad("cloth 1 |0;", 3);
        bad("cloth |100;", 3);
        due("cloth of 1", told("cloth 1;").hook(0, 2), 1);
        due("cloth of 99", told("cloth 99;").hook(0, 2), 99);
        for (int n = 1; n <= 11; n++) {
            HookOver x = told(row("cloth", n, n));
            due("HOOKS of " + n + " times cloth", x.count(0), n + 1);
            due("the last cloth", x.hook(n - 1, 2), n);
            due("the last HOOK", x.hook(n, 2), -1);
            due("one behind", x.hook(n + 1, 2), -2);
        }
        bad("cloth" + times(" 99", 11) + " |99;", 4);

        says("each once, both ahead of hook, ring, broken, join");
        bad("rail 1;|rail 1;", 2);
        bad("rail 1;cloth 1;|rail 1;", 2);
        bad("cloth 1;rail 1;|cloth 1;", 2);
        bad("cloth 1;|cloth 1;", 2);
        for (String head : new String[] {"hook 0 mark 1;", "ring 0 mark 1;", "broken 0;", "join 0 0;"}) {
            bad("|" + head, 2);
            bad("rail 1;|" + head, 2);
            bad("cloth 1;|" + head, 2);
            bad("rail 1;|" + head + "cloth 1;", 2);
            bad("cloth 1;|" + head + "rail 1;", 2);
            good("rail 1;cloth 1;" + head);
            good("cloth 1;rail 1;" + head);
        }
        good("pleat 2;slip 0 0;chair 0 0 1;law:1=1;rail 1;pleat 3;cloth 1;");
    }

    private static void settings() {
        says("hook, ring: its MARK, 0 to 99 (0)");
        HookOver x = told(BOTH + "hook 0 mark 99;ring 0 mark 99;hook 1 mark 5;hook 1 mark 0;");
        due("a MARK of 99", x.hook(0, 1), 99);
        due("a MARK of 99", x.ring(0, 1), 99);
        due("told as 0", x.hook(1, 1), 0);
        due("not told", x.ring(1, 1), 0);
        due("not told", told(BOTH).hook(0, 1), 0);
        bad(BOTH + "hook 0 mark |100;", 3);
        bad(BOTH + "ring 0 mark |100;", 3);
        bad(BOTH + "hook |2 mark 1;", 3);
        bad(BOTH + "ring |3 mark 1;", 3);
        good(BOTH + "hook 1 mark 1;ring 2 mark 1;");
        bad(BOTH + "hook 0 mark |;", 2);
        bad(BOTH + "hook 0 |1;", 2);
        bad(BOTH + "hook |mark 1;", 2);
        bad(BOTH + "ring 0 mark 1 |1;", 2);

        says("broken: a RING to which nothing can be joined");
        x = told(BOTH + "broken 2;broken 2;");
        due("told twice it is one", x.count(2), 1);
        due("the last RING", x.ring(2, 3), 1);
        due("the one ahead", x.ring(1, 3), 0);
        due("why", x.why(0, 2), 2);
        bad(BOTH + "broken |3;", 3);
        bad(BOTH + "broken |;", 2);
        bad(BOTH + "broken 1 |2;", 2);
        due("all of them", told("rail 9 9;cloth 9;broken 0;broken 1;broken 2;").count(2), 3);

        says("law: later ones strike");
        x = told("law:1=1;law:1=2;rail 1;cloth 1;");
        due("the first says 1", x.belongs(0, 0), 0);
        x = told("law:1=2;law:1=1;rail 1;cloth 1;");
        due("the first says 0", x.belongs(0, 1), 1);
        x = told("law:1=1 and 1=1 or 1=1;law:1=2;rail 1;cloth 1;");
        due("a longer one leaves nothing to a shorter one", x.belongs(0, 0), 0);
        tell(x, "law:1=2 and 1=2;law:1=1;rail 1;cloth 1;");
        due("nor in the next window", x.belongs(1, 0), 1);

        says("chair: REACH 0 to 9 (1), CLIMB 0 to 99 (5), HOOK 1 to 99 SECONDS (2)");
        x = new HookOver();
        due("REACH not told", x.count(6), 1);
        due("CLIMB not told", x.count(7), 5);
        due("HOOK SECONDS not told", x.count(8), 2);
        x = told("chair 0 0 1;");
        due("the least REACH", x.count(6), 0);
        due("the least CLIMB", x.count(7), 0);
        due("the least HOOK SECONDS", x.count(8), 1);
        x = told("chair 9 99 99;");
        due("the most REACH", x.count(6), 9);
        due("the most CLIMB", x.count(7), 99);
        due("the most HOOK SECONDS", x.count(8), 99);
        bad("chair |10 5 2;", 3);
        bad("chair 1 |100 2;", 3);
        bad("chair 1 5 |100;", 3);
        bad("chair 1 5 |0;", 3);
        bad("chair |;", 2);
        bad("chair 1|;", 2);
        bad("chair 1 1|;", 2);
        bad("chair 1 1 1 |1;", 2);

        says("pleat: 2 to 6 (none)");
        due("none", told("rail 1;").count(9), 0);
        due("2", told("pleat 2;").count(9), 2);
        due("6", told("pleat 6;").count(9), 6);
        bad("pleat |1;", 3);
        bad("pleat |0;", 3);
        bad("pleat |7;", 3);
        bad("pleat |;", 2);
        bad("pleat 2 |2;", 2);

        says("slip: tenths 0 to 9 (0), LOOK 0 to 999 SECONDS (10)");
        due("none told: 2 + 10 for each", told("cloth 1;").average(1, 0), 24);
        due("slip 0 0", told("cloth 1;slip 0 0;").average(1, 0), 4);
        due("slip 9 999", told("cloth 1;slip 9 999;").average(1, 0), 2 * 1001 * 10);
        bad("slip |10 1;", 3);
        bad("slip 9 |1000;", 1);
        bad("slip 9|;", 2);
        bad("slip |;", 2);
        bad("slip 0 0 |0;", 2);

        says("Later ones of chair, pleat, slip strike.");
        x = told("chair 9 99 99;pleat 6;slip 9 999;chair 0 1 2;pleat 2;slip 0 3;cloth 1;");
        due("REACH", x.count(6), 0);
        due("CLIMB", x.count(7), 1);
        due("HOOK SECONDS", x.count(8), 2);
        due("pleat", x.count(9), 2);
        due("slip", x.average(1, 0), 10);
    }

    private static void joinsAtFirst() {
        says("join: a HOOK to a RING at first, if it can be");
        HookOver x = told(BOTH + "join 1 2;join 0 1;");
        due("the last HOOK at the last RING", x.hook(1, 0), 2);
        due("the one ahead of it", x.hook(0, 0), 1);
        bad(BOTH + "join |2 0;", 3);
        bad(BOTH + "join 1 |3;", 3);
        bad(BOTH + "join 0 1;join 0 |2;", 3);
        bad(BOTH + "join 0 1;join 0 |1;", 3);
        bad(BOTH + "join 0 1;join 1 |1;", 3);
        bad(BOTH + "broken 1;join 0 |1;", 3);
        bad(BOTH + "join 0 1;join 1 |0;", 3);
        bad(BOTH + "join 1 1;join 0 |2;", 3);
        bad(BOTH + "join 0 0;join 1 |2;", 3);
        bad("rail 9;cloth 8;join 1 1;join 0 |0;", 3);
        good("rail 9;cloth 9;join 1 1;join 0 0;");
        bad(BOTH + "join 0|;", 2);
        bad(BOTH + "join |;", 2);
        bad(BOTH + "join 0 0 |0;", 2);
        x = told(BOTH + "join 0 2;broken 2;");
        due("broken behind the join: it was told while it could be", x.hook(0, 0), 2);
    }

    private static void within() {
        says("At most six of not [ ( within one another.");
        good("law:" + times("not ", 6) + "1=1;");
        bad("law:" + times("not ", 6) + "|not 1=1;", 4);
        good("law:" + times("[", 6) + "1=1" + times("]", 6) + ";");
        bad("law:" + times("[", 6) + "|[1=1" + times("]", 7) + ";", 4);
        good("law:" + times("(", 6) + "1" + times(")", 6) + "=1;");
        bad("law:" + times("(", 6) + "|(1" + times(")", 7) + "=1;", 4);
        good("law:1=" + times("(", 6) + "1" + times(")", 6) + ";");
        bad("law:1=" + times("(", 6) + "|(1" + times(")", 7) + ";", 4);
        good("law:not[not[((1))=1]];");
        bad("law:not[not[((|(1)))=1]];", 4);
        bad("law:[[[[[not |[1=1]]]]]];", 4);
        bad("law:[[[[[not 1=|(1)]]]]];", 4);
        bad("law:[[[[[not 1+|(1)=1]]]]];", 4);
        good("law:[[[[[not 1=1]]]]];");
        // What is closed, or beside, is not within.
        good("law:" + times("[1=1] and ", 20) + "[1=1];");
        good("law:" + times("(1)+", 20) + "(1)=1;");
        good("law:not not not not not(1)=(1)or not not not not not not 1=1;");
        good("law:[[[[[[1=1]]]]]]and[[[[[[1=1]]]]]];");
        good("law:((((((1))))))*((((((1))))))=((((((1))))));");
        bad("law:[[[[[(((1)))=1]]]]];", 4, 10);

        says("UNIT: not UNIT, [ TRUTH ], or SUM, one of = < >, SUM");
        bad("law:|;", 2);
        bad("law:|", 2);
        bad("law:1|;", 2);
        bad("law:1=|;", 2);
        bad("law:1=1|=1;", 2);
        bad("law:[1=1|;", 2);
        bad("law:[|];", 2);
        bad("law:[1=1]|];", 2);
        bad("law:[1=1]|=1;", 2);
        bad("law:not |;", 2);
        bad("law:(1|=1);", 2);
        bad("law:1=|[1];", 2);
        bad("law:1=|not 1;", 2);
        bad("law |1=1;", 2);

        says("SUM: TERM { + TERM | - TERM }; TERM: ATOM { * ATOM }");
        bad("law:|-1=1;", 2);
        bad("law:1+|=1;", 2);
        bad("law:1*|=1;", 2);
        bad("law:1-|-1=1;", 2);
        bad("law:1 |1=1;", 2);
        bad("law:(|)=1;", 2);
        bad("law:(1|;", 2);
        bad("law:1|)=1;", 2);
        good("law:1*1*1-1*1+1*1=1;");

        says("TRUTH: BOTH { or BOTH }; BOTH: UNIT { and UNIT }");
        bad("law:|or 1=1;", 2);
        bad("law:1=1 or |;", 2);
        bad("law:1=1 and |;", 2);
        bad("law:1=1 or |or 1=1;", 2);
        bad("law:1=1 and |or 1=1;", 2);
        bad("law:1=1 |not 1=1;", 2);

        says("ATOM: N, hook, ring, hm, rm, hooks, rings, ( SUM )");
        good("law:000=hook and ring=hm and rm=hooks and rings=999;");
        bad("law:|mark=1;", 2);
        bad("law:|rail=1;", 2);
        bad("law:|hookss=1;", 2);
        bad("law:|h=1;", 2);
        bad("law:|1000=1;", 1);
    }

    private static void tokens() {
        says("TOKENS, as long as they go on, between them blanks (10, 32)");
        due("no blanks where none are needed", told("rail1 2;cloth3;join0 0;").count(1), 3);
        due("blanks everywhere", told(" \nrail\n\n1 \n2 ; cloth 3 ;\n").count(1), 3);
        bad("|hooks 1 mark 1;", 2);
        bad("|railcloth 1;", 2);
        bad("|lawn:1=1;", 2);
        bad("law:|nothook=1;", 2);
        due("GAPS 1 and 2, not 12", told("rail 1 2;").ring(0, 2), 1);
        due("12, not 1 and 2", told("rail 12;").ring(0, 2), 12);
        for (int b = 0; b < 256; b++) {
            String text = "pleat 2" + (char) b + ";";
            if (b == 10 || b == 32) {
                good(text);
            } else if (b >= '0' && b <= '9') {
                bad(text, 3, 6);
            } else {
                boolean token = b >= 'a' && b <= 'z' || ";:+-*()[]=<>".indexOf(b) >= 0;
                bad(text, token ? 2 : 1, b == ';' ? 8 : 7);
            }
        }

        says("words (small letters), N (1 to 3 digits), the signs ; : + - * ( ) [ ] = < >");
        due("one digit", told("pleat 2;").count(9), 2);
        due("two digits", told("pleat 02;").count(9), 2);
        due("three digits", told("pleat 002;").count(9), 2);
        bad("pleat |0002;", 1);
        due("999", told("cloth 1;slip 0 999;").average(2, 0), 4 + 999);
        good("law:(hook+1)*2-1<3 or[hook>1];");
        bad("|PLEAT 2;", 1);
        bad("pLeat 2;", 2, 0);
        bad("|a;", 2);
        bad("|z;", 2);
        bad("|`;", 1);
        bad("|{;", 1);
        bad("pleat |/;", 1);
        bad("pleat |:;", 2);
    }

    /** A text of which only the first n bytes are read: its FAULT, at this place. */
    private static void endsAt(String text, int n, int place) {
        endsAt(text, n, place, 2);
    }

    private static void endsAt(String text, int n, int place, int kind) {
        HookOver x = new HookOver();
        put(x, text);
        due("the first " + n + " bytes of '" + text + "'", x.window(n), -30 - kind);
        due("the place in them", x.fault(1), place);
    }

    private static void faultKinds() {
        says("FAULTS, the first along the text, of one TOKEN the least kind");
        bad("pleat |7;pleat 2,;", 3);
        bad("pleat 2|,;pleat 7;", 1);
        bad("rail 1;|rail 0 ,;", 2);
        bad("rail" + times(" 1", 11) + " |0;", 3);
        bad("rail" + times(" 1", 11) + " |100;", 3);
        bad("rail" + times(" 1", 11) + " |1000;", 1);
        bad("rail" + times(" 1", 11) + " |1 0 ,", 4);
        bad("rail" + times(" 1", 11) + " |mark;", 2);
        bad("law:[[[[[[|];", 2);
        bad("law:[[[[[[1=|[1=1", 2);
        bad("law:[[[[[[|,", 1);
        bad("|1000;", 1);

        says("1 no TOKEN begins so (4 digits and more: at their first)");
        bad("pleat |1234;", 1);
        bad("pleat |12345678901234567890;", 1);
        bad("pleat 2;|" + (char) 128 + ";", 1);
        bad("pleat 2;|" + (char) 255 + ";", 1);
        bad("pleat 2;|" + (char) 0, 1);

        says("2 it can't stand there (the end: the text's length; rail, cloth for the second time, hook, ring, broken,"
            + " join ahead of one of both: at their first TOKEN)");
        bad("pleat|", 2);
        bad("pleat 2  |", 2);
        bad("pleat 2\n|", 2);
        bad("rail 1;  |rail 1;", 2);
        bad("  |join 0 0;", 2);
        HookOver x = new HookOver();
        put(x, "pleat 2;pleat 3;");
        due("the text ends where n says", x.window(15), -32);
        due("its length", x.fault(1), 15);
        endsAt("pleat 22;", 7, 7);
        endsAt("pleat 2222;", 9, 6, 3);
        endsAt("pleat 2222;", 7, 7);
        endsAt("pleats 2;", 5, 5);
        endsAt("pleat 2;", 4, 0);
        for (String last : new String[] {"rail", "rail 99", "pleat 2 ", "join", "law:1", "law:rings", "chair 1 1 1\n"}) {
            bad(times(" ", 900 - last.length()) + last, 2, 900 - (last.equals("join") ? 4 : 0));
        }
        bad(times(" ", 897) + "rai", 2, 897);
        bad(times(" ", 893) + "pleat 7", 3, 899);
        bad(times(" ", 895) + "1000;", 1, 895);
        bad(times(" ", 899) + ",", 1, 899);

        says("3 an N out of its bounds (a HOOK, a RING that isn't told); the last N of a join that can't be.");
        bad(BOTH + "hook |999 mark 1;", 3);
        bad(BOTH + "join |9 9;", 3);
        bad(BOTH + "join 0 |9;", 3);
        bad(BOTH + "broken 0;join 0 |0,", 3);

        says("4 a 12th GAP, a 12th cloth (at it); a seventh of not [ (.");
        bad("rail" + times(" 1", 11) + " |1;", 4);
        bad("rail" + times(" 1", 11) + " |99", 4);
        bad("cloth" + times(" 1", 11) + " |1;", 4);
        bad("law:not not not[[[|(", 4);
    }

    private static void tape() {
        says("Twenty bytes come behind those on THE TAPE, the highest of each int first: how many it has.");
        HookOver x = new HookOver();
        due("the first feed()", x.feed(0x706c6561, 0x74203220, 0x20202020, 0x20202020, 0x3b202020), 20);
        due("another", x.feed(0x706c6561, 0x7420333b, 0x20202020, 0x20202020, 0x20202020), 40);
        due("both, in their order", x.window(40), 2);
        due("the latter strikes", x.count(9), 3);
        x.feed(0xff203220, 0, 0, 0, 0);
        due("a byte above 127", x.window(1), -31);
        x.feed(0x20202020, 0x20202020, 0x20202020, 0x20202020, 0x20202080);
        due("the lowest of the fifth int", x.window(20), -31);
        due("is the twentieth byte", x.fault(1), 19);

        says("-5: it would have more than 900.");
        x = new HookOver();
        for (int i = 1; i <= 44; i++) {
            x.feed(0x20202020, 0x20202020, 0x20202020, 0x20202020, 0x20202020);
        }
        due("900 is not more", x.feed(0x20202020, 0x20202020, 0x20202020, 0x20202020, 0x20202020), 900);
        due("920 is", x.feed(0, 0, 0, 0, 0), -5);
        due("again", x.feed(-1, -1, -1, -1, -1), -5);
        due("it still has 900", x.count(10), 900);
        due("and those of before", x.window(900), 0);
        due("then it is empty", x.feed(0, 0, 0, 0, 0), 20);
    }

    private static void readWindows() {
        says("The first n bytes of THE TAPE (which is empty then) are THE WINDOW, SECONDS 0, nothing can be UNDONE:"
            + " how many LINES (all stays with a FAULT).");
        HookOver x = told("rail 9 9 9;cloth 9 9;chair 0 3 1;");
        x.join(1, 2);
        due("SECONDS of before", x.count(3), 6);
        put(x, "rail 9;cloth 9;join 0 0;");
        due("n that isn't all", x.window(15), 2);
        due("THE TAPE", x.count(10), 0);
        due("SECONDS", x.count(3), 0);
        due("UNDONE", x.count(5), 0);
        due("the CHAIR", x.count(4), 0);
        due("no join", x.sags(0), 0);
        due("REACH is as if not told", x.count(6), 1);
        // Three windows, for what two of them might share.
        x = told("rail 9 9 9;cloth 9 9;law:1=2;hook 0 mark 9;ring 0 mark 9;broken 0;chair 0 3 1;pleat 3;slip 9 9;");
        fill(x, 0, 0, 12 + 2, 24 + 3);
        due("perform()", x.perform(0), 2);
        fill(x, 0, 0);
        x.numbers(0, 2, 2);
        x.write(0, 0, 202);
        x.write(0, 1, 201);
        due("judge()", x.judge(0, 0), -1);
        for (int time = 1; time <= 2; time++) {
            due("a window without all that", tell(x, "rail 9 9 9;cloth 9 9;"), 2);
            due("MARK of HOOK 0", x.hook(0, 1), 0);
            due("MARK of RING 0", x.ring(0, 1), 0);
            due("RING 0 is whole", x.ring(0, 3), 0);
            due("none is broken", x.count(2), 0);
            due("no law", x.belongs(1, 1), 1);
            due("no slip, 10 for a LOOK", x.average(1, 0), 3 * 12);
            due("no slip", x.average(1, 1), 1);
            due("no pleat", x.pleats(0), -5);
            due("the CHAIR", x.count(4), 0);
            due("SECONDS", x.count(3), 0);
            due("no join", x.sags(0), 0);
            due("no join", x.ring(3, 0), -1);
        }
        due("nothing of THE TAPE", x.window(1), -3);
        due("n = 0", x.window(0), 0);
        due("is a text without LINES", x.count(1), 0);

        says("-3: n is below 0 or above what there is (THE TAPE stays)");
        x = new HookOver();
        due("0 of nothing", x.window(0), 0);
        due("1 of nothing", x.window(1), -3);
        put(x, "pleat 2;");
        due("one too many", x.window(21), -3);
        due("-1", x.window(-1), -3);
        due("the least int", x.window(Integer.MIN_VALUE), -3);
        due("the greatest int", x.window(Integer.MAX_VALUE), -3);
        due("THE TAPE", x.count(10), 20);
        due("all there is", x.window(20), 1);

        says("Of the latest window() that was read, what 0: its FAULT (0), 1: its place (NONE). NONE for others.");
        x = new HookOver();
        due("none was read", x.fault(0), 0);
        due("none was read", x.fault(1), -1);
        tell(x, "pleat 7;");
        due("its FAULT", x.fault(0), 3);
        due("its place", x.fault(1), 6);
        due("what 2", x.fault(2), -1);
        due("what -1", x.fault(-1), -1);
        due("the greatest what", x.fault(Integer.MAX_VALUE), -1);
        due("the least what", x.fault(Integer.MIN_VALUE), -1);
        x.window(1);
        due("one that wasn't read", x.fault(0), 3);
        due("one that wasn't read", x.fault(1), 6);
        x.window(0);
        due("a good one", x.fault(0), 0);
        due("a good one", x.fault(1), -1);
    }

    public static void main(String[] args) {
        sizeOfText();
        rows();
        settings();
        joinsAtFirst();
        within();
        tokens();
        faultKinds();
        tape();
        readWindows();
        end(args);
    }
}
