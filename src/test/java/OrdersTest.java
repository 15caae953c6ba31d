/** Promises 8 to 11: the tape, ORDERS and their FAULTS, and what the NAMES and signs mean. */
public final class OrdersTest {
    private static final Checks CHECKS = new Checks();
    private static final int NONE = StageCoaches.NONE;

    private static void due(String call, long got, long want) {
        CHECKS.due(call, got, want);
    }

    public static void main(String[] args) {
        tape();
        bytesInOrder();
        emptied();
        goodTexts();
        tokenFaults();
        placeFaults();
        nameFaults();
        limits();
        nesting();
        arithmetic();
        names();
        firstLineThatHolds();
        CHECKS.finish();
    }

    private static void good(String text, int lines) {
        StageCoaches x = new StageCoaches();
        due("orders of [" + text + "]", Checks.order(x, text), lines);
        due("fault(0) of [" + text + "]", x.fault(0), 0);
        due("fault(1) of [" + text + "]", x.fault(1), NONE);
        due("lines of [" + text + "]", x.about(4), lines);
        due("TAPE behind [" + text + "]", x.about(7), 0);
    }

    private static void bad(String text, int fault, int place) {
        StageCoaches x = new StageCoaches();
        Checks.order(x, "when 1 do wait;");
        due("orders of [" + text + "]", Checks.order(x, text), NONE);
        due("fault(0) of [" + text + "]", x.fault(0), fault);
        due("fault(1) of [" + text + "]", x.fault(1), place);
        due("lines stay at [" + text + "]", x.about(4), 1);
        due("TAPE behind [" + text + "]", x.about(7), 0);
    }

    private static void tape() {
        StageCoaches x = new StageCoaches();
        for (int bytes = 20; bytes <= 800; bytes += 20) {
            due("feed", x.feed(0, 0, 0, 0, 0), bytes);
        }
        due("feed on a full tape", x.feed(0, 0, 0, 0, 0), NONE);
        due("end(801)", x.end(801), NONE);
        due("end(-1)", x.end(-1), NONE);
        due("end(800)", x.end(800), 800);
        due("end(781)", x.end(781), 781);
        due("feed at 781", x.feed(0, 0, 0, 0, 0), NONE);
        due("bytes", x.about(7), 781);
        due("end(780)", x.end(780), 780);
        due("feed at 780", x.feed(0, 0, 0, 0, 0), 800);
        due("end(0)", x.end(0), 0);
        due("end(1)", x.end(1), NONE);
        due("bytes", x.about(7), 0);
    }

    private static void bytesInOrder() {
        StageCoaches x = new StageCoaches();
        x.feed(0x7768656e, 0x20312064, 0x6f20676f, 0x3b202020, 0x20200a20);
        due("when 1 do go;", x.orders(), 1);
        x.feed(0x7768656e, 0x20312064, 0x6f20676f, 0x3b202020, 0x202020ff);
        due("byte 255", x.orders(), NONE);
        due("fault(0)", x.fault(0), 1);
        due("fault(1)", x.fault(1), 19);
        due("fault(2)", x.fault(2), NONE);
        due("fault(-1)", x.fault(-1), NONE);
    }

    private static void emptied() {
        StageCoaches x = new StageCoaches();
        Checks.order(x, "when 1 do go; when 2 do wait;");
        due("orders() of nothing", x.orders(), 0);
        due("lines", x.about(4), 0);
    }

    private static void goodTexts() {
        good("", 0);
        good(" \n ", 0);
        good("when 1 do go;", 1);
        good("when(1)do go;when(late)do wait;", 2);
        good("when1=1 do go;", 1);
        good("when\nlate\n>\n5\ndo\nchange\n;\n", 1);
        good("when not not 1=2 and not(3)or 4<5+6-7 do wait;", 1);
        good("when late+load+mud+miles+mail+night+fresh+tired+inn+waited do go;", 1);
        good("when late=5 do go;", 1);
        good("when 999999 do go;", 1);
        good("when (1<2)<3 do go;", 1);
        good("when ((1)) + (not 1) do go;", 1);
    }

    private static void tokenFaults() {
        bad("$", 1, 0);
        bad("  $", 1, 2);
        bad("\t", 1, 0);
        bad("\r", 1, 0);
        bad("\u0000", 1, 0);
        bad("When 1 do go;", 1, 0);
        bad("when 1 do go;\u00e9", 1, 13);
        bad("when 1234567 do go;", 1, 5);
        bad("when 1a do go;", 1, 5);
        bad("when 1do go;", 1, 5);
        bad("when late+12x do go;", 1, 10);
        bad("when latelate9 do go;", 3, 5);
        bad("when latelatel do go;", 1, 5);
        bad("abcdefghi", 1, 0);
        bad("when zz do go;", 3, 5);
        bad("when `{ do go;", 1, 5);
        bad("when { do go;", 1, 5);
        bad("when / do go;", 1, 5);
        bad("when : do go;", 1, 5);
        bad("abcdefgh", 2, 0);
        bad("when 1 do go;1a", 1, 13);
        bad("when late > * do go;", 1, 12);
        bad("when 0000000 do go;", 1, 5);
        // The text ends behind a fault that comes first.
        bad("when when $", 2, 5);
    }

    private static void placeFaults() {
        bad("do", 2, 0);
        bad(";", 2, 0);
        bad("late", 2, 0);
        bad("when", 2, 4);
        bad("when   ", 2, 7);
        bad("when do go;", 2, 5);
        bad("when 1", 2, 6);
        bad("when 1 do", 2, 9);
        bad("when 1 do go", 2, 12);
        bad("when 1 do go\n", 2, 13);
        bad("when 1 go;", 2, 7);
        bad("when 1 do late;", 2, 10);
        bad("when 1 do nothing;", 2, 10);
        bad("when 1 do not;", 2, 10);
        bad("when 1 do go go;", 2, 13);
        bad("when 1 do go;;", 2, 13);
        bad("when 1 do go; go", 2, 14);
        bad("when 1 2 do go;", 2, 7);
        bad("when 1 late do go;", 2, 7);
        bad("when 1 foo do go;", 2, 7);
        bad("when 1<2<3 do go;", 2, 8);
        bad("when 1=2>3 do go;", 2, 8);
        bad("when 1+ do go;", 2, 8);
        bad("when +1 do go;", 2, 5);
        bad("when -1 do go;", 2, 5);
        bad("when 1+not 2 do go;", 2, 7);
        bad("when 1<not 2 do go;", 2, 7);
        bad("when 1 or or 2 do go;", 2, 10);
        bad("when 1 and do go;", 2, 11);
        bad("when 1 not 2 do go;", 2, 7);
        bad("when () do go;", 2, 6);
        bad("when (1 do go;", 2, 8);
        bad("when 1) do go;", 2, 6);
        bad("when (1)) do go;", 2, 8);
        bad("when (1;", 2, 7);
        bad("when wait do go;", 2, 5);
        bad("when 1(2) do go;", 2, 6);
        bad("when (1)2 do go;", 2, 8);
    }

    private static void nameFaults() {
        bad("when foo do go;", 3, 5);
        bad("when coach do go;", 3, 5);
        bad("when lat do go;", 3, 5);
        bad("when lates do go;", 3, 5);
        bad("when late + x $", 3, 12);
        bad("when not (x) do go;", 3, 10);
        bad("when a", 3, 5);
        bad("when e do go;", 3, 5);
    }

    private static String times(String text, int n) {
        return text.repeat(n);
    }

    private static void limits() {
        good(times("when 1 do go;", 10), 10);
        bad(times("when 1 do go;", 11), 2, 130);
        bad(times("when 1 do go;", 10) + " when", 2, 131);
        bad(times("when 1 do go;", 10) + "$", 1, 130);
        // 100 NUMBERS and NAMES, in all lines together.
        good("when 1" + times("+1", 99) + " do go;", 1);
        good("when 1" + times("+inn", 49) + " do go;when 1" + times(" or 1", 49) + " do go;", 2);
        String full = "when 1" + times("+inn", 99);
        bad(full + "+1 do go;", 2, full.length() + 1);
        bad(full + "+inn do go;", 2, full.length() + 1);
        bad(full + "+foo do go;", 2, full.length() + 1);
        bad(full + "+12345678 do go;", 1, full.length() + 1);
        bad(full + "+( 1) do go;", 2, full.length() + 3);
        bad(full + " do go;when 1 do go;", 2, full.length() + 12);
        bad("when foo", 3, 5);
        String many = "when 1" + times("=1 or 1", 49) + " = 1 do go;";
        good(many, 1);
        // 800 bytes: full of blanks up to the end.
        good("when 1 do go;" + times(" ", 787), 1);
        bad("when 1 do go;" + times("\n", 786) + "x", 2, 799);
        bad("when 1 do go" + times("\n", 788), 2, 800);
        // Many nots: every one of 100 with as many as fit.
        good("when not not not not not not not 1" + times(" or not 1", 80) + " do go;", 1);
        good("when 1" + times("\nand not not not not not not not 1", 22) + " do go;", 1);
        good("when " + times("(", 7) + "1" + times(")", 7) + times("+(1)", 90) + " do go;", 1);
    }

    private static void nesting() {
        for (int deep = 0; deep <= 7; deep++) {
            good("when " + times("(", deep) + "1" + times(")", deep) + " do go;", 1);
            good("when " + times("not ", deep) + "1 do go;", 1);
            good("when " + times("not ", deep) + times("(", 7 - deep) + "1" + times(")", 7 - deep) + " do go;", 1);
        }
        bad("when ((((((((1)))))))) do go;", 2, 13);
        bad("when (((((((( 1)))))))) do go;", 2, 14);
        bad("when ((((((((((1)))))))) do go;", 2, 13);
        bad("when not not not not not not not not 1 do go;", 2, 37);
        bad("when not not not not not not not not not 1 do go;", 2, 37);
        bad("when not not not not not not not not foo do go;", 2, 37);
        bad("when not not not not not not not not $ do go;", 1, 37);
        bad("when not not not not not not not not", 2, 36);
        bad("when not not not not (((( 1 do go;", 2, 26);
        bad("when ((((not not not not 1 do go;", 2, 25);
        bad("when not not not not not not not (1) do go;", 2, 34);
        bad("when not not not not not not not 1=(1) do go;", 2, 36);
        bad("when not not not not not not not 1+(1) do go;", 2, 36);
        good("when not not not not not not not 1 or (1) do go;", 1);
        good("when not not not not not not not 1 and not not not not not not not 1 do go;", 1);
        good("when (((((((1))))))) + (((((((2))))))) do go;", 1);
        bad("when (((((((1))))))) + ((((((((2))))))) do go;", 2, 31);
        bad("when (((((((not 1))))))) do go;", 2, 16);
    }

    /** Whether a coach HELD at INN 1 of a fixed road goes by a text "when e do go; when 1 do wait;". */
    private static boolean holds(String e) {
        StageCoaches x = atTheInn(1);
        Checks.order(x, "when " + e + " do go;when 1 do wait;");
        x.run(1);
        return x.where(0, 0) == 1;
    }

    /**
     * A coach that came to INN 1 at minute 45 (TOLD 43) and has waited 2 minutes there, clock 47. Next STAGE:
     * 4 miles, mud 6. Its own team has 487 left; the best at the inn has 324 once it has rested in minute 47.
     */
    private static StageCoaches atTheInn(int kind) {
        StageCoaches x = new StageCoaches();
        x.first(6, 2, 0);
        x.stage(4, 1, 0);
        x.mud(1, 6);
        x.team(0, 600);
        x.team(1, 276);
        x.team(1, 200);
        x.coach(kind, 25, 0, 2, 3);
        Checks.order(x, "when 1 do wait;");
        x.run(kind == 1 ? 47 : 53);
        return x;
    }

    private static void arithmetic() {
        String[] yes = {
            "1", "2", "1-2", "not 0", "not not 5", "1<2", "2>1", "3=3", "1 and 2", "0 or 3", "1+2=3", "3-2-1=0",
            "3-(2-1)=2", "not 1=2", "not 0 and 1", "1 or 0 and 0", "(5 and 7)=1", "(0 or 9)=1", "(not 7)=0",
            "(not 0)+1=2", "(2)+1=3", "((1<2)+(2<3))=2", "0-1<0", "1=1 and 2=2", "not (1 and 0)", "(3)",
            "1<2 or 0", "(1=1)=(2=2)", "(4 or 0)+(5 and 6)=2", "not 5+5=11", "000005=5", "(2>1)=1",
            "(3=3)=1", "(1<2)=1", "(0<1)-1=0", "10-0=10", "0-5<0-4"};
        String[] no = {
            "0", "1-1", "not 1", "not 0-1", "2<1", "1<1", "1>2", "1>1", "3=4", "1 and 0", "0 and 1", "0 or 0",
            "not 1=1", "not not 0", "(1 or 0) and 0", "0 and 1 or 0", "(1<2)-(2<3)", "3-2-1", "(5 and 7)=7"};
        for (String e : yes) {
            CHECKS.due(e, holds(e), true);
        }
        for (String e : no) {
            CHECKS.due(e, holds(e), false);
        }
    }

    private static void names() {
        StageCoaches x = atTheInn(1);
        due("HELD", x.where(0, 0), 2);
        due("told", x.told(0, 1), 43);
        due("waited", x.where(0, 5), 2);
        String[] yes = {
            "late=4", "load=25", "mud=6", "miles=4", "mail=1", "night=0", "fresh=324", "inn=1", "waited=2",
            "tired=487"};
        for (String e : yes) {
            CHECKS.due(e, holds(e), true);
        }
        StageCoaches y = atTheInn(2);
        Checks.order(y, "when mail do wait;when night=1 do go;");
        y.run(20);
        due("night goes", y.where(0, 0), 1);
        StageCoaches z = atTheInn(0);
        Checks.order(z, "when mail or night do wait;when 1 do go;");
        z.run(1);
        due("coach is neither", z.where(0, 0), 1);
        freshWithout();
        lateAhead();
    }

    private static void freshWithout() {
        StageCoaches x = new StageCoaches();
        x.stage(1, 0, 0);
        x.team(0, 500);
        x.coach(0, 0, 0, 2, 0);
        Checks.order(x, "when fresh=0-1 do wait;");
        x.run(10);
        due("no TEAM at the INN", x.where(0, 0), 2);
        x.team(1, 0);
        x.run(1);
        due("a TEAM at the INN, weaker: go", x.where(0, 0), 1);
        due("its TEAM", x.where(0, 2), 0);
    }

    /** With no change at two inns a coach comes 2 minutes ahead. */
    private static void lateAhead() {
        StageCoaches x = new StageCoaches();
        x.stage(1, 0, 0);
        x.stage(1, 0, 0);
        x.team(0, 1000);
        x.coach(0, 0, 0, 3, 0);
        Checks.order(x, "when inn=2 and late=0-2 do wait;when 1 do go;");
        x.run(15);
        due("HELD at INN 2", x.where(0, 0), 2);
        due("LATE", x.where(0, 3), -2);
        x.run(1);
        due("one later: goes", x.where(0, 0), 1);
    }

    private static void firstLineThatHolds() {
        StageCoaches x = atTheInn(0);
        Checks.order(x, "when 0 do go;when 1 do wait;when 1 do go;");
        x.run(1);
        due("the first that holds", x.where(0, 0), 2);
        Checks.order(x, "when 1 do $");
        x.run(1);
        due("ORDERS stay", x.where(0, 0), 2);
        Checks.order(x, "when 0 do wait;");
        x.run(1);
        due("no line holds, own is stronger: go", x.where(0, 0), 1);
    }
}
