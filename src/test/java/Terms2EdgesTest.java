/** The boundary cases of part 2 of the Terms: the text of ORDERS, its TOKENS, NAMES, limits and FAULTS. */
public final class Terms2EdgesTest extends Edges {
    private static final String GO = "when 1 do go;";
    private static final String[] KEYWORDS = {"when", "do", "wait", "go", "change", "or", "and", "not"};
    private static final String[] NAMES =
        {"late", "load", "mud", "miles", "mail", "night", "fresh", "tired", "inn", "waited"};

    public static void main(String[] args) throws Exception {
        new Terms2EdgesTest().runAll();
    }

    private void good(String text, int lines) {
        StageCoaches x = new StageCoaches();
        due("[" + text + "]", Checks.order(x, text), lines);
        due("fault(0) of [" + text + "]", x.fault(0), 0);
        due("fault(1) of [" + text + "]", x.fault(1), NONE);
    }

    private void bad(String text, int fault, int place) {
        StageCoaches x = new StageCoaches();
        due("[" + text + "]", Checks.order(x, text), NONE);
        due("fault(0) of [" + text + "]", x.fault(0), fault);
        due("fault(1) of [" + text + "]", x.fault(1), place);
    }

    /** Line by line of a text with one e, which stands behind "when " and before " do go;". */
    private void goodE(String e) {
        good("when " + e + " do go;", 1);
    }

    private void badE(String e, int fault, int placeInE) {
        bad("when " + e + " do go;", fault, 5 + placeInE);
    }

    /**
     * A COACH HELD at INN 1, where it came at minute 9 (TOLD 7) and has waited one minute; its TEAM has 75, and in
     * minute 10 those at the INN have 30 and 20. The next STAGE has 3 miles and MUD 2.
     */
    private static Story held() {
        return new Story(x -> x.stage(3, 1, 0), x -> x.mud(1, 2), x -> x.team(0, 111), x -> x.team(1, 19),
            x -> x.team(1, 9), x -> x.coach(0, 25, 0, 2, 0), x -> Checks.order(x, "when 1 do wait;"), x -> x.run(10));
    }

    /** What the HELD COACH does by a text whose first line has that e: 1 it goes, 2 it stays HELD, NONE a FAULT. */
    private int state(Story held, String e) {
        StageCoaches x = held.tell();
        due("HELD before " + e, x.where(0, 0), 2);
        if (Checks.order(x, "when " + e + " do go; when 1 do wait;") == NONE) {
            return NONE;
        }
        x.run(1);
        return x.where(0, 0);
    }

    private void holds(String e) {
        due(e, state(held(), e), 1);
    }

    private void fails(String e) {
        due(e, state(held(), e), 2);
    }

    private void holdsFor(Story held, String what, String e) {
        due(what + ": " + e, state(held, e), 1);
    }

    // ---- the text and its lines ----

    @Says("ORDERS are a text of at most 800 bytes")
    void terms2TextOfNoneAndOf800Bytes() {
        good("", 0);
        good(GO + " ".repeat(787), 1);
        good(" ".repeat(787) + GO, 1);
        bad(" ".repeat(788) + "when 1 do go", 2, 800);
        bad(" ".repeat(799) + "$", 1, 799);
    }

    @Says("orders = {line}.")
    void terms2NoLineAndManyLines() {
        good(" ", 0);
        good("\n", 0);
        for (int lines = 1; lines <= 10; lines++) {
            good(GO.repeat(lines), lines);
        }
        bad(";", 2, 0);
        bad(GO + ";", 2, 13);
    }

    @Says("line = when e do ( wait | go | change ) ;.")
    void terms2LineBreaksOffAtEachPlace() {
        good("when 1 do wait;when 1 do go;when 1 do change;", 3);
        bad("when", 2, 4);
        bad("when 1", 2, 6);
        bad("when 1 do", 2, 9);
        bad("when 1 do go", 2, 12);
        bad("1 do go;", 2, 0);
        bad("when do go;", 2, 5);
        bad("when 1 go;", 2, 7);
        bad("when 1 do ;", 2, 10);
        bad("when 1 do late;", 2, 10);
        bad("when 1 do 1;", 2, 10);
        bad("when 1 do go wait;", 2, 13);
        bad("when 1 do go when 1 do go;", 2, 13);
    }

    @Says("e = both {or both}.  both = one {and one}.")
    void terms2OrAndAndNeedBothSides() {
        goodE("1 or 2 or 3 and 4 and 5");
        badE("or 1", 2, 0);
        badE("and 1", 2, 0);
        badE("1 or", 2, 5);
        badE("1 and", 2, 6);
        badE("1 or or 2", 2, 5);
        badE("1 and or 2", 2, 6);
        badE("1 or and 2", 2, 5);
    }

    @Says("one = not one | sum [( < | > | = ) sum].")
    void terms2OneHasOneSignAtMost() {
        goodE("1<2");
        goodE("1>2");
        goodE("1=2");
        goodE("not not 1=2");
        goodE("1<2 or 2>3 and 3=4");
        goodE("(1<2)<3");
        badE("1<2<3", 2, 3);
        badE("1=2=3", 2, 3);
        badE("1>2=3", 2, 3);
        badE("<1", 2, 0);
        badE("1<", 2, 3);
        badE("1<=2", 2, 2);
        badE("not", 2, 4);
        badE("1 = not 2", 2, 4);
        badE("not < 2", 2, 4);
    }

    @Says("sum = term {( + | - ) term}.")
    void terms2SumBeginsAndEndsWithATerm() {
        goodE("1+2-3+4");
        badE("+1", 2, 0);
        badE("-1", 2, 0);
        badE("1+", 2, 3);
        badE("1--2", 2, 2);
        badE("1+not 2", 2, 2);
    }

    @Says("term = NUMBER | NAME | ( e ).")
    void terms2BracketsAreAPairAroundAnE() {
        goodE("(1)");
        goodE("(not 1 or 2)+3");
        badE("()", 2, 1);
        badE("(1", 2, 3);
        badE("1)", 2, 1);
        badE("(1))", 2, 3);
        badE("(1)(2)", 2, 3);
        badE("1(2)", 2, 1);
        badE("1 2", 2, 2);
        badE("late late", 2, 5);
        bad("when (1;", 2, 7);
    }

    // ---- TOKENS ----

    @Says("words (a .. z; 8 bytes at most)")
    void terms2WordHasEightBytesAtMost() {
        badE("abcdefgh", 3, 0);
        badE("abcdefghi", 1, 0);
        badE("zzzzzzzz", 3, 0);
        badE("z".repeat(100), 1, 0);
        bad("abcdefgh", 2, 0);
        bad("abcdefghi", 1, 0);
        badE("`", 1, 0);
        badE("{", 1, 0);
        badE("A", 1, 0);
        badE("Z", 1, 0);
        badE("a", 3, 0);
        badE("z", 3, 0);
        badE("lateX", 1, 4);
        badE("late_", 1, 4);
    }

    @Says("NUMBERS (1 to 6 digits)")
    void terms2NumberHasSixDigitsAtMost() {
        goodE("0");
        goodE("9");
        goodE("999999");
        goodE("000000");
        badE("1000000", 1, 0);
        badE("0000000", 1, 0);
        badE("9".repeat(100), 1, 0);
        badE("1/2", 1, 1);
        badE("1:2", 1, 1);
        holds("000007=7");
        holds("999999-999998=1");
    }

    @Says("signs ; < > = + - ( ).")
    void terms2OtherBytesAreNoTokens() {
        for (int sign = 0; sign < 256; sign++) {
            boolean known = sign == ' ' || sign == '\n' || sign >= 'a' && sign <= 'z' || sign >= '0' && sign <= '9'
                || sign < 128 && ";<>=+-()".indexOf(sign) >= 0;
            StageCoaches x = new StageCoaches();
            Checks.order(x, "when late " + (char) sign);
            boolean blank = sign == ' ' || sign == '\n';
            // At the end another FAULT is due: a line breaks off there.
            boolean goesOn = sign < 128 && "<>=+-".indexOf(sign) >= 0;
            due("FAULT of byte " + sign, x.fault(0), known ? 2 : 1);
            due("place of byte " + sign, x.fault(1), blank || goesOn ? 11 : 10);
        }
    }

    @Says("Blanks (32, 10) part them or not")
    void terms2BlanksPartThemOrNot() {
        good("when 1 do go;", 1);
        good("\n when\n\n1  do\ngo\n;\n \n", 1);
        good("when(1)do go;", 1);
        good("when late>1+2 do go;when(late)>(1)do go;", 2);
        good("when1 do go;", 1);
        bad("when 1\tdo go;", 1, 6);
        bad("when 1\rdo go;", 1, 6);
        bad("when 1\u000bdo go;", 1, 6);
        bad("when 1\u00a0do go;", 1, 6);
        bad("wh en 1 do go;", 2, 0);
        bad("when 1 d o go;", 2, 7);
        badE("1 2", 2, 2);
        badE("la te", 3, 0);
    }

    @Says("words, digits as long as can be")
    void terms2WordsAndDigitsAreAsLongAsCanBe() {
        badE("latelate", 3, 0);
        badE("notlate", 3, 0);
        good("when late or1 do go;", 1);
        bad("when late dogo;", 2, 10);
        bad("whenlate do go;", 2, 0);
        bad("whenevers 1 do go;", 1, 0);
        badE("late1", 2, 4);
        badE("inn 12 34", 2, 4);
        holds("123=100+23");
    }

    @Says("no letter directly behind a digit.")
    void terms2NoLetterDirectlyBehindADigit() {
        badE("1a", 1, 0);
        badE("1 a", 2, 2);
        badE("12late", 1, 0);
        badE("999999z", 1, 0);
        badE("1234567z", 1, 0);
        badE("late+1or 2", 1, 5);
        bad("when 1do go;", 1, 5);
        goodE("(1)or 2");
        good("when late+1\ndo go;", 1);
        // Another byte that is no TOKEN stands at its own place.
        badE("1A", 1, 1);
    }

    @Says("when do wait go change or and not are no NAMES.")
    void terms2KeywordsAreNoNames() {
        for (String word : KEYWORDS) {
            bad("when 1+" + word, 2, 7);
            bad("when " + word, 2, word.equals("not") ? 8 : 5);
        }
    }

    // ---- limits ----

    @Says("At most 10 lines")
    void terms2TenLinesAtMost() {
        good(GO.repeat(10), 10);
        bad(GO.repeat(11), 2, 130);
        bad(GO.repeat(10) + "\n\nwhen", 2, 132);
        bad(GO.repeat(10) + "when x", 2, 130);
        good(GO.repeat(10) + " \n", 10);
    }

    @Says("100 NUMBERS and NAMES in all")
    void terms2HundredNumbersAndNamesAtMost() {
        goodE("1" + "+inn".repeat(99));
        badE("1" + "+inn".repeat(99) + "+1", 2, 398);
        badE("1" + "+inn".repeat(99) + "+inn", 2, 398);
        good("when 1" + "+1".repeat(49) + " do go;when inn" + "+inn".repeat(49) + " do go;", 2);
        String full = "when 1" + "+1".repeat(49) + " do go;when inn" + "+inn".repeat(49);
        bad(full + " + 1 do go;", 2, full.length() + 3);
        bad(full + " do go;when 2", 2, full.length() + 12);
        // The hundred are of one text: the next one has its own.
        StageCoaches x = new StageCoaches();
        Checks.order(x, "when 1" + "+1".repeat(99) + " do go;");
        due("again", Checks.order(x, "when 1" + "+1".repeat(99) + " do go;"), 1);
    }

    @Says("an e or a one within 8 others (in ( ), behind not).")
    void terms2AnEWithinSevenAndWithinEight() {
        goodE("(".repeat(7) + "1" + ")".repeat(7));
        badE("(".repeat(8) + "1" + ")".repeat(8), 2, 8);
        badE("(".repeat(8) + " 1" + ")".repeat(8), 2, 9);
        badE("(".repeat(9) + "1" + ")".repeat(9), 2, 8);
        badE("(".repeat(8) + "not 1" + ")".repeat(8), 2, 8);
        badE("(".repeat(8) + ")".repeat(8), 2, 8);
        badE("(".repeat(7) + ")".repeat(7), 2, 7);
        // Closed ones are none around what comes behind.
        goodE("(".repeat(7) + "1" + ")".repeat(7) + "+" + "(".repeat(7) + "1" + ")".repeat(7));
        goodE("(".repeat(6) + "(1)+(2)=(3) and (4) or (5)" + ")".repeat(6));
        badE("(".repeat(6) + "(1)+(2)=((3))" + ")".repeat(6), 2, 16);
    }

    @Says("an e or a one within 8 others (in ( ), behind not).")
    void terms2AOneBehindSevenAndBehindEightNots() {
        goodE("not ".repeat(7) + "1");
        badE("not ".repeat(8) + "1", 2, 32);
        badE("not ".repeat(9) + "1", 2, 32);
        bad("when " + "not ".repeat(8) + "do go;", 2, 37);
        bad("when " + "not ".repeat(7) + "do go;", 2, 33);
        goodE("not ".repeat(7) + "1=1 and " + "not ".repeat(7) + "1 or " + "not ".repeat(7) + "1");
        badE("not ".repeat(7) + "1 or " + "not ".repeat(8) + "1", 2, 65);
        // What stands behind a not up to its end is within it, and what an and or an or joins is not.
        badE("not ".repeat(7) + "(1)", 2, 29);
        badE("not ".repeat(7) + "1+(1)", 2, 31);
        badE("not ".repeat(7) + "1=(1)", 2, 31);
        goodE("not ".repeat(7) + "1 and (1)");
        goodE("not ".repeat(7) + "1 or (1)");
    }

    @Says("an e or a one within 8 others (in ( ), behind not).")
    void terms2BracketsAndNotsTogether() {
        for (int nots = 0; nots <= 8; nots++) {
            String inner = "(".repeat(7 - Math.min(nots, 7)) + "1" + ")".repeat(7 - Math.min(nots, 7));
            String text = "not ".repeat(nots) + inner;
            if (nots <= 7) {
                goodE(text);
                badE("not ".repeat(nots) + "(" + inner + ")", 2, 4 * nots + 8 - nots);
                badE("(" + text + ")", 2, 1 + 4 * nots + 7 - nots);
            } else {
                badE(text, 2, 32);
            }
        }
        goodE("(not (not (not (1))))");
        badE("(not (not (not (not 1))))", 2, 20);
    }

    // ---- NAMES and what they are ----

    @Says("late (how many minutes it is behind TOLD now at this INN, below 0 ahead)")
    void terms2LateBehindAndAhead() {
        holds("late=3");
        fails("late=2");
        StageCoaches x = new Story(y -> y.stage(1, 0, 0), y -> y.stage(1, 0, 0), y -> y.team(0, 1000),
            y -> y.coach(0, 0, 0, 3, 0), y -> Checks.order(y, "when inn=1 do go; when late<0 do wait;"), y -> y.run(15)).tell();
        // At INN 2 at 14, TOLD 16.
        due("LATE", x.where(0, 3), -2);
        due("ahead at 14: HELD", x.where(0, 0), 2);
        x.run(1);
        due("ahead at 15: HELD", x.where(0, 0), 2);
        x.run(1);
        due("not ahead at 16: goes", x.where(0, 0), 1);
    }

    @Says("load, mud, miles (of the next STAGE), mail, night (1 or 0 each)")
    void terms2NamesOfTheCoachAndTheNextStage() {
        holds("load=25");
        holds("mud=2");
        holds("miles=3");
        int[][] mailNight = {{0, 0}, {1, 0}, {0, 1}};
        for (int kind = 0; kind < 3; kind++) {
            int number = kind;
            Story road = new Story(x -> x.stage(1, 0, 0), x -> x.team(0, 1000), x -> x.coach(number, 0, 0, 2, 0),
                x -> Checks.order(x, "when 1 do wait;"), x -> x.run(10));
            holdsFor(road, "mail of " + kind, "mail=" + mailNight[kind][0]);
            holdsFor(road, "night of " + kind, "night=" + mailNight[kind][1]);
        }
    }

    @Says("miles (of the next STAGE)")
    void terms2NextStageUpTheRoad() {
        Story up = new Story(x -> x.first(2, 0, 0), x -> x.mud(0, 5), x -> x.stage(1, 0, 0), x -> x.mud(1, 7),
            x -> x.team(2, 1000), x -> x.coach(0, 0, 2, 0, 0), x -> Checks.order(x, "when 1 do wait;"), x -> x.run(12));
        holdsFor(up, "miles", "miles=2");
        holdsFor(up, "mud", "mud=5");
        holdsFor(up, "inn", "inn=1");
    }

    @Says("fresh (the greatest STRENGTH of a TEAM at the INN; -1 without)")
    void terms2FreshIsTheGreatestOrMinusOne() {
        holds("fresh=30");
        Story without = new Story(x -> x.stage(1, 0, 0), x -> x.team(0, 1000), x -> x.team(2, 1000),
            x -> x.coach(0, 0, 0, 2, 0), x -> Checks.order(x, "when 1 do wait;"), x -> x.run(10));
        holdsFor(without, "without", "fresh=0-1");
        holdsFor(without, "without, below 0", "fresh<0");
        Story weak = without.and(x -> x.team(1, 0));
        holdsFor(weak, "with one of 0, which rests once", "fresh=1");
    }

    @Says("tired (its own TEAM's), inn, waited (how many minutes here already).")
    void terms2TiredInnAndWaited() {
        holds("tired=75");
        holds("inn=1");
        holds("waited=1");
        StageCoaches x = new Story(y -> y.stage(1, 0, 0), y -> y.team(0, 1000), y -> y.coach(0, 0, 0, 2, 0),
            y -> Checks.order(y, "when waited=0 do go; when 1 do wait;"), y -> y.run(8)).tell();
        due("none in the first minute", x.where(0, 0), 1);
        StageCoaches early = new Story(y -> y.stage(1, 0, 0), y -> y.coach(0, 0, 0, 2, 0), y -> y.run(5),
            y -> y.team(0, 1000), y -> Checks.order(y, "when waited=0 do go; when 1 do wait;"), y -> y.run(8)).tell();
        due("those at the first INN are not here", early.where(0, 0), 1);
    }

    /** No text can wrap an int: 100 NUMBERS of six digits stay below a hundred million. */
    @Says("Ints, wrapping")
    void terms2GreatestAndLeastSums() {
        String half = "+999999".repeat(48);
        holds("0" + half + "=0" + half);
        fails("1" + half + "=0" + half);
        holds("1" + half + ">0" + half);
        holds("0" + half + "<1" + half);
        String less = "-999999".repeat(48);
        holds("0" + less + "=0" + less);
        holds("0" + less + "<1" + less);
        holds("0" + less + "<0" + half);
        fails("0" + less + ">0" + half);
        holds("0" + "+999999".repeat(97) + ">0");
        fails("0" + "-999999".repeat(97) + ">0");
        fails("0" + half + less);
    }

    @Says("< > = 1 or 0")
    void terms2SignsGiveOneOrZero() {
        holds("(1<2)=1");
        holds("(2<1)=0");
        holds("(2<2)=0");
        holds("(2>1)=1");
        holds("(1>2)=0");
        holds("(2>2)=0");
        holds("(2=2)=1");
        holds("(2=1)=0");
        holds("0-1<0");
        fails("0-1>0");
    }

    @Says("not 1 of 0, else 0")
    void terms2NotOfZeroAndOfOthers() {
        holds("(not 0)=1");
        holds("(not 1)=0");
        holds("(not 5)=0");
        holds("(not (0-1))=0");
        holds("(not not 5)=1");
        holds("not 1=2");
        fails("not 0+1");
    }

    @Says("and, or 1 or 0 by both sides.")
    void terms2AndOrOfEachPair() {
        holds("(0 and 0)=0");
        holds("(0 and 7)=0");
        holds("(7 and 0)=0");
        holds("(7 and 5)=1");
        holds("(7 and 0-5)=1");
        holds("(0 or 0)=0");
        holds("(0 or 7)=1");
        holds("(7 or 0)=1");
        holds("(7 or 5)=1");
        holds("(0 or 0-7)=1");
        // An and binds closer than an or.
        holds("1 or 0 and 0");
        fails("(1 or 0) and 0");
        holds("0 and 0 or 1");
    }

    // ---- FAULTS ----

    @Says("FAULTS, the first by its place (bytes from 0; the end: the text's length)")
    void terms2FirstFaultByItsPlace() {
        bad("$ when x", 1, 0);
        bad("when x $", 3, 5);
        bad("when do $ x", 2, 5);
        bad("when x do do", 3, 5);
        bad("when 1 do x; $", 2, 10);
        bad(GO + "when $", 1, 18);
        bad("when 1 1234567", 1, 7);
    }

    @Says("the end: the text's length")
    void terms2FaultAtTheEnd() {
        bad("when", 2, 4);
        bad("when ", 2, 5);
        bad("when \n\n\n", 2, 8);
        bad("when (1", 2, 7);
        bad("when 1 do go" + " ".repeat(788), 2, 800);
    }

    @Says("the end: the text's length")
    void terms2TextEndsBeforeWhatWasCut() {
        String[] cut = {"1|a", "1|2", "123456|7", "late|x", "abcdefgh|i", "1|$", "late| do go;"};
        int[] faults = {2, 2, 2, 2, 3, 2, 2};
        int[] places = {6, 6, 11, 9, 5, 6, 9};
        for (int i = 0; i < cut.length; i++) {
            StageCoaches x = new StageCoaches();
            Checks.type(x, "when " + cut[i].replace("|", ""));
            due("end", x.end(5 + cut[i].indexOf('|')), 5 + cut[i].indexOf('|'));
            due(cut[i], x.orders(), NONE);
            due("fault(0) of " + cut[i], x.fault(0), faults[i]);
            due("fault(1) of " + cut[i], x.fault(1), places[i]);
        }
    }

    @Says("at one place the least: 1 no TOKEN")
    void terms2NoTokenGoesBeforeTheOthers() {
        bad("do do", 2, 0);
        bad("$", 1, 0);
        bad("when 1 do $", 1, 10);
        bad("when 1 do abcdefghi", 1, 10);
        bad("when 1 do 1a", 1, 10);
        badE("abcdefghi", 1, 0);
        bad(GO.repeat(10) + "$", 1, 130);
        bad(GO.repeat(10) + "whenwhenx", 1, 130);
        badE("1" + "+1".repeat(99) + "+1234567", 1, 200);
        badE("1" + "+1".repeat(99) + "+abcdefghi", 1, 200);
        badE("(".repeat(8) + "1a", 1, 8);
        badE("not ".repeat(8) + "$", 1, 32);
    }

    @Says("2 one that can't stand there (an 11th line: at its when; a 101st NUMBER or NAME, what is within 8 others: at it)")
    void terms2WrongPlaceGoesBeforeAWrongName() {
        bad("x", 2, 0);
        bad("when 1 x", 2, 7);
        bad("when 1 do x", 2, 10);
        bad("when 1 do go x", 2, 13);
        bad(GO.repeat(10) + "x", 2, 130);
        badE("1" + "+1".repeat(99) + "+x", 2, 200);
        badE("1" + "+1".repeat(98) + "+x", 3, 198);
        badE("(".repeat(8) + "x", 2, 8);
        badE("(".repeat(7) + "x", 3, 7);
        badE("not ".repeat(8) + "x", 2, 32);
        badE("not ".repeat(7) + "x", 3, 28);
    }

    @Says("3 a NAME that there is not.")
    void terms2NameThatThereIsNot() {
        for (String name : NAMES) {
            goodE(name);
            badE(name + "x", 3, 0);
            badE(name.substring(1), 3, 0);
            badE(name.substring(0, name.length() - 1), 3, 0);
        }
        badE("1+x", 3, 2);
        badE("1=x", 3, 2);
        badE("(x", 3, 1);
        badE("not x", 3, 4);
        badE("1 and x", 3, 6);
        badE("1 or x", 3, 5);
    }
}
