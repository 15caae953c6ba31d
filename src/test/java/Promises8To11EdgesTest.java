/** The boundary cases of promises 8 to 11: feed, end, orders, fault. */
public final class Promises8To11EdgesTest extends Edges {
    private static final String GO = "when 1 do go;";

    public static void main(String[] args) throws Exception {
        new Promises8To11EdgesTest().runAll();
    }

    /** A TAPE with a line and blanks, of so many bytes. */
    private static Story tape(int bytes) {
        return Story.busy().and(x -> x.end(0), x -> Story.typed(x, (GO + " ".repeat(800)).substring(0, bytes)));
    }

    private void faultIs(StageCoaches x, int fault, int place) {
        due("fault(0)", x.fault(0), fault);
        due("fault(1)", x.fault(1), place);
    }

    // ---- promise 8 ----

    @Says("Twenty bytes come behind those on the TAPE, the highest of each first: how many there are")
    void promise8FeedPutsTheHighestByteFirst() {
        StageCoaches x = new StageCoaches();
        due("feed", x.feed(0x7768656e, 0x206c6174, 0x653e3120, 0x646f2067, 0x6f3b0a20), 20);
        due("when late>1 do go;", x.orders(), 1);
        x.feed(0x20202020, 0x20202020, 0x20202020, 0x20202020, 0x20202020);
        x.feed(0x20202020, 0x20202020, 0x2020ff20, 0x20202020, 0x20202020);
        due("the 31st byte is 255", x.orders(), NONE);
        faultIs(x, 1, 30);
    }

    @Says("Twenty bytes come behind those on the TAPE, the highest of each first: how many there are")
    void promise8FeedTellsEachPlaceApart() {
        for (int place = 0; place < 20; place++) {
            int[] words = new int[5];
            for (int i = 0; i < 20; i++) {
                words[i / 4] = words[i / 4] << 8 | (i == place ? 0x80 : ' ');
            }
            StageCoaches x = new StageCoaches();
            due("feed", x.feed(words[0], words[1], words[2], words[3], words[4]), 20);
            due("orders", x.orders(), NONE);
            faultIs(x, 1, place);
        }
    }

    @Says("NONE, and nothing comes, if there would be more than 800.")
    void promise8FeedFillsTheTapeUpTo800() {
        StageCoaches x = new StageCoaches();
        for (int bytes = 20; bytes <= 800; bytes += 20) {
            due("feed", x.feed(0, 0, 0, 0, 0), bytes);
        }
        due("bytes", x.about(7), 800);
    }

    @Says("NONE, and nothing comes, if there would be more than 800.")
    void promise8FeedRefusesMoreThan800() {
        due("feed at 780", tape(780).tell().feed(0, 0, 0, 0, 0), 800);
        for (int bytes : new int[] {781, 790, 799, 800}) {
            refuses(tape(bytes), "feed at " + bytes, NONE, x -> x.feed(0, 0, 0, 0, 0));
        }
    }

    @Says("NONE, and nothing comes, if there would be more than 800.")
    void promise8FeedThatIsRefusedLeavesNoByteBehind() {
        StageCoaches x = tape(790).tell();
        due("feed", x.feed(-1, -1, -1, -1, -1), NONE);
        due("end(790)", x.end(790), 790);
        due("end(791)", x.end(791), NONE);
        due("the line alone", x.orders(), 1);
    }

    // ---- promise 9 ----

    @Says("The TAPE has its first n bytes: n; NONE, doing nothing, if it has not so many, or n is below 0.")
    void promise9EndRefusesMoreThanThereAre() {
        ranges(new Story(), "end on an empty TAPE", 0, 0, NONE, (x, n) -> x.end(n));
        ranges(Story.busy(), "end on 48 bytes", 0, 48, NONE, (x, n) -> x.end(n));
        ranges(tape(800), "end on 800 bytes", 0, 800, NONE, (x, n) -> x.end(n));
    }

    @Says("The TAPE has its first n bytes: n")
    void promise9EndKeepsTheFirstBytes() {
        StageCoaches x = new StageCoaches();
        Checks.type(x, GO + "when 2 do wait;$");
        due("end(29)", x.end(29), 29);
        due("end(28)", x.end(28), 28);
        due("bytes", x.about(7), 28);
        due("what was cut is gone", x.end(29), NONE);
        due("two lines", x.orders(), 2);
    }

    @Says("The TAPE has its first n bytes: n")
    void promise9EndCutsWithinATokenToo() {
        StageCoaches x = new StageCoaches();
        Checks.type(x, "when 1a do go;");
        x.end(6);
        due("a letter behind the digit is gone", x.orders(), NONE);
        faultIs(x, 2, 6);
        Checks.type(x, GO + "when 1 do wait;");
        x.end(17);
        due("a line that breaks off", x.orders(), NONE);
        faultIs(x, 2, 17);
    }

    @Says("The TAPE has its first n bytes: n")
    void promise9EndLetsTheNextBytesComeBehind() {
        StageCoaches x = new StageCoaches();
        Checks.type(x, GO + "$$$$$$$");
        due("end(13)", x.end(13), 13);
        Checks.type(x, "when 2 do wait;$");
        due("bytes", x.about(7), 29);
        due("orders", x.orders(), NONE);
        faultIs(x, 1, 28);
    }

    @Says("The TAPE has its first n bytes: n")
    void promise9EndOfNothingAndOfAll() {
        StageCoaches x = new StageCoaches();
        Checks.type(x, GO);
        due("end of all", x.end(13), 13);
        due("end(0)", x.end(0), 0);
        due("bytes", x.about(7), 0);
        due("end(0) again", x.end(0), 0);
        due("end(1)", x.end(1), NONE);
    }

    // ---- promise 10 ----

    @Says("The TAPE (empty then) is ORDERS: how many lines")
    void promise10OrdersOfAnEmptyTapeAreNoLines() {
        StageCoaches x = new StageCoaches();
        due("orders() at first", x.orders(), 0);
        due("two lines", Checks.order(x, GO + GO), 2);
        due("lines", x.about(4), 2);
        due("orders() again", x.orders(), 0);
        due("lines", x.about(4), 0);
        faultIs(x, 0, NONE);
    }

    @Says("The TAPE (empty then) is ORDERS: how many lines")
    void promise10OrdersEmptyTheTape() {
        StageCoaches x = new StageCoaches();
        Checks.order(x, GO);
        due("bytes behind good ORDERS", x.about(7), 0);
        Checks.order(x, "$");
        due("bytes behind a FAULT", x.about(7), 0);
        due("feed begins anew", x.feed(0x20202020, 0x20202020, 0x20202020, 0x20202020, 0x20202020), 20);
        due("none of the old bytes", x.orders(), 0);
    }

    @Says("The TAPE (empty then) is ORDERS: how many lines")
    void promise10OrdersOfAFullTape() {
        StageCoaches x = new StageCoaches();
        due("a line and blanks", Checks.order(x, GO + "\n".repeat(787)), 1);
        due("the line at the end", Checks.order(x, " ".repeat(787) + GO), 1);
        due("nothing but blanks", Checks.order(x, " ".repeat(800)), 0);
        String ten = ("when " + "(1)+".repeat(9) + "1 do wait" + " ".repeat(29) + ";").repeat(10);
        due("ten lines with 100 NUMBERS in 800 bytes", ten.length(), 800);
        due("all of them", Checks.order(x, ten), 10);
    }

    @Says("NONE: a FAULT (the ORDERS stay).")
    void promise10OrdersStayAtAFault() {
        Story held = new Story(x -> x.stage(1, 0, 0), x -> x.team(0, 100), x -> x.coach(0, 0, 0, 2, 0),
            x -> Checks.order(x, "when waited < 3 do wait; when 1 do go;"), x -> x.run(8));
        StageCoaches x = held.tell();
        due("a FAULT behind good lines", Checks.order(x, GO + GO + GO + "$"), NONE);
        due("lines", x.about(4), 2);
        x.run(2);
        due("waits", x.where(0, 5), 3);
        due("HELD", x.where(0, 0), 2);
        x.run(1);
        due("goes", x.where(0, 0), 1);
    }

    @Says("The TAPE (empty then) is ORDERS: how many lines")
    void promise10OrdersTakeTheOldOnesPlace() {
        StageCoaches x = new Story(y -> y.stage(1, 0, 0), y -> y.team(0, 100), y -> y.coach(0, 0, 0, 2, 0),
            y -> Checks.order(y, "when 0 do go; when 1 do wait;"), y -> y.run(8)).tell();
        due("HELD", x.where(0, 0), 2);
        due("a line that does not hold", Checks.order(x, "when 0 do wait;"), 1);
        x.run(1);
        due("goes", x.where(0, 0), 1);
    }

    // ---- promise 11 ----

    @Says("Of the latest orders() what 0: its FAULT (0), 1: its place (NONE). NONE for another what.")
    void promise11FaultBeforeAnyOrders() {
        StageCoaches x = new StageCoaches();
        faultIs(x, 0, NONE);
        Checks.type(x, "$");
        faultIs(x, 0, NONE);
    }

    @Says("Of the latest orders() what 0: its FAULT (0), 1: its place (NONE).")
    void promise11FaultIsTheLatest() {
        StageCoaches x = new StageCoaches();
        Checks.order(x, "  $");
        faultIs(x, 1, 2);
        Checks.order(x, "when");
        faultIs(x, 2, 4);
        Checks.order(x, "when x");
        faultIs(x, 3, 5);
        Checks.type(x, GO);
        faultIs(x, 3, 5);
        x.orders();
        faultIs(x, 0, NONE);
        Checks.order(x, "$");
        faultIs(x, 1, 0);
        x.orders();
        faultIs(x, 0, NONE);
    }

    @Says("NONE for another what.")
    void promise11FaultOfAnotherWhat() {
        StageCoaches x = new StageCoaches();
        Checks.order(x, "when x");
        for (int what : new int[] {-1, 2, 3, MIN, MAX}) {
            due("fault(" + what + ")", x.fault(what), NONE);
        }
        faultIs(x, 3, 5);
    }
}
