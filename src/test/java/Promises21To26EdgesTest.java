/** The boundary cases of promises 21 to 26: book, untell, free, parted, about, road. */
public final class Promises21To26EdgesTest extends Edges {
    private static final int[] WRONG = {MIN, -1, MAX};

    public static void main(String[] args) throws Exception {
        new Promises21To26EdgesTest().runAll();
    }

    /** Five INNS, a MAIL from 1 to 3 and a NIGHT from 3 to 1. */
    private static Story mailAndNight() {
        return new Story(x -> x.stage(1, 0, 0), x -> x.stage(1, 0, 0), x -> x.stage(1, 0, 0),
            x -> x.coach(1, 0, 1, 3, 90), x -> x.coach(2, 0, 3, 1, 90));
    }

    private static Story booked(Story story, int times, int coach, int from, int to) {
        Story longer = story;
        for (int i = 0; i < times; i++) {
            longer = longer.and(x -> x.book(coach, from, to));
        }
        return longer;
    }

    // ---- promise 21 ----

    @Says("A BOOKING: its number; NONE, doing nothing, if it can't be, is refused, or there are 100.")
    void promise21BookRefusesACoachThatIsNot() {
        ranges(mailAndNight(), "book: coach, down", 0, 0, NONE, (x, coach) -> x.book(coach, 1, 2));
        ranges(mailAndNight(), "book: coach, up", 1, 1, NONE, (x, coach) -> x.book(coach, 2, 1));
        refuses(new Story(), "book without COACHES", NONE, x -> x.book(0, 0, 1));
    }

    @Says("from an INN of its way to a later one (on it)")
    void promise21BookRefusesAnInnOffItsWay() {
        ranges(mailAndNight(), "book: from, down", 1, 2, NONE, (x, from) -> x.book(0, from, 3));
        ranges(mailAndNight(), "book: to, down", 2, 3, NONE, (x, to) -> x.book(0, 1, to));
        ranges(mailAndNight(), "book: from, up", 2, 3, NONE, (x, from) -> x.book(1, from, 1));
        ranges(mailAndNight(), "book: to, up", 1, 2, NONE, (x, to) -> x.book(1, 3, to));
        refuses(mailAndNight(), "before its way and behind it", NONE, x -> x.book(0, 0, 4));
    }

    @Says("to a later one (on it)")
    void promise21BookRefusesTheSameInnAndAnEarlierOne() {
        for (int inn = 1; inn <= 3; inn++) {
            int same = inn;
            refuses(mailAndNight(), "down, the same INN " + inn, NONE, x -> x.book(0, same, same));
            refuses(mailAndNight(), "up, the same INN " + inn, NONE, x -> x.book(1, same, same));
        }
        refuses(mailAndNight(), "down, an earlier INN", NONE, x -> x.book(0, 3, 2));
        refuses(mailAndNight(), "up, an earlier INN", NONE, x -> x.book(1, 1, 2));
    }

    @Says("A BOOKING for which there is none FREE now on a STAGE of it is refused.")
    void promise21BookRefusesWhenOneStageIsFull() {
        Story full = booked(mailAndNight(), 4, 0, 2, 3);
        due("the fourth", booked(mailAndNight(), 3, 0, 2, 3).tell().book(0, 2, 3), 3);
        refuses(full, "a fifth", NONE, x -> x.book(0, 2, 3));
        refuses(full, "over it, the STAGE before being free", NONE, x -> x.book(0, 1, 3));
        due("the STAGE before alone", full.tell().book(0, 1, 2), 4);
        due("another COACH over it", full.tell().book(1, 3, 2), 4);
        Story up = booked(mailAndNight(), 8, 1, 3, 2);
        refuses(up, "a ninth, up", NONE, x -> x.book(1, 3, 2));
        refuses(up, "over it, up", NONE, x -> x.book(1, 3, 1));
        due("the STAGE behind alone, up", up.tell().book(1, 2, 1), 8);
    }

    @Says("or there are 100.")
    void promise21BookRefusesA101st() {
        Story many = new Story();
        for (int coach = 0; coach < 8; coach++) {
            many = many.and(x -> x.coach(0, 0, 0, 1, 5));
        }
        for (int i = 0; i < 100; i++) {
            int coach = i < 16 ? 0 : 1 + (i - 16) / 12;
            int number = i;
            // Of those of the first COACH each is UNTOLD again: such a BOOKING still is one.
            many = many.and(x -> x.book(coach, 0, 1), x -> coach == 0 && x.untell(number));
        }
        StageCoaches x = many.tell();
        due("BOOKINGS", x.about(6), 100);
        due("FREE on the first", x.free(0, 0, 0), 12);
        due("FREE on the last", x.free(7, 0, 0), 0);
        due("the last BOOKING is there", x.untell(99), true);
        refuses(many, "a 101st BOOKING", NONE, y -> y.book(0, 0, 1));
        refuses(many, "untell of a 101st BOOKING", false, y -> y.untell(100));
    }

    @Says("or there are 100.")
    void promise21BookNumbersThem() {
        StageCoaches x = new StageCoaches();
        for (int coach = 0; coach < 8; coach++) {
            x.coach(0, 0, 0, 1, 5);
        }
        for (int i = 0; i < 96; i++) {
            due("book", x.book(i / 12, 0, 1), i);
        }
        due("all COACHES are full", x.book(7, 0, 1), NONE);
        for (int i = 0; i < 4; i++) {
            x.untell(i);
            due("book again", x.book(0, 0, 1), 96 + i);
        }
        x.untell(4);
        due("a 101st", x.book(0, 0, 1), NONE);
    }

    // ---- promise 22 ----

    @Says("A BOOKING is UNTOLD: true; false if there is none such, or it is so already.")
    void promise22UntellRefusesABookingThatIsNot() {
        ranges(booked(mailAndNight(), 3, 0, 1, 3), "untell", 0, 2, false, (x, booking) -> x.untell(booking));
        refuses(mailAndNight(), "untell without BOOKINGS", false, x -> x.untell(0));
    }

    @Says("or it is so already.")
    void promise22UntellRefusesOneThatIsSoAlready() {
        Story untold = booked(mailAndNight(), 2, 0, 1, 3).and(x -> x.run(3), x -> x.untell(0));
        refuses(untold, "untell again, at once", false, x -> x.untell(0));
        refuses(untold.and(x -> x.run(4)), "untell again, later", false, x -> x.untell(0));
        StageCoaches x = untold.and(y -> y.run(4), y -> y.untell(0)).tell();
        due("FREE as known at 2", x.free(0, 1, 2), 2);
        due("FREE as known at 3: UNTOLD then", x.free(0, 1, 3), 3);
        due("FREE as known at 7", x.free(0, 1, 7), 3);
    }

    @Says("and may be UNTOLD at a later one, or the same.")
    void promise22UntellAtTheSameMinuteOrLater() {
        StageCoaches x = booked(mailAndNight(), 2, 0, 1, 3).tell();
        due("at the same minute", x.untell(0), true);
        due("FREE", x.free(0, 1, 0), 3);
        x.run(1500);
        due("later", x.untell(1), true);
        due("FREE as known before", x.free(0, 1, 1499), 3);
        due("FREE as known now", x.free(0, 1, 1500), 4);
        due("BOOKINGS", x.about(6), 2);
    }

    // ---- promise 23 ----

    @Says("NONE if the STAGE is not on its way, or there is none such.")
    void promise23FreeOfAStageOffItsWay() {
        StageCoaches x = mailAndNight().tell();
        row("MAIL, from 1 to 3", new int[] {NONE, 4, 4, NONE, NONE}, stage -> x.free(0, stage, 0));
        row("NIGHT, from 3 to 1", new int[] {NONE, 8, 8, NONE, NONE}, stage -> x.free(1, stage, 0));
        for (int wrong : WRONG) {
            due("STAGE " + wrong, x.free(0, wrong, 0), NONE);
        }
    }

    @Says("or there is none such.")
    void promise23FreeOfNoCoach() {
        StageCoaches x = mailAndNight().tell();
        for (int wrong : WRONG) {
            due("COACH " + wrong, x.free(wrong, 1, 0), NONE);
        }
        due("COACH 2", x.free(2, 1, 0), NONE);
    }

    @Says("FREE on a STAGE of a COACH, as known at a minute")
    void promise23FreeAsKnownAtTheMinutesAround() {
        StageCoaches x = mailAndNight().and(y -> y.run(5), y -> y.book(0, 1, 2), y -> y.run(5), y -> y.untell(0)).tell();
        int[] minutes = {MIN, -1, 0, 4, 5, 9, 10, 11, MAX};
        int[] want = {4, 4, 4, 4, 3, 3, 4, 4, 4};
        for (int i = 0; i < minutes.length; i++) {
            due("as known at " + minutes[i], x.free(0, 1, minutes[i]), want[i]);
        }
        due("another STAGE", x.free(0, 2, 7), 4);
        due("another COACH", x.free(1, 1, 7), 8);
    }

    @Says("FREE on a STAGE of a COACH, as known at a minute")
    void promise23FreeDownToNone() {
        StageCoaches x = mailAndNight().tell();
        for (int free = 3; free >= 0; free--) {
            x.book(0, 1, 3);
            due("FREE", x.free(0, 2, 0), free);
        }
        x.book(0, 1, 3);
        due("FREE when one is refused", x.free(0, 2, 0), 0);
    }

    // ---- promise 24 ----

    @Says("What a MASTER has of an amount, PARTED; NONE if one can't be.")
    void promise24PartedRefusesAmountAndMaster() {
        ranges(Story.busy(), "parted: amount", 0, 1000000000, NONE, (x, amount) -> x.parted(amount, 0));
        ranges(Story.busy(), "parted: master", 0, 3, NONE, (x, master) -> x.parted(1000, master));
    }

    @Says("What a MASTER has of an amount, PARTED")
    void promise24PartedOfNothingAndOfTheMost() {
        // MILES 3, 5, 4, 0 of 12.
        StageCoaches x = Story.busy().tell();
        row("parted(0)", new int[] {0, 0, 0, 0, NONE}, master -> x.parted(0, master));
        row("parted(1)", new int[] {0, 1, 0, 0, NONE}, master -> x.parted(1, master));
        row("parted(1000000000)", new int[] {250000000, 416666667, 333333333, 0, NONE}, who -> x.parted(1000000000, who));
    }

    // ---- promise 25 ----

    @Says("NONE for another what.")
    void promise25AboutOfAnotherWhat() {
        StageCoaches x = Story.busy().tell();
        row("about", new int[] {30, 4, 5, 3, 2, 3, 4, 48, NONE}, x::about);
        for (int wrong : WRONG) {
            due("about(" + wrong + ")", x.about(wrong), NONE);
        }
    }

    @Says("6: BOOKINGS")
    void promise25AboutCountsBookingsThatAreUntold() {
        StageCoaches x = booked(mailAndNight(), 2, 0, 1, 3).and(y -> y.untell(0), y -> y.untell(1)).tell();
        due("BOOKINGS", x.about(6), 2);
    }

    @Says("What 0: THE CLOCK, 1: INNS, 2: TEAMS, 3: COACHES, 4: lines of ORDERS, 5: TRIPS, 6: BOOKINGS, 7: bytes on the TAPE.")
    void promise25AboutWhenAllIsFull() {
        Story full = new Story();
        for (int i = 0; i < 6; i++) {
            full = full.and(x -> x.stage(1, 0, 0));
        }
        for (int i = 0; i < 20; i++) {
            full = full.and(x -> x.team(0, 0));
        }
        for (int i = 0; i < 24; i++) {
            full = full.and(x -> x.trip(6, true, 0));
        }
        for (int i = 0; i < 8; i++) {
            full = full.and(x -> x.coach(0, 0, 0, 7, 10000000));
        }
        for (int i = 0; i < 50; i++) {
            int coach = i % 8;
            full = full.and(x -> x.book(coach, 6, 7), x -> x.book(coach, 0, 1));
        }
        full = full.and(x -> Checks.order(x, "when 1 do go;".repeat(10)), x -> Story.typed(x, " ".repeat(800)));
        StageCoaches x = full.and(y -> y.run(1500)).tell();
        row("about", new int[] {1500, 8, 20, 8, 10, 24, 100, 800, NONE}, x::about);
    }

    // ---- promise 26 ----

    @Says("Of a STAGE what 0: MILES, 1: CLIMB, 2: MUD, 3: MASTER; of an INN 4: OATS. NONE if there is none such.")
    void promise26RoadEndsWithTheLastInn() {
        StageCoaches x = Story.quiet().tell();
        row("road(0)", new int[] {5, 2, 4, 1, 50, NONE}, what -> x.road(0, what));
        row("road(2)", new int[] {3, 1, 0, 0, 0, NONE}, what -> x.road(2, what));
        row("road(3)", new int[] {NONE, NONE, NONE, NONE, 0, NONE}, what -> x.road(3, what));
        row("road(4)", new int[] {NONE, NONE, NONE, NONE, NONE, NONE}, what -> x.road(4, what));
    }

    @Says("NONE if there is none such.")
    void promise26RoadOfNoneSuch() {
        StageCoaches x = Story.quiet().tell();
        for (int wrong : WRONG) {
            due("road(0, " + wrong + ")", x.road(0, wrong), NONE);
            row("road(" + wrong + ")", new int[] {NONE, NONE, NONE, NONE, NONE, NONE}, what -> x.road(wrong, what));
        }
    }

    @Says("NONE if there is none such.")
    void promise26RoadOfEightInns() {
        Story story = new Story();
        for (int i = 0; i < 6; i++) {
            story = story.and(x -> x.stage(20, 9, 3));
        }
        StageCoaches x = story.tell();
        row("road(6)", new int[] {20, 9, 0, 3, 0, NONE}, what -> x.road(6, what));
        row("road(7)", new int[] {NONE, NONE, NONE, NONE, 0, NONE}, what -> x.road(7, what));
        row("road(8)", new int[] {NONE, NONE, NONE, NONE, NONE, NONE}, what -> x.road(8, what));
    }
}
