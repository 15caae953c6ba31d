/** Promises 17 to 23: TRIPS and the fewest teams, BOOKINGS and FREE seats as known at a minute. */
public final class TripsAndSeatsTest {
    private static final Checks CHECKS = new Checks();
    private static final int NONE = StageCoaches.NONE;

    private static void due(String call, long got, long want) {
        CHECKS.due(call, got, want);
    }

    private static void due(String call, boolean got, boolean want) {
        CHECKS.due(call, got, want);
    }

    public static void main(String[] args) {
        tripLimits();
        behind();
        asTheStageIs();
        fewest();
        greedWouldFail();
        bookings();
        bookingLimits();
        refused();
        knownAtAMinute();
        CHECKS.finish();
    }

    private static void tripLimits() {
        StageCoaches x = new StageCoaches();
        due("trip(-1)", x.trip(-1, true, 0), NONE);
        due("trip(1)", x.trip(1, false, 0), NONE);
        due("minute -1", x.trip(0, true, -1), NONE);
        due("minute 10001", x.trip(0, true, 10001), NONE);
        due("clear()", x.clear(), 0);
        for (int i = 1; i <= 24; i++) {
            due("trip " + i, x.trip(0, i % 2 == 0, i == 24 ? 10000 : 0), i);
        }
        due("a 25th trip", x.trip(0, true, 0), NONE);
        due("TRIPS", x.about(5), 24);
        due("clear()", x.clear(), 24);
        due("TRIPS", x.about(5), 0);
        due("trip again", x.trip(0, true, 0), 1);
        due("fewest of one", x.fewest(10000), 1);
        due("a trip of before is none", x.behind(0, 1, 0), false);
        due("a trip of before is none", x.behind(1, 23, 0), false);
        due("fewest(-1)", x.fewest(-1), NONE);
        due("fewest(10001)", x.fewest(10001), NONE);
        x.clear();
        due("fewest of none", x.fewest(0), 0);
        due("fewest of none, wrong rest", x.fewest(-1), NONE);
    }

    private static void behind() {
        StageCoaches x = new StageCoaches();
        x.first(2, 3, 0);
        x.stage(1, 0, 0);
        x.trip(0, true, 0);
        x.trip(1, true, 20);
        x.trip(0, false, 30);
        x.trip(1, false, 27);
        x.trip(0, true, 10000);
        // Trip 0 ends at INN 1 at 20, trip 1 at INN 2 at 27, trip 2 at INN 0 at 50, trip 3 at INN 1 at 34.
        due("at once", x.behind(0, 1, 0), true);
        due("one too much", x.behind(0, 1, 1), false);
        due("ten", x.behind(0, 2, 10), true);
        due("eleven", x.behind(0, 2, 11), false);
        due("another inn", x.behind(0, 3, 0), false);
        due("turning", x.behind(1, 3, 0), true);
        due("before", x.behind(3, 2, 0), false);
        due("back at the first inn", x.behind(2, 4, 9950), true);
        due("not quite", x.behind(2, 4, 9951), false);
        due("itself", x.behind(0, 0, 0), false);
        due("a -1", x.behind(-1, 0, 0), false);
        due("a 5", x.behind(5, 0, 0), false);
        due("b -1", x.behind(0, -1, 0), false);
        due("b 5", x.behind(0, 5, 0), false);
        due("rest -1", x.behind(0, 1, -1), false);
        due("rest 10001", x.behind(0, 4, 10001), false);
        due("rest MIN", x.behind(0, 1, Integer.MIN_VALUE), false);
        due("rest MAX", x.behind(0, 1, Integer.MAX_VALUE), false);
    }

    private static void asTheStageIs() {
        StageCoaches x = new StageCoaches();
        x.trip(0, true, 0);
        x.trip(0, false, 10);
        due("7 minutes", x.behind(0, 1, 3), true);
        due("one team", x.fewest(3), 1);
        x.mud(0, 9);
        due("MUD is nothing to it", x.behind(0, 1, 3), true);
        x.first(1, 1, 0);
        due("9 minutes", x.behind(0, 1, 3), false);
        due("two teams", x.fewest(3), 2);
        due("one team", x.fewest(1), 1);
    }

    private static void fewest() {
        StageCoaches x = new StageCoaches();
        x.stage(1, 0, 0);
        // Each of two teams goes to and fro.
        for (int i = 0; i < 6; i++) {
            x.trip(0, i % 2 == 0, i * 10);
            x.trip(1, i % 2 != 0, i * 10);
        }
        due("two teams", x.fewest(3), 2);
        due("no two together", x.fewest(50), 12);
        x.clear();
        for (int i = 0; i < 24; i++) {
            x.trip(0, true, i);
        }
        due("all one way", x.fewest(0), 24);
        x.clear();
        for (int i = 0; i < 24; i++) {
            x.trip(0, i % 2 == 0, 10000 - i * 7);
        }
        due("a chain told backwards", x.fewest(0), 1);
        due("with rest every third one", x.fewest(1), 3);
    }

    /** The trip asked first could take the only team that another one has; the least number must not. */
    private static void greedWouldFail() {
        StageCoaches x = new StageCoaches();
        x.trip(0, true, 10);
        x.trip(0, true, 0);
        x.trip(0, false, 100);
        x.trip(0, false, 8);
        due("each has one", x.fewest(0), 2);
        StageCoaches y = new StageCoaches();
        y.trip(0, true, 0);
        y.trip(0, true, 10);
        y.trip(0, false, 100);
        y.trip(0, false, 8);
        due("each has one", y.fewest(0), 2);
    }

    private static void bookings() {
        StageCoaches x = new StageCoaches();
        x.stage(1, 0, 0);
        x.stage(1, 0, 0);
        x.coach(1, 0, 0, 2, 0);
        x.coach(2, 0, 3, 1, 0);
        x.coach(0, 0, 0, 3, 0);
        due("MAIL", x.free(0, 0, 0), 4);
        due("NIGHT", x.free(1, 2, 0), 8);
        due("COACH", x.free(2, 2, 0), 12);
        due("not on its way", x.free(0, 2, 0), NONE);
        due("not on its way", x.free(1, 0, 0), NONE);
        due("no STAGE", x.free(2, 3, 0), NONE);
        due("no STAGE", x.free(2, -1, 0), NONE);
        due("no COACH", x.free(3, 0, 0), NONE);
        due("no COACH", x.free(-1, 0, 0), NONE);
        due("book(3)", x.book(3, 0, 1), NONE);
        due("book(-1)", x.book(-1, 0, 1), NONE);
        due("the wrong way", x.book(0, 1, 0), NONE);
        due("the wrong way", x.book(1, 1, 2), NONE);
        due("nowhere", x.book(0, 1, 1), NONE);
        due("off its way", x.book(0, 1, 3), NONE);
        due("off its way", x.book(1, 3, 0), NONE);
        due("off the road", x.book(2, -1, 2), NONE);
        due("off the road", x.book(2, 2, 4), NONE);
        due("BOOKINGS", x.about(6), 0);
        due("book", x.book(0, 0, 2), 0);
        due("book up", x.book(1, 3, 2), 1);
        due("book up", x.book(1, 2, 1), 2);
        due("book up", x.book(1, 3, 1), 3);
        due("free", x.free(0, 0, 0), 3);
        due("free", x.free(0, 1, 0), 3);
        due("free up", x.free(1, 2, 0), 6);
        due("free up", x.free(1, 1, 0), 6);
        due("BOOKINGS", x.about(6), 4);
    }

    private static void bookingLimits() {
        StageCoaches x = new StageCoaches();
        x.coach(0, 0, 0, 1, 0);
        for (int i = 0; i < 100; i++) {
            due("book " + i, x.book(0, 0, 1), i);
            due("untell " + i, x.untell(i), true);
        }
        due("a 101st", x.book(0, 0, 1), NONE);
        due("BOOKINGS", x.about(6), 100);
        due("all free", x.free(0, 0, 0), 12);
        due("untell(100)", x.untell(100), false);
        due("untell(-1)", x.untell(-1), false);
        due("untell again", x.untell(99), false);
    }

    private static void refused() {
        StageCoaches x = new StageCoaches();
        x.stage(1, 0, 0);
        x.stage(1, 0, 0);
        x.coach(1, 0, 0, 3, 0);
        for (int i = 0; i < 4; i++) {
            due("book", x.book(0, 1, 2), i);
        }
        due("none FREE", x.free(0, 1, 0), 0);
        due("refused", x.book(0, 1, 2), NONE);
        due("refused over it", x.book(0, 0, 3), NONE);
        due("refused over it", x.book(0, 0, 2), NONE);
        due("refused over it", x.book(0, 1, 3), NONE);
        due("ahead of it", x.book(0, 0, 1), 4);
        due("behind it", x.book(0, 2, 3), 5);
        due("untell", x.untell(2), true);
        due("a seat again, in the same minute", x.book(0, 0, 3), 6);
        due("full again", x.book(0, 1, 2), NONE);
        due("FREE on 0", x.free(0, 0, 0), 2);
        due("FREE on 2", x.free(0, 2, 0), 2);
    }

    private static void knownAtAMinute() {
        StageCoaches x = new StageCoaches();
        x.coach(1, 0, 0, 1, 50);
        x.run(3);
        x.book(0, 0, 1);
        x.run(4);
        x.book(0, 0, 1);
        x.run(5);
        x.untell(0);
        int[] minutes = {-1, 0, 2, 3, 6, 7, 11, 12, 13, 1000000, Integer.MAX_VALUE, Integer.MIN_VALUE};
        int[] free = {4, 4, 4, 3, 3, 2, 2, 3, 3, 3, 3, 4};
        for (int i = 0; i < minutes.length; i++) {
            due("free as known at " + minutes[i], x.free(0, 0, minutes[i]), free[i]);
        }
        due("untold already", x.untell(0), false);
        x.book(0, 0, 1);
        due("told now", x.free(0, 0, 12), 2);
        x.untell(2);
        due("told and untold at one minute", x.free(0, 0, 12), 3);
    }
}
