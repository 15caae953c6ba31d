/** The boundary cases of parts 4 and 5 of the Terms: TRIPS and FEWEST, SEATS, BOOKINGS and FREE, PARTED. */
public final class Terms4And5EdgesTest extends Edges {
    public static void main(String[] args) throws Exception {
        new Terms4And5EdgesTest().runAll();
    }

    // ---- part 4 ----

    @Says("TRIPS, 24 at most, are of a STAGE, down (to INN k + 1) or up, at a minute")
    void terms4TripsAre24AtMost() {
        StageCoaches x = new StageCoaches();
        for (int i = 0; i < 24; i++) {
            due("trip", x.trip(0, i % 2 == 0, i * 7), i + 1);
        }
        due("a 25th", x.trip(0, true, 0), NONE);
        due("TRIPS", x.about(5), 24);
        due("all in a chain", x.fewest(0), 1);
    }

    @Says("down (to INN k + 1) or up")
    void terms4TripsEndWhereTheNextBegins() {
        StageCoaches x = new Story(y -> y.stage(1, 0, 0), y -> y.stage(1, 0, 0)).tell();
        // Each STAGE down at 0 and up at 0, then each down at 100 and up at 100.
        for (int minute = 0; minute <= 100; minute += 100) {
            for (int stage = 0; stage < 3; stage++) {
                x.trip(stage, true, minute);
                x.trip(stage, false, minute);
            }
        }
        for (int a = 0; a < 6; a++) {
            int ends = a % 2 == 0 ? a / 2 + 1 : a / 2;
            for (int b = 6; b < 12; b++) {
                int begins = b % 2 == 0 ? (b - 6) / 2 : (b - 6) / 2 + 1;
                due("TRIP " + b + " behind TRIP " + a, x.behind(a, b, 0), ends == begins);
                due("TRIP " + a + " behind TRIP " + b, x.behind(b, a, 0), false);
            }
        }
    }

    @Says("each takes MILES * 7 + HILLS of its STAGE (as that is when it is asked).")
    void terms4TripsTakeMilesAndHills() {
        int[][] milesClimbMinutes = {{1, 0, 7}, {1, 9, 25}, {20, 0, 140}, {20, 9, 158}};
        for (int[] one : milesClimbMinutes) {
            Story road = new Story(y -> y.first(one[0], one[1], 0), y -> y.mud(0, 9), y -> y.trip(0, true, 0));
            due("at its end", road.and(y -> y.trip(0, false, one[2])).tell().behind(0, 1, 0), true);
            due("a minute before", road.and(y -> y.trip(0, false, one[2] - 1)).tell().behind(0, 1, 0), false);
            due("one TEAM", road.and(y -> y.trip(0, false, one[2])).tell().fewest(0), 1);
            due("two TEAMS", road.and(y -> y.trip(0, false, one[2] - 1)).tell().fewest(0), 2);
        }
    }

    @Says("(as that is when it is asked)")
    void terms4TripsAreAsTheStageIsWhenAsked() {
        StageCoaches x = new Story(y -> y.trip(0, true, 0), y -> y.trip(0, false, 20)).tell();
        due("one mile", x.behind(0, 1, 13), true);
        x.first(2, 3, 0);
        due("two miles and a CLIMB of 3: just", x.behind(0, 1, 0), true);
        due("one TEAM", x.fewest(0), 1);
        due("no REST left", x.behind(0, 1, 1), false);
        x.first(2, 4, 0);
        due("too long", x.behind(0, 1, 0), false);
        due("two TEAMS", x.fewest(0), 2);
        x.first(1, 0, 0);
        due("short again", x.behind(0, 1, 13), true);
    }

    @Says("at least REST minutes later.")
    void terms4RestIsTheLeast() {
        StageCoaches x = new Story(y -> y.trip(0, true, 100), y -> y.trip(0, false, 110)).tell();
        for (int rest = 0; rest <= 5; rest++) {
            due("REST " + rest, x.behind(0, 1, rest), rest <= 3);
            due("FEWEST with REST " + rest, x.fewest(rest), rest <= 3 ? 1 : 2);
        }
    }

    @Says("FEWEST is the least number of TEAMS for all TRIPS, each TEAM doing some of them, each BEHIND the one before.")
    void terms4FewestOfNoneOneAndAll() {
        StageCoaches x = new StageCoaches();
        due("no TRIPS", x.fewest(0), 0);
        for (int i = 1; i <= 24; i++) {
            x.trip(0, true, 50 * i);
            due("all one way", x.fewest(0), i);
        }
    }

    @Says("FEWEST is the least number of TEAMS for all TRIPS")
    void terms4FewestInAnyOrderOfTheTrips() {
        int[] minutes = {0, 10, 8, 100};
        boolean[] down = {true, true, false, false};
        for (int order = 0; order < 256; order++) {
            int[] at = {order & 3, order >> 2 & 3, order >> 4 & 3, order >> 6 & 3};
            int all = 1 << at[0] | 1 << at[1] | 1 << at[2] | 1 << at[3];
            if (all == 15) {
                StageCoaches x = new StageCoaches();
                for (int i : at) {
                    x.trip(0, down[i], minutes[i]);
                }
                due("order " + order, x.fewest(0), 2);
                due("order " + order + " with REST 2", x.fewest(2), 3);
            }
        }
    }

    @Says("each TEAM doing some of them, each BEHIND the one before.")
    void terms4FewestDoesEachTripOnce() {
        // Two come to INN 1, one goes on from there: it is BEHIND both, and saves one TEAM only.
        StageCoaches x = new Story(y -> y.stage(1, 0, 0), y -> y.trip(0, true, 0), y -> y.trip(0, true, 1),
            y -> y.trip(1, true, 20)).tell();
        due("behind the first", x.behind(0, 2, 0), true);
        due("behind the second", x.behind(1, 2, 0), true);
        due("two TEAMS", x.fewest(0), 2);
        // One comes, two go on.
        StageCoaches z = new Story(y -> y.stage(1, 0, 0), y -> y.trip(0, true, 0), y -> y.trip(1, true, 20),
            y -> y.trip(0, false, 20)).tell();
        due("two TEAMS", z.fewest(0), 2);
        // A TEAM is not led from one INN to another without a TRIP.
        StageCoaches w = new Story(y -> y.stage(1, 0, 0), y -> y.trip(0, true, 0), y -> y.trip(0, true, 500)).tell();
        due("no way back", w.fewest(0), 2);
    }

    // ---- part 5: seats ----

    @Says("SEATS: a COACH has 12, a MAIL 4, a NIGHT 8, on each STAGE of its way.")
    void terms5SeatsByKindOnEachStage() {
        int[] seats = {12, 4, 8};
        for (int kind = 0; kind < 3; kind++) {
            int number = kind;
            StageCoaches x = new Story(y -> y.stage(1, 0, 0), y -> y.stage(1, 0, 0), y -> y.coach(number, 0, 0, 3, 5)).tell();
            row("free at first", new int[] {seats[kind], seats[kind], seats[kind], NONE}, stage -> x.free(0, stage, 0));
            for (int i = 0; i < seats[kind]; i++) {
                due("book", x.book(0, 1, 2), i);
            }
            due("one too many", x.book(0, 1, 2), NONE);
            row("free then", new int[] {seats[number], 0, seats[number], NONE}, stage -> x.free(0, stage, 0));
        }
    }

    @Says("BOOKINGS, 100 at most")
    void terms5BookingsAre100AtMost() {
        StageCoaches x = new Story(y -> y.coach(0, 0, 0, 1, 5)).tell();
        for (int i = 0; i < 100; i++) {
            due("book", x.book(0, 0, 1), i);
            x.untell(i);
        }
        due("a 101st", x.book(0, 0, 1), NONE);
        due("BOOKINGS", x.about(6), 100);
    }

    @Says("from an INN of its way to a later one (on it), TOLD at the minute now")
    void terms5BookingOverItsWholeWay() {
        StageCoaches x = new Story(y -> y.stage(1, 0, 0), y -> y.stage(1, 0, 0), y -> y.coach(1, 0, 0, 3, 50),
            y -> y.coach(1, 0, 3, 0, 50), y -> y.run(9)).tell();
        due("the whole way down", x.book(0, 0, 3), 0);
        due("the whole way up", x.book(1, 3, 0), 1);
        due("the first STAGE up", x.book(1, 3, 2), 2);
        due("the last STAGE up", x.book(1, 1, 0), 3);
        row("down", new int[] {3, 3, 3, NONE}, stage -> x.free(0, stage, 9));
        row("up", new int[] {2, 3, 2, NONE}, stage -> x.free(1, stage, 9));
        row("as known a minute before", new int[] {4, 4, 4, NONE}, stage -> x.free(1, stage, 8));
    }

    @Says("FREE on a STAGE as known at a minute k: SEATS less the BOOKINGS over it TOLD at k or before, and not UNTOLD at k or before.")
    void terms5FreeAtTheMinutesOfTellingAndUntelling() {
        StageCoaches x = new Story(y -> y.coach(1, 0, 0, 1, 50), y -> y.book(0, 0, 1), y -> y.run(1), y -> y.book(0, 0, 1),
            y -> y.run(1), y -> y.untell(0), y -> y.run(1), y -> y.book(0, 0, 1), y -> y.untell(2), y -> y.run(1),
            y -> y.untell(1)).tell();
        due("before all", x.free(0, 0, -1), 4);
        row("as known at", new int[] {3, 2, 3, 3, 4, 4}, minute -> x.free(0, 0, minute));
    }

    @Says("A BOOKING for which there is none FREE now on a STAGE of it is refused.")
    void terms5BookingIsRefusedByWhatIsKnownNow() {
        StageCoaches x = new Story(y -> y.coach(1, 0, 0, 1, 50), y -> y.book(0, 0, 1), y -> y.book(0, 0, 1),
            y -> y.book(0, 0, 1), y -> y.book(0, 0, 1), y -> y.run(5)).tell();
        due("full", x.book(0, 0, 1), NONE);
        due("untold now", x.untell(3), true);
        due("one is FREE now", x.book(0, 0, 1), 4);
        due("full again", x.book(0, 0, 1), NONE);
        due("BOOKINGS", x.about(6), 5);
        row("as known at", new int[] {0, 0, 0, 0, 0, 0}, minute -> x.free(0, 0, minute));
    }

    // ---- part 5: money ----

    private static StageCoaches masters(int... milesOfEach) {
        StageCoaches x = new StageCoaches();
        boolean first = true;
        for (int master = 0; master < milesOfEach.length; master++) {
            int miles = milesOfEach[master];
            if (miles > 0 && first) {
                x.first(miles, 0, master);
                first = false;
            } else if (miles > 0) {
                x.stage(miles, 0, master);
            }
        }
        return x;
    }

    private void parted(StageCoaches x, int amount, int... want) {
        row("parted(" + amount + ")", want, master -> x.parted(amount, master));
        long sum = 0;
        for (int master = 0; master < 4; master++) {
            sum += x.parted(amount, master);
        }
        due("all of " + amount + " is parted", sum, amount);
    }

    @Says("PARTED is an amount (0 .. 1000000000) by MILES")
    void terms5AmountsAtTheirLeastAndMost() {
        StageCoaches x = masters(20, 20, 20, 20);
        due("-1", x.parted(-1, 0), NONE);
        due("1000000001", x.parted(1000000001, 0), NONE);
        parted(x, 0, 0, 0, 0, 0);
        parted(x, 1000000000, 250000000, 250000000, 250000000, 250000000);
        parted(x, 999999999, 250000000, 250000000, 250000000, 249999999);
        parted(masters(0, 0, 0, 20), 1000000000, 0, 0, 0, 1000000000);
    }

    @Says("each MASTER has amount * its MILES / all MILES, cut")
    void terms5SharesOfALongRoadDoNotWrap() {
        StageCoaches x = new StageCoaches();
        x.first(20, 0, 0);
        for (int i = 0; i < 6; i++) {
            x.stage(20, 0, i < 5 ? 0 : 2);
        }
        // MILES 120 and 20 of 140: rests 40 and 100 of 1000000000 * 120 and * 20.
        parted(x, 1000000000, 857142857, 0, 142857143, 0);
        parted(x, 1000000, 857143, 0, 142857, 0);
    }

    @Says("those whose rests (amount * its MILES modulo all MILES) are greatest get one more each, of like ones the least first, until all is parted.")
    void terms5GreatestRestsGetOneMore() {
        // MILES 1, 2, 3, 4 of 10.
        StageCoaches x = masters(1, 2, 3, 4);
        parted(x, 1, 0, 0, 0, 1);
        parted(x, 2, 0, 0, 1, 1);
        parted(x, 3, 0, 1, 1, 1);
        parted(x, 4, 0, 1, 1, 2);
        parted(x, 5, 1, 1, 1, 2);
        parted(x, 6, 1, 1, 2, 2);
        parted(x, 7, 1, 1, 2, 3);
        parted(x, 8, 1, 2, 2, 3);
        parted(x, 9, 1, 2, 3, 3);
        parted(x, 10, 1, 2, 3, 4);
        parted(x, 11, 1, 2, 3, 5);
    }

    @Says("of like ones the least first, until all is parted.")
    void terms5LikeRestsGoByTheLeastFirst() {
        StageCoaches four = masters(1, 1, 1, 1);
        parted(four, 1, 1, 0, 0, 0);
        parted(four, 2, 1, 1, 0, 0);
        parted(four, 3, 1, 1, 1, 0);
        parted(four, 4, 1, 1, 1, 1);
        parted(four, 5, 2, 1, 1, 1);
        StageCoaches without = masters(0, 5, 0, 5);
        parted(without, 1, 0, 1, 0, 0);
        parted(without, 2, 0, 1, 0, 1);
        parted(without, 3, 0, 2, 0, 1);
        StageCoaches twoAndTwo = masters(2, 1, 2, 1);
        parted(twoAndTwo, 1, 1, 0, 0, 0);
        parted(twoAndTwo, 2, 1, 0, 1, 0);
        parted(twoAndTwo, 3, 1, 1, 1, 0);
        parted(twoAndTwo, 4, 1, 1, 1, 1);
    }
}
