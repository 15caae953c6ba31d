import java.util.ArrayList;
import java.util.List;

/**
 * A run of calls that can be made again on a new object. What a call does is seen by two objects of one story, one
 * with the call and one without; so neither needs more than the 512 calls that the document grants.
 */
final class Story {
    /** One call, or a few. */
    interface Call {
        Object on(StageCoaches x);
    }

    /** A call with one number in it that is tried at its bounds. */
    interface CallWith {
        Object on(StageCoaches x, int value);
    }

    private final List<Call> calls = new ArrayList<>();

    Story(Call... first) {
        calls.addAll(List.of(first));
    }

    Story and(Call... more) {
        Story longer = new Story(more);
        longer.calls.addAll(0, calls);
        return longer;
    }

    StageCoaches tell() {
        StageCoaches x = new StageCoaches();
        for (Call call : calls) {
            call.on(x);
        }
        return x;
    }

    /** A road of four INNS with MUD, OATS, TEAMS, ORDERS, TRIPS, other ORDERS on the TAPE, and no COACHES. */
    static Story quiet() {
        return new Story(
            x -> x.first(5, 2, 1), x -> x.stage(4, 0, 2), x -> x.stage(3, 1, 0),
            x -> x.mud(0, 4), x -> x.mud(1, 3), x -> x.oats(0, 50), x -> x.oats(1, 7),
            x -> x.team(0, 200), x -> x.team(0, 90), x -> x.team(1, 300), x -> x.team(3, 250), x -> x.team(1, 10),
            x -> Checks.order(x, "when waited < 2 do wait; when fresh > tired do change;"),
            x -> x.trip(0, true, 0), x -> x.trip(1, true, 39), x -> x.trip(1, false, 90),
            x -> typed(x, "when inn = 1 do change; when waited < 3 do wait;"));
    }

    /** The same with COACHES on their ways and BOOKINGS, at minute 30. */
    static Story busy() {
        return quiet().and(
            x -> x.coach(0, 20, 0, 3, 3), x -> x.coach(1, 5, 3, 0, 0), x -> x.coach(2, 50, 2, 0, 60),
            x -> x.book(0, 0, 2), x -> x.book(0, 1, 3), x -> x.book(1, 3, 1), x -> x.run(30), x -> x.untell(1),
            x -> x.book(0, 1, 2));
    }

    static Object typed(StageCoaches x, String text) {
        Checks.type(x, text);
        return text;
    }

    /** All that an object tells of itself. */
    static String look(StageCoaches x) {
        StringBuilder seen = new StringBuilder();
        row(seen, "about", 8, x::about);
        row(seen, "fault", 2, x::fault);
        int now = x.about(0);
        int inns = x.about(1);
        int teams = x.about(2);
        int coaches = x.about(3);
        for (int k = 0; k < inns; k++) {
            int inn = k;
            row(seen, "road " + k, 5, what -> x.road(inn, what));
        }
        for (int k = 0; k < teams; k++) {
            int team = k;
            row(seen, "horses " + k, 3, what -> x.horses(team, what));
        }
        for (int k = 0; k < coaches; k++) {
            int coach = k;
            row(seen, "where " + k, 6, what -> x.where(coach, what));
            row(seen, "part " + k, 5, part -> x.part(coach, part));
            row(seen, "told " + k, inns, inn -> x.told(coach, inn));
            row(seen, "free " + k, inns - 1, stage -> x.free(coach, stage, now));
        }
        row(seen, "behind", x.about(5), trip -> x.behind(trip, trip + 1, 0) ? 1 : 0);
        row(seen, "fewest", 2, x::fewest);
        row(seen, "parted", 4, master -> x.parted(1000003, master));
        return seen.toString();
    }

    private interface Ask {
        int of(int number);
    }

    private static void row(StringBuilder seen, String what, int numbers, Ask ask) {
        seen.append(what).append(':');
        for (int i = 0; i < numbers; i++) {
            seen.append(' ').append(ask.of(i));
        }
        seen.append('\n');
    }

    /** What becomes of an object: under its ORDERS, and then under those on its TAPE. */
    static String future(StageCoaches x) {
        String answers = x.run(40) + " " + x.orders() + " " + x.run(25) + " " + x.run(150) + "\n";
        return answers + look(x);
    }
}
