/** The boundary cases of promises 17 to 20: trip, clear, behind, fewest. */
public final class Promises17To20EdgesTest extends Edges {
    private static final int[] WRONG = {MIN, -1, MAX};

    public static void main(String[] args) throws Exception {
        new Promises17To20EdgesTest().runAll();
    }

    private static Story trips(int n) {
        Story story = new Story();
        for (int i = 0; i < n; i++) {
            int minute = 10 * i;
            story = story.and(x -> x.trip(0, minute % 20 == 0, minute));
        }
        return story;
    }

    // ---- promise 17 ----

    @Says("A TRIP more: how many there are; NONE, doing nothing, if it can't be (minute 0 .. 10000), or there are 24.")
    void promise17TripRefusesAStageThatIsNot() {
        ranges(new Story(), "trip: stage, of one", 0, 0, NONE, (x, stage) -> x.trip(stage, true, 5));
        ranges(Story.busy(), "trip: stage, of three", 0, 2, NONE, (x, stage) -> x.trip(stage, true, 5));
        ranges(Story.busy(), "trip: stage, up", 0, 2, NONE, (x, stage) -> x.trip(stage, false, 5));
    }

    @Says("(minute 0 .. 10000)")
    void promise17TripRefusesAMinute() {
        ranges(Story.busy(), "trip: minute", 0, 10000, NONE, (x, minute) -> x.trip(0, true, minute));
        ranges(Story.quiet(), "trip: minute, up", 0, 10000, NONE, (x, minute) -> x.trip(0, false, minute));
        due("a minute before now", Story.busy().tell().trip(0, true, 29), 4);
    }

    @Says("or there are 24.")
    void promise17TripRefusesATwentyFifth() {
        StageCoaches x = new StageCoaches();
        for (int i = 1; i <= 24; i++) {
            due("trip", x.trip(0, true, 0), i);
        }
        refuses(trips(24), "a 25th TRIP", NONE, y -> y.trip(0, true, 500));
    }

    // ---- promise 18 ----

    @Says("No TRIPS: how many there were.")
    void promise18ClearOfNone() {
        StageCoaches x = new StageCoaches();
        due("clear()", x.clear(), 0);
        due("TRIPS", x.about(5), 0);
        x.trip(0, true, 0);
        due("clear()", x.clear(), 1);
        due("clear() again", x.clear(), 0);
    }

    @Says("No TRIPS: how many there were.")
    void promise18ClearOfAllMakesRoom() {
        StageCoaches x = trips(24).tell();
        due("clear()", x.clear(), 24);
        due("TRIPS", x.about(5), 0);
        due("fewest", x.fewest(0), 0);
        due("no TRIP is there", x.behind(0, 1, 0), false);
        due("a TRIP more", x.trip(0, true, 100), 1);
        due("the second is none yet", x.behind(0, 1, 0), false);
        for (int i = 2; i <= 24; i++) {
            due("a TRIP more", x.trip(0, true, 100), i);
        }
        due("a 25th", x.trip(0, true, 100), NONE);
    }

    // ---- promise 19 ----

    @Says("Whether TRIP b may come BEHIND TRIP a, with REST (0 .. 10000); false if one is none.")
    void promise19BehindRefusesRest() {
        StageCoaches x = trips(2).tell();
        due("REST 0", x.behind(0, 1, 0), true);
        due("REST 3", x.behind(0, 1, 3), true);
        due("REST 4", x.behind(0, 1, 4), false);
        for (int rest : new int[] {-1, -10000, MIN, 10000, 10001, MAX}) {
            due("REST " + rest, x.behind(0, 1, rest), false);
        }
    }

    @Says("Whether TRIP b may come BEHIND TRIP a, with REST (0 .. 10000)")
    void promise19BehindAtTheGreatestRestThatCanBe() {
        StageCoaches x = new Story(y -> y.trip(0, true, 0), y -> y.trip(0, false, 10000)).tell();
        due("REST 9993", x.behind(0, 1, 9993), true);
        due("REST 9994", x.behind(0, 1, 9994), false);
    }

    @Says("false if one is none.")
    void promise19BehindOfNoTrip() {
        StageCoaches x = trips(2).tell();
        for (int wrong : WRONG) {
            due("a " + wrong, x.behind(wrong, 1, 0), false);
            due("b " + wrong, x.behind(0, wrong, 0), false);
        }
        due("a 2", x.behind(2, 1, 0), false);
        due("b 2", x.behind(0, 2, 0), false);
        StageCoaches full = trips(24).tell();
        due("the last of 24", full.behind(22, 23, 3), true);
        due("b 24", full.behind(23, 24, 0), false);
        due("a 24", full.behind(24, 23, 0), false);
    }

    @Says("Whether TRIP b may come BEHIND TRIP a")
    void promise19BehindItselfOrBackwards() {
        StageCoaches x = trips(2).tell();
        due("behind itself", x.behind(0, 0, 0), false);
        due("the earlier behind the later", x.behind(1, 0, 0), false);
    }

    // ---- promise 20 ----

    @Says("FEWEST, with REST (0 .. 10000); NONE for another.")
    void promise20FewestRefusesRest() {
        ranges(trips(3), "fewest of three TRIPS: rest", 0, 10000, NONE, (x, rest) -> x.fewest(rest));
        ranges(new Story(), "fewest of no TRIPS: rest", 0, 10000, NONE, (x, rest) -> x.fewest(rest));
    }

    @Says("FEWEST, with REST (0 .. 10000)")
    void promise20FewestAtTheEdgesOfRest() {
        StageCoaches x = trips(24).tell();
        due("REST 0", x.fewest(0), 1);
        due("REST 3", x.fewest(3), 1);
        due("REST 4", x.fewest(4), 3);
        due("REST 223", x.fewest(223), 23);
        due("REST 224", x.fewest(224), 24);
        due("REST 10000", x.fewest(10000), 24);
    }

    @Says("FEWEST, with REST (0 .. 10000)")
    void promise20FewestOfNoneAndOfOne() {
        StageCoaches x = new StageCoaches();
        due("none, REST 0", x.fewest(0), 0);
        due("none, REST 10000", x.fewest(10000), 0);
        x.trip(0, false, 10000);
        due("one, REST 0", x.fewest(0), 1);
        due("one, REST 10000", x.fewest(10000), 1);
    }
}
