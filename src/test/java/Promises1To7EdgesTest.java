/** The boundary cases of promises 1 to 7: a new object, stage, first, mud, oats, team, coach. */
public final class Promises1To7EdgesTest extends Edges {
    public static void main(String[] args) throws Exception {
        new Promises1To7EdgesTest().runAll();
    }

    private static Story inns(int n) {
        Story story = new Story();
        for (int inn = 2; inn < n; inn++) {
            story = story.and(x -> x.stage(2, 1, 3));
        }
        return story;
    }

    /** One COACH that is DONE: it is still one. */
    private static Story doneCoach() {
        return Story.quiet().and(x -> x.coach(0, 0, 0, 1, 0), x -> x.run(60));
    }

    // ---- promise 1 ----

    @Says("Two INNS, a STAGE of one mile, no CLIMB, no MUD, MASTER 0; no ORDERS.")
    void promise1NewObjectHasTheLeastRoad() {
        StageCoaches x = new StageCoaches();
        row("about", new int[] {0, 2, 0, 0, 0, 0, 0, 0}, x::about);
        row("road(0)", new int[] {1, 0, 0, 0, 0, NONE}, what -> x.road(0, what));
        row("road(1)", new int[] {NONE, NONE, NONE, NONE, 0, NONE}, what -> x.road(1, what));
        row("road(2)", new int[] {NONE, NONE, NONE, NONE, NONE, NONE}, what -> x.road(2, what));
        row("parted(7)", new int[] {7, 0, 0, 0}, master -> x.parted(7, master));
    }

    @Says("Two INNS, a STAGE of one mile, no CLIMB, no MUD, MASTER 0; no ORDERS.")
    void promise1NewObjectIsEmptyOfAllElse() {
        StageCoaches x = new StageCoaches();
        due("team 0", x.horses(0, 0), NONE);
        due("coach 0", x.where(0, 0), NONE);
        due("part", x.part(0, 0), 0);
        due("told", x.told(0, 0), NONE);
        due("free", x.free(0, 0, 0), NONE);
        due("book", x.book(0, 0, 1), NONE);
        due("untell", x.untell(0), false);
        due("behind", x.behind(0, 0, 0), false);
        due("fewest", x.fewest(0), 0);
        due("clear", x.clear(), 0);
        due("end(1)", x.end(1), NONE);
        due("end(0)", x.end(0), 0);
        due("run(1)", x.run(1), 0);
    }

    @Says("no ORDERS.")
    void promise1NoOrdersMeansTheDefault() {
        Story road = new Story(x -> x.stage(1, 0, 0), x -> x.team(0, 100), x -> x.coach(0, 0, 0, 2, 0));
        StageCoaches alone = road.and(x -> x.run(8)).tell();
        due("goes on without a better TEAM", alone.where(0, 0), 1);
        StageCoaches better = road.and(x -> x.team(1, 500), x -> x.run(8)).tell();
        due("changes for a better TEAM", better.where(0, 0), 3);
    }

    @Says("Two INNS, a STAGE of one mile, no CLIMB, no MUD, MASTER 0; no ORDERS.")
    void promise1ObjectsShareNothing() {
        String before = Story.look(new StageCoaches());
        Story.future(Story.busy().tell());
        same("a new object beside another", Story.look(new StageCoaches()), before);
    }

    // ---- promise 2 ----

    @Says("An INN more behind a STAGE (no MUD) from the last one: its number")
    void promise2StageIsLaidFromTheLastInn() {
        StageCoaches x = new Story(y -> y.mud(0, 9), y -> y.oats(1, 5)).tell();
        due("its number", x.stage(20, 9, 3), 2);
        due("the next one's", x.stage(1, 0, 0), 3);
        row("road(0)", new int[] {1, 0, 9, 0, 0}, what -> x.road(0, what));
        row("road(1)", new int[] {20, 9, 0, 3, 5}, what -> x.road(1, what));
        row("road(2)", new int[] {1, 0, 0, 0, 0}, what -> x.road(2, what));
        row("road(3)", new int[] {NONE, NONE, NONE, NONE, 0}, what -> x.road(3, what));
    }

    @Says("NONE, doing nothing, if one can't be")
    void promise2StageRefusesMiles() {
        ranges(Story.quiet(), "stage: miles", 1, 20, NONE, (x, miles) -> x.stage(miles, 0, 0));
    }

    @Says("NONE, doing nothing, if one can't be")
    void promise2StageRefusesClimb() {
        ranges(Story.quiet(), "stage: climb", 0, 9, NONE, (x, climb) -> x.stage(1, climb, 0));
    }

    @Says("NONE, doing nothing, if one can't be")
    void promise2StageRefusesMaster() {
        ranges(Story.quiet(), "stage: master", 0, 3, NONE, (x, master) -> x.stage(1, 0, master));
    }

    @Says("there are 8, or there are COACHES.")
    void promise2StageRefusesANinthInn() {
        due("the eighth INN", inns(7).tell().stage(20, 9, 3), 7);
        refuses(inns(8), "a ninth INN", NONE, x -> x.stage(1, 0, 0));
    }

    @Says("there are 8, or there are COACHES.")
    void promise2StageRefusesWithCoaches() {
        due("with TEAMS, TRIPS and ORDERS alone", Story.quiet().tell().stage(1, 0, 0), 4);
        refuses(Story.quiet().and(x -> x.coach(0, 0, 0, 1, 9)), "stage with a COACH", NONE, x -> x.stage(1, 0, 0));
        refuses(doneCoach(), "stage with a COACH that is DONE", NONE, x -> x.stage(1, 0, 0));
        due("behind a coach that was refused", Story.quiet().and(x -> x.coach(3, 0, 0, 1, 9)).tell().stage(1, 0, 0), 4);
    }

    // ---- promise 3 ----

    @Says("The first STAGE is so (MUD stays): true")
    void promise3FirstKeepsMudAndTheOthers() {
        StageCoaches x = Story.quiet().tell();
        due("first(20, 9, 3)", x.first(20, 9, 3), true);
        row("road(0)", new int[] {20, 9, 4, 3, 50}, what -> x.road(0, what));
        row("road(1)", new int[] {4, 0, 3, 2, 7}, what -> x.road(1, what));
        due("first(1, 0, 0)", x.first(1, 0, 0), true);
        row("road(0)", new int[] {1, 0, 4, 0, 50}, what -> x.road(0, what));
        due("INNS", x.about(1), 4);
    }

    @Says("false, doing nothing, likewise.")
    void promise3FirstRefusesMiles() {
        ranges(Story.quiet(), "first: miles", 1, 20, false, (x, miles) -> x.first(miles, 0, 0));
    }

    @Says("false, doing nothing, likewise.")
    void promise3FirstRefusesClimb() {
        ranges(Story.quiet(), "first: climb", 0, 9, false, (x, climb) -> x.first(1, climb, 0));
    }

    @Says("false, doing nothing, likewise.")
    void promise3FirstRefusesMaster() {
        ranges(Story.quiet(), "first: master", 0, 3, false, (x, master) -> x.first(1, 0, master));
    }

    @Says("false, doing nothing, likewise.")
    void promise3FirstRefusesWithCoaches() {
        refuses(Story.quiet().and(x -> x.coach(0, 0, 2, 1, 9)), "first with a COACH", false, x -> x.first(1, 0, 0));
        refuses(doneCoach(), "first with a COACH that is DONE", false, x -> x.first(1, 0, 0));
    }

    /** No INN comes with it, so that 8 are not too many: so "likewise" is read here. */
    @Says("false, doing nothing, likewise.")
    void promise3FirstStandsWithEightInns() {
        StageCoaches x = inns(8).tell();
        due("first with 8 INNS", x.first(7, 6, 2), true);
        row("road(0)", new int[] {7, 6, 0, 2, 0}, what -> x.road(0, what));
        due("INNS", x.about(1), 8);
    }

    // ---- promise 4 ----

    @Says("The MUD of a STAGE: true; false, doing nothing, if one can't be.")
    void promise4MudRefusesAStageThatIsNot() {
        ranges(new Story(), "mud: stage, of one", 0, 0, false, (x, stage) -> x.mud(stage, 5));
        ranges(Story.busy(), "mud: stage, of three", 0, 2, false, (x, stage) -> x.mud(stage, 5));
        ranges(inns(8), "mud: stage, of seven", 0, 6, false, (x, stage) -> x.mud(stage, 5));
    }

    @Says("The MUD of a STAGE: true; false, doing nothing, if one can't be.")
    void promise4MudRefusesTooLittleAndTooMuch() {
        ranges(Story.busy(), "mud", 0, 9, false, (x, mud) -> x.mud(1, mud));
    }

    @Says("The MUD of a STAGE: true")
    void promise4MudIsPutAndNotAdded() {
        StageCoaches x = Story.busy().tell();
        for (int mud : new int[] {9, 9, 1, 0}) {
            due("mud(1, " + mud + ")", x.mud(1, mud), true);
            due("MUD", x.road(1, 2), mud);
        }
        due("MUD of the STAGE before", x.road(0, 2), 4);
        due("MUD of the STAGE behind", x.road(2, 2), 0);
    }

    // ---- promise 5 ----

    @Says("OATS come to an INN: likewise (also if there would be too many).")
    void promise5OatsRefuseAnInnThatIsNot() {
        ranges(new Story(), "oats: inn, of two", 0, 1, false, (x, inn) -> x.oats(inn, 5));
        ranges(Story.busy(), "oats: inn, of four", 0, 3, false, (x, inn) -> x.oats(inn, 5));
        ranges(inns(8), "oats: inn, of eight", 0, 7, false, (x, inn) -> x.oats(inn, 5));
        refuses(new Story(), "no OATS to no INN", false, x -> x.oats(2, 0));
    }

    @Says("OATS come to an INN: likewise (also if there would be too many).")
    void promise5OatsRefuseAnAmountThatCanNotBe() {
        ranges(new Story(), "oats: amount", 0, 100000, false, (x, amount) -> x.oats(1, amount));
    }

    @Says("(also if there would be too many)")
    void promise5OatsRefuseTooMany() {
        Story some = new Story(x -> x.oats(0, 60000), x -> x.oats(1, 1));
        ranges(some, "oats: amount on 60000", 0, 40000, false, (x, amount) -> x.oats(0, amount));
        ranges(some.and(x -> x.oats(0, 40000)), "oats: amount on 100000", 0, 0, false, (x, more) -> x.oats(0, more));
        StageCoaches x = some.tell();
        x.oats(0, 40000);
        due("full", x.road(0, 4), 100000);
        due("the other INN has its own", x.oats(1, 99999), true);
        due("full too", x.road(1, 4), 100000);
    }

    @Says("(also if there would be too many)")
    void promise5OatsComeAgainWhenEaten() {
        StageCoaches x = new Story(y -> y.oats(0, 100000), y -> y.team(0, 10), y -> y.run(2)).tell();
        due("two are eaten, three too many", x.oats(0, 3), false);
        due("two are not", x.oats(0, 2), true);
        due("OATS", x.road(0, 4), 100000);
    }

    // ---- promise 6 ----

    @Says("A TEAM more, at an INN: its number; NONE, doing nothing, if it can't be, or there are 20.")
    void promise6TeamRefusesAnInnThatIsNot() {
        ranges(new Story(), "team: inn, of two", 0, 1, NONE, (x, inn) -> x.team(inn, 5));
        ranges(Story.busy(), "team: inn, of four", 0, 3, NONE, (x, inn) -> x.team(inn, 5));
        ranges(inns(8), "team: inn, of eight", 0, 7, NONE, (x, inn) -> x.team(inn, 5));
    }

    @Says("A TEAM more, at an INN: its number; NONE, doing nothing, if it can't be, or there are 20.")
    void promise6TeamRefusesStrength() {
        ranges(Story.busy(), "team: strength", 0, 1000, NONE, (x, strength) -> x.team(2, strength));
        StageCoaches x = new StageCoaches();
        due("team(1, 0)", x.team(1, 0), 0);
        due("team(0, 1000)", x.team(0, 1000), 1);
        row("horses(0)", new int[] {0, 1, NONE}, what -> x.horses(0, what));
        row("horses(1)", new int[] {1000, 0, NONE}, what -> x.horses(1, what));
    }

    @Says("or there are 20.")
    void promise6TeamRefusesATwentyFirst() {
        StageCoaches x = new StageCoaches();
        Story twenty = new Story();
        for (int team = 0; team < 20; team++) {
            due("team " + team, x.team(1, 500), team);
            twenty = twenty.and(y -> y.team(1, 500));
        }
        refuses(twenty, "a 21st TEAM", NONE, y -> y.team(0, 0));
        Story away = twenty.and(y -> y.coach(0, 0, 1, 0, 0), y -> y.run(1));
        refuses(away, "a 21st TEAM while one is with a COACH", NONE, y -> y.team(0, 0));
    }

    // ---- promise 7 ----

    @Says("A COACH more: its number; NONE, doing nothing, if it can't be, or there are 8.")
    void promise7CoachRefusesKind() {
        ranges(Story.busy(), "coach: kind", 0, 2, NONE, (x, kind) -> x.coach(kind, 0, 0, 1, 50));
    }

    @Says("A COACH more: its number; NONE, doing nothing, if it can't be, or there are 8.")
    void promise7CoachRefusesLoad() {
        ranges(Story.busy(), "coach: load", 0, 50, NONE, (x, load) -> x.coach(0, load, 0, 1, 50));
    }

    @Says("A COACH more: its number; NONE, doing nothing, if it can't be, or there are 8.")
    void promise7CoachRefusesAnInnThatIsNot() {
        ranges(inns(8), "coach: from, to 3", 0, 7, NONE, (x, from) -> x.coach(0, 0, from, 3, 50));
        ranges(inns(8), "coach: to, from 3", 0, 7, NONE, (x, to) -> x.coach(0, 0, 3, to, 50));
        ranges(Story.busy(), "coach: from, to 1", 0, 3, NONE, (x, from) -> x.coach(0, 0, from, 1, 50));
        ranges(Story.busy(), "coach: to, from 1", 0, 3, NONE, (x, to) -> x.coach(0, 0, 1, to, 50));
        refuses(new Story(), "from and to no INN", NONE, x -> x.coach(0, 0, 2, 3, 0));
    }

    @Says("from an INN to another one")
    void promise7CoachRefusesTheSameInn() {
        for (int inn = 0; inn < 4; inn++) {
            int same = inn;
            refuses(Story.busy(), "from and to " + inn, NONE, x -> x.coach(0, 0, same, same, 50));
        }
        due("to the next", Story.busy().tell().coach(0, 0, 2, 3, 50), 3);
        due("to the one before", Story.busy().tell().coach(0, 0, 3, 2, 50), 3);
    }

    @Says("to START at a minute not before now, 10000000 at most.")
    void promise7CoachRefusesStart() {
        ranges(new Story(), "coach: start at minute 0", 0, 10000000, NONE, (x, start) -> x.coach(0, 0, 0, 1, start));
        ranges(Story.busy(), "coach: start at minute 30", 30, 10000000, NONE, (x, at) -> x.coach(0, 0, 0, 1, at));
    }

    @Says("or there are 8.")
    void promise7CoachRefusesANinth() {
        StageCoaches x = new StageCoaches();
        Story eight = new Story(y -> y.team(0, 100), y -> y.stage(1, 0, 0));
        for (int coach = 0; coach < 8; coach++) {
            due("coach " + coach, x.coach(2, 50, 1, 0, 10000000), coach);
            eight = eight.and(y -> y.coach(0, 0, 0, 1, 0));
        }
        refuses(eight, "a ninth COACH", NONE, y -> y.coach(0, 0, 0, 1, 0));
        refuses(eight.and(y -> y.run(20)), "a ninth COACH when one is DONE", NONE, y -> y.coach(0, 0, 0, 1, 20));
    }
}
