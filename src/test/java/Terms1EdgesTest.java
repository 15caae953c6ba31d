/** The boundary cases of part 1 of the Terms: the road, TEAMS, COACHES, what a STAGE takes, TOLD. */
public final class Terms1EdgesTest extends Edges {
    public static void main(String[] args) throws Exception {
        new Terms1EdgesTest().runAll();
    }

    private static Story stage(int miles, int climb, int mud) {
        return new Story(x -> x.first(miles, climb, 0), x -> x.mud(0, mud));
    }

    /** The minutes of a STAGE for a TEAM that has that STRENGTH as it leaves: it gets one stronger just before. */
    private static int minutes(Story stage, int kind, int load, int strength) {
        StageCoaches x = left(stage, kind, load, strength);
        return x.where(0, 4);
    }

    private static StageCoaches left(Story stage, int kind, int load, int strength) {
        int before = strength == 1000 ? 1000 : strength - 1;
        return stage.and(x -> x.team(0, before), x -> x.coach(kind, load, 0, 1, 0), x -> x.run(1)).tell();
    }

    private static Story inns(int n) {
        Story story = new Story();
        for (int inn = 2; inn < n; inn++) {
            story = story.and(x -> x.stage(1, 0, 0));
        }
        return story;
    }

    @Says("`NONE = -1`: There is none.")
    void terms1NoneIsMinusOne() throws ReflectiveOperationException {
        due("NONE", StageCoaches.class.getField("NONE").getInt(null), -1);
        due("NONE as an answer", new StageCoaches().stage(0, 0, 0), -1);
    }

    // ---- how many, and in which ranges ----

    @Says("THE ROAD has INNS 0 .. n - 1 (n 2 .. 8)")
    void terms1InnsAreTwoToEight() {
        due("INNS at first", new StageCoaches().about(1), 2);
        StageCoaches x = inns(8).tell();
        due("INNS at most", x.about(1), 8);
        due("no more", x.stage(1, 0, 0), NONE);
        due("from INN 0 to INN 7", x.coach(0, 0, 0, 7, 0), 0);
        due("from INN 7 to INN 0", x.coach(0, 0, 7, 0, 0), 1);
        due("to INN 8", x.coach(0, 0, 0, 8, 0), NONE);
    }

    @Says("STAGE k lies between INN k and k + 1")
    void terms1StageLiesBetweenItsInns() {
        StageCoaches x = inns(8).and(y -> y.coach(0, 0, 6, 7, 0), y -> y.coach(0, 0, 1, 0, 0)).tell();
        row("free on the last STAGE alone", new int[] {NONE, NONE, NONE, NONE, NONE, NONE, 12, NONE}, k -> x.free(0, k, 0));
        row("free on the first STAGE alone", new int[] {12, NONE, NONE, NONE, NONE, NONE, NONE, NONE}, k -> x.free(1, k, 0));
    }

    @Says("STAGE k lies between INN k and k + 1")
    void terms1StageIsTheSameDownAndUp() {
        Story road = new Story(x -> x.first(1, 1, 0), x -> x.stage(2, 2, 0), x -> x.stage(3, 3, 0), x -> x.mud(0, 4),
            x -> x.mud(1, 6), x -> x.mud(2, 8));
        int[] minutes = {7 + 2 + 1, 14 + 4 + 3, 21 + 6 + 6};
        int[] costs = {12 + 10 + 20, 24 + 20 + 30, 36 + 30 + 40};
        for (int stage = 0; stage < 3; stage++) {
            int k = stage;
            StageCoaches down = road.and(x -> x.team(k, 1000), x -> x.coach(0, 0, k, k + 1, 0), x -> x.run(1)).tell();
            due("down over " + k, down.where(0, 4), minutes[k]);
            due("STRENGTH", down.horses(0, 0), 1000 - costs[k]);
            StageCoaches up = road.and(x -> x.team(k + 1, 1000), x -> x.coach(0, 0, k + 1, k, 0), x -> x.run(1)).tell();
            due("up over " + k, up.where(0, 4), minutes[k]);
            due("STRENGTH", up.horses(0, 0), 1000 - costs[k]);
            up.run(minutes[k]);
            due("at its last INN", up.where(0, 1), k);
            due("MUDS", up.part(0, 0), new int[] {1, 3, 6}[k]);
        }
    }

    @Says("MILES (1 .. 20), CLIMB (0 .. 9), MUD (0 .. 9), and a MASTER (0 .. 3) whose it is.")
    void terms1StageAtItsLeastAndMost() {
        StageCoaches x = new StageCoaches();
        due("the least", x.first(1, 0, 0), true);
        due("no MUD", x.mud(0, 0), true);
        row("road(0)", new int[] {1, 0, 0, 0}, what -> x.road(0, what));
        due("the most", x.first(20, 9, 3), true);
        due("most MUD", x.mud(0, 9), true);
        row("road(0)", new int[] {20, 9, 9, 3}, what -> x.road(0, what));
        due("one too many of each", x.first(21, 0, 0) || x.first(1, 10, 0) || x.first(1, 0, 4) || x.mud(0, 10), false);
        due("one too few of each", x.first(0, 0, 0) || x.first(1, -1, 0) || x.first(1, 0, -1) || x.mud(0, -1), false);
        row("road(0) as before", new int[] {20, 9, 9, 3}, what -> x.road(0, what));
    }

    @Says("An INN has OATS (0 .. 100000).")
    void terms1OatsAreNoneTo100000() {
        StageCoaches x = new StageCoaches();
        due("none at first", x.road(1, 4), 0);
        due("one too many", x.oats(1, 100001), false);
        due("the most", x.oats(1, 100000), true);
        due("OATS", x.road(1, 4), 100000);
        x.team(1, 0);
        x.oats(0, 1);
        x.team(0, 0);
        x.run(3);
        due("not below 0", x.road(0, 4), 0);
        due("three less", x.road(1, 4), 99997);
    }

    @Says("TEAMS, 20 at most, have a STRENGTH (0 .. 1000), and are at an INN or with a COACH.")
    void terms1TeamsAreTwentyAtMost() {
        StageCoaches x = new StageCoaches();
        for (int team = 0; team < 20; team++) {
            due("team", x.team(0, team % 2 * 1000), team);
        }
        due("a 21st", x.team(0, 0), NONE);
        due("TEAMS", x.about(2), 20);
        x.coach(0, 0, 0, 1, 0);
        x.run(1);
        due("at no INN", x.horses(1, 1), NONE);
        due("with the COACH", x.horses(1, 2), 0);
        due("at the INN", x.horses(3, 1), 0);
        due("with no COACH", x.horses(3, 2), NONE);
    }

    @Says("THE CLOCK is at minute 0 at first.")
    void terms1ClockIsAtMinute0AtFirst() {
        StageCoaches x = new StageCoaches();
        due("CLOCK", x.about(0), 0);
        due("a START at 0", x.coach(0, 0, 0, 1, 0), 0);
        due("a START before", x.coach(0, 0, 0, 1, -1), NONE);
    }

    @Says("COACHES, 8 at most: KIND 0 COACH, 1 MAIL, 2 NIGHT, a LOAD (0 .. 50), from an INN to another one, to START at a minute not before now, 10000000 at most.")
    void terms1CoachesAreEightAtMost() {
        StageCoaches x = new StageCoaches();
        for (int coach = 0; coach < 8; coach++) {
            due("coach", x.coach(coach % 3, coach % 2 * 50, coach % 2, 1 - coach % 2, coach % 2 * 10000000), coach);
        }
        due("a ninth", x.coach(0, 0, 0, 1, 0), NONE);
        due("COACHES", x.about(3), 8);
    }

    @Says("to START at a minute not before now, 10000000 at most.")
    void terms1StartIsNotBeforeNow() {
        StageCoaches x = new StageCoaches();
        x.run(1500);
        due("a minute before", x.coach(0, 0, 0, 1, 1499), NONE);
        due("now", x.coach(0, 0, 0, 1, 1500), 0);
        due("the last", x.coach(0, 0, 0, 1, 10000000), 1);
        due("one behind the last", x.coach(0, 0, 0, 1, 10000001), NONE);
        due("COACHES", x.about(3), 2);
    }

    // ---- what a STAGE takes ----

    @Says("BASE ( MILES * 7, of a MAIL * 6, of a NIGHT * 9 )")
    void terms1BaseByKindAtOneAndTwentyMiles() {
        int[] pace = {7, 6, 9};
        for (int kind = 0; kind < 3; kind++) {
            due("one mile", minutes(stage(1, 0, 0), kind, 0, 1000), pace[kind]);
            due("twenty miles", minutes(stage(20, 0, 0), kind, 0, 1000), 20 * pace[kind]);
        }
    }

    @Says("HILLS ( 2 * CLIMB )")
    void terms1HillsAtNoneAndAtMost() {
        due("CLIMB 0", minutes(stage(1, 0, 0), 0, 0, 1000), 7);
        due("CLIMB 1", minutes(stage(1, 1, 0), 0, 0, 1000), 9);
        due("CLIMB 9", minutes(stage(1, 9, 0), 0, 0, 1000), 25);
        due("CLIMB 9 of a MAIL", minutes(stage(1, 9, 0), 1, 0, 1000), 24);
    }

    @Says("MUDS ( MUD * MILES / 4 cut )")
    void terms1MudsAreCut() {
        int[][] mudMilesMuds = {{0, 20, 0}, {1, 3, 0}, {1, 4, 1}, {1, 7, 1}, {1, 8, 2}, {3, 1, 0}, {4, 1, 1}, {9, 1, 2},
            {3, 5, 3}, {9, 20, 45}};
        for (int[] one : mudMilesMuds) {
            due("MUD " + one[0] + " over " + one[1], minutes(stage(one[1], 0, one[0]), 0, 0, 1000), 7 * one[1] + one[2]);
        }
    }

    @Says("LOADS ( LOAD / 10 cut )")
    void terms1LoadsAreCut() {
        int[][] loadLoads = {{0, 0}, {9, 0}, {10, 1}, {19, 1}, {20, 2}, {49, 4}, {50, 5}};
        for (int[] one : loadLoads) {
            due("LOAD " + one[0], minutes(stage(1, 0, 0), 0, one[0], 1000), 7 + one[1]);
        }
    }

    @Says("COST is 12 * MILES + 10 * CLIMB + 5 * MUD + LOAD")
    void terms1CostAtItsLeastAndMost() {
        due("12", left(stage(1, 0, 0), 0, 0, 1000).horses(0, 0), 988);
        due("12 + 10", left(stage(1, 1, 0), 0, 0, 1000).horses(0, 0), 978);
        due("12 + 5", left(stage(1, 0, 1), 0, 0, 1000).horses(0, 0), 983);
        due("12 + 1", left(stage(1, 0, 0), 0, 1, 1000).horses(0, 0), 987);
        due("12, a MAIL", left(stage(1, 0, 0), 1, 0, 1000).horses(0, 0), 988);
        due("12, a NIGHT", left(stage(1, 0, 0), 2, 0, 1000).horses(0, 0), 988);
        due("240 + 90 + 45 + 50", left(stage(20, 9, 9), 0, 50, 1000).horses(0, 0), 575);
    }

    @Says("of a TEAM whose STRENGTH s is below it, WEAKS is ( COST - s + 9 ) / 10 cut, else 0.")
    void terms1WeaksBeginBelowCost() {
        // COST 62: one mile with a LOAD of 50, which takes 7 + 5 and WEAKS.
        int[][] strengthWeaks = {{1000, 0}, {63, 0}, {62, 0}, {61, 1}, {53, 1}, {52, 1}, {51, 2}, {42, 2}, {41, 3}, {2, 6},
            {1, 7}};
        for (int[] one : strengthWeaks) {
            due("STRENGTH " + one[0], minutes(stage(1, 0, 0), 0, 50, one[0]), 12 + one[1]);
        }
    }

    @Says("of a TEAM whose STRENGTH s is below it, WEAKS is ( COST - s + 9 ) / 10 cut, else 0.")
    void terms1WeaksOfATeamWithNothingLeft() {
        Story road = new Story(x -> x.stage(20, 9, 0), x -> x.mud(1, 9), x -> x.team(0, 0), x -> x.coach(0, 50, 0, 2, 0));
        StageCoaches x = road.and(y -> y.run(1)).tell();
        due("it has nothing left", x.horses(0, 0), 0);
        int there = x.where(0, 4);
        due("7 + 5 + WEAKS 7", there, 19);
        x.run(there);
        // COST 425 with 0: WEAKS 43.
        due("it goes on", x.where(0, 4), there + 140 + 18 + 45 + 5 + 43);
        x.run(300);
        due("WEAKS", x.part(0, 2), 7 + 43);
    }

    @Says("The TEAM has s - COST from then on (0 at least).")
    void terms1TeamHasNothingLeftAtLeast() {
        int[][] strengthLeft = {{1000, 938}, {64, 2}, {63, 1}, {62, 0}, {61, 0}, {1, 0}};
        for (int[] one : strengthLeft) {
            due("STRENGTH " + one[0], left(stage(1, 0, 0), 0, 50, one[0]).horses(0, 0), one[1]);
        }
    }

    @Says("All this is as it is when the COACH leaves, or begins to CHANGE.")
    void terms1MudBehindTheLeavingIsNothing() {
        StageCoaches x = stage(4, 0, 2).and(y -> y.team(0, 1000), y -> y.coach(0, 0, 0, 1, 0), y -> y.run(1)).tell();
        x.mud(0, 9);
        due("at the next INN", x.where(0, 4), 28 + 2);
        due("STRENGTH", x.horses(0, 0), 1000 - 58);
        x.run(30);
        due("MUDS", x.part(0, 0), 2);
        StageCoaches before = stage(4, 0, 2).and(y -> y.team(0, 1000), y -> y.coach(0, 0, 0, 1, 0)).tell();
        before.mud(0, 9);
        before.run(1);
        due("MUD just before", before.where(0, 4), 28 + 9);
    }

    @Says("All this is as it is when the COACH leaves, or begins to CHANGE.")
    void terms1MudAndStrengthWhenTheChangeBegins() {
        Story held = new Story(x -> x.stage(4, 0, 0), x -> x.mud(1, 2), x -> x.team(0, 1000), x -> x.team(1, 1),
            x -> x.coach(0, 0, 0, 2, 0), x -> Checks.order(x, "when waited<1 do wait; when 1 do change;"), x -> x.run(8));
        StageCoaches x = held.tell();
        x.mud(1, 4);
        x.run(1);
        due("CHANGING", x.where(0, 0), 3);
        // At 8 the TEAM has 1 and 9 minutes' rest; COST is 48 + 20.
        due("STRENGTH", x.horses(1, 0), 0);
        x.mud(1, 9);
        x.oats(1, 100);
        x.run(2);
        due("leaves at 10 with MUDS 4 and WEAKS 6", x.where(0, 4), 10 + 28 + 4 + 6);
        x.run(40);
        row("part", new int[] {4, 0, 6, 1, 0}, part -> x.part(0, part));
    }

    // ---- TOLD ----

    @Says("TOLD of a COACH at an INN on its way: its START, and for each STAGE up to there BASE + HILLS, and 2 for each INN between its first and this one.")
    void terms1ToldCountsTheInnsBetween() {
        StageCoaches x = inns(8).and(y -> y.mud(0, 9), y -> y.mud(6, 9), y -> y.coach(0, 50, 0, 7, 10),
            y -> y.coach(1, 50, 7, 0, 0), y -> y.coach(2, 0, 6, 7, 10000000)).tell();
        row("COACH down", new int[] {10, 17, 26, 35, 44, 53, 62, 71, NONE}, inn -> x.told(0, inn));
        row("MAIL up", new int[] {54, 46, 38, 30, 22, 14, 6, 0, NONE}, inn -> x.told(1, inn));
        row("NIGHT", new int[] {NONE, NONE, NONE, NONE, NONE, NONE, 10000000, 10000009, NONE}, inn -> x.told(2, inn));
    }

    @Says("and for each STAGE up to there BASE + HILLS")
    void terms1ToldHasTheHills() {
        StageCoaches x = new Story(y -> y.first(20, 9, 0), y -> y.stage(1, 1, 0), y -> y.coach(2, 0, 0, 2, 0),
            y -> y.coach(2, 0, 2, 0, 0)).tell();
        row("down", new int[] {0, 198, 211}, inn -> x.told(0, inn));
        row("up", new int[] {211, 11, 0}, inn -> x.told(1, inn));
    }
}
