/** Promises 12 to 16: minutes, where a coach is, LATE and its PARTS, TOLD, and how teams tire, rest and eat. */
public final class MinutesTest {
    private static final Checks CHECKS = new Checks();
    private static final int NONE = StageCoaches.NONE;

    private static void due(String call, long got, long want) {
        CHECKS.due(call, got, want);
    }

    public static void main(String[] args) {
        runLimits();
        restAndOats();
        strongestTeam();
        weakTeam();
        kinds();
        upTheRoad();
        waitingForATeam();
        waitAndChange();
        changeWithout();
        changeToWeaker();
        defaults();
        changeReckonsAtOnce();
        ordersWithinAMinute();
        doneCounts();
        wrongAsks();
        toldEdges();
        CHECKS.finish();
    }

    private static void where(StageCoaches x, int coach, int... want) {
        for (int what = 0; what < want.length; what++) {
            due("where(" + coach + ", " + what + ") at " + x.about(0), x.where(coach, what), want[what]);
        }
    }

    private static void parts(StageCoaches x, int coach, int... want) {
        int sum = 0;
        for (int part = 0; part < 5; part++) {
            due("part(" + coach + ", " + part + ") at " + x.about(0), x.part(coach, part), want[part]);
            sum += x.part(coach, part);
        }
        due("the parts add up", sum, x.where(coach, 3));
    }

    private static void runLimits() {
        StageCoaches x = new StageCoaches();
        due("run(-1)", x.run(-1), NONE);
        due("run(1501)", x.run(1501), NONE);
        due("clock", x.about(0), 0);
        due("run(0)", x.run(0), 0);
        due("clock", x.about(0), 0);
        due("run(1500)", x.run(1500), 0);
        due("clock", x.about(0), 1500);
    }

    private static void restAndOats() {
        StageCoaches x = new StageCoaches();
        x.team(0, 10);
        x.team(0, 999);
        x.team(0, 1000);
        x.team(1, 998);
        x.oats(0, 4);
        x.oats(1, 1);
        x.run(1);
        due("3 stronger", x.horses(0, 0), 13);
        due("1000 at most", x.horses(1, 0), 1000);
        due("1000 stays", x.horses(2, 0), 1000);
        due("1000 at most", x.horses(3, 0), 1000);
        due("OATS eaten by two", x.road(0, 4), 2);
        due("OATS at the other", x.road(1, 4), 0);
        x.run(3);
        due("with the last oats, then without", x.horses(0, 0), 20);
        due("OATS", x.road(0, 4), 0);
        x.run(1500);
        due("1000 without oats", x.horses(0, 0), 1000);
        oatsByNumber();
    }

    private static void oatsByNumber() {
        StageCoaches x = new StageCoaches();
        x.team(1, 10);
        x.team(1, 10);
        x.oats(1, 1);
        x.run(1);
        due("the first team eats", x.horses(0, 0), 13);
        due("the second finds none", x.horses(1, 0), 11);
    }

    private static void strongestTeam() {
        StageCoaches x = new StageCoaches();
        x.team(1, 1000);
        x.team(0, 500);
        x.team(0, 600);
        x.team(0, 600);
        x.coach(0, 0, 0, 1, 0);
        x.coach(0, 0, 0, 1, 0);
        x.coach(0, 0, 0, 1, 0);
        x.coach(0, 0, 0, 1, 0);
        x.run(1);
        due("the least number of like ones", x.where(0, 2), 2);
        due("the next", x.where(1, 2), 3);
        due("the weakest", x.where(2, 2), 1);
        due("none left", x.where(3, 2), NONE);
        due("waited", x.where(3, 5), 1);
        due("601 less 12", x.horses(2, 0), 589);
    }

    private static void weakTeam() {
        StageCoaches x = new StageCoaches();
        x.first(10, 3, 0);
        x.mud(0, 7);
        x.team(0, 100);
        x.coach(0, 39, 0, 1, 0);
        x.run(1);
        // COST 120 + 30 + 35 + 39 = 224, 101 strong: (123 + 9) / 10 = 13; 70 + 6 + 17 + 3 + 13.
        due("minutes", x.where(0, 4), 109);
        due("STRENGTH", x.horses(0, 0), 0);
        x.run(108);
        where(x, 0, 1, 0, 0, 0, 109, 0);
        due("DONE", x.run(1), 1);
        where(x, 0, 4, 1, NONE, 33, NONE, 0);
        parts(x, 0, 17, 3, 13, 0, 0);
        StageCoaches y = new StageCoaches();
        y.team(0, 11);
        y.coach(0, 0, 0, 1, 0);
        y.run(1);
        due("just strong enough", y.where(0, 4), 7);
        StageCoaches z = new StageCoaches();
        z.team(0, 10);
        z.coach(0, 0, 0, 1, 0);
        z.run(1);
        due("one too weak", z.where(0, 4), 8);
        StageCoaches w = new StageCoaches();
        w.team(0, 1);
        w.coach(0, 0, 0, 1, 0);
        w.run(1);
        due("ten too weak", w.where(0, 4), 8);
        StageCoaches v = new StageCoaches();
        v.team(0, 0);
        v.coach(0, 50, 0, 1, 0);
        v.run(1);
        // COST 62, 1 strong: 7; LOADS 5.
        due("a full load", v.where(0, 4), 7 + 5 + 7);
    }

    private static void kinds() {
        int[] base = {14, 12, 18};
        for (int kind = 0; kind < 3; kind++) {
            StageCoaches x = new StageCoaches();
            x.first(2, 4, 0);
            x.team(0, 1000);
            x.coach(kind, 9, 0, 1, 0);
            x.run(1);
            due("kind " + kind, x.where(0, 4), base[kind] + 8);
            due("told of kind " + kind, x.told(0, 1), base[kind] + 8);
        }
    }

    private static void upTheRoad() {
        StageCoaches x = new StageCoaches();
        x.first(3, 1, 0);
        x.stage(2, 5, 0);
        x.mud(1, 9);
        x.team(2, 1000);
        x.coach(0, 0, 2, 0, 4);
        due("told 2", x.told(0, 2), 4);
        due("told 1", x.told(0, 1), 28);
        due("told 0", x.told(0, 0), 53);
        due("told 3", x.told(0, 3), NONE);
        due("told -1", x.told(0, -1), NONE);
        x.run(5);
        // 14 + 10 + 18 / 4 = 28
        where(x, 0, 1, 2, 0, 0, 32, 0);
        x.run(28);
        where(x, 0, 1, 1, 0, 4, 55, 0);
        parts(x, 0, 4, 0, 0, 0, 0);
        due("run to the end", x.run(23), 1);
        where(x, 0, 4, 0, NONE, 2, NONE, 0);
        parts(x, 0, 4, 0, 0, 0, -2);
        due("its TEAM is there", x.horses(0, 1), 0);
        due("its TEAM is free", x.horses(0, 2), NONE);
    }

    private static void waitingForATeam() {
        StageCoaches x = new StageCoaches();
        x.coach(0, 0, 0, 1, 2);
        x.run(2);
        where(x, 0, 0, 0, NONE, 0, NONE, 0);
        x.run(3);
        where(x, 0, 0, 0, NONE, 0, NONE, 3);
        parts(x, 0, 0, 0, 0, 0, 0);
        x.team(0, 500);
        x.run(1);
        where(x, 0, 1, 0, 0, 0, 12, 0);
        parts(x, 0, 0, 0, 0, 0, 0);
        due("DONE", x.run(7), 1);
        where(x, 0, 4, 1, NONE, 3, NONE, 0);
        parts(x, 0, 0, 0, 0, 3, 0);
    }

    private static void waitAndChange() {
        StageCoaches x = new StageCoaches();
        x.stage(1, 0, 0);
        x.stage(1, 0, 0);
        x.team(0, 500);
        x.team(1, 100);
        x.coach(0, 0, 0, 3, 0);
        Checks.order(x, "when inn = 1 and waited < 3 do wait; when inn = 1 do change; when waited do go; when 1 do wait;");
        x.run(8);
        where(x, 0, 2, 1, 0, 0, NONE, 1);
        x.run(2);
        where(x, 0, 2, 1, 0, 0, NONE, 3);
        x.run(1);
        where(x, 0, 3, 1, 1, 0, 12, 3);
        due("old TEAM's INN", x.horses(0, 1), 1);
        due("old TEAM's COACH", x.horses(0, 2), NONE);
        due("new TEAM's INN", x.horses(1, 1), NONE);
        due("new TEAM's COACH", x.horses(1, 2), 0);
        due("new TEAM tires at once", x.horses(1, 0), 99);
        parts(x, 0, 0, 0, 0, 0, 0);
        x.run(1);
        where(x, 0, 3, 1, 1, 0, 12, 3);
        due("old TEAM rests", x.horses(0, 0), 490);
        x.run(1);
        where(x, 0, 1, 1, 1, 0, 19, 0);
        x.run(7);
        where(x, 0, 2, 2, 1, 3, NONE, 1);
        parts(x, 0, 0, 0, 0, 3, 0);
        x.run(1);
        where(x, 0, 1, 2, 1, 3, 27, 0);
        due("DONE", x.run(7), 1);
        where(x, 0, 4, 3, NONE, 2, NONE, 0);
        parts(x, 0, 0, 0, 0, 4, -2);
    }

    private static void changeWithout() {
        StageCoaches x = new StageCoaches();
        x.stage(1, 0, 0);
        x.team(0, 500);
        x.coach(0, 0, 0, 2, 0);
        Checks.order(x, "when 1 do change;");
        x.run(12);
        where(x, 0, 2, 1, 0, 0, NONE, 5);
        x.team(1, 3);
        x.run(1);
        where(x, 0, 3, 1, 1, 0, 14, 5);
    }

    private static void changeToWeaker() {
        StageCoaches x = new StageCoaches();
        x.stage(1, 0, 0);
        x.team(0, 500);
        x.team(1, 3);
        x.team(1, 5);
        x.team(1, 5);
        x.coach(0, 0, 0, 2, 0);
        Checks.order(x, "when 1 do change;");
        x.run(8);
        where(x, 0, 3, 1, 2, 0, 9, 0);
    }

    private static void defaults() {
        // The own TEAM has 489 from minute 0 on; at minute 7 those at the INN have rested 8 times.
        int[] strengths = {480, 481, 482};
        int[] states = {1, 1, 3};
        for (int i = 0; i < 3; i++) {
            StageCoaches x = new StageCoaches();
            x.stage(1, 0, 0);
            x.team(0, 500);
            x.team(1, strengths[i]);
            x.coach(0, 0, 0, 2, 0);
            x.run(8);
            due("against " + strengths[i], x.where(0, 0), states[i]);
        }
        StageCoaches y = new StageCoaches();
        y.stage(1, 0, 0);
        y.team(0, 0);
        y.coach(0, 0, 0, 2, 0);
        y.run(10);
        due("no TEAM, own at 0: go", y.where(0, 0), 1);
        due("left at 9", y.where(0, 4), 9 + 7 + 2);
    }

    private static void changeReckonsAtOnce() {
        StageCoaches x = new StageCoaches();
        x.stage(4, 0, 0);
        x.mud(1, 4);
        x.team(0, 20);
        x.team(1, 900);
        x.coach(0, 0, 0, 2, 0);
        x.run(8);
        where(x, 0, 3, 1, 1, 0, 9, 0);
        x.mud(1, 9);
        x.run(2);
        where(x, 0, 1, 1, 1, 0, 9 + 28 + 4, 0);
        due("COST by the MUD of then", x.horses(1, 0), 908 - 48 - 20);
        due("no more to be DONE", x.run(31), 0);
        due("DONE", x.run(1), 1);
        parts(x, 0, 4, 0, 0, 0, 0);
    }

    /** A TEAM that one coach leaves at an INN can be taken by a coach of a greater number in the same minute. */
    private static void ordersWithinAMinute() {
        StageCoaches x = new StageCoaches();
        x.team(0, 300);
        x.coach(0, 0, 0, 1, 0);
        x.coach(0, 0, 1, 0, 7);
        due("first is DONE", x.run(8), 1);
        where(x, 1, 1, 1, 0, 0, 14, 0);
        due("no rest between", x.horses(0, 0), 301 - 24);
        StageCoaches y = new StageCoaches();
        y.team(0, 300);
        y.coach(0, 0, 1, 0, 7);
        y.coach(0, 0, 0, 1, 0);
        y.run(8);
        where(y, 0, 0, 1, NONE, 0, NONE, 1);
        y.run(1);
        where(y, 0, 1, 1, 0, 0, 15, 0);
    }

    private static void doneCounts() {
        StageCoaches x = new StageCoaches();
        for (int i = 0; i < 4; i++) {
            x.team(0, 1000);
            x.coach(i % 2, 0, 0, 1, 0);
        }
        due("not yet", x.run(6), 0);
        due("the mails", x.run(1), 2);
        due("the coaches", x.run(1), 2);
        due("no more", x.run(1500), 0);
    }

    private static void wrongAsks() {
        StageCoaches x = new StageCoaches();
        due("where(0, 0)", x.where(0, 0), NONE);
        x.coach(0, 0, 0, 1, 0);
        due("where(0, -1)", x.where(0, -1), NONE);
        due("where(0, 6)", x.where(0, 6), NONE);
        due("where(-1, 0)", x.where(-1, 0), NONE);
        due("where(1, 0)", x.where(1, 0), NONE);
        due("part(0, -1)", x.part(0, -1), 0);
        due("part(0, 5)", x.part(0, 5), 0);
        due("part(-1, 0)", x.part(-1, 0), 0);
        due("part(1, 0)", x.part(1, 0), 0);
        due("told(-1, 0)", x.told(-1, 0), NONE);
        due("told(1, 0)", x.told(1, 0), NONE);
        due("told(0, 2)", x.told(0, 2), NONE);
        due("told(0, -1)", x.told(0, -1), NONE);
    }

    private static void toldEdges() {
        StageCoaches x = new StageCoaches();
        x.stage(20, 9, 0);
        x.stage(2, 0, 0);
        x.stage(3, 3, 0);
        x.mud(1, 9);
        x.coach(2, 50, 1, 3, 10000000);
        due("INN before its way", x.told(0, 0), NONE);
        due("its first", x.told(0, 1), 10000000);
        due("the next: no MUD, no LOAD", x.told(0, 2), 10000198);
        due("2 for the INN between", x.told(0, 3), 10000218);
        due("INN behind its way", x.told(0, 4), NONE);
    }
}
