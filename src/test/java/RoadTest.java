/** Promises 1 to 7, 16, 24 to 26: the road, teams, coaches, money and counts. */
public final class RoadTest {
    private static final Checks CHECKS = new Checks();
    private static final int NONE = StageCoaches.NONE;

    private static void due(String call, long got, long want) {
        CHECKS.due(call, got, want);
    }

    private static void due(String call, boolean got, boolean want) {
        CHECKS.due(call, got, want);
    }

    public static void main(String[] args) {
        newObject();
        stages();
        firstStage();
        mudAndOats();
        teams();
        coaches();
        horses();
        parted();
        counts();
        CHECKS.finish();
    }

    private static void newObject() {
        StageCoaches x = new StageCoaches();
        due("NONE", NONE, -1);
        int[] counts = {0, 2, 0, 0, 0, 0, 0, 0};
        for (int what = 0; what < 8; what++) {
            due("new about(" + what + ")", x.about(what), counts[what]);
        }
        int[] stage = {1, 0, 0, 0, 0};
        for (int what = 0; what < 5; what++) {
            due("new road(0, " + what + ")", x.road(0, what), stage[what]);
        }
        due("new road(1, 4)", x.road(1, 4), 0);
        due("new road(1, 0)", x.road(1, 0), NONE);
        due("new fault(0)", x.fault(0), 0);
        due("new fault(1)", x.fault(1), NONE);
    }

    private static void stages() {
        StageCoaches x = new StageCoaches();
        due("stage(0, 0, 0)", x.stage(0, 0, 0), NONE);
        due("stage(21, 0, 0)", x.stage(21, 0, 0), NONE);
        due("stage(1, -1, 0)", x.stage(1, -1, 0), NONE);
        due("stage(1, 10, 0)", x.stage(1, 10, 0), NONE);
        due("stage(1, 0, -1)", x.stage(1, 0, -1), NONE);
        due("stage(1, 0, 4)", x.stage(1, 0, 4), NONE);
        due("inns", x.about(1), 2);
        due("stage(20, 9, 3)", x.stage(20, 9, 3), 2);
        due("miles", x.road(1, 0), 20);
        due("climb", x.road(1, 1), 9);
        due("mud", x.road(1, 2), 0);
        due("master", x.road(1, 3), 3);
        for (int inn = 3; inn < 8; inn++) {
            due("stage to " + inn, x.stage(1, 0, 0), inn);
        }
        due("a ninth inn", x.stage(1, 0, 0), NONE);
        due("inns", x.about(1), 8);
        due("first with 8 inns", x.first(7, 0, 0), true);
        due("road(6, 0)", x.road(6, 0), 1);
        due("mud(6, 8)", x.mud(6, 8), true);
        due("road(6, 2)", x.road(6, 2), 8);
        due("mud(7, 1)", x.mud(7, 1), false);
        due("road(7, 0)", x.road(7, 0), NONE);
        due("road(7, 4)", x.road(7, 4), 0);
        StageCoaches y = new StageCoaches();
        y.coach(0, 0, 0, 1, 0);
        due("stage with a coach", y.stage(1, 0, 0), NONE);
        due("inns", y.about(1), 2);
    }

    private static void firstStage() {
        StageCoaches x = new StageCoaches();
        x.mud(0, 5);
        due("first(20, 9, 3)", x.first(20, 9, 3), true);
        due("MUD stays", x.road(0, 2), 5);
        due("first(0, 0, 0)", x.first(0, 0, 0), false);
        due("first(1, -1, 0)", x.first(1, -1, 0), false);
        due("first(1, 0, -1)", x.first(1, 0, -1), false);
        due("nothing done", x.road(0, 0), 20);
        due("nothing done", x.road(0, 1), 9);
        due("nothing done", x.road(0, 3), 3);
        x.coach(0, 0, 0, 1, 0);
        due("first with a coach", x.first(1, 0, 0), false);
        due("nothing done", x.road(0, 0), 20);
        due("mud with a coach", x.mud(0, 9), true);
    }

    private static void mudAndOats() {
        StageCoaches x = new StageCoaches();
        due("mud(0, 9)", x.mud(0, 9), true);
        due("mud(0, 10)", x.mud(0, 10), false);
        due("mud(0, -1)", x.mud(0, -1), false);
        due("mud(-1, 0)", x.mud(-1, 0), false);
        due("mud(1, 0)", x.mud(1, 0), false);
        due("MUD", x.road(0, 2), 9);
        due("mud(0, 0)", x.mud(0, 0), true);
        due("MUD", x.road(0, 2), 0);
        due("oats(0, 0)", x.oats(0, 0), true);
        due("oats(1, 100000)", x.oats(1, 100000), true);
        due("oats(1, 0)", x.oats(1, 0), true);
        due("oats(1, 1)", x.oats(1, 1), false);
        due("oats(1, -1)", x.oats(1, -1), false);
        due("oats(1, MAX)", x.oats(1, Integer.MAX_VALUE), false);
        due("oats(1, MIN)", x.oats(1, Integer.MIN_VALUE), false);
        due("OATS", x.road(1, 4), 100000);
        due("oats(2, 0)", x.oats(2, 0), false);
        due("oats(-1, 0)", x.oats(-1, 0), false);
        due("oats(0, 60000)", x.oats(0, 60000), true);
        due("oats(0, 40001)", x.oats(0, 40001), false);
        due("oats(0, 40000)", x.oats(0, 40000), true);
        due("road(-1, 4)", x.road(-1, 4), NONE);
        due("road(-1, 0)", x.road(-1, 0), NONE);
        due("road(0, -1)", x.road(0, -1), NONE);
        due("road(0, 5)", x.road(0, 5), NONE);
    }

    private static void teams() {
        StageCoaches x = new StageCoaches();
        due("team(-1, 0)", x.team(-1, 0), NONE);
        due("team(2, 0)", x.team(2, 0), NONE);
        due("team(0, -1)", x.team(0, -1), NONE);
        due("team(0, 1001)", x.team(0, 1001), NONE);
        for (int i = 0; i < 20; i++) {
            due("team " + i, x.team(i % 2, i == 0 ? 1000 : i - 1), i);
        }
        due("a 21st team", x.team(0, 5), NONE);
        due("TEAMS", x.about(2), 20);
        due("STRENGTH", x.horses(0, 0), 1000);
        due("INN", x.horses(19, 1), 1);
    }

    private static void coaches() {
        StageCoaches x = new StageCoaches();
        x.stage(1, 0, 0);
        x.run(5);
        due("kind -1", x.coach(-1, 0, 0, 1, 5), NONE);
        due("kind 3", x.coach(3, 0, 0, 1, 5), NONE);
        due("load -1", x.coach(0, -1, 0, 1, 5), NONE);
        due("load 51", x.coach(0, 51, 0, 1, 5), NONE);
        due("from -1", x.coach(0, 0, -1, 1, 5), NONE);
        due("from 3", x.coach(0, 0, 3, 1, 5), NONE);
        due("to -1", x.coach(0, 0, 0, -1, 5), NONE);
        due("to 3", x.coach(0, 0, 0, 3, 5), NONE);
        due("from is to", x.coach(0, 0, 1, 1, 5), NONE);
        due("start before now", x.coach(0, 0, 0, 1, 4), NONE);
        due("start too late", x.coach(0, 0, 0, 1, 10000001), NONE);
        due("COACHES", x.about(3), 0);
        due("coach 0", x.coach(2, 50, 2, 0, 10000000), 0);
        due("coach 1", x.coach(0, 0, 0, 1, 5), 1);
        for (int i = 2; i < 8; i++) {
            due("coach " + i, x.coach(1, 50, 0, 2, 6), i);
        }
        due("a ninth coach", x.coach(0, 0, 0, 1, 5), NONE);
        due("COACHES", x.about(3), 8);
    }

    private static void horses() {
        StageCoaches x = new StageCoaches();
        x.team(1, 77);
        due("horses(0, 0)", x.horses(0, 0), 77);
        due("horses(0, 1)", x.horses(0, 1), 1);
        due("horses(0, 2)", x.horses(0, 2), NONE);
        due("horses(0, 3)", x.horses(0, 3), NONE);
        due("horses(0, -1)", x.horses(0, -1), NONE);
        due("horses(-1, 0)", x.horses(-1, 0), NONE);
        due("horses(1, 0)", x.horses(1, 0), NONE);
        x.coach(0, 0, 1, 0, 0);
        x.coach(0, 0, 1, 0, 0);
        x.run(1);
        due("its INN", x.horses(0, 1), NONE);
        due("its COACH", x.horses(0, 2), 0);
    }

    private static void parted() {
        StageCoaches x = new StageCoaches();
        due("all to one", x.parted(1000000000, 0), 1000000000);
        due("none to another", x.parted(1000000000, 3), 0);
        due("amount too great", x.parted(1000000001, 0), NONE);
        due("amount -1", x.parted(-1, 0), NONE);
        due("master -1", x.parted(5, -1), NONE);
        due("master 4", x.parted(5, 4), NONE);
        due("parted(0, 0)", x.parted(0, 0), 0);
        x.first(1, 0, 3);
        x.stage(1, 0, 1);
        x.stage(1, 0, 0);
        // 10 over three like shares: the rests are alike, the least master has one more.
        int[] want = {4, 3, 0, 3};
        for (int master = 0; master < 4; master++) {
            due("parted(10, " + master + ")", x.parted(10, master), want[master]);
        }
        int[] two = {4, 4, 0, 3};
        for (int master = 0; master < 4; master++) {
            due("parted(11, " + master + ")", x.parted(11, master), two[master]);
        }
        StageCoaches y = new StageCoaches();
        y.first(20, 0, 0);
        y.stage(19, 0, 1);
        y.stage(18, 0, 2);
        y.stage(17, 0, 1);
        // Miles 20, 36, 18 of 74: of 999999998 the rests are 54, 38, 56, and two get one more.
        int[] large = {270270270, 486486485, 243243243, 0};
        for (int master = 0; master < 4; master++) {
            due("parted(999999998, " + master + ")", y.parted(999999998, master), large[master]);
        }
        // The greatest rest goes before the least number: 1 * 20, 1 * 36, 1 * 18 of 74.
        due("parted(1, 0)", y.parted(1, 0), 0);
        due("parted(1, 1)", y.parted(1, 1), 1);
    }

    private static void counts() {
        StageCoaches x = new StageCoaches();
        x.stage(1, 0, 0);
        x.team(0, 10);
        x.team(0, 10);
        x.coach(0, 0, 0, 1, 0);
        Checks.order(x, "when 1 do go;when 2 do go;when 3 do go;when 4 do go;");
        x.trip(0, true, 0);
        x.trip(0, true, 0);
        x.book(0, 0, 1);
        x.untell(0);
        x.book(0, 0, 1);
        x.feed(0, 0, 0, 0, 0);
        x.run(6);
        int[] want = {6, 3, 2, 1, 4, 2, 2, 20};
        for (int what = 0; what < 8; what++) {
            due("about(" + what + ")", x.about(what), want[what]);
        }
        due("about(-1)", x.about(-1), NONE);
        due("about(8)", x.about(8), NONE);
    }
}
