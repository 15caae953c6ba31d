/** The boundary cases of part 3 of the Terms: what a MINUTE does, LATE and its PARTS. */
public final class Terms3EdgesTest extends Edges {
    public static void main(String[] args) throws Exception {
        new Terms3EdgesTest().runAll();
    }

    /** INNS with one mile between each, ORDERS, and TEAM 0 of 1000 at INN 0. */
    private static Story road(int inns, String orders) {
        Story story = new Story(x -> Checks.order(x, orders), x -> x.team(0, 1000));
        for (int inn = 2; inn < inns; inn++) {
            story = story.and(x -> x.stage(1, 0, 0));
        }
        return story;
    }

    private void whereIs(String when, StageCoaches x, int coach, int... want) {
        row(when + ": where(" + coach + ")", want, what -> x.where(coach, what));
    }

    // ---- (1) ----

    @Says("(1) each TEAM at an INN, by number, with STRENGTH below 1000")
    void terms3RestAtTheGreatestStrength() {
        for (int strength : new int[] {0, 996, 997, 998, 999, 1000}) {
            StageCoaches fed = new Story(x -> x.team(0, strength), x -> x.oats(0, 5), x -> x.run(1)).tell();
            due(strength + " with OATS", fed.horses(0, 0), Math.min(1000, strength + 3));
            due("OATS behind " + strength, fed.road(0, 4), strength < 1000 ? 4 : 5);
            StageCoaches unfed = new Story(x -> x.team(0, strength), x -> x.oats(1, 5), x -> x.run(1)).tell();
            due(strength + " without OATS", unfed.horses(0, 0), Math.min(1000, strength + 1));
            due("OATS at the other INN", unfed.road(1, 4), 5);
        }
    }

    @Says("if the INN has OATS, these are one less and it gets 3 stronger, else 1 (to 1000 at most).")
    void terms3RestWithTheLastOats() {
        StageCoaches x = new Story(y -> y.team(0, 100), y -> y.oats(0, 2)).tell();
        int[] strength = {103, 106, 107, 108};
        int[] oats = {1, 0, 0, 0};
        for (int minute = 0; minute < 4; minute++) {
            x.run(1);
            due("STRENGTH behind minute " + minute, x.horses(0, 0), strength[minute]);
            due("OATS behind minute " + minute, x.road(0, 4), oats[minute]);
        }
    }

    @Says("each TEAM at an INN, by number")
    void terms3OatsGoByNumber() {
        StageCoaches x = new Story(y -> y.team(0, 1000), y -> y.team(0, 500), y -> y.team(0, 100), y -> y.team(0, 900),
            y -> y.oats(0, 2), y -> y.run(1)).tell();
        int[] want = {1000, 503, 103, 901};
        row("STRENGTH", want, team -> x.horses(team, 0));
        due("OATS", x.road(0, 4), 0);
    }

    @Says("each TEAM at an INN")
    void terms3TeamWithACoachDoesNotRest() {
        StageCoaches x = new Story(y -> y.team(0, 100), y -> y.oats(0, 50), y -> y.coach(0, 0, 0, 1, 0), y -> y.run(7)).tell();
        due("it ate once before it left", x.road(0, 4), 49);
        due("it does not rest on a STAGE", x.horses(0, 0), 91);
        x.run(1);
        due("at the INN, no rest yet", x.horses(0, 0), 91);
        x.run(1);
        due("it rests", x.horses(0, 0), 92);
    }

    @Says("each TEAM at an INN")
    void terms3TeamsRestOrDoNotWhileChanging() {
        StageCoaches x = road(3, "when 1 do change;").and(y -> y.team(1, 500), y -> y.oats(1, 50), y -> y.coach(0, 0, 0, 2, 0),
            y -> y.run(8)).tell();
        due("CHANGING", x.where(0, 0), 3);
        due("new TEAM, fed 8 times", x.horses(1, 0), 500 + 24 - 12);
        due("old TEAM", x.horses(0, 0), 988);
        x.run(1);
        due("new TEAM is not at the INN", x.horses(1, 0), 512);
        due("old TEAM is", x.horses(0, 0), 991);
    }

    // ---- (2) setting out ----

    @Says("one whose START is t or before, and which has not left yet")
    void terms3StartBeforeAtAndBehindT() {
        Story story = new Story(y -> y.team(0, 500), y -> y.coach(0, 0, 0, 1, 3));
        whereIs("minute 2 has been", story.and(y -> y.run(3)).tell(), 0, 0, 0, NONE, 0, NONE, 0);
        whereIs("minute 3 has been", story.and(y -> y.run(4)).tell(), 0, 1, 0, 0, 0, 10, 0);
        Story late = new Story(y -> y.coach(0, 0, 0, 1, 3), y -> y.run(4));
        whereIs("no TEAM at 3", late.tell(), 0, 0, 0, NONE, 0, NONE, 1);
        whereIs("a TEAM at 4", late.and(y -> y.team(0, 500), y -> y.run(1)).tell(), 0, 1, 0, 0, 0, 11, 0);
    }

    @Says("takes the strongest TEAM at its INN (the least number of like ones) and leaves at t")
    void terms3StrongestTeamAndLeastNumber() {
        int[][] strengths = {{500, 500, 500}, {499, 500, 500}, {500, 501, 500}, {500, 500, 501}, {0, 0, 0}, {1000, 1000, 1000}};
        int[] taken = {1, 2, 2, 3, 1, 1};
        for (int i = 0; i < strengths.length; i++) {
            int[] three = strengths[i];
            StageCoaches x = new Story(y -> y.team(1, 1000), y -> y.team(0, three[0]), y -> y.team(0, three[1]),
                y -> y.team(0, three[2]), y -> y.coach(0, 0, 0, 1, 0), y -> y.run(1)).tell();
            due("row " + i, x.where(0, 2), taken[i]);
        }
    }

    @Says("takes the strongest TEAM at its INN (the least number of like ones)")
    void terms3StrongestAsItIsWhenItHasRested() {
        // 498 with the one OATS is 501 before 500 without is 501: alike, so the least number.
        StageCoaches x = new Story(y -> y.team(0, 498), y -> y.team(0, 500), y -> y.oats(0, 1), y -> y.coach(0, 0, 0, 1, 0),
            y -> y.run(1)).tell();
        due("TEAM", x.where(0, 2), 0);
    }

    @Says("takes the strongest TEAM at its INN (the least number of like ones)")
    void terms3TeamWithNothingLeftIsATeam() {
        // The TEAM comes to INN 1 with 0 at minute 9, and goes on in the same minute, before it can rest.
        StageCoaches x = new Story(y -> y.team(0, 0), y -> y.coach(0, 0, 0, 1, 0), y -> y.coach(0, 0, 1, 0, 9), y -> y.run(10)).tell();
        due("DONE", x.where(0, 0), 4);
        whereIs("with the TEAM of 0", x, 1, 1, 1, 0, 0, 9 + 7 + 2, 0);
    }

    @Says("change: with a TEAM at the INN it takes the strongest (the least number of like ones)")
    void terms3ChangeToATeamWithNothingLeft() {
        // The first COACH leaves its TEAM with 0 at INN 1 at minute 9; the second one comes then too.
        Story story = new Story(y -> y.stage(1, 0, 0), y -> y.team(0, 0), y -> y.team(0, 0), y -> y.team(1, 1),
            y -> y.coach(0, 0, 0, 2, 0), y -> y.coach(0, 0, 0, 2, 0));
        StageCoaches x = story.and(y -> Checks.order(y, "when 1 do change;"), y -> y.run(10)).tell();
        whereIs("the first", x, 0, 3, 1, 2, 2, 11, 0);
        whereIs("the second", x, 1, 3, 1, 0, 2, 11, 0);
        StageCoaches like = story.and(y -> Checks.order(y, "when fresh>0 do change;"), y -> y.run(10)).tell();
        due("TEAMS alike at 0: the second goes", like.where(1, 0), 1);
        StageCoaches fresh = story.and(y -> Checks.order(y, "when fresh=0 do wait; when 1 do change;"), y -> y.run(10)).tell();
        due("fresh is 0 to the second", fresh.where(1, 0), 2);
        due("and was not to the first", fresh.where(0, 0), 3);
    }

    @Says("without one it has waited a minute.")
    void terms3WithoutATeamItWaits() {
        StageCoaches x = new Story(y -> y.team(1, 500), y -> y.coach(0, 0, 0, 1, 0)).tell();
        for (int minutes = 1; minutes <= 3; minutes++) {
            x.run(1);
            whereIs("minute " + (minutes - 1), x, 0, 0, 0, NONE, 0, NONE, minutes);
        }
        x.team(0, 0);
        x.run(1);
        due("leaves with a weak one", x.where(0, 0), 1);
        // COST 12 with 1: WEAKS 2.
        x.run(9);
        row("part", new int[] {0, 0, 2, 3, 0}, part -> x.part(0, part));
    }

    @Says("(2) Each COACH, by number")
    void terms3CoachesGoByNumber() {
        StageCoaches x = new Story(y -> y.team(0, 500), y -> y.coach(0, 0, 0, 1, 0), y -> y.coach(0, 0, 0, 1, 0), y -> y.run(1)).tell();
        due("the first has the only TEAM", x.where(0, 2), 0);
        due("the second waits", x.where(1, 5), 1);
        Story arriving = new Story(y -> y.team(0, 500));
        StageCoaches after = arriving.and(y -> y.coach(0, 0, 0, 1, 0), y -> y.coach(0, 0, 1, 0, 7), y -> y.run(8)).tell();
        due("a later number takes the TEAM that came just now", after.where(1, 2), 0);
        StageCoaches before = arriving.and(y -> y.coach(0, 0, 1, 0, 7), y -> y.coach(0, 0, 0, 1, 0), y -> y.run(8)).tell();
        due("an earlier number does not", before.where(0, 5), 1);
        before.run(1);
        due("but in the next minute", before.where(0, 2), 0);
    }

    // ---- (2) arriving ----

    @Says("One on a STAGE that ends at t is at the INN: at its last one it is DONE, its TEAM at this INN")
    void terms3DoneAtTheMinuteOfTheEnd() {
        Story story = road(2, "when 1 do wait;").and(y -> y.coach(0, 0, 0, 1, 0));
        whereIs("minute 6 has been", story.and(y -> y.run(7)).tell(), 0, 1, 0, 0, 0, 7, 0);
        StageCoaches x = story.and(y -> y.run(8)).tell();
        whereIs("minute 7 has been", x, 0, 4, 1, NONE, 0, NONE, 0);
        due("its TEAM's INN", x.horses(0, 1), 1);
        due("its TEAM's COACH", x.horses(0, 2), NONE);
        x.run(1500);
        whereIs("for good", x, 0, 4, 1, NONE, 0, NONE, 0);
    }

    @Says("at another one it is HELD, from t on. One that is HELD, also just now, does the first line of ORDERS")
    void terms3HeldActsInTheMinuteOfItsArrival() {
        whereIs("go at once", road(3, "when 1 do go;").and(y -> y.coach(0, 0, 0, 2, 0), y -> y.run(8)).tell(),
            0, 1, 1, 0, 0, 14, 0);
        whereIs("wait at once", road(3, "when 1 do wait;").and(y -> y.coach(0, 0, 0, 2, 0), y -> y.run(8)).tell(),
            0, 2, 1, 0, 0, NONE, 1);
        whereIs("change at once", road(3, "when 1 do change;").and(y -> y.team(1, 1), y -> y.coach(0, 0, 0, 2, 0),
            y -> y.run(8)).tell(), 0, 3, 1, 1, 0, 9, 0);
    }

    // ---- (2) orders ----

    @Says("does the first line of ORDERS whose e is not 0")
    void terms3FirstLineWhoseEIsNotZero() {
        String[] orders = {"when 1 do wait; when 1 do go;", "when 0 do wait; when 1 do go;", "when 0-1 do wait; when 1 do go;",
            "when 1-1 do wait; when 2 do go;", "when 0 do go; when 0 do go; when 5 do wait; when 1 do go;"};
        int[] states = {2, 1, 2, 1, 2};
        for (int i = 0; i < orders.length; i++) {
            StageCoaches x = road(3, orders[i]).and(y -> y.coach(0, 0, 0, 2, 0), y -> y.run(8)).tell();
            due(orders[i], x.where(0, 0), states[i]);
        }
        String tenth = "when 0 do go;".repeat(9) + "when 1 do wait;";
        String none = "when 0 do wait;".repeat(10);
        due("none of ten lines", road(3, none).and(y -> y.coach(0, 0, 0, 2, 0), y -> y.run(8)).tell().where(0, 0), 1);
        due("the tenth line", road(3, tenth).and(y -> y.coach(0, 0, 0, 2, 0), y -> y.run(8)).tell().where(0, 0), 2);
    }

    @Says("wait: it has waited a minute")
    void terms3WaitGoesOnMinuteByMinute() {
        StageCoaches x = road(3, "when waited<3 do wait; when 1 do go;").and(y -> y.coach(0, 0, 0, 2, 0), y -> y.run(7)).tell();
        int[] waited = {1, 2, 3, 0};
        int[] states = {2, 2, 2, 1};
        for (int i = 0; i < 4; i++) {
            x.run(1);
            due("waited", x.where(0, 5), waited[i]);
            due("state", x.where(0, 0), states[i]);
        }
        due("left at 10", x.where(0, 4), 17);
    }

    @Says("go: it leaves at t with its own TEAM")
    void terms3GoKeepsItsOwnTeam() {
        StageCoaches x = road(3, "when 1 do go;").and(y -> y.team(1, 1000), y -> y.coach(0, 0, 0, 2, 0), y -> y.run(8)).tell();
        whereIs("with a better TEAM there", x, 0, 1, 1, 0, 0, 14, 0);
        due("STRENGTH", x.horses(0, 0), 1000 - 24);
        due("the better one stays", x.horses(1, 1), 1);
    }

    @Says("change: with a TEAM at the INN it takes the strongest (the least number of like ones), its own is at the INN then, and it leaves at t + 2")
    void terms3ChangeTakesTheStrongest() {
        int[][] strengths = {{10, 10}, {10, 11}, {11, 10}, {0, 0}};
        int[] taken = {1, 2, 1, 1};
        for (int i = 0; i < strengths.length; i++) {
            int[] two = strengths[i];
            StageCoaches x = road(3, "when 1 do change;").and(y -> y.team(1, two[0]), y -> y.team(1, two[1]),
                y -> y.coach(0, 0, 0, 2, 0), y -> y.run(8)).tell();
            due("row " + i + ", weaker than its own", x.where(0, 2), taken[i]);
            due("leaves at", x.where(0, 4), 9);
            due("its own is at the INN", x.horses(0, 1), 1);
            due("with no COACH", x.horses(0, 2), NONE);
        }
    }

    @Says("(it is CHANGING up to then; MUD, STRENGTH are those of t); without one it has waited a minute.")
    void terms3ChangeWithoutATeamWaits() {
        StageCoaches x = road(3, "when 1 do change;").and(y -> y.team(0, 900), y -> y.team(2, 900), y -> y.coach(0, 0, 0, 2, 0),
            y -> y.run(8)).tell();
        whereIs("no TEAM at this INN", x, 0, 2, 1, 0, 0, NONE, 1);
        x.run(4);
        whereIs("still none", x, 0, 2, 1, 0, 0, NONE, 5);
        x.team(1, 0);
        x.run(1);
        whereIs("a TEAM", x, 0, 3, 1, 3, 0, 14, 5);
    }

    @Says("If no line holds: change, if there is a TEAM stronger than its own, else go.")
    void terms3NoLineHolds() {
        // Its own has 988 when it comes at minute 7; those at the INN get 8 stronger up to then.
        int[] strengths = {0, 979, 980, 981, 1000};
        int[] states = {1, 1, 1, 3, 3};
        for (String orders : new String[] {"", "when 0 do wait;", "when late>100 do wait; when 1=2 do change;"}) {
            for (int i = 0; i < strengths.length; i++) {
                int strength = strengths[i];
                StageCoaches x = road(3, orders).and(y -> y.team(1, strength), y -> y.coach(0, 0, 0, 2, 0), y -> y.run(8)).tell();
                due("[" + orders + "] against " + strength, x.where(0, 0), states[i]);
            }
            StageCoaches alone = road(3, orders).and(y -> y.team(2, 1000), y -> y.coach(0, 0, 0, 2, 0), y -> y.run(8)).tell();
            due("[" + orders + "] without a TEAM", alone.where(0, 0), 1);
        }
    }

    // ---- (3) and what lies between ----

    @Says("(3) THE CLOCK is t + 1.")
    void terms3ClockGoesByOne() {
        StageCoaches x = new StageCoaches();
        for (int t = 0; t < 3; t++) {
            due("CLOCK", x.about(0), t);
            x.run(1);
        }
        due("CLOCK", x.about(0), 3);
    }

    @Says("A COACH that leaves at m with a STAGE of w minutes is at the next INN at m + w; it is on the STAGE once MINUTE m has been, CHANGING as long as it has not.")
    void terms3ChangingUntilTheMinuteOfLeaving() {
        Story story = road(3, "when 1 do change;").and(y -> y.team(1, 1000), y -> y.coach(0, 0, 0, 2, 0));
        whereIs("minute 7 has been", story.and(y -> y.run(8)).tell(), 0, 3, 1, 1, 0, 9, 0);
        whereIs("minute 8 has been", story.and(y -> y.run(9)).tell(), 0, 3, 1, 1, 0, 9, 0);
        whereIs("minute 9 has been", story.and(y -> y.run(10)).tell(), 0, 1, 1, 1, 0, 16, 0);
        whereIs("minute 15 has been", story.and(y -> y.run(16)).tell(), 0, 1, 1, 1, 0, 16, 0);
        whereIs("minute 16 has been", story.and(y -> y.run(17)).tell(), 0, 4, 2, NONE, 0, NONE, 0);
    }

    @Says("LATE of a COACH at the INN where it was last (arrived; at first START's) is arrival less TOLD (0 at first)")
    void terms3LateIsNoneAtFirstAndThenByInn() {
        Story story = new Story(y -> y.stage(1, 0, 0), y -> y.coach(0, 0, 0, 2, 0), y -> y.run(20));
        StageCoaches x = story.tell();
        due("waiting at the first INN", x.where(0, 3), 0);
        x.team(0, 1000);
        x.run(7);
        due("on the first STAGE", x.where(0, 3), 0);
        x.run(1);
        due("at the next INN", x.where(0, 3), 20);
        x.run(7);
        due("at the last, no change", x.where(0, 3), 18);
    }

    @Says("LATE of a COACH at the INN where it was last (arrived; at first START's) is arrival less TOLD (0 at first)")
    void terms3LateDoesNotGrowWhileItWaits() {
        StageCoaches x = road(3, "when 1 do wait;").and(y -> y.coach(0, 0, 0, 2, 0), y -> y.run(500)).tell();
        due("HELD", x.where(0, 0), 2);
        due("LATE", x.where(0, 3), 0);
        due("WAITED is of the INNS ahead of this one", x.part(0, 3), 0);
        due("waited", x.where(0, 5), 493);
    }

    @Says("3 WAITED, minutes at all INNS ahead of this one")
    void terms3WaitedOfAllInnsAhead() {
        StageCoaches x = new Story(y -> y.stage(1, 0, 0), y -> y.stage(1, 0, 0), y -> y.coach(0, 0, 0, 3, 0), y -> y.run(4),
            y -> y.team(0, 1000), y -> Checks.order(y, "when waited<inn+inn do wait; when 1 do go;")).tell();
        int[] clocks = {5, 11, 12, 20, 21, 32};
        int[] waited = {0, 0, 4, 4, 6, 10};
        for (int i = 0; i < clocks.length; i++) {
            x.run(clocks[i] - x.about(0));
            due("WAITED at clock " + clocks[i], x.part(0, 3), waited[i]);
        }
        due("DONE", x.where(0, 0), 4);
        due("LATE", x.where(0, 3), 10 - 4);
    }

    @Says("4 CHANGED: 2 for each change less 2 for each INN that it left but the first.")
    void terms3ChangedAtNoInnAndAtEach() {
        StageCoaches never = road(8, "when 1 do go;").and(y -> y.coach(0, 0, 0, 7, 0), y -> y.run(50)).tell();
        due("never: DONE", never.where(0, 0), 4);
        due("never: CHANGED", never.part(0, 4), -12);
        due("never: LATE", never.where(0, 3), -12);
        Story each = road(8, "when 1 do change;");
        for (int inn = 1; inn < 7; inn++) {
            int at = inn;
            each = each.and(y -> y.team(at, 1000));
        }
        StageCoaches always = each.and(y -> y.coach(0, 0, 0, 7, 0), y -> y.run(62)).tell();
        due("each: DONE", always.where(0, 0), 4);
        due("each: CHANGED", always.part(0, 4), 0);
        due("each: LATE", always.where(0, 3), 0);
        StageCoaches one = each.and(y -> Checks.order(y, "when inn=3 do change; when 1 do go;"), y -> y.coach(0, 0, 0, 7, 0),
            y -> y.run(52)).tell();
        due("one: DONE", one.where(0, 0), 4);
        due("one: CHANGED", one.part(0, 4), -10);
    }

    @Says("4 CHANGED: 2 for each change less 2 for each INN that it left but the first.")
    void terms3ChangedCountsFromTheNextInnOn() {
        Story story = road(4, "when 1 do go;").and(y -> y.coach(0, 0, 0, 3, 0));
        int[] clocks = {8, 14, 15, 21, 22};
        int[] changed = {0, 0, -2, -2, -4};
        for (int i = 0; i < clocks.length; i++) {
            int clock = clocks[i];
            StageCoaches x = story.and(y -> y.run(clock)).tell();
            due("CHANGED at clock " + clock, x.part(0, 4), changed[i]);
            due("LATE at clock " + clock, x.where(0, 3), changed[i]);
        }
    }

    @Says("by PARTS: 0 MUDS, 1 LOADS, 2 WEAKS of all its STAGES done")
    void terms3PartsAreOfStagesDone() {
        StageCoaches x = new Story(y -> y.first(4, 0, 0), y -> y.mud(0, 9), y -> y.team(0, 0), y -> y.coach(0, 50, 0, 1, 0),
            y -> y.run(1)).tell();
        // COST 48 + 45 + 50 with 1: WEAKS 15; 28 + 9 + 5 + 15.
        due("at the next INN at", x.where(0, 4), 57);
        x.run(56);
        row("on the STAGE", new int[] {0, 0, 0, 0, 0}, part -> x.part(0, part));
        x.run(1);
        row("done", new int[] {9, 5, 15, 0, 0}, part -> x.part(0, part));
        due("LATE", x.where(0, 3), 29);
    }
}
