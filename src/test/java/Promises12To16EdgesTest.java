/** The boundary cases of promises 12 to 16: run, where, part, told, horses. */
public final class Promises12To16EdgesTest extends Edges {
    private static final int[] WRONG = {MIN, -1, MAX};

    public static void main(String[] args) throws Exception {
        new Promises12To16EdgesTest().runAll();
    }

    /**
     * One COACH with all PARTS of LATE, up to a minute. It waits for TEAM 1 from 2 to 5, is at INN 1 at 48, waits two
     * minutes, changes to TEAM 0 at 50, leaves at 52, is at INN 2 at 68, goes on, and is DONE at 77.
     */
    private static StageCoaches journey(int minute) {
        Story begin = new Story(x -> x.first(4, 1, 0), x -> x.stage(2, 0, 0), x -> x.stage(1, 0, 0), x -> x.mud(0, 5),
            x -> x.team(1, 1000), x -> x.coach(0, 25, 0, 3, 2),
            x -> Checks.order(x, "when inn=1 and waited<2 do wait;when inn=1 do change;when 1 do go;"));
        if (minute < 5) {
            return begin.and(x -> x.run(minute)).tell();
        }
        return begin.and(x -> x.run(5), x -> x.team(0, 49), x -> x.run(minute - 5)).tell();
    }

    private void whereAt(int minute, int... want) {
        StageCoaches x = journey(minute);
        row("where at " + minute, want, what -> x.where(0, what));
    }

    private void partsAt(int minute, int... want) {
        StageCoaches x = journey(minute);
        row("part at " + minute, want, part -> x.part(0, part));
        int sum = 0;
        for (int part : want) {
            sum += part;
        }
        due("LATE at " + minute, x.where(0, 3), sum);
    }

    // ---- promise 12 ----

    @Says("n MINUTES (0 .. 1500): how many COACHES became DONE in them; NONE for another n.")
    void promise12RunRefusesAnotherN() {
        ranges(Story.busy(), "run", 0, 1500, NONE, (x, n) -> x.run(n));
    }

    @Says("n MINUTES (0 .. 1500)")
    void promise12RunOfNoneAndOfTheMost() {
        StageCoaches x = new StageCoaches();
        due("run(0)", x.run(0), 0);
        due("CLOCK", x.about(0), 0);
        due("run(1500)", x.run(1500), 0);
        due("CLOCK", x.about(0), 1500);
        due("run(1)", x.run(1), 0);
        due("CLOCK", x.about(0), 1501);
        same("run(0) does nothing", Story.look(Story.busy().and(y -> y.run(0)).tell()), Story.look(Story.busy().tell()));
    }

    @Says("n MINUTES (0 .. 1500)")
    void promise12RunInPartsIsTheSame() {
        String whole = Story.look(Story.busy().and(x -> x.run(100)).tell());
        same("40 and 60", Story.look(Story.busy().and(x -> x.run(40), x -> x.run(60)).tell()), whole);
    }

    @Says("how many COACHES became DONE in them")
    void promise12RunCountsTheMinuteOfArrival() {
        Story one = new Story(x -> x.team(0, 100), x -> x.coach(0, 0, 0, 1, 0));
        StageCoaches x = one.tell();
        due("minutes 0 to 6", x.run(7), 0);
        due("minute 7", x.run(1), 1);
        due("not again", x.run(1500), 0);
        due("in one run", one.tell().run(8), 1);
    }

    @Says("how many COACHES became DONE in them")
    void promise12RunCountsAllEight() {
        StageCoaches x = new StageCoaches();
        for (int i = 0; i < 8; i++) {
            x.team(0, 1000);
            x.coach(0, 0, 0, 1, 0);
        }
        due("before", x.run(7), 0);
        due("all in one minute", x.run(1), 8);
    }

    // ---- promise 13 ----

    @Says("Of a COACH what 0: 0 not left yet")
    void promise13WhereNotLeftYet() {
        whereAt(0, 0, 0, NONE, 0, NONE, 0);
        whereAt(2, 0, 0, NONE, 0, NONE, 0);
        whereAt(3, 0, 0, NONE, 0, NONE, 1);
        whereAt(5, 0, 0, NONE, 0, NONE, 3);
    }

    @Says("1 on a STAGE")
    void promise13WhereOnAStage() {
        whereAt(6, 1, 0, 1, 0, 48, 0);
        whereAt(48, 1, 0, 1, 0, 48, 0);
        whereAt(53, 1, 1, 0, 16, 68, 0);
        whereAt(68, 1, 1, 0, 16, 68, 0);
    }

    @Says("2 HELD")
    void promise13WhereHeld() {
        whereAt(49, 2, 1, 1, 16, NONE, 1);
        whereAt(50, 2, 1, 1, 16, NONE, 2);
    }

    @Says("3 CHANGING")
    void promise13WhereChanging() {
        whereAt(51, 3, 1, 0, 16, 52, 2);
        whereAt(52, 3, 1, 0, 16, 52, 2);
    }

    @Says("4 DONE")
    void promise13WhereDone() {
        whereAt(77, 1, 2, 0, 20, 77, 0);
        whereAt(78, 4, 3, NONE, 20, NONE, 0);
        whereAt(1000, 4, 3, NONE, 20, NONE, 0);
    }

    @Says("1: the INN where it was last; 2: its TEAM (NONE); 3: LATE")
    void promise13InnTeamAndLateBeforeAndBehindEachArrival() {
        int[] minutes = {5, 6, 48, 49, 50, 51, 68, 69, 77, 78};
        int[] inns = {0, 0, 0, 1, 1, 1, 1, 2, 2, 3};
        int[] teams = {NONE, 1, 1, 1, 1, 0, 0, 0, 0, NONE};
        int[] lates = {0, 0, 0, 16, 16, 16, 16, 20, 20, 20};
        for (int i = 0; i < minutes.length; i++) {
            StageCoaches x = journey(minutes[i]);
            due("INN at " + minutes[i], x.where(0, 1), inns[i]);
            due("TEAM at " + minutes[i], x.where(0, 2), teams[i]);
            due("LATE at " + minutes[i], x.where(0, 3), lates[i]);
        }
    }

    @Says("4: the minute at which it is at the next INN (on a STAGE), leaves (CHANGING), else NONE")
    void promise13NextMinuteInEachState() {
        int[] minutes = {0, 5, 6, 48, 49, 50, 51, 52, 53, 68, 69, 77, 78, 500};
        int[] next = {NONE, NONE, 48, 48, NONE, NONE, 52, 52, 68, 68, 77, 77, NONE, NONE};
        for (int i = 0; i < minutes.length; i++) {
            due("at " + minutes[i], journey(minutes[i]).where(0, 4), next[i]);
        }
    }

    @Says("5: minutes waited at this INN so far (0 when on a STAGE)")
    void promise13WaitedBeginsAnewAtTheNextInn() {
        due("having waited 3 at INN 0, on a STAGE", journey(6).where(0, 5), 0);
        due("at INN 1, the first minute", journey(49).where(0, 5), 1);
        due("having waited 2 at INN 1, on a STAGE", journey(53).where(0, 5), 0);
        due("at INN 2 and gone", journey(69).where(0, 5), 0);
    }

    @Says("NONE if there is none such.")
    void promise13WhereOfNoneSuch() {
        StageCoaches x = journey(50);
        for (int wrong : WRONG) {
            due("where(0, " + wrong + ")", x.where(0, wrong), NONE);
            due("where(" + wrong + ", 0)", x.where(wrong, 0), NONE);
        }
        due("where(0, 6)", x.where(0, 6), NONE);
        due("where(1, 0)", x.where(1, 0), NONE);
        StageCoaches full = new StageCoaches();
        for (int i = 0; i < 8; i++) {
            full.coach(0, 0, 0, 1, 0);
        }
        due("where(7, 0)", full.where(7, 0), 0);
        due("where(8, 0)", full.where(8, 0), NONE);
    }

    // ---- promise 14 ----

    @Says("A PART of LATE of a COACH; 0 if there is none such.")
    void promise14PartsAreNoneAtFirst() {
        partsAt(0, 0, 0, 0, 0, 0);
        partsAt(5, 0, 0, 0, 0, 0);
        partsAt(48, 0, 0, 0, 0, 0);
    }

    @Says("(They add up to LATE.)")
    void promise14PartsAddUpAtEachInn() {
        partsAt(49, 5, 2, 6, 3, 0);
        partsAt(50, 5, 2, 6, 3, 0);
        partsAt(51, 5, 2, 6, 3, 0);
        partsAt(53, 5, 2, 6, 3, 0);
        partsAt(68, 5, 2, 6, 3, 0);
        partsAt(69, 5, 4, 6, 5, 0);
        partsAt(78, 5, 6, 6, 5, -2);
    }

    @Says("A PART of LATE of a COACH; 0 if there is none such.")
    void promise14PartOfNoneSuch() {
        StageCoaches x = journey(78);
        for (int wrong : WRONG) {
            due("part(0, " + wrong + ")", x.part(0, wrong), 0);
            due("part(" + wrong + ", 0)", x.part(wrong, 0), 0);
        }
        due("part(0, 5)", x.part(0, 5), 0);
        due("part(1, 0)", x.part(1, 0), 0);
    }

    // ---- promise 15 ----

    @Says("TOLD; NONE if there is none such, or the INN is not on its way.")
    void promise15ToldOfAnInnThatIsNotOnItsWay() {
        Story road = new Story(x -> x.stage(1, 0, 0), x -> x.stage(1, 0, 0), x -> x.stage(1, 0, 0),
            x -> x.coach(0, 0, 1, 3, 5), x -> x.coach(0, 0, 3, 1, 5), x -> x.coach(0, 0, 4, 0, 0));
        StageCoaches x = road.tell();
        row("told(0)", new int[] {NONE, 5, 12, 21, NONE, NONE}, inn -> x.told(0, inn));
        row("told(1)", new int[] {NONE, 21, 12, 5, NONE, NONE}, inn -> x.told(1, inn));
        row("told(2)", new int[] {34, 25, 16, 7, 0, NONE}, inn -> x.told(2, inn));
        for (int wrong : WRONG) {
            due("told(0, " + wrong + ")", x.told(0, wrong), NONE);
        }
    }

    @Says("TOLD; NONE if there is none such")
    void promise15ToldOfNoCoach() {
        StageCoaches x = journey(0);
        for (int wrong : WRONG) {
            due("told(" + wrong + ", 0)", x.told(wrong, 0), NONE);
        }
        due("told(1, 0)", x.told(1, 0), NONE);
        due("told(0, 0)", x.told(0, 0), 2);
    }

    @Says("TOLD; NONE if there is none such")
    void promise15ToldStaysAsTimeGoes() {
        for (int minute : new int[] {0, 5, 48, 51, 78}) {
            StageCoaches x = journey(minute);
            row("told at " + minute, new int[] {2, 32, 48, 57}, inn -> x.told(0, inn));
        }
    }

    // ---- promise 16 ----

    @Says("Of a TEAM what 0: STRENGTH, 1: its INN (NONE: with a COACH), 2: its COACH (NONE).")
    void promise16HorsesAtAnInnOrWithACoach() {
        StageCoaches before = journey(50);
        row("TEAM 0 before", new int[] {1000, 1, NONE}, what -> before.horses(0, what));
        row("TEAM 1 before", new int[] {0, NONE, 0}, what -> before.horses(1, what));
        StageCoaches changing = journey(51);
        row("TEAM 0 taken", new int[] {951, NONE, 0}, what -> changing.horses(0, what));
        row("TEAM 1 left", new int[] {0, 1, NONE}, what -> changing.horses(1, what));
        StageCoaches done = journey(78);
        row("TEAM 0 at last", new int[] {914, 3, NONE}, what -> done.horses(0, what));
    }

    @Says("NONE if there is none such.")
    void promise16HorsesOfNoneSuch() {
        StageCoaches x = journey(50);
        for (int wrong : WRONG) {
            due("horses(0, " + wrong + ")", x.horses(0, wrong), NONE);
            due("horses(" + wrong + ", 0)", x.horses(wrong, 0), NONE);
        }
        due("horses(0, 3)", x.horses(0, 3), NONE);
        due("horses(2, 0)", x.horses(2, 0), NONE);
        StageCoaches full = new StageCoaches();
        for (int i = 0; i < 20; i++) {
            full.team(1, 7);
        }
        due("horses(19, 0)", full.horses(19, 0), 7);
        due("horses(20, 0)", full.horses(20, 0), NONE);
    }
}
