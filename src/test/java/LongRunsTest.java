import java.lang.reflect.Array;
import java.lang.reflect.Field;
import java.lang.reflect.Modifier;
import java.util.Collections;
import java.util.IdentityHashMap;
import java.util.Set;

/** "An object is used for at most 512 calls after it has been made": each story here has just so many. */
public final class LongRunsTest {
    private static final Checks CHECKS = new Checks();

    public static void main(String[] args) throws ReflectiveOperationException {
        clockOfAllMinutes();
        waitingAllTheTime();
        heldAllTheTime();
        latestStart();
        ordersAgainAndAgain();
        tripsAndBookingsAgainAndAgain();
        refusedAgainAndAgain();
        room();
        CHECKS.finish();
    }

    private static void runs(StageCoaches x, int calls) {
        for (int i = 0; i < calls; i++) {
            CHECKS.due("run(1500)", x.run(1500), 0);
        }
    }

    private static void clockOfAllMinutes() {
        StageCoaches x = new StageCoaches();
        runs(x, 511);
        CHECKS.due("about(0) after 511 runs", x.about(0), 511 * 1500);
    }

    private static void waitingAllTheTime() {
        StageCoaches x = new StageCoaches();
        CHECKS.due("coach", x.coach(0, 0, 0, 1, 0), 0);
        runs(x, 506);
        CHECKS.due("waited so far", x.where(0, 5), 506 * 1500);
        CHECKS.due("team", x.team(0, 1000), 0);
        CHECKS.due("seven minutes for a mile", x.run(8), 1);
        CHECKS.due("late", x.where(0, 3), 506 * 1500);
        CHECKS.due("waited", x.part(0, 3), 506 * 1500);
    }

    private static void heldAllTheTime() {
        StageCoaches x = new StageCoaches();
        CHECKS.due("stage", x.stage(1, 0, 0), 2);
        CHECKS.due("team", x.team(0, 1000), 0);
        CHECKS.due("coach", x.coach(0, 0, 0, 2, 0), 0);
        CHECKS.due("feed", x.feed(0x7768656e, 0x20312064, 0x6f207761, 0x69743b20, 0x20202020), 20);
        CHECKS.due("orders", x.orders(), 1);
        runs(x, 502);
        CHECKS.due("waited so far", x.where(0, 5), 502 * 1500 - 7);
        CHECKS.due("no orders", x.orders(), 0);
        CHECKS.due("seven minutes for a mile", x.run(8), 1);
        CHECKS.due("late, but for the change that was granted", x.where(0, 3), 502 * 1500 - 7 - 2);
        CHECKS.due("waited", x.part(0, 3), 502 * 1500 - 7);
    }

    private static void latestStart() {
        StageCoaches x = new StageCoaches();
        CHECKS.due("team", x.team(0, 1000), 0);
        CHECKS.due("coach", x.coach(2, 0, 0, 1, 10000000), 0);
        runs(x, 507);
        CHECKS.due("not left yet", x.where(0, 0), 0);
        CHECKS.due("has not waited", x.where(0, 5), 0);
        CHECKS.due("told", x.told(0, 1), 10000009);
    }

    private static void ordersAgainAndAgain() {
        StageCoaches x = new StageCoaches();
        for (int i = 0; i < 127; i++) {
            CHECKS.due("feed", x.feed(0x7768656e, 0x20312064, 0x6f20676f, 0x3b000000, 0), 20);
            CHECKS.due("end", x.end(13), 13);
            CHECKS.due("orders", x.orders(), 1);
            CHECKS.due("lines", x.about(4), 1);
        }
        CHECKS.due("feed", x.feed(0x7768656e, 0x20312064, 0x6f20676f, 0x3b247768, 0), 20);
        CHECKS.due("orders", x.orders(), -1);
        CHECKS.due("fault", x.fault(0), 1);
        CHECKS.due("place", x.fault(1), 13);
    }

    private static void tripsAndBookingsAgainAndAgain() {
        StageCoaches x = new StageCoaches();
        CHECKS.due("coach", x.coach(0, 0, 0, 1, 0), 0);
        for (int i = 0; i < 100; i++) {
            CHECKS.due("book", x.book(0, 0, 1), i);
            CHECKS.due("untell", x.untell(i), true);
        }
        for (int i = 0; i < 11; i++) {
            for (int j = 0; j < 24; j++) {
                CHECKS.due("trip", x.trip(0, j % 2 == 0, 7 * j), j + 1);
            }
            CHECKS.due("fewest", x.fewest(0), 1);
            CHECKS.due("clear", x.clear(), 24);
        }
        CHECKS.due("trip", x.trip(0, true, 0), 1);
        for (int i = 0; i < 23; i++) {
            CHECKS.due("fewest", x.fewest(10000), 1);
        }
        CHECKS.due("a 101st booking", x.book(0, 0, 1), -1);
    }

    private static void refusedAgainAndAgain() {
        StageCoaches x = new StageCoaches();
        for (int i = 0; i < 8; i++) {
            CHECKS.due("coach", x.coach(0, 0, 0, 1, 0), i);
        }
        for (int i = 0; i < 502; i++) {
            CHECKS.due("a ninth coach", x.coach(0, 0, 0, 1, 0), -1);
        }
        CHECKS.due("coaches", x.about(3), 8);
        CHECKS.due("the ninth", x.where(8, 0), -1);
    }

    /** All calls of a run live in one room: what an object holds must not grow, but for its coaches. */
    private static void room() throws ReflectiveOperationException {
        StageCoaches x = new StageCoaches();
        long fresh = parts(x);
        CHECKS.due("a new object is small: " + fresh, fresh < 6000, true);
        for (int i = 0; i < 100; i++) {
            x.book(0, 0, 1);
            x.team(0, 1);
            x.trip(0, true, i);
            Checks.order(x, "when 1 do wait;");
            x.run(3);
        }
        CHECKS.due("it has not grown", parts(x), fresh);
        for (int i = 0; i < 8; i++) {
            x.coach(0, 0, 0, 1, 1000);
        }
        CHECKS.due("eight coaches are small: " + parts(x), parts(x) - fresh < 400, true);
    }

    private static long parts(Object root) throws ReflectiveOperationException {
        return parts(root, Collections.newSetFromMap(new IdentityHashMap<>()));
    }

    /** One for each object, field and element. */
    private static long parts(Object one, Set<Object> met) throws ReflectiveOperationException {
        if (one == null || !met.add(one)) {
            return 0;
        }
        long sum = 1;
        if (one.getClass().isArray()) {
            sum += Array.getLength(one);
            for (int i = 0; i < Array.getLength(one) && !one.getClass().getComponentType().isPrimitive(); i++) {
                sum += parts(Array.get(one, i), met);
            }
            return sum;
        }
        for (Field field : one.getClass().getDeclaredFields()) {
            if (!Modifier.isStatic(field.getModifiers())) {
                field.setAccessible(true);
                sum++;
                sum += field.getType().isPrimitive() ? 0 : parts(field.get(one), met);
            }
        }
        return sum;
    }
}
