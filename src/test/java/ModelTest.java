import java.util.Random;

/** Random runs of calls, the program against the model; the seeds are fixed, so that each run is the same. */
public final class ModelTest {
    private static final Checks CHECKS = new Checks();
    private static final String[] WORDS = {
        "when", "do", "wait", "go", "change", "or", "and", "not", "late", "load", "mud", "miles", "mail", "night",
        "fresh", "tired", "inn", "waited", ";", "<", ">", "=", "+", "-", "(", ")", "1", "0", "7", "123456",
        "1234567", "foo", "abcdefghi", "1a", "$", "\n", " ", "late2"};
    private static final String[] OPERANDS = {
        "late", "load", "mud", "miles", "mail", "night", "fresh", "tired", "inn", "waited", "0", "1", "2", "3", "10",
        "25", "300", "999999"};

    private final Random random;
    private final StageCoaches x = new StageCoaches();
    private final Model y = new Model();
    private final int seed;

    private ModelTest(int seed) {
        this.seed = seed;
        random = new Random(seed);
    }

    public static void main(String[] args) {
        int runs = args.length > 0 ? Integer.parseInt(args[0]) : 400;
        for (int seed = 0; seed < runs; seed++) {
            new ModelTest(seed).play();
        }
        CHECKS.finish();
    }

    private void play() {
        if (random.nextInt(4) > 0) {
            setUp();
        }
        for (int i = 0; i < 60; i++) {
            for (int j = 0; j < 3; j++) {
                call(random.nextInt(25));
            }
            compareAll();
        }
    }

    private int some(int low, int high) {
        int odd = random.nextInt(40);
        if (odd == 0) {
            return low - 1;
        }
        if (odd == 1) {
            return high + 1;
        }
        if (odd == 2) {
            return random.nextBoolean() ? Integer.MAX_VALUE : Integer.MIN_VALUE;
        }
        return within(low, high);
    }

    private int within(int low, int high) {
        return low + random.nextInt(Math.max(1, high - low + 1));
    }

    private void setUp() {
        int inns = within(2, 8);
        for (int i = 2; i < inns; i++) {
            call(0);
        }
        for (int i = within(0, 6); i > 0; i--) {
            call(4);
            call(3);
            call(2);
        }
        call(6);
        for (int i = within(1, 8); i > 0; i--) {
            call(5);
        }
    }

    private void due(String call, int got, int want) {
        CHECKS.due("seed " + seed + ": " + call, got, want);
    }

    private void due(String call, boolean got, boolean want) {
        CHECKS.due("seed " + seed + ": " + call, got, want);
    }

    private void call(int which) {
        int inns = y.about(1);
        int now = y.about(0);
        int a = some(0, inns - 1);
        int b = some(0, inns - 1);
        int coach = some(0, Math.max(0, y.about(3) - 1));
        switch (which) {
            case 0: stage(some(1, random.nextBoolean() ? 3 : 20), some(0, 9), some(0, 3)); break;
            case 1: first(some(1, 20), some(0, 9), some(0, 3)); break;
            case 2: mud(a, some(0, 9)); break;
            case 3: oats(a, random.nextInt(6) == 0 ? some(0, 100000) : some(0, 300)); break;
            case 4: team(a, some(0, random.nextBoolean() ? 150 : 1000)); break;
            case 5: coach(some(0, 2), some(0, 50), a, b, random.nextInt(9) == 0 ? some(now, 10000000) : some(now, now + 40)); break;
            case 6: case 7: orders(random.nextBoolean() ? goodText() : wildText()); break;
            case 8: feed(); break;
            case 9: case 10: case 11: case 12: run(random.nextInt(8) == 0 ? some(0, 1500) : some(0, 25)); break;
            case 13: case 14: trip(a, random.nextBoolean(), some(0, random.nextBoolean() ? 200 : 10000)); break;
            case 15: clear(); break;
            case 16: case 17: case 18: book(coach, a, b); break;
            case 19: untell(some(0, Math.max(0, y.about(6) - 1))); break;
            case 20: parted(random.nextBoolean() ? some(0, 1000000000) : some(0, 100), some(0, 3)); break;
            case 21: fewest(random.nextBoolean() ? some(0, 10) : some(0, 10000)); break;
            case 22: behindAll(random.nextBoolean() ? some(0, 10) : some(0, 10000)); break;
            case 23: free(coach, a, random.nextBoolean() ? some(0, now + 1) : some(now - 9, now)); break;
            default: end(some(0, y.about(7))); break;
        }
    }

    private void stage(int a, int b, int c) {
        due("stage(" + a + ", " + b + ", " + c + ")", x.stage(a, b, c), y.stage(a, b, c));
    }

    private void first(int a, int b, int c) {
        due("first(" + a + ", " + b + ", " + c + ")", x.first(a, b, c), y.first(a, b, c));
    }

    private void mud(int a, int b) {
        due("mud(" + a + ", " + b + ")", x.mud(a, b), y.mud(a, b));
    }

    private void oats(int a, int b) {
        due("oats(" + a + ", " + b + ")", x.oats(a, b), y.oats(a, b));
    }

    private void team(int a, int b) {
        due("team(" + a + ", " + b + ")", x.team(a, b), y.team(a, b));
    }

    private void coach(int a, int b, int c, int d, int e) {
        String text = "coach(" + a + ", " + b + ", " + c + ", " + d + ", " + e + ")";
        due(text, x.coach(a, b, c, d, e), y.coach(a, b, c, d, e));
    }

    private void feed() {
        int a = random.nextInt();
        due("feed", x.feed(a, 1, -1, a, a), y.feed(a, 1, -1, a, a));
    }

    private void end(int n) {
        due("end(" + n + ")", x.end(n), y.end(n));
    }

    private void run(int n) {
        due("run(" + n + ")", x.run(n), y.run(n));
    }

    private void trip(int a, boolean down, int b) {
        due("trip(" + a + ", " + down + ", " + b + ")", x.trip(a, down, b), y.trip(a, down, b));
    }

    private void clear() {
        due("clear()", x.clear(), y.clear());
    }

    private void book(int a, int b, int c) {
        due("book(" + a + ", " + b + ", " + c + ")", x.book(a, b, c), y.book(a, b, c));
    }

    private void untell(int a) {
        due("untell(" + a + ")", x.untell(a), y.untell(a));
    }

    private void free(int a, int b, int c) {
        due("free(" + a + ", " + b + ", " + c + ")", x.free(a, b, c), y.free(a, b, c));
    }

    private void parted(int a, int b) {
        due("parted(" + a + ", " + b + ")", x.parted(a, b), y.parted(a, b));
    }

    private void fewest(int rest) {
        due("fewest(" + rest + ")", x.fewest(rest), y.fewest(rest));
    }

    private void behindAll(int rest) {
        for (int a = -1; a <= y.about(5); a++) {
            for (int b = -1; b <= y.about(5); b++) {
                due("behind(" + a + ", " + b + ", " + rest + ")", x.behind(a, b, rest), y.behind(a, b, rest));
            }
        }
    }

    private void orders(String text) {
        x.end(0);
        y.end(0);
        String cut = text.length() > 800 ? text.substring(0, 800) : text;
        for (int i = 0; i < cut.length(); i += 20) {
            int[] words = new int[5];
            for (int j = i; j < i + 20; j++) {
                words[(j - i) / 4] = words[(j - i) / 4] << 8 | (j < cut.length() ? cut.charAt(j) : 0);
            }
            due("feed", x.feed(words[0], words[1], words[2], words[3], words[4]), y.feed(words));
        }
        end(cut.length());
        due("orders of [" + cut + "]", x.orders(), y.orders());
        due("fault(0) of [" + cut + "]", x.fault(0), y.fault(0));
        due("fault(1) of [" + cut + "]", x.fault(1), y.fault(1));
    }

    private String goodText() {
        StringBuilder text = new StringBuilder();
        int lines = random.nextInt(6) == 0 ? within(8, 11) : within(0, 4);
        for (int i = 0; i < lines; i++) {
            String act = new String[] {"wait", "go", "change"}[random.nextInt(3)];
            String e = act.equals("wait") && random.nextBoolean() ? "waited<" + random.nextInt(5) : any(0);
            text.append("when ").append(e).append(" do ").append(act).append(random.nextBoolean() ? ";" : " ;\n");
        }
        return text.toString();
    }

    private String any(int depth) {
        StringBuilder text = new StringBuilder(one(depth));
        for (int i = random.nextInt(3); i > 0 && random.nextBoolean(); i--) {
            text.append(random.nextBoolean() ? " or " : " and ").append(one(depth));
        }
        return text.toString();
    }

    private String one(int depth) {
        if (depth < 9 && random.nextInt(4) == 0) {
            return "not " + one(depth + 1);
        }
        String sum = sum(depth);
        return random.nextInt(3) == 0 ? sum : sum + "<>=".charAt(random.nextInt(3)) + sum(depth);
    }

    private String sum(int depth) {
        StringBuilder text = new StringBuilder(term(depth));
        while (random.nextInt(3) == 0) {
            text.append(random.nextBoolean() ? "+" : "-").append(term(depth));
        }
        return text.toString();
    }

    private String term(int depth) {
        if (depth < 9 && random.nextInt(5) == 0) {
            return "(" + any(depth + 1) + ")";
        }
        return OPERANDS[random.nextInt(OPERANDS.length)];
    }

    private String wildText() {
        StringBuilder text = new StringBuilder(random.nextInt(3) == 0 ? "" : goodText());
        for (int i = random.nextInt(3); i > 0 && text.length() > 0; i--) {
            int at = random.nextInt(text.length());
            String word = WORDS[random.nextInt(WORDS.length)];
            int kind = random.nextInt(3);
            if (kind == 0) {
                text.insert(at, word);
            } else if (kind == 1) {
                text.setCharAt(at, (char) random.nextInt(256));
            } else {
                text.deleteCharAt(at);
            }
        }
        for (int i = random.nextInt(12); i > 0; i--) {
            text.append(WORDS[random.nextInt(WORDS.length)]).append(random.nextBoolean() ? " " : "");
        }
        return text.toString();
    }

    private void compareAll() {
        for (int what = -1; what <= 8; what++) {
            due("about(" + what + ")", x.about(what), y.about(what));
        }
        for (int k = -1; k <= y.about(1); k++) {
            for (int what = -1; what <= 5; what++) {
                due("road(" + k + ", " + what + ")", x.road(k, what), y.road(k, what));
            }
        }
        for (int k = -1; k <= y.about(2); k++) {
            for (int what = -1; what <= 3; what++) {
                due("horses(" + k + ", " + what + ")", x.horses(k, what), y.horses(k, what));
            }
        }
        for (int k = -1; k <= y.about(3); k++) {
            for (int what = -1; what <= 8; what++) {
                due("where(" + k + ", " + what + ")", x.where(k, what), y.where(k, what));
                due("part(" + k + ", " + what + ")", x.part(k, what), y.part(k, what));
                due("told(" + k + ", " + what + ")", x.told(k, what), y.told(k, what));
                due("free(" + k + ", " + what + ", now)", x.free(k, what, y.about(0)), y.free(k, what, y.about(0)));
            }
        }
    }
}
