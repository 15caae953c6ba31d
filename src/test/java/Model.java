import java.util.ArrayDeque;
import java.util.ArrayList;
import java.util.Arrays;
import java.util.Deque;
import java.util.HashMap;
import java.util.List;
import java.util.Map;

/**
 * The document told a second time, in another way, to be compared with the program: coaches keep a log from which
 * LATE is told, ORDERS are read by a table of what may come next, FEWEST is a matching.
 */
final class Model {
    record Road(int miles, int climb, int master) { }

    record Ride(int from, int to, int leave, int arrive, int muds, int loads, int weaks, int waited, boolean changed) { }

    record Trip(int stage, boolean down, int minute) { }

    record Token(String text, int place, boolean ok) { }

    record Line(List<Token> e, String act) { }

    static final class Team {
        int strength;
        int inn;
        int coach = -1;
    }

    static final class Coach {
        int kind;
        int load;
        int from;
        int to;
        int start;
        int team = -1;
        boolean done;
        int here;
        int waited;
        boolean held;
        List<Ride> log = new ArrayList<>();
    }

    static final class Booking {
        int coach;
        int from;
        int to;
        int told;
        Integer untold;
    }

    private static final List<String> KEYS = List.of("when", "do", "wait", "go", "change", "or", "and", "not");
    private static final List<String> NAMES =
        List.of("late", "load", "mud", "miles", "mail", "night", "fresh", "tired", "inn", "waited");

    private final List<Road> road = new ArrayList<>(List.of(new Road(1, 0, 0)));
    private final List<Integer> mud = new ArrayList<>(List.of(0));
    private final List<Integer> oats = new ArrayList<>(List.of(0, 0));
    private final List<Team> teams = new ArrayList<>();
    private final List<Coach> coaches = new ArrayList<>();
    private final List<Trip> trips = new ArrayList<>();
    private final List<Booking> bookings = new ArrayList<>();
    private final List<Integer> tape = new ArrayList<>();
    private List<Line> lines = new ArrayList<>();
    private int fault;
    private int place = -1;
    private int clock;

    private static boolean in(int value, int low, int high) {
        return low <= value && value <= high;
    }

    private boolean inn(int k) {
        return in(k, 0, road.size());
    }

    int stage(int miles, int climb, int master) {
        if (!in(miles, 1, 20) || !in(climb, 0, 9) || !in(master, 0, 3) || road.size() == 7 || !coaches.isEmpty()) {
            return -1;
        }
        road.add(new Road(miles, climb, master));
        mud.add(0);
        oats.add(0);
        return road.size();
    }

    boolean first(int miles, int climb, int master) {
        if (!in(miles, 1, 20) || !in(climb, 0, 9) || !in(master, 0, 3) || !coaches.isEmpty()) {
            return false;
        }
        road.set(0, new Road(miles, climb, master));
        return true;
    }

    boolean mud(int stage, int depth) {
        if (!in(stage, 0, road.size() - 1) || !in(depth, 0, 9)) {
            return false;
        }
        mud.set(stage, depth);
        return true;
    }

    boolean oats(int inn, int amount) {
        if (!inn(inn) || !in(amount, 0, 100000) || oats.get(inn) + amount > 100000) {
            return false;
        }
        oats.set(inn, oats.get(inn) + amount);
        return true;
    }

    int team(int inn, int strength) {
        if (!inn(inn) || !in(strength, 0, 1000) || teams.size() == 20) {
            return -1;
        }
        Team team = new Team();
        team.inn = inn;
        team.strength = strength;
        teams.add(team);
        return teams.size() - 1;
    }

    int coach(int kind, int load, int from, int to, int start) {
        if (!in(kind, 0, 2) || !in(load, 0, 50) || !inn(from) || !inn(to) || from == to
            || !in(start, clock, 10000000) || coaches.size() == 8) {
            return -1;
        }
        Coach coach = new Coach();
        coach.kind = kind;
        coach.load = load;
        coach.from = from;
        coach.to = to;
        coach.start = start;
        coach.here = from;
        coaches.add(coach);
        return coaches.size() - 1;
    }

    int feed(int... words) {
        if (tape.size() + 20 > 800) {
            return -1;
        }
        for (int word : words) {
            tape.addAll(List.of(word >>> 24, word >>> 16 & 255, word >>> 8 & 255, word & 255));
        }
        return tape.size();
    }

    int end(int n) {
        if (!in(n, 0, tape.size())) {
            return -1;
        }
        tape.subList(n, tape.size()).clear();
        return n;
    }

    // ---- orders: a table of what may come next ----

    private static List<Token> tokens(String text) {
        List<Token> tokens = new ArrayList<>();
        int i = 0;
        while (i < text.length()) {
            char sign = text.charAt(i);
            if (sign == ' ' || sign == '\n') {
                i++;
                continue;
            }
            String rest = text.substring(i);
            String run = rest.replaceFirst("(?s)^([a-z]+|[0-9]+|.).*$", "$1");
            boolean ok = run.matches("[a-z]{1,8}|[0-9]{1,6}|[;<>=+()-]");
            ok &= !rest.matches("(?s)^[0-9]+[a-z].*$");
            tokens.add(new Token(run, i, ok));
            i += run.length();
        }
        tokens.add(new Token("", text.length(), true));
        return tokens;
    }

    int orders() {
        StringBuilder text = new StringBuilder();
        for (int sign : tape) {
            text.append((char) sign);
        }
        tape.clear();
        List<Line> read = new ArrayList<>();
        fault = 0;
        place = -1;
        String state = "line";
        int operands = 0;
        int depth = 0;
        boolean compared = false;
        Deque<int[]> open = new ArrayDeque<>();
        List<Token> e = new ArrayList<>();
        for (Token token : tokens(text.toString())) {
            String word = token.text;
            boolean name = word.matches("[a-z]+") && !KEYS.contains(word);
            boolean operand = name || word.matches("[0-9]+");
            String next = null;
            if (state.equals("line")) {
                next = word.equals("when") && read.size() < 10 ? "one" : word.isEmpty() ? "end" : null;
                depth = 0;
                compared = false;
                e = new ArrayList<>();
            } else if (state.equals("one") && depth >= 8) {
                next = null;
            } else if (state.equals("one") && word.equals("not")) {
                next = "one";
                depth++;
            } else if (state.equals("one") || state.equals("term")) {
                if (word.equals("(")) {
                    open.push(new int[] {depth, compared ? 1 : 0, depth + 1});
                    depth++;
                    compared = false;
                    next = "one";
                } else if (operand && operands < 100) {
                    operands++;
                    next = "behind";
                }
            } else if (state.equals("behind")) {
                if (word.equals("+") || word.equals("-")) {
                    next = "term";
                } else if (word.matches("[<>=]") && !compared) {
                    compared = true;
                    next = "term";
                } else if (word.equals("and") || word.equals("or")) {
                    compared = false;
                    depth = open.isEmpty() ? 0 : open.peek()[2];
                    next = "one";
                } else if (word.equals(")") && !open.isEmpty()) {
                    int[] outer = open.pop();
                    depth = outer[0];
                    compared = outer[1] == 1;
                    next = "behind";
                } else if (word.equals("do") && open.isEmpty()) {
                    next = "act";
                }
            } else if (state.equals("act")) {
                next = word.equals("wait") || word.equals("go") || word.equals("change") ? "stop" : null;
                read.add(new Line(e, word));
            } else if (state.equals("stop")) {
                next = word.equals(";") ? "line" : null;
            }
            if (!token.ok || next == null || name && !NAMES.contains(word)) {
                fault = !token.ok ? 1 : next == null ? 2 : 3;
                place = token.place;
                return -1;
            }
            if (List.of("one", "term", "behind").contains(state) && !next.equals("act")) {
                e.add(token);
            }
            state = next;
        }
        lines = read;
        return lines.size();
    }

    int fault(int what) {
        return what == 0 ? fault : what == 1 ? place : -1;
    }

    private static int value(List<Token> e, Map<String, Integer> names) {
        // The least binding operator outside of brackets, from the right, parts the text.
        for (List<String> level : List.of(List.of("or"), List.of("and"))) {
            int at = lastOutside(e, level);
            if (at >= 0) {
                boolean left = value(e.subList(0, at), names) != 0;
                boolean right = value(e.subList(at + 1, e.size()), names) != 0;
                return (level.get(0).equals("or") ? left || right : left && right) ? 1 : 0;
            }
        }
        if (e.get(0).text.equals("not")) {
            return value(e.subList(1, e.size()), names) == 0 ? 1 : 0;
        }
        for (List<String> level : List.of(List.of("<", ">", "="), List.of("+", "-"))) {
            int at = lastOutside(e, level);
            if (at >= 0) {
                int left = value(e.subList(0, at), names);
                int right = value(e.subList(at + 1, e.size()), names);
                switch (e.get(at).text) {
                    case "<": return left < right ? 1 : 0;
                    case ">": return left > right ? 1 : 0;
                    case "=": return left == right ? 1 : 0;
                    case "+": return left + right;
                    default: return left - right;
                }
            }
        }
        String word = e.get(0).text;
        if (word.equals("(")) {
            return value(e.subList(1, e.size() - 1), names);
        }
        return names.containsKey(word) ? names.get(word) : Integer.parseInt(word);
    }

    private static int lastOutside(List<Token> e, List<String> signs) {
        int open = 0;
        for (int i = e.size() - 1; i >= 0; i--) {
            String word = e.get(i).text;
            open += word.equals(")") ? 1 : word.equals("(") ? -1 : 0;
            if (open == 0 && signs.contains(word)) {
                return i;
            }
        }
        return -1;
    }

    // ---- minutes ----

    int run(int n) {
        if (!in(n, 0, 1500)) {
            return -1;
        }
        int done = 0;
        for (int i = 0; i < n; i++) {
            done += minute();
        }
        return done;
    }

    private int minute() {
        for (Team team : teams) {
            if (team.inn >= 0 && team.strength < 1000) {
                int left = oats.get(team.inn);
                team.strength = Math.min(1000, team.strength + (left > 0 ? 3 : 1));
                oats.set(team.inn, Math.max(0, left - 1));
            }
        }
        int done = 0;
        for (Coach coach : coaches) {
            boolean was = coach.done;
            step(coach);
            done += coach.done && !was ? 1 : 0;
        }
        clock++;
        return done;
    }

    private static Ride last(Coach coach) {
        return coach.log.isEmpty() ? null : coach.log.get(coach.log.size() - 1);
    }

    private int best(int inn) {
        int best = -1;
        for (int i = teams.size() - 1; i >= 0; i--) {
            if (teams.get(i).inn == inn && (best < 0 || teams.get(i).strength >= teams.get(best).strength)) {
                best = i;
            }
        }
        return best;
    }

    private void step(Coach coach) {
        Ride last = last(coach);
        if (coach.done) {
            return;
        }
        if (last == null) {
            if (coach.start <= clock) {
                int team = best(coach.from);
                if (team < 0) {
                    coach.waited++;
                } else {
                    ride(coach, team, false);
                }
            }
            return;
        }
        if (!coach.held && last.arrive == clock) {
            coach.here = last.to;
            coach.waited = 0;
            coach.held = true;
            if (coach.here == coach.to) {
                coach.done = true;
                coach.held = false;
                put(coach);
            }
        }
        if (coach.held) {
            obey(coach);
        }
    }

    private void put(Coach coach) {
        teams.get(coach.team).inn = coach.here;
        teams.get(coach.team).coach = -1;
        coach.team = -1;
    }

    private void obey(Coach coach) {
        int best = best(coach.here);
        int fresh = best < 0 ? -1 : teams.get(best).strength;
        int tired = teams.get(coach.team).strength;
        int stage = Math.min(coach.here, coach.here + way(coach));
        Map<String, Integer> names = new HashMap<>();
        names.put("late", clock - told(coaches.indexOf(coach), coach.here));
        names.put("load", coach.load);
        names.put("mud", mud.get(stage));
        names.put("miles", road.get(stage).miles);
        names.put("mail", coach.kind == 1 ? 1 : 0);
        names.put("night", coach.kind == 2 ? 1 : 0);
        names.put("fresh", fresh);
        names.put("tired", tired);
        names.put("inn", coach.here);
        names.put("waited", coach.waited);
        String act = fresh > tired ? "change" : "go";
        for (Line line : lines) {
            if (value(line.e, names) != 0) {
                act = line.act;
                break;
            }
        }
        if (act.equals("go")) {
            ride(coach, coach.team, false);
        } else if (act.equals("wait") || best < 0) {
            coach.waited++;
        } else {
            put(coach);
            ride(coach, best, true);
        }
    }

    private static int way(Coach coach) {
        return Integer.signum(coach.to - coach.from);
    }

    private static int base(Coach coach, Road stage) {
        return stage.miles * new int[] {7, 6, 9}[coach.kind] + 2 * stage.climb;
    }

    private void ride(Coach coach, int number, boolean change) {
        Team team = teams.get(number);
        int to = coach.here + way(coach);
        int k = Math.min(coach.here, to);
        Road stage = road.get(k);
        int cost = 12 * stage.miles + 10 * stage.climb + 5 * mud.get(k) + coach.load;
        int weaks = team.strength < cost ? (cost - team.strength + 9) / 10 : 0;
        int muds = mud.get(k) * stage.miles / 4;
        int loads = coach.load / 10;
        team.strength = Math.max(team.strength - cost, 0);
        team.inn = -1;
        team.coach = coaches.indexOf(coach);
        coach.team = number;
        coach.held = false;
        int leave = change ? clock + 2 : clock;
        int arrive = leave + base(coach, stage) + muds + loads + weaks;
        coach.log.add(new Ride(coach.here, to, leave, arrive, muds, loads, weaks, coach.waited, change));
    }

    private int state(Coach coach) {
        Ride last = last(coach);
        if (coach.done || last == null || coach.held) {
            return coach.done ? 4 : last == null ? 0 : 2;
        }
        return last.leave < clock ? 1 : 3;
    }

    private static List<Ride> ridden(Coach coach) {
        List<Ride> past = new ArrayList<>(coach.log);
        Ride last = last(coach);
        if (last != null && last.to != coach.here) {
            past.remove(past.size() - 1);
        }
        return past;
    }

    int where(int number, int what) {
        if (!in(number, 0, coaches.size() - 1) || !in(what, 0, 5)) {
            return -1;
        }
        Coach coach = coaches.get(number);
        int state = state(coach);
        List<Ride> past = ridden(coach);
        int late = past.isEmpty() ? 0 : past.get(past.size() - 1).arrive - told(number, coach.here);
        int next = state == 1 ? last(coach).arrive : state == 3 ? last(coach).leave : -1;
        return new int[] {state, coach.here, coach.team, late, next, state == 1 ? 0 : coach.waited}[what];
    }

    int part(int number, int part) {
        if (!in(number, 0, coaches.size() - 1)) {
            return 0;
        }
        List<Ride> past = ridden(coaches.get(number));
        switch (part) {
            case 0: return past.stream().mapToInt(Ride::muds).sum();
            case 1: return past.stream().mapToInt(Ride::loads).sum();
            case 2: return past.stream().mapToInt(Ride::weaks).sum();
            case 3: return past.stream().mapToInt(Ride::waited).sum();
            case 4: return 2 * (int) past.stream().filter(Ride::changed).count() - 2 * Math.max(0, past.size() - 1);
            default: return 0;
        }
    }

    int told(int number, int inn) {
        if (!in(number, 0, coaches.size() - 1)) {
            return -1;
        }
        Coach coach = coaches.get(number);
        int minutes = coach.start;
        for (int here = coach.from; ; here += way(coach)) {
            if (here == inn) {
                return minutes;
            }
            if (here == coach.to) {
                return -1;
            }
            minutes += here == coach.from ? 0 : 2;
            minutes += base(coach, road.get(Math.min(here, here + way(coach))));
        }
    }

    int horses(int number, int what) {
        if (!in(number, 0, teams.size() - 1) || !in(what, 0, 2)) {
            return -1;
        }
        Team team = teams.get(number);
        return new int[] {team.strength, team.inn, team.coach}[what];
    }

    // ---- trips, seats, money ----

    int trip(int stage, boolean down, int minute) {
        if (!in(stage, 0, road.size() - 1) || !in(minute, 0, 10000) || trips.size() == 24) {
            return -1;
        }
        trips.add(new Trip(stage, down, minute));
        return trips.size();
    }

    int clear() {
        int before = trips.size();
        trips.clear();
        return before;
    }

    boolean behind(int a, int b, int rest) {
        if (!in(a, 0, trips.size() - 1) || !in(b, 0, trips.size() - 1) || !in(rest, 0, 10000)) {
            return false;
        }
        Trip before = trips.get(a);
        Trip after = trips.get(b);
        Road stage = road.get(before.stage);
        int end = before.minute + 7 * stage.miles + 2 * stage.climb;
        int endInn = before.stage + (before.down ? 1 : 0);
        int startInn = after.stage + (after.down ? 0 : 1);
        return endInn == startInn && after.minute - end >= rest;
    }

    int fewest(int rest) {
        if (!in(rest, 0, 10000)) {
            return -1;
        }
        int[] before = new int[trips.size()];
        Arrays.fill(before, -1);
        int saved = 0;
        for (int a = 0; a < trips.size(); a++) {
            saved += match(a, rest, before, new boolean[trips.size()]) ? 1 : 0;
        }
        return trips.size() - saved;
    }

    private boolean match(int a, int rest, int[] before, boolean[] tried) {
        for (int b = 0; b < trips.size(); b++) {
            if (!tried[b] && behind(a, b, rest)) {
                tried[b] = true;
                if (before[b] < 0 || match(before[b], rest, before, tried)) {
                    before[b] = a;
                    return true;
                }
            }
        }
        return false;
    }

    private List<Integer> stages(Coach coach, int from, int to) {
        List<Integer> stages = new ArrayList<>();
        for (int here = from; here != to; here += way(coach)) {
            stages.add(Math.min(here, here + way(coach)));
        }
        return stages;
    }

    int book(int number, int from, int to) {
        if (!in(number, 0, coaches.size() - 1) || bookings.size() == 100) {
            return -1;
        }
        Coach coach = coaches.get(number);
        int begin = (from - coach.from) * way(coach);
        int end = (to - coach.from) * way(coach);
        if (!inn(from) || !inn(to) || begin < 0 || end <= begin || end > Math.abs(coach.to - coach.from)) {
            return -1;
        }
        for (int stage : stages(coach, from, to)) {
            if (free(number, stage, clock) < 1) {
                return -1;
            }
        }
        Booking booking = new Booking();
        booking.coach = number;
        booking.from = from;
        booking.to = to;
        booking.told = clock;
        bookings.add(booking);
        return bookings.size() - 1;
    }

    boolean untell(int number) {
        if (!in(number, 0, bookings.size() - 1) || bookings.get(number).untold != null) {
            return false;
        }
        bookings.get(number).untold = clock;
        return true;
    }

    int free(int number, int stage, int minute) {
        if (!in(number, 0, coaches.size() - 1)) {
            return -1;
        }
        Coach coach = coaches.get(number);
        if (!stages(coach, coach.from, coach.to).contains(stage)) {
            return -1;
        }
        int free = new int[] {12, 4, 8}[coach.kind];
        for (Booking booking : bookings) {
            boolean over = booking.coach == number && stages(coach, booking.from, booking.to).contains(stage);
            if (over && booking.told <= minute && !(booking.untold != null && booking.untold <= minute)) {
                free--;
            }
        }
        return free;
    }

    int parted(int amount, int master) {
        if (!in(amount, 0, 1000000000) || !in(master, 0, 3)) {
            return -1;
        }
        long all = 0;
        long[] miles = new long[4];
        for (Road stage : road) {
            all += stage.miles;
            miles[stage.master] += stage.miles;
        }
        long[] share = new long[4];
        boolean[] given = new boolean[4];
        long left = amount;
        for (int i = 0; i < 4; i++) {
            share[i] = amount * miles[i] / all;
            left -= share[i];
        }
        for (; left > 0; left--) {
            int next = -1;
            for (int i = 0; i < 4; i++) {
                if (!given[i] && (next < 0 || amount * miles[i] % all > amount * miles[next] % all)) {
                    next = i;
                }
            }
            given[next] = true;
            share[next]++;
        }
        return (int) share[master];
    }

    int about(int what) {
        int[] counts = {clock, road.size() + 1, teams.size(), coaches.size(), lines.size(), trips.size(),
            bookings.size(), tape.size()};
        return in(what, 0, 7) ? counts[what] : -1;
    }

    int road(int k, int what) {
        if (what == 4) {
            return inn(k) ? oats.get(k) : -1;
        }
        if (!in(k, 0, road.size() - 1) || !in(what, 0, 3)) {
            return -1;
        }
        Road stage = road.get(k);
        return new int[] {stage.miles, stage.climb, mud.get(k), stage.master}[what];
    }
}
