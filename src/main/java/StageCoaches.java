/** A coach proprietor's office: the road, its teams and coaches, guards' orders, trips, seats and money. */
public final class StageCoaches {
    public static final int NONE = -1;

    private static final int MOST_COACHES = 8;
    private static final int LAST_START = 10000000;
    private static final int MOST_MINUTES = 1500;
    private static final int CHANGE_MINUTES = 2;

    private final Highway highway;
    private final Stables stables;
    private final Coach[] fleet;
    private int coaches;
    private final Tape tape;
    private final Reader reader;
    private final Guide guide;
    private final int[] seen;
    private final Plan plan;
    private final Ledger ledger;
    private int clock;

    public StageCoaches() {
        highway = new Highway();
        stables = new Stables();
        fleet = new Coach[MOST_COACHES];
        tape = new Tape();
        reader = new Reader(tape.bytes);
        guide = new Guide();
        seen = new int[Scanner.NAMES];
        plan = new Plan();
        ledger = new Ledger();
    }

    // ---- the road ----

    public int stage(int miles, int climb, int master) {
        if (coaches > 0 || !highway.hasRoom() || !Highway.canBe(miles, climb, master)) {
            return NONE;
        }
        return highway.lengthen(miles, climb, master);
    }

    public boolean first(int miles, int climb, int master) {
        if (coaches > 0 || !Highway.canBe(miles, climb, master)) {
            return false;
        }
        highway.lay(0, miles, climb, master);
        return true;
    }

    public boolean mud(int stage, int mud) {
        return highway.muddy(stage, mud);
    }

    public boolean oats(int inn, int amount) {
        return highway.store(inn, amount);
    }

    public int road(int k, int what) {
        return highway.tell(k, what);
    }

    // ---- teams and coaches ----

    public int team(int inn, int strength) {
        if (!highway.hasInn(inn)) {
            return NONE;
        }
        return stables.enter(inn, strength);
    }

    public int horses(int team, int what) {
        return stables.tell(team, what);
    }

    public int coach(int kind, int load, int from, int to, int start) {
        if (coaches >= MOST_COACHES || kind < Coach.COACH || kind > Coach.NIGHT) {
            return NONE;
        }
        if (load < 0 || load > Coach.MOST_LOAD || start < clock || start > LAST_START) {
            return NONE;
        }
        if (!highway.hasInn(from) || !highway.hasInn(to) || from == to) {
            return NONE;
        }
        fleet[coaches] = new Coach(kind, load, from, to, start);
        coaches++;
        return coaches - 1;
    }

    public int where(int coach, int what) {
        Coach one = coachOf(coach);
        return one == null ? NONE : one.tell(what);
    }

    public int part(int coach, int part) {
        Coach one = coachOf(coach);
        if (one == null || part < 0 || part >= Coach.PARTS) {
            return 0;
        }
        return one.parts[part];
    }

    public int told(int coach, int inn) {
        Coach one = coachOf(coach);
        if (one == null || !one.passesInn(inn)) {
            return NONE;
        }
        return one.toldAt(inn, highway);
    }

    private Coach coachOf(int number) {
        if (number < 0 || number >= coaches) {
            return null;
        }
        return fleet[number];
    }

    // ---- orders ----

    public int feed(int a, int b, int c, int d, int e) {
        if (!tape.hasRoom()) {
            return NONE;
        }
        tape.write(a);
        tape.write(b);
        tape.write(c);
        tape.write(d);
        tape.write(e);
        return tape.length;
    }

    public int end(int n) {
        if (n < 0 || n > tape.length) {
            return NONE;
        }
        tape.length = n;
        return n;
    }

    public int orders() {
        boolean sound = reader.read(tape.length);
        tape.length = 0;
        if (!sound) {
            return NONE;
        }
        guide.copy(reader.draft);
        return guide.lines;
    }

    public int fault(int what) {
        if (what == 0) {
            return reader.fault;
        }
        return what == 1 ? reader.faultPlace : NONE;
    }

    // ---- minutes ----

    public int run(int n) {
        if (n < 0 || n > MOST_MINUTES) {
            return NONE;
        }
        int done = 0;
        for (int i = 0; i < n; i++) {
            done += passMinute();
        }
        return done;
    }

    private int passMinute() {
        stables.rest(highway);
        int done = 0;
        for (int i = 0; i < coaches; i++) {
            Coach one = coachOf(i);
            if (one != null && one.state != Coach.DONE) {
                act(one, i);
                done += one.state == Coach.DONE ? 1 : 0;
            }
        }
        clock++;
        return done;
    }

    private void act(Coach one, int number) {
        if (one.state == Coach.NOT_LEFT && one.start <= clock) {
            setOut(one, number);
        } else if (one.state == Coach.CHANGING && one.leaves <= clock) {
            one.state = Coach.ON_STAGE;
        } else if (one.state == Coach.ON_STAGE && one.arrives <= clock) {
            arrive(one);
        }
        if (one.state == Coach.HELD) {
            obey(one, number);
        }
    }

    private void setOut(Coach one, int number) {
        int team = stables.strongest(one.inn);
        if (team == NONE) {
            one.waited++;
            return;
        }
        stables.harness(team, number);
        one.team = team;
        depart(one, false);
    }

    private void arrive(Coach one) {
        one.reachNextInn();
        one.toldHere = one.toldAt(one.inn, highway);
        one.late = clock - one.toldHere;
        if (one.inn == one.to) {
            stables.stable(one.team, one.inn);
            one.team = NONE;
            one.state = Coach.DONE;
        } else {
            one.state = Coach.HELD;
        }
    }

    private void obey(Coach one, int number) {
        int fresh = stables.strongest(one.inn);
        look(one, stables.strengthOf(fresh));
        int order = guide.choose(seen);
        if (order == Scanner.UNKNOWN) {
            boolean better = stables.strengthOf(fresh) > stables.strengthOf(one.team);
            order = better ? Scanner.CHANGE : Scanner.GO;
        }
        if (order == Scanner.GO) {
            depart(one, false);
        } else if (order == Scanner.CHANGE && fresh != NONE) {
            stables.stable(one.team, one.inn);
            stables.harness(fresh, number);
            one.team = fresh;
            depart(one, true);
        } else {
            one.waited++;
        }
    }

    /** What each NAME is for the guard of a coach now; the order is that of the NAMES in Scanner.WORDS. */
    private void look(Coach one, int fresh) {
        int stage = one.nextStage();
        seen[0] = clock - one.toldHere;
        seen[1] = one.load;
        seen[2] = highway.tell(stage, Highway.MUD);
        seen[3] = highway.tell(stage, Highway.MILES);
        seen[4] = one.kind == Coach.MAIL ? 1 : 0;
        seen[5] = one.kind == Coach.NIGHT ? 1 : 0;
        seen[6] = fresh;
        seen[7] = stables.strengthOf(one.team);
        seen[8] = one.inn;
        seen[9] = one.waited;
    }

    /** The team tires and the minutes are fixed at once: a change reckons by the minute in which it begins. */
    private void depart(Coach one, boolean changed) {
        int stage = one.nextStage();
        int cost = highway.cost(stage, one.load);
        int strength = stables.strengthOf(one.team);
        int weaks = strength < cost ? (cost - strength + 9) / 10 : 0;
        stables.tire(one.team, cost);
        one.reckon(highway.muds(stage), weaks, changed);
        one.leaves = changed ? clock + CHANGE_MINUTES : clock;
        one.arrives = one.leaves + highway.plainMinutes(stage, one.pace()) + one.extraMinutes();
        one.state = changed ? Coach.CHANGING : Coach.ON_STAGE;
    }

    // ---- trips ----

    public int trip(int stage, boolean down, int minute) {
        if (!highway.hasStage(stage)) {
            return NONE;
        }
        return plan.enter(stage, down, minute);
    }

    public int clear() {
        int before = plan.trips;
        plan.trips = 0;
        return before;
    }

    public boolean behind(int a, int b, int rest) {
        return plan.follows(a, b, rest, highway);
    }

    public int fewest(int rest) {
        return plan.teamsNeeded(rest, highway);
    }

    // ---- seats and money ----

    public int book(int coach, int from, int to) {
        Coach one = coachOf(coach);
        if (one == null || !one.goesBetween(from, to)) {
            return NONE;
        }
        int low = Math.min(from, to);
        int high = Math.max(from, to);
        for (int stage = low; stage < high; stage++) {
            if (one.seats() <= ledger.taken(coach, stage, clock)) {
                return NONE;
            }
        }
        return ledger.enter(coach, low, high, clock);
    }

    public boolean untell(int booking) {
        return ledger.strike(booking, clock);
    }

    public int free(int coach, int stage, int minute) {
        Coach one = coachOf(coach);
        if (one == null || !one.passesStage(stage)) {
            return NONE;
        }
        return one.seats() - ledger.taken(coach, stage, minute);
    }

    public int parted(int amount, int master) {
        return highway.shareOf(amount, master);
    }

    public int about(int what) {
        switch (what) {
            case 0: return clock;
            case 1: return highway.inns;
            case 2: return stables.teams;
            case 3: return coaches;
            case 4: return guide.lines;
            case 5: return plan.trips;
            case 6: return ledger.bookings;
            case 7: return tape.length;
            default: return NONE;
        }
    }

    /** The ROAD: its STAGES, and the OATS at its INNS. */
    private static final class Highway {
        static final int MILES = 0;
        static final int CLIMB = 1;
        static final int MUD = 2;
        static final int MASTER = 3;
        static final int OATS = 4;

        private static final int MOST_INNS = 8;
        private static final int MOST_MILES = 20;
        private static final int MOST_CLIMB = 9;
        private static final int MOST_MUD = 9;
        private static final int MASTERS = 4;
        private static final int MOST_OATS = 100000;
        private static final int MOST_AMOUNT = 1000000000;

        int inns;
        private final int[] miles;
        private final int[] climb;
        private final int[] mud;
        private final int[] master;
        private final int[] oats;

        Highway() {
            miles = new int[MOST_INNS - 1];
            climb = new int[MOST_INNS - 1];
            mud = new int[MOST_INNS - 1];
            master = new int[MOST_INNS - 1];
            oats = new int[MOST_INNS];
            inns = 2;
            miles[0] = 1;
        }

        static boolean canBe(int miles, int climb, int master) {
            return miles >= 1 && miles <= MOST_MILES && climb >= 0 && climb <= MOST_CLIMB
                && master >= 0 && master < MASTERS;
        }

        boolean hasRoom() {
            return inns < MOST_INNS;
        }

        boolean hasInn(int inn) {
            return inn >= 0 && inn < inns;
        }

        boolean hasStage(int stage) {
            return stage >= 0 && stage < inns - 1;
        }

        int lengthen(int itsMiles, int itsClimb, int itsMaster) {
            if (!hasRoom()) {
                return NONE;
            }
            inns++;
            lay(inns - 2, itsMiles, itsClimb, itsMaster);
            return inns - 1;
        }

        void lay(int stage, int itsMiles, int itsClimb, int itsMaster) {
            if (hasStage(stage)) {
                miles[stage] = itsMiles;
                climb[stage] = itsClimb;
                master[stage] = itsMaster;
            }
        }

        boolean muddy(int stage, int depth) {
            if (!hasStage(stage) || depth < 0 || depth > MOST_MUD) {
                return false;
            }
            mud[stage] = depth;
            return true;
        }

        boolean store(int inn, int amount) {
            if (!hasInn(inn) || amount < 0 || amount > MOST_OATS - oats[inn]) {
                return false;
            }
            oats[inn] += amount;
            return true;
        }

        /** Whether a team at the inn gets oats: what it eats is gone then. */
        boolean eat(int inn) {
            if (!hasInn(inn) || oats[inn] == 0) {
                return false;
            }
            oats[inn]--;
            return true;
        }

        int tell(int k, int what) {
            if (what == OATS) {
                return hasInn(k) ? oats[k] : NONE;
            }
            if (!hasStage(k)) {
                return NONE;
            }
            switch (what) {
                case MILES: return miles[k];
                case CLIMB: return climb[k];
                case MUD: return mud[k];
                case MASTER: return master[k];
                default: return NONE;
            }
        }

        /** BASE and HILLS. */
        int plainMinutes(int stage, int pace) {
            return hasStage(stage) ? miles[stage] * pace + 2 * climb[stage] : 0;
        }

        int muds(int stage) {
            return hasStage(stage) ? mud[stage] * miles[stage] / 4 : 0;
        }

        int cost(int stage, int load) {
            return hasStage(stage) ? 12 * miles[stage] + 10 * climb[stage] + 5 * mud[stage] + load : 0;
        }

        int shareOf(int amount, int who) {
            if (amount < 0 || amount > MOST_AMOUNT || who < 0 || who >= MASTERS) {
                return NONE;
            }
            int all = allMiles();
            if (all <= 0) {
                return NONE;
            }
            long mine = (long) amount * milesOf(who);
            long over = amount;
            int ahead = 0;
            for (int other = 0; other < MASTERS; other++) {
                long its = (long) amount * milesOf(other);
                over -= its / all;
                boolean greater = its % all > mine % all;
                boolean likeButLess = its % all == mine % all && other < who;
                ahead += greater || likeButLess ? 1 : 0;
            }
            return (int) (mine / all) + (ahead < over ? 1 : 0);
        }

        private int allMiles() {
            int sum = 0;
            for (int stage = 0; stage < inns - 1; stage++) {
                sum += miles[stage];
            }
            return sum;
        }

        private int milesOf(int who) {
            int sum = 0;
            for (int stage = 0; stage < inns - 1; stage++) {
                sum += master[stage] == who ? miles[stage] : 0;
            }
            return sum;
        }
    }

    /** The TEAMS: how strong each is, and where. */
    private static final class Stables {
        private static final int MOST_TEAMS = 20;
        private static final int MOST_STRENGTH = 1000;

        int teams;
        private final int[] strength;
        private final int[] inn;
        private final int[] coach;

        Stables() {
            strength = new int[MOST_TEAMS];
            inn = new int[MOST_TEAMS];
            coach = new int[MOST_TEAMS];
        }

        private boolean has(int team) {
            return team >= 0 && team < teams;
        }

        int enter(int itsInn, int itsStrength) {
            if (teams >= MOST_TEAMS || itsStrength < 0 || itsStrength > MOST_STRENGTH) {
                return NONE;
            }
            strength[teams] = itsStrength;
            inn[teams] = itsInn;
            coach[teams] = NONE;
            teams++;
            return teams - 1;
        }

        int tell(int team, int what) {
            if (!has(team)) {
                return NONE;
            }
            switch (what) {
                case 0: return strength[team];
                case 1: return inn[team];
                case 2: return coach[team];
                default: return NONE;
            }
        }

        /** NONE for no team, which is below every strength. */
        int strengthOf(int team) {
            return has(team) ? strength[team] : NONE;
        }

        int strongest(int atInn) {
            int best = NONE;
            int most = NONE;
            for (int team = 0; team < teams; team++) {
                if (inn[team] == atInn && strength[team] > most) {
                    best = team;
                    most = strength[team];
                }
            }
            return best;
        }

        void harness(int team, int toCoach) {
            if (has(team)) {
                inn[team] = NONE;
                coach[team] = toCoach;
            }
        }

        void stable(int team, int atInn) {
            if (has(team)) {
                inn[team] = atInn;
                coach[team] = NONE;
            }
        }

        void tire(int team, int cost) {
            if (has(team)) {
                strength[team] = Math.max(0, strength[team] - cost);
            }
        }

        void rest(Highway highway) {
            for (int team = 0; team < teams; team++) {
                if (inn[team] != NONE && strength[team] < MOST_STRENGTH) {
                    int gain = highway.eat(inn[team]) ? 3 : 1;
                    strength[team] = Math.min(MOST_STRENGTH, strength[team] + gain);
                }
            }
        }
    }

    /** A COACH, its way, and its late minutes by what made them. */
    private static final class Coach {
        static final int COACH = 0;
        static final int MAIL = 1;
        static final int NIGHT = 2;
        static final int MOST_LOAD = 50;

        static final int NOT_LEFT = 0;
        static final int ON_STAGE = 1;
        static final int HELD = 2;
        static final int CHANGING = 3;
        static final int DONE = 4;

        static final int PARTS = 5;
        private static final int MUDS = 0;
        private static final int LOADS = 1;
        private static final int WEAKS = 2;
        private static final int WAITED = 3;
        private static final int CHANGED = 4;

        final int kind;
        final int load;
        private final int from;
        final int to;
        final int start;
        int state;
        int inn;
        int team;
        int leaves;
        int arrives;
        int waited;
        int toldHere;
        int late;
        final int[] parts;
        // What the parts get at the next inn: until then LATE is told without it.
        private final int[] coming;

        Coach(int kind, int load, int from, int to, int start) {
            this.kind = kind;
            this.load = load;
            this.from = from;
            this.to = to;
            this.start = start;
            state = NOT_LEFT;
            inn = from;
            team = NONE;
            toldHere = start;
            parts = new int[PARTS];
            coming = new int[PARTS];
        }

        private int step() {
            return to > from ? 1 : -1;
        }

        int nextStage() {
            return to > from ? inn : inn - 1;
        }

        int pace() {
            if (kind == MAIL) {
                return 6;
            }
            return kind == NIGHT ? 9 : 7;
        }

        int seats() {
            if (kind == MAIL) {
                return 4;
            }
            return kind == NIGHT ? 8 : 12;
        }

        boolean passesInn(int where) {
            return where >= Math.min(from, to) && where <= Math.max(from, to);
        }

        boolean passesStage(int stage) {
            return stage >= Math.min(from, to) && stage < Math.max(from, to);
        }

        boolean goesBetween(int one, int other) {
            return passesInn(one) && passesInn(other) && (to > from ? one < other : one > other);
        }

        int toldAt(int where, Highway highway) {
            int low = Math.min(from, where);
            int high = Math.max(from, where);
            int minutes = start;
            for (int stage = low; stage < high; stage++) {
                minutes += highway.plainMinutes(stage, pace());
            }
            return minutes + CHANGE_MINUTES * Math.max(0, high - low - 1);
        }

        void reckon(int muds, int weaks, boolean changed) {
            coming[MUDS] = muds;
            coming[LOADS] = load / 10;
            coming[WEAKS] = weaks;
            coming[WAITED] = waited;
            coming[CHANGED] = (changed ? CHANGE_MINUTES : 0) - (inn == from ? 0 : CHANGE_MINUTES);
        }

        int extraMinutes() {
            return coming[MUDS] + coming[LOADS] + coming[WEAKS];
        }

        void reachNextInn() {
            inn += step();
            waited = 0;
            for (int part = 0; part < PARTS; part++) {
                parts[part] += coming[part];
            }
        }

        int tell(int what) {
            switch (what) {
                case 0: return state;
                case 1: return inn;
                case 2: return team;
                case 3: return late;
                case 4: return nextMinute();
                case 5: return state == ON_STAGE ? 0 : waited;
                default: return NONE;
            }
        }

        private int nextMinute() {
            if (state == ON_STAGE) {
                return arrives;
            }
            return state == CHANGING ? leaves : NONE;
        }
    }

    /** The TAPE, on which the text of ORDERS comes. */
    private static final class Tape {
        static final int MOST_BYTES = 800;
        private static final int FED_AT_ONCE = 20;

        final byte[] bytes;
        int length;

        Tape() {
            bytes = new byte[MOST_BYTES];
        }

        boolean hasRoom() {
            return length <= MOST_BYTES - FED_AT_ONCE;
        }

        void write(int four) {
            for (int shift = 24; shift >= 0; shift -= 8) {
                if (length >= 0 && length < bytes.length) {
                    bytes[length] = (byte) (four >> shift);
                    length++;
                }
            }
        }
    }

    /** Parts a text into TOKENS. A sign's kind is its own byte; a NUMBER's kind is FIRST_NUMBER and it. */
    private static final class Scanner {
        static final int STOPPED = 0;
        static final int END = 1;
        static final int BAD = 2;
        static final int UNKNOWN = 3;

        // The words' kinds go by their order in WORDS.
        static final int WHEN = 200;
        static final int DO = 201;
        static final int WAIT = 202;
        static final int GO = 203;
        static final int CHANGE = 204;
        static final int OR = 205;
        static final int AND = 206;
        static final int NOT = 207;
        static final int FIRST_NAME = 208;
        static final int NAMES = 10;
        static final int FIRST_NUMBER = 1000;
        private static final String WORDS =
            "when do wait go change or and not late load mud miles mail night fresh tired inn waited ";
        private static final String SIGNS = ";<>=+-()";

        private static final int MOST_LETTERS = 8;
        private static final int MOST_DIGITS = 6;
        // One a byte, and the END.
        private static final int MOST_TOKENS = Tape.MOST_BYTES + 1;

        private final byte[] text;
        private int length;
        private int at;
        private int tokens;
        private final int[] kinds;
        private final int[] places;

        Scanner(byte[] text) {
            this.text = text;
            kinds = new int[MOST_TOKENS];
            places = new int[MOST_TOKENS];
        }

        static boolean isName(int kind) {
            return kind >= FIRST_NAME && kind < FIRST_NAME + NAMES;
        }

        int kindOf(int token) {
            return token >= 0 && token < tokens ? kinds[token] : END;
        }

        int placeOf(int token) {
            return token >= 0 && token < tokens ? places[token] : length;
        }

        /** Up to the first BAD token: nothing behind that one can matter. */
        void divide(int itsLength) {
            length = Math.min(itsLength, text.length);
            at = 0;
            tokens = 0;
            boolean more = true;
            for (int i = 0; i < MOST_TOKENS && more; i++) {
                skipBlanks();
                int place = at;
                int kind = takeToken();
                kinds[i] = kind;
                places[i] = place;
                tokens++;
                more = kind != BAD && kind != END;
            }
        }

        private void skipBlanks() {
            while (at < length && (byteAt(at) == ' ' || byteAt(at) == '\n')) {
                at++;
            }
        }

        private int takeToken() {
            if (at >= length) {
                return END;
            }
            int next = byteAt(at);
            if (isLetter(next)) {
                return takeWord();
            }
            if (isDigit(next)) {
                return takeNumber();
            }
            at++;
            return next > 0 && SIGNS.indexOf((char) next) >= 0 ? next : BAD;
        }

        /** 0, which is no letter, digit or sign, outside the text. */
        private int byteAt(int i) {
            return i >= 0 && i < length && i < text.length ? text[i] : 0;
        }

        private static boolean isLetter(int sign) {
            return sign >= 'a' && sign <= 'z';
        }

        private static boolean isDigit(int sign) {
            return sign >= '0' && sign <= '9';
        }

        private int takeWord() {
            int place = at;
            while (at < length && isLetter(byteAt(at))) {
                at++;
            }
            return at - place > MOST_LETTERS ? BAD : wordKind(place);
        }

        private int wordKind(int place) {
            int kind = WHEN;
            int from = 0;
            for (int i = 0; i < WORDS.length(); i++) {
                if (WORDS.charAt(i) == ' ') {
                    if (i - from == at - place && spells(place, from)) {
                        return kind;
                    }
                    kind++;
                    from = i + 1;
                }
            }
            return UNKNOWN;
        }

        /** Whether the word from that place up to here is the one in WORDS from there on. */
        private boolean spells(int place, int from) {
            for (int i = place; i < at; i++) {
                int letter = from + i - place;
                if (letter < 0 || letter >= WORDS.length() || WORDS.charAt(letter) != byteAt(i)) {
                    return false;
                }
            }
            return true;
        }

        private int takeNumber() {
            int place = at;
            int number = 0;
            while (at < length && isDigit(byteAt(at))) {
                number = number * 10 + byteAt(at) - '0';
                at++;
            }
            boolean tooLong = at - place > MOST_DIGITS;
            return tooLong || isLetter(byteAt(at)) ? BAD : FIRST_NUMBER + number;
        }
    }

    /** Reads the text of ORDERS, and finds its first FAULT. */
    private static final class Reader {
        private static final int NO_TOKEN = 1;
        private static final int MISPLACED = 2;
        private static final int NO_SUCH_NAME = 3;
        private static final int MOST_OPERANDS = 100;
        private static final int DEPTHS = 8;

        private final Scanner scanner;
        final Guide draft;
        private int token;
        private int kind;
        private int operands;
        int fault;
        int faultPlace;

        Reader(byte[] text) {
            scanner = new Scanner(text);
            draft = new Guide();
            faultPlace = NONE;
        }

        /** Whether the text is without a FAULT; what it says stands in the draft then. */
        boolean read(int length) {
            draft.empty();
            operands = 0;
            fault = 0;
            faultPlace = NONE;
            scanner.divide(length);
            token = 0;
            kind = scanner.kindOf(0);
            for (int i = 0; i < Guide.MOST_LINES && kind == Scanner.WHEN; i++) {
                readLine();
            }
            if (kind != Scanner.END) {
                refuse(MISPLACED);
            }
            return fault == 0;
        }

        private void advance() {
            token++;
            kind = scanner.kindOf(token);
        }

        private void readLine() {
            advance();
            readAny(0);
            expect(Scanner.DO);
            int order = kind;
            if (order == Scanner.WAIT || order == Scanner.GO || order == Scanner.CHANGE) {
                advance();
            } else {
                refuse(MISPLACED);
            }
            expect(';');
            draft.endLine(order);
        }

        private void readAny(int depth) {
            readBoth(depth);
            for (int i = 0; i < Tape.MOST_BYTES && kind == Scanner.OR; i++) {
                advance();
                readBoth(depth);
                draft.add(Scanner.OR);
            }
        }

        private void readBoth(int depth) {
            readOne(depth);
            for (int i = 0; i < Tape.MOST_BYTES && kind == Scanner.AND; i++) {
                advance();
                readOne(depth);
                draft.add(Scanner.AND);
            }
        }

        /** Each e begins with a one, so that what lies too deep is met here. */
        private void readOne(int depth) {
            if (depth >= DEPTHS) {
                refuse(MISPLACED);
                return;
            }
            if (kind == Scanner.NOT) {
                advance();
                readOne(depth + 1);
                draft.add(Scanner.NOT);
                return;
            }
            readSum(depth);
            int sign = kind;
            if (sign == '<' || sign == '>' || sign == '=') {
                advance();
                readSum(depth);
                draft.add(sign);
            }
        }

        private void readSum(int depth) {
            readTerm(depth);
            for (int i = 0; i < Tape.MOST_BYTES && (kind == '+' || kind == '-'); i++) {
                int sign = kind;
                advance();
                readTerm(depth);
                draft.add(sign);
            }
        }

        private void readTerm(int depth) {
            boolean room = operands < MOST_OPERANDS;
            if (kind == '(') {
                advance();
                readAny(depth + 1);
                expect(')');
            } else if (room && (kind >= Scanner.FIRST_NUMBER || Scanner.isName(kind))) {
                operands++;
                draft.add(kind);
                advance();
            } else {
                refuse(room && kind == Scanner.UNKNOWN ? NO_SUCH_NAME : MISPLACED);
            }
        }

        private void expect(int due) {
            if (kind == due) {
                advance();
            } else {
                refuse(MISPLACED);
            }
        }

        /** Only the first FAULT is kept; with STOPPED as the kind nothing more is read. */
        private void refuse(int why) {
            if (fault == 0) {
                fault = kind == Scanner.BAD ? NO_TOKEN : why;
                faultPlace = scanner.placeOf(token);
            }
            kind = Scanner.STOPPED;
        }
    }

    /** ORDERS as they are followed: each line's e with its operators behind what they join. */
    private static final class Guide {
        static final int MOST_LINES = 10;
        // 100 operands, fewer signs that join two, and 200 times not at most in 800 bytes.
        private static final int MOST_ITEMS = 400;
        private static final int MOST_HEIGHT = 100;

        int lines;
        private final int[] ends;
        private final int[] choices;
        private int items;
        private final int[] kinds;
        private final int[] stack;

        Guide() {
            ends = new int[MOST_LINES];
            choices = new int[MOST_LINES];
            kinds = new int[MOST_ITEMS];
            stack = new int[MOST_HEIGHT];
        }

        void empty() {
            lines = 0;
            items = 0;
        }

        void add(int kind) {
            if (items < MOST_ITEMS) {
                kinds[items] = kind;
                items++;
            }
        }

        void endLine(int choice) {
            if (lines < MOST_LINES) {
                ends[lines] = items;
                choices[lines] = choice;
                lines++;
            }
        }

        void copy(Guide other) {
            empty();
            for (int i = 0; i < other.items; i++) {
                add(other.kinds[i]);
            }
            lines = other.lines;
            for (int i = 0; i < lines; i++) {
                ends[i] = other.ends[i];
                choices[i] = other.choices[i];
            }
        }

        /** What the first line that holds says to do; Scanner.UNKNOWN if none holds. */
        int choose(int[] seen) {
            int from = 0;
            for (int line = 0; line < lines; line++) {
                if (worth(from, ends[line], seen) != 0) {
                    return choices[line];
                }
                from = ends[line];
            }
            return Scanner.UNKNOWN;
        }

        private int worth(int from, int to, int[] seen) {
            int height = 0;
            for (int i = from; i < to && i < items; i++) {
                int kind = kinds[i];
                if (kind >= Scanner.FIRST_NUMBER || Scanner.isName(kind)) {
                    if (height < MOST_HEIGHT) {
                        stack[height] = operand(kind, seen);
                        height++;
                    }
                } else if (kind == Scanner.NOT) {
                    if (height > 0) {
                        stack[height - 1] = stack[height - 1] == 0 ? 1 : 0;
                    }
                } else if (height > 1) {
                    height--;
                    stack[height - 1] = join(kind, stack[height - 1], stack[height]);
                }
            }
            return height > 0 ? stack[0] : 0;
        }

        private static int operand(int kind, int[] seen) {
            if (kind >= Scanner.FIRST_NUMBER) {
                return kind - Scanner.FIRST_NUMBER;
            }
            int name = kind - Scanner.FIRST_NAME;
            return name >= 0 && name < seen.length ? seen[name] : 0;
        }

        private static int join(int kind, int left, int right) {
            switch (kind) {
                case '+': return left + right;
                case '-': return left - right;
                case '<': return left < right ? 1 : 0;
                case '>': return left > right ? 1 : 0;
                case '=': return left == right ? 1 : 0;
                case Scanner.AND: return left != 0 && right != 0 ? 1 : 0;
                case Scanner.OR: return left != 0 || right != 0 ? 1 : 0;
                default: return 0;
            }
        }
    }

    /** The TRIPS. */
    private static final class Plan {
        private static final int MOST_TRIPS = 24;
        private static final int LAST_MINUTE = 10000;
        private static final int MOST_REST = 10000;
        private static final int PACE = 7;

        int trips;
        private final int[] stage;
        private final int[] begin;
        private final boolean[] down;
        private final boolean[] met;
        private final boolean[] followed;

        Plan() {
            stage = new int[MOST_TRIPS];
            begin = new int[MOST_TRIPS];
            down = new boolean[MOST_TRIPS];
            met = new boolean[MOST_TRIPS];
            followed = new boolean[MOST_TRIPS];
        }

        int enter(int itsStage, boolean itsDown, int minute) {
            if (trips >= MOST_TRIPS || minute < 0 || minute > LAST_MINUTE) {
                return NONE;
            }
            stage[trips] = itsStage;
            down[trips] = itsDown;
            begin[trips] = minute;
            trips++;
            return trips;
        }

        private boolean has(int trip) {
            return trip >= 0 && trip < trips;
        }

        private static boolean canRest(int rest) {
            return rest >= 0 && rest <= MOST_REST;
        }

        boolean follows(int a, int b, int rest, Highway highway) {
            if (!has(a) || !has(b) || !canRest(rest)) {
                return false;
            }
            int ends = down[a] ? stage[a] + 1 : stage[a];
            int begins = down[b] ? stage[b] : stage[b] + 1;
            int ready = begin[a] + highway.plainMinutes(stage[a], PACE) + rest;
            return ends == begins && begin[b] >= ready;
        }

        /**
         * Each trip that comes behind another saves a team. Whoever is ready for a trip is ready for every
         * later one from the same inn too, so that taking any ready one, the earliest trip first, is best.
         */
        int teamsNeeded(int rest, Highway highway) {
            if (!canRest(rest)) {
                return NONE;
            }
            for (int i = 0; i < trips; i++) {
                met[i] = false;
                followed[i] = false;
            }
            int needed = 0;
            for (int i = 0; i < trips; i++) {
                int trip = meetEarliest();
                int before = readyFor(trip, rest, highway);
                if (has(before)) {
                    followed[before] = true;
                } else {
                    needed++;
                }
            }
            return needed;
        }

        private int meetEarliest() {
            int earliest = NONE;
            for (int i = 0; i < trips; i++) {
                if (!met[i] && (!has(earliest) || begin[i] < begin[earliest])) {
                    earliest = i;
                }
            }
            if (has(earliest)) {
                met[earliest] = true;
            }
            return earliest;
        }

        private int readyFor(int trip, int rest, Highway highway) {
            for (int i = 0; i < trips; i++) {
                if (!followed[i] && follows(i, trip, rest, highway)) {
                    return i;
                }
            }
            return NONE;
        }
    }

    /** The BOOKINGS, with the minutes at which each was TOLD and UNTOLD. */
    private static final class Ledger {
        private static final int MOST_BOOKINGS = 100;

        int bookings;
        private final int[] coach;
        private final int[] low;
        private final int[] high;
        private final int[] told;
        private final int[] untold;

        Ledger() {
            coach = new int[MOST_BOOKINGS];
            low = new int[MOST_BOOKINGS];
            high = new int[MOST_BOOKINGS];
            told = new int[MOST_BOOKINGS];
            untold = new int[MOST_BOOKINGS];
        }

        int enter(int itsCoach, int itsLow, int itsHigh, int minute) {
            if (bookings >= MOST_BOOKINGS) {
                return NONE;
            }
            coach[bookings] = itsCoach;
            low[bookings] = itsLow;
            high[bookings] = itsHigh;
            told[bookings] = minute;
            untold[bookings] = NONE;
            bookings++;
            return bookings - 1;
        }

        boolean strike(int booking, int minute) {
            if (booking < 0 || booking >= bookings || untold[booking] != NONE) {
                return false;
            }
            untold[booking] = minute;
            return true;
        }

        int taken(int ofCoach, int stage, int minute) {
            int sum = 0;
            for (int i = 0; i < bookings; i++) {
                boolean over = coach[i] == ofCoach && low[i] <= stage && stage < high[i];
                boolean known = told[i] <= minute && (untold[i] == NONE || untold[i] > minute);
                sum += over && known ? 1 : 0;
            }
            return sum;
        }
    }
}
