/**
 * A tidal lagoon: a sea that rises and falls, a basin behind a wall, and what passes between them.
 *
 * <p>Every change is first made on a trial, so that one that is refused leaves nothing behind; the
 * questions about what would be use the same trial. All rows are made once, with the object: no
 * call makes another object.
 */
public final class LagoonGates {
    public static final int INVALID_ARGUMENT = -1000000001;
    public static final int NOT_POSSIBLE = -1000000002;
    public static final int LIMIT_REACHED = -1000000003;
    public static final int NOT_FOUND = -1000000004;

    private static final int DAY_TICKS = 144;
    private static final int TIDE_TICKS = 74;
    private static final int RISE_TICKS = 37;
    private static final int SPRING_DAYS = 14;
    private static final int LAST_TIME = 9999;
    private static final int SEA_AHEAD = 2016;

    private static final int MOST_GATES = 8;
    private static final int MOST_TURBINES = 6;
    private static final int MOST_PUMP = 500;
    private static final int MOST_WATER = 80000;
    private static final int FIRST_WATER = 40000;
    private static final int MOST_SILT = 20000;
    private static final int MOST_RUN = 300;
    private static final int MOST_TRIAL = 150;
    private static final int LOWEST_ASKED = -400;
    private static final int HIGHEST_SEA_ASKED = 400;
    private static final int HIGHEST_BASIN_ASKED = 600;
    private static final int MOST_STATES = 4;
    private static final int MOST_CHARACTERS = 60;
    private static final int MOST_DIGITS = 3;

    private static final int SETTINGS = 3;
    private static final int LEAST_HEAD = 0;
    private static final int NEAR = 1;
    private static final int FLUSH = 2;
    private static final int[] LEAST_SETTING = {1, 0, 1};
    private static final int[] MOST_SETTING = {400, 400, 9999};
    private static final int FIRST_SETTING_COUNT = 20;

    private static final int TOTALS = 7;
    private static final int TOTAL_MADE = 0;
    private static final int TOTAL_USED = 1;
    private static final int TOTAL_IN = 2;
    private static final int TOTAL_OUT = 3;
    private static final int TOTAL_DREDGED = 4;
    private static final int TOTAL_SILT_CAME = 5;
    private static final int TOTAL_SILT_WENT = 6;

    private static final int RECORD_DAYS = 10;
    private static final int RECORD_NUMBERS = 6;
    private static final int RECORD_MADE = 0;
    private static final int RECORD_USED = 1;
    private static final int RECORD_HIGHEST = 2;
    private static final int RECORD_LOWEST = 3;
    private static final int RECORD_IN = 4;
    private static final int RECORD_OUT = 5;

    private static final int NO_FAULT = 0;
    private static final int FORM_FAULT = 1;
    private static final int STATE_FAULT = 2;

    private static final int FLOAT_ONE_EXPONENT = 127;
    private static final int FLOAT_FRACTION = 8388608;
    private static final int FLOAT_STEPS = 128;

    private final Lagoon present;
    private final Lagoon trial;
    private final Tick tick;
    private final History history;
    private final Text text;
    private final Player player;

    public LagoonGates() {
        present = new Lagoon();
        trial = new Lagoon();
        tick = new Tick();
        history = new History();
        text = new Text();
        player = new Player();
    }

    // ---- the wall

    public int gates(int many) {
        trial.copyFrom(present);
        return settle(trial.openGates(many));
    }

    public int turbines(int many) {
        trial.copyFrom(present);
        return settle(trial.openTurbines(many));
    }

    public int pump(int flow) {
        trial.copyFrom(present);
        return settle(trial.setPump(flow));
    }

    public int birds(int from, int to) {
        trial.copyFrom(present);
        return settle(trial.setBirds(from, to));
    }

    public int run(int ticks) {
        trial.copyFrom(present);
        return settle(trial.runTicks(ticks, tick));
    }

    public int dredge(int much) {
        trial.copyFrom(present);
        return settle(trial.dredgeSilt(much));
    }

    public int set(int what, int value) {
        trial.copyFrom(present);
        return settle(trial.changeSetting(what, value));
    }

    // ---- what there is

    public int sea(int time) {
        if (time < 0 || time > LAST_TIME) {
            return INVALID_ARGUMENT;
        }
        return seaLevel(time);
    }

    public int now(int what) {
        switch (what) {
            case 0:
                return present.time;
            case 1:
                return present.time / DAY_TICKS;
            case 2:
                return present.time % DAY_TICKS;
            case 3:
                return seaLevel(present.time);
            case 4:
                return present.level();
            case 5:
                return present.head();
            case 6:
                return present.water;
            case 7:
                return present.silt;
            case 8:
                return present.gatesOpen;
            case 9:
                return present.turbinesOpen;
            case 10:
                return present.pumpFlow;
            case 11:
                return present.isBirdHour() ? 1 : 0;
            case 12:
                return tideHeight(present.time / DAY_TICKS);
            default:
                return INVALID_ARGUMENT;
        }
    }

    public int record(int day, int what) {
        if (day < 0 || what < 0 || what >= RECORD_NUMBERS) {
            return INVALID_ARGUMENT;
        }
        if (day < present.firstDay() || day > present.lastDay()) {
            return NOT_FOUND;
        }
        return present.records[recordStart(day) + what];
    }

    public int next(int what) {
        tick.foresee(present, present.head());
        switch (what) {
            case 0:
                return tick.throughGates;
            case 1:
                return tick.throughTurbines;
            case 2:
                return tick.throughPumps;
            case 3:
                return tick.flow;
            case 4:
                return tick.made;
            case 5:
                return tick.used;
            case 6:
                return tick.siltChange;
            default:
                return INVALID_ARGUMENT;
        }
    }

    // ---- what would be

    public int would(int ticks, int what) {
        if (ticks < 0 || ticks > MOST_RUN || what < 0 || what > 3) {
            return INVALID_ARGUMENT;
        }
        trial.copyFrom(present);
        trial.letPass(ticks, tick);
        switch (what) {
            case 0:
                return trial.level();
            case 1:
                return trial.totals[TOTAL_MADE] - present.totals[TOTAL_MADE];
            case 2:
                return trial.totals[TOTAL_USED] - present.totals[TOTAL_USED];
            default:
                return trial.silt;
        }
    }

    public int seaAt(int level) {
        if (level < LOWEST_ASKED || level > HIGHEST_SEA_ASKED) {
            return INVALID_ARGUMENT;
        }
        for (int ahead = 0; ahead <= SEA_AHEAD; ahead++) {
            if (seaLevel(present.time + ahead) >= level) {
                return ahead;
            }
        }
        return NOT_FOUND;
    }

    public int best(int ticks, int what) {
        if (ticks < 1 || ticks > MOST_TRIAL || what < 0 || what > 1) {
            return INVALID_ARGUMENT;
        }
        int bestMany = 0;
        int bestGain = gainWith(0, ticks);
        for (int many = 1; many <= MOST_TURBINES; many++) {
            int gain = gainWith(many, ticks);
            if (gain > bestGain) {
                bestMany = many;
                bestGain = gain;
            }
        }
        return what == 0 ? bestMany : bestGain;
    }

    public int gatesFor(int ticks, int level) {
        if (ticks < 1 || ticks > MOST_TRIAL || level < LOWEST_ASKED || level > HIGHEST_BASIN_ASKED) {
            return INVALID_ARGUMENT;
        }
        int bestMany = 0;
        int bestMiss = Math.abs(levelWith(0, ticks) - level);
        for (int many = 1; many <= MOST_GATES; many++) {
            int miss = Math.abs(levelWith(many, ticks) - level);
            if (miss < bestMiss) {
                bestMany = many;
                bestMiss = miss;
            }
        }
        return bestMany;
    }

    public int bestDay() {
        int found = NOT_FOUND;
        int mostMade = -1;
        int last = present.lastDay();
        for (int day = present.firstDay(); day <= last; day++) {
            int made = present.records[recordStart(day) + RECORD_MADE];
            if (made > mostMade) {
                found = day;
                mostMade = made;
            }
        }
        return found;
    }

    public int share() {
        int made = present.totals[TOTAL_MADE];
        if (made <= 0) {
            return NOT_FOUND;
        }
        return floatBits((float) present.totals[TOTAL_USED] / (float) made);
    }

    public int count(int what) {
        if (what >= 0 && what < TOTALS) {
            return present.totals[what];
        }
        if (what >= FIRST_SETTING_COUNT && what < FIRST_SETTING_COUNT + SETTINGS) {
            return present.settings[what - FIRST_SETTING_COUNT];
        }
        switch (what) {
            case 7:
                return present.lastDay() - present.firstDay() + 1;
            case 8:
                return history.size;
            case 9:
                return text.length;
            default:
                return INVALID_ARGUMENT;
        }
    }

    public int undo() {
        if (history.size == 0) {
            return NOT_POSSIBLE;
        }
        history.giveBack(present);
        return history.size;
    }

    // ---- texts

    public int type(int character) {
        if (character < 32 || character > 126) {
            return INVALID_ARGUMENT;
        }
        if (text.length >= MOST_CHARACTERS) {
            return LIMIT_REACHED;
        }
        text.append((char) character);
        return text.length;
    }

    public int clearText() {
        int before = text.length;
        text.length = 0;
        return before;
    }

    public int fault(int what) {
        if (what < 0 || what > 2) {
            return INVALID_ARGUMENT;
        }
        trial.copyFrom(present);
        player.perform(text, trial, tick);
        if (player.reason == NO_FAULT) {
            return NOT_FOUND;
        }
        switch (what) {
            case 0:
                return player.place;
            case 1:
                return player.reason;
            default:
                return player.cause;
        }
    }

    public int play() {
        trial.copyFrom(present);
        player.perform(text, trial, tick);
        return settle(player.reason == NO_FAULT ? player.orders : NOT_POSSIBLE);
    }

    // ---- what the calls share

    /** Makes the trial the present, unless what was tried on it answered an error. */
    private int settle(int answer) {
        if (!isError(answer)) {
            history.keep(present);
            present.copyFrom(trial);
        }
        return answer;
    }

    private int gainWith(int turbinesOpen, int ticks) {
        trial.copyFrom(present);
        trial.turbinesOpen = turbinesOpen;
        trial.letPass(ticks, tick);
        return trial.gain() - present.gain();
    }

    private int levelWith(int gatesOpen, int ticks) {
        trial.copyFrom(present);
        trial.gatesOpen = gatesOpen;
        trial.letPass(ticks, tick);
        return trial.level();
    }

    // No answer that is a value comes near the error codes: the lowest is a pump's -500.
    private static boolean isError(int answer) {
        return answer <= INVALID_ARGUMENT;
    }

    private static int tideHeight(int day) {
        int behindSeventh = day % SPRING_DAYS - 7;
        return 200 + 20 * (behindSeventh < 0 ? -behindSeventh : behindSeventh);
    }

    private static int seaLevel(int time) {
        int height = tideHeight(time / DAY_TICKS);
        int phase = time % TIDE_TICKS;
        if (phase < RISE_TICKS) {
            return 2 * height * phase / RISE_TICKS - height;
        }
        return height - 2 * height * (phase - RISE_TICKS) / RISE_TICKS;
    }

    // floorMod keeps the place inside the rows, whatever the day.
    private static int recordStart(int day) {
        return Math.floorMod(day, RECORD_DAYS) * RECORD_NUMBERS;
    }

    /**
     * The bits of a float that is 0, or far from the least and the greatest ones. LANGUAGE.md leaves
     * no library call for them; halving and doubling are exact, so none is lost on the way.
     */
    private static int floatBits(float value) {
        if (!(value > 0.0f)) {
            return 0;
        }
        int exponent = FLOAT_ONE_EXPONENT;
        float rest = value;
        for (int step = 0; step < FLOAT_STEPS && rest >= 2.0f; step++) {
            rest = rest / 2.0f;
            exponent++;
        }
        for (int step = 0; step < FLOAT_STEPS && rest < 1.0f; step++) {
            rest = rest * 2.0f;
            exponent--;
        }
        int fraction = (int) (rest * (float) FLOAT_FRACTION) - FLOAT_FRACTION;
        return exponent * FLOAT_FRACTION + fraction;
    }

    /** A state of the lagoon: everything that the history keeps. */
    private static final class Lagoon {
        int time;
        int water = FIRST_WATER;
        int silt;
        int gatesOpen;
        int turbinesOpen;
        int pumpFlow;
        int birdsFrom;
        int birdsTo;
        final int[] settings = {120, 40, 1500};
        final int[] totals = new int[TOTALS];
        // A day's record stands at recordStart(day): a later day takes the place of the tenth before.
        final int[] records = new int[RECORD_DAYS * RECORD_NUMBERS];

        void copyFrom(Lagoon other) {
            time = other.time;
            water = other.water;
            silt = other.silt;
            gatesOpen = other.gatesOpen;
            turbinesOpen = other.turbinesOpen;
            pumpFlow = other.pumpFlow;
            birdsFrom = other.birdsFrom;
            birdsTo = other.birdsTo;
            System.arraycopy(other.settings, 0, settings, 0, SETTINGS);
            System.arraycopy(other.totals, 0, totals, 0, TOTALS);
            System.arraycopy(other.records, 0, records, 0, RECORD_DAYS * RECORD_NUMBERS);
        }

        int level() {
            return (water + silt) / 100 - 400;
        }

        int head() {
            return seaLevel(time) - level();
        }

        // From not below to means none, and so no tick lies between them.
        boolean isBirdHour() {
            int tickOfDay = time % DAY_TICKS;
            return birdsFrom <= tickOfDay && tickOfDay < birdsTo;
        }

        int gain() {
            return totals[TOTAL_MADE] - totals[TOTAL_USED];
        }

        /** The latest day that had a tick; -1 if there is none. */
        int lastDay() {
            return Math.floorDiv(time - 1, DAY_TICKS);
        }

        int firstDay() {
            return Math.max(0, lastDay() - RECORD_DAYS + 1);
        }

        int openGates(int many) {
            if (many < 0 || many > MOST_GATES) {
                return INVALID_ARGUMENT;
            }
            int before = gatesOpen;
            gatesOpen = many;
            return before;
        }

        int openTurbines(int many) {
            if (many < 0 || many > MOST_TURBINES) {
                return INVALID_ARGUMENT;
            }
            int before = turbinesOpen;
            turbinesOpen = many;
            return before;
        }

        int setPump(int flow) {
            if (flow < -MOST_PUMP || flow > MOST_PUMP) {
                return INVALID_ARGUMENT;
            }
            int before = pumpFlow;
            pumpFlow = flow;
            return before;
        }

        int setBirds(int from, int to) {
            if (from < 0 || from >= DAY_TICKS || to < 0 || to > DAY_TICKS) {
                return INVALID_ARGUMENT;
            }
            birdsFrom = from;
            birdsTo = to;
            return Math.max(0, to - from);
        }

        int runTicks(int ticks, Tick tick) {
            if (ticks < 1 || ticks > MOST_RUN) {
                return INVALID_ARGUMENT;
            }
            if (time + ticks > LAST_TIME) {
                return LIMIT_REACHED;
            }
            letPass(ticks, tick);
            return level();
        }

        int dredgeSilt(int much) {
            if (much < 1 || much > MOST_SILT) {
                return INVALID_ARGUMENT;
            }
            if (much > silt) {
                return NOT_POSSIBLE;
            }
            silt -= much;
            totals[TOTAL_DREDGED] += much;
            return silt;
        }

        int changeSetting(int what, int value) {
            if (what < 0 || what >= SETTINGS) {
                return INVALID_ARGUMENT;
            }
            if (value < LEAST_SETTING[what] || value > MOST_SETTING[what]) {
                return INVALID_ARGUMENT;
            }
            int before = settings[what];
            settings[what] = value;
            return before;
        }

        /** Does not look at the last time: what would be may lie behind it. */
        void letPass(int ticks, Tick tick) {
            for (int passed = 0; passed < ticks; passed++) {
                tick.foresee(this, head());
                take(tick);
                enterRecord(tick);
                time++;
            }
        }

        private void take(Tick tick) {
            water += tick.flow;
            silt += tick.siltChange;
            totals[TOTAL_MADE] += tick.made;
            totals[TOTAL_USED] += tick.used;
            totals[TOTAL_IN] += Math.max(0, tick.flow);
            totals[TOTAL_OUT] += Math.max(0, -tick.flow);
            totals[TOTAL_SILT_CAME] += Math.max(0, tick.siltChange);
            totals[TOTAL_SILT_WENT] += Math.max(0, -tick.siltChange);
        }

        private void enterRecord(Tick tick) {
            int start = recordStart(time / DAY_TICKS);
            int level = level();
            if (time % DAY_TICKS == 0) {
                beginRecord(start, level);
            }
            records[start + RECORD_MADE] += tick.made;
            records[start + RECORD_USED] += tick.used;
            records[start + RECORD_HIGHEST] = Math.max(records[start + RECORD_HIGHEST], level);
            records[start + RECORD_LOWEST] = Math.min(records[start + RECORD_LOWEST], level);
            records[start + RECORD_IN] += Math.max(0, tick.flow);
            records[start + RECORD_OUT] += Math.max(0, -tick.flow);
        }

        // Time only ever starts a day at its first tick, so the row holds an older day till then.
        private void beginRecord(int start, int level) {
            records[start + RECORD_MADE] = 0;
            records[start + RECORD_USED] = 0;
            records[start + RECORD_HIGHEST] = level;
            records[start + RECORD_LOWEST] = level;
            records[start + RECORD_IN] = 0;
            records[start + RECORD_OUT] = 0;
        }
    }

    /** What a tick brings, told before it happens. */
    private static final class Tick {
        int throughGates;
        int throughTurbines;
        int throughPumps;
        int flow;
        int made;
        int used;
        int siltChange;

        void foresee(Lagoon lagoon, int head) {
            int size = Math.abs(head);
            boolean birds = lagoon.isBirdHour();
            throughGates = birds ? 0 : lagoon.gatesOpen * head * 2;
            throughTurbines = size >= lagoon.settings[LEAST_HEAD] ? lagoon.turbinesOpen * head : 0;
            throughPumps = !birds && size <= lagoon.settings[NEAR] ? lagoon.pumpFlow : 0;
            made = Math.abs(throughTurbines) * size / 100;
            used = Math.abs(throughPumps) * (20 + size) / 100;
            int wanted = throughGates + throughTurbines + throughPumps;
            flow = Math.max(-lagoon.water, Math.min(MOST_WATER - lagoon.water, wanted));
            siltChange = siltOf(lagoon);
        }

        private int siltOf(Lagoon lagoon) {
            if (flow > 0) {
                return Math.min(flow / 50, MOST_SILT - lagoon.silt);
            }
            if (flow <= -lagoon.settings[FLUSH]) {
                return -Math.min(-flow / 20, lagoon.silt);
            }
            return 0;
        }
    }

    /** The states before the latest changes, in rows that are used in turn. */
    private static final class History {
        private final Lagoon[] states = {new Lagoon(), new Lagoon(), new Lagoon(), new Lagoon()};
        private int oldest;
        int size;

        void keep(Lagoon lagoon) {
            states[rowOf(size)].copyFrom(lagoon);
            if (size < MOST_STATES) {
                size++;
            } else {
                oldest = rowOf(1);
            }
        }

        void giveBack(Lagoon lagoon) {
            if (size > 0) {
                size--;
                lagoon.copyFrom(states[rowOf(size)]);
            }
        }

        private int rowOf(int age) {
            return Math.floorMod(oldest + age, MOST_STATES);
        }
    }

    /** The text, and the order that was read in it last. */
    private static final class Text {
        private final char[] characters = new char[MOST_CHARACTERS];
        int length;
        int place;
        char kind;
        int first;
        int second;

        void append(char character) {
            if (length < MOST_CHARACTERS) {
                characters[length] = character;
                length++;
            }
        }

        /** Reads the order at the place; if it is not of the form, the place is where it breaks off. */
        boolean readOrder() {
            kind = characterHere();
            second = 0;
            if (!isKind(kind)) {
                return false;
            }
            place++;
            first = readNumber();
            if (first < 0) {
                return false;
            }
            if (kind == 'b') {
                if (!skip(',')) {
                    return false;
                }
                second = readNumber();
            }
            return second >= 0 && skip(';');
        }

        private static boolean isKind(char character) {
            return character == 'g' || character == 't' || character == 'p' || character == 'q'
                    || character == 'b' || character == 'r';
        }

        // Behind the end stands a character that no order has.
        private char characterHere() {
            return place >= 0 && place < length && place < MOST_CHARACTERS ? characters[place] : (char) 0;
        }

        private boolean skip(char character) {
            if (characterHere() != character) {
                return false;
            }
            place++;
            return true;
        }

        /** The number at the place; -1 if there is none. */
        private int readNumber() {
            int number = -1;
            for (int digits = 0; digits < MOST_DIGITS; digits++) {
                char character = characterHere();
                if (character < '0' || character > '9') {
                    return number;
                }
                number = Math.max(0, number) * 10 + (character - '0');
                place++;
            }
            return number;
        }
    }

    /** Does the orders of a text on a lagoon, up to the first that is not possible. */
    private static final class Player {
        int orders;
        int place;
        int reason;
        int cause;

        void perform(Text text, Lagoon lagoon, Tick tick) {
            orders = 0;
            reason = NO_FAULT;
            text.place = 0;
            for (int read = 0; read < MOST_CHARACTERS && text.place < text.length; read++) {
                place = text.place;
                if (!text.readOrder()) {
                    reason = FORM_FAULT;
                    cause = text.place - place;
                    return;
                }
                int answer = obey(text, lagoon, tick);
                if (isError(answer)) {
                    reason = STATE_FAULT;
                    cause = answer;
                    return;
                }
                orders++;
            }
        }

        private static int obey(Text text, Lagoon lagoon, Tick tick) {
            switch (text.kind) {
                case 'g':
                    return lagoon.openGates(text.first);
                case 't':
                    return lagoon.openTurbines(text.first);
                case 'p':
                    return lagoon.setPump(text.first);
                case 'q':
                    return lagoon.setPump(-text.first);
                case 'b':
                    return lagoon.setBirds(text.first, text.second);
                default:
                    return lagoon.runTicks(text.first, tick);
            }
        }
    }
}
