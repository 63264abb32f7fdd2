import java.util.ArrayDeque;
import java.util.Deque;
import java.util.TreeMap;
import java.util.regex.Matcher;
import java.util.regex.Pattern;

/**
 * The document a second time, in its own words and without regard to rooms: states are copied whole,
 * records lie in a map, texts are read by patterns. ModelTest compares LagoonGates with it.
 */
final class PlainLagoon {
    static final int INVALID = -1000000001;
    static final int NOT_POSSIBLE = -1000000002;
    static final int LIMIT = -1000000003;
    static final int NOT_FOUND = -1000000004;

    private static final Pattern ORDER = Pattern.compile("([gtpqr])([0-9]{1,3});|(b)([0-9]{1,3}),([0-9]{1,3});");
    private static final Pattern[] BEGINNINGS = {
        Pattern.compile("[gtpqr][0-9]{0,3}"), Pattern.compile("b[0-9]{1,3},[0-9]{0,3}"),
        Pattern.compile("b[0-9]{0,3}")};

    /** What a change records. */
    private static final class State {
        long time;
        long water = 40000;
        long silt;
        long gates;
        long turbines;
        long pump;
        long from;
        long to;
        long[] settings = {120, 40, 1500};
        long[] totals = new long[7];
        TreeMap<Long, long[]> records = new TreeMap<>();

        State copy() {
            State copy = new State();
            copy.time = time;
            copy.water = water;
            copy.silt = silt;
            copy.gates = gates;
            copy.turbines = turbines;
            copy.pump = pump;
            copy.from = from;
            copy.to = to;
            copy.settings = settings.clone();
            copy.totals = totals.clone();
            for (Long day : records.keySet()) {
                copy.records.put(day, records.get(day).clone());
            }
            return copy;
        }
    }

    private State state = new State();
    private final Deque<State> history = new ArrayDeque<>();
    private String text = "";

    private static long height(long time) {
        long day = Math.floorDiv(time, 144L);
        return 200 + 20 * Math.abs(Math.floorMod(day, 14L) - 7);
    }

    private static long seaLevel(long time) {
        long height = height(time);
        long phase = Math.floorMod(time, 74L);
        if (phase < 37) {
            return Math.floorDiv(2 * height * phase, 37L) - height;
        }
        return height - Math.floorDiv(2 * height * (phase - 37), 37L);
    }

    private static long level(State s) {
        return Math.floorDiv(s.water + s.silt, 100L) - 400;
    }

    private static boolean birdHour(State s) {
        long tick = Math.floorMod(s.time, 144L);
        return s.from < s.to && tick >= s.from && tick < s.to;
    }

    /** The next tick: through gates, turbines, pumps, all together, made, used, silt. */
    private static long[] tickOf(State s) {
        long head = seaLevel(s.time) - level(s);
        long size = Math.abs(head);
        long[] tick = new long[7];
        if (!birdHour(s)) {
            tick[0] = s.gates * head * 2;
        }
        if (size >= s.settings[0]) {
            tick[1] = s.turbines * head;
            tick[4] = Math.floorDiv(Math.abs(tick[1]) * size, 100L);
        }
        if (!birdHour(s) && size <= s.settings[1]) {
            tick[2] = s.pump;
            tick[5] = Math.floorDiv(Math.abs(s.pump) * (20 + size), 100L);
        }
        tick[3] = tick[0] + tick[1] + tick[2];
        if (s.water + tick[3] > 80000) {
            tick[3] = 80000 - s.water;
        }
        if (s.water + tick[3] < 0) {
            tick[3] = -s.water;
        }
        if (tick[3] > 0) {
            long comes = Math.floorDiv(tick[3], 50L);
            tick[6] = s.silt + comes > 20000 ? 20000 - s.silt : comes;
        } else if (tick[3] < 0 && tick[3] <= -s.settings[2]) {
            long goes = Math.floorDiv(Math.abs(tick[3]), 20L);
            tick[6] = goes > s.silt ? -s.silt : -goes;
        }
        return tick;
    }

    private static void pass(State s, long ticks) {
        for (long i = 0; i < ticks; i++) {
            long[] tick = tickOf(s);
            s.water += tick[3];
            s.silt += tick[6];
            s.totals[0] += tick[4];
            s.totals[1] += tick[5];
            s.totals[tick[3] > 0 ? 2 : 3] += Math.abs(tick[3]);
            s.totals[tick[6] > 0 ? 5 : 6] += Math.abs(tick[6]);
            long[] record = s.records.computeIfAbsent(Math.floorDiv(s.time, 144L), day ->
                    new long[] {0, 0, Long.MIN_VALUE, Long.MAX_VALUE, 0, 0});
            record[0] += tick[4];
            record[1] += tick[5];
            record[2] = Math.max(record[2], level(s));
            record[3] = Math.min(record[3], level(s));
            record[tick[3] > 0 ? 4 : 5] += Math.abs(tick[3]);
            while (s.records.size() > 10) {
                s.records.pollFirstEntry();
            }
            s.time++;
        }
    }

    private static boolean outside(long value, long least, long most) {
        return value < least || value > most;
    }

    /** Does a change on a state; answers what the call returns. The arguments are in call order. */
    private static long change(State s, char call, long first, long second) {
        long before;
        switch (call) {
            case 'g':
                if (outside(first, 0, 8)) {
                    return INVALID;
                }
                before = s.gates;
                s.gates = first;
                return before;
            case 't':
                if (outside(first, 0, 6)) {
                    return INVALID;
                }
                before = s.turbines;
                s.turbines = first;
                return before;
            case 'p':
                if (outside(first, -500, 500)) {
                    return INVALID;
                }
                before = s.pump;
                s.pump = first;
                return before;
            case 'b':
                if (outside(first, 0, 143) || outside(second, 0, 144)) {
                    return INVALID;
                }
                s.from = first;
                s.to = second;
                return first < second ? second - first : 0;
            case 'r':
                if (outside(first, 1, 300)) {
                    return INVALID;
                }
                if (s.time + first > 9999) {
                    return LIMIT;
                }
                pass(s, first);
                return level(s);
            case 'd':
                if (outside(first, 1, 20000)) {
                    return INVALID;
                }
                if (s.silt < first) {
                    return NOT_POSSIBLE;
                }
                s.silt -= first;
                s.totals[4] += first;
                return s.silt;
            default:
                long[] least = {1, 0, 1};
                long[] most = {400, 400, 9999};
                if (outside(first, 0, 2) || outside(second, least[(int) first], most[(int) first])) {
                    return INVALID;
                }
                before = s.settings[(int) first];
                s.settings[(int) first] = second;
                return before;
        }
    }

    private void remember(State before) {
        history.addLast(before);
        if (history.size() > 4) {
            history.removeFirst();
        }
    }

    long change(char call, long first, long second) {
        State before = state.copy();
        long answer = change(state, call, first, second);
        if (answer > INVALID) {
            remember(before);
        }
        return answer;
    }

    long sea(long time) {
        return outside(time, 0, 9999) ? INVALID : seaLevel(time);
    }

    long now(long what) {
        if (outside(what, 0, 12)) {
            return INVALID;
        }
        long[] all = {state.time, state.time / 144, state.time % 144, seaLevel(state.time), level(state),
            seaLevel(state.time) - level(state), state.water, state.silt, state.gates, state.turbines, state.pump,
            birdHour(state) ? 1 : 0, height(state.time)};
        return all[(int) what];
    }

    long record(long day, long what) {
        if (day < 0 || outside(what, 0, 5)) {
            return INVALID;
        }
        long[] record = state.records.get(day);
        return record == null ? NOT_FOUND : record[(int) what];
    }

    long next(long what) {
        return outside(what, 0, 6) ? INVALID : tickOf(state)[(int) what];
    }

    long would(long ticks, long what) {
        if (outside(ticks, 0, 300) || outside(what, 0, 3)) {
            return INVALID;
        }
        State then = state.copy();
        pass(then, ticks);
        long[] all = {level(then), then.totals[0] - state.totals[0], then.totals[1] - state.totals[1], then.silt};
        return all[(int) what];
    }

    long seaAt(long level) {
        if (outside(level, -400, 400)) {
            return INVALID;
        }
        long ticks = 0;
        while (ticks <= 2016 && seaLevel(state.time + ticks) < level) {
            ticks++;
        }
        return ticks <= 2016 ? ticks : NOT_FOUND;
    }

    long best(long ticks, long what) {
        if (outside(ticks, 1, 150) || outside(what, 0, 1)) {
            return INVALID;
        }
        long most = Long.MIN_VALUE;
        long found = 0;
        for (long many = 6; many >= 0; many--) {
            State then = state.copy();
            then.turbines = many;
            pass(then, ticks);
            long gain = then.totals[0] - state.totals[0] - (then.totals[1] - state.totals[1]);
            if (gain >= most) {
                most = gain;
                found = many;
            }
        }
        return what == 0 ? found : most;
    }

    long gatesFor(long ticks, long level) {
        if (outside(ticks, 1, 150) || outside(level, -400, 600)) {
            return INVALID;
        }
        long nearest = Long.MAX_VALUE;
        long found = 0;
        for (long many = 8; many >= 0; many--) {
            State then = state.copy();
            then.gates = many;
            pass(then, ticks);
            long miss = Math.abs(level(then) - level);
            if (miss <= nearest) {
                nearest = miss;
                found = many;
            }
        }
        return found;
    }

    long bestDay() {
        long found = NOT_FOUND;
        long most = -1;
        for (Long day : state.records.descendingKeySet()) {
            if (state.records.get(day)[0] >= most) {
                most = state.records.get(day)[0];
                found = day;
            }
        }
        return found;
    }

    long share() {
        if (state.totals[0] == 0) {
            return NOT_FOUND;
        }
        return Float.floatToIntBits((float) state.totals[1] / (float) state.totals[0]);
    }

    long count(long what) {
        if (outside(what, 0, 9) && outside(what, 20, 22)) {
            return INVALID;
        }
        if (what >= 20) {
            return state.settings[(int) what - 20];
        }
        if (what < 7) {
            return state.totals[(int) what];
        }
        return what == 7 ? state.records.size() : what == 8 ? history.size() : text.length();
    }

    long undo() {
        if (history.isEmpty()) {
            return NOT_POSSIBLE;
        }
        state = history.removeLast();
        return history.size();
    }

    long type(long character) {
        if (outside(character, 32, 126)) {
            return INVALID;
        }
        if (text.length() == 60) {
            return LIMIT;
        }
        text += (char) character;
        return text.length();
    }

    long clearText() {
        long length = text.length();
        text = "";
        return length;
    }

    private static long breakOf(String rest) {
        long longest = 0;
        for (Pattern beginning : BEGINNINGS) {
            Matcher matcher = beginning.matcher(rest);
            if (matcher.lookingAt()) {
                longest = Math.max(longest, matcher.end());
            }
        }
        return longest;
    }

    /** Does the orders of the text on a state; answers how many, or place, reason and cause of the fault. */
    private long[] perform(State s) {
        int place = 0;
        long orders = 0;
        while (place < text.length()) {
            Matcher matcher = ORDER.matcher(text).region(place, text.length());
            if (!matcher.lookingAt()) {
                return new long[] {place, 1, breakOf(text.substring(place))};
            }
            long answer;
            if (matcher.group(1) == null) {
                answer = change(s, 'b', Long.parseLong(matcher.group(4)), Long.parseLong(matcher.group(5)));
            } else {
                char kind = matcher.group(1).charAt(0);
                long number = Long.parseLong(matcher.group(2));
                answer = kind == 'q' ? change(s, 'p', -number, 0) : change(s, kind, number, 0);
            }
            if (answer <= INVALID) {
                return new long[] {place, 2, answer};
            }
            orders++;
            place = matcher.end();
        }
        return new long[] {orders};
    }

    long fault(long what) {
        if (outside(what, 0, 2)) {
            return INVALID;
        }
        long[] outcome = perform(state.copy());
        return outcome.length == 1 ? NOT_FOUND : outcome[(int) what];
    }

    long play() {
        State then = state.copy();
        long[] outcome = perform(then);
        if (outcome.length != 1) {
            return NOT_POSSIBLE;
        }
        remember(state);
        state = then;
        return outcome[0];
    }
}
