import java.util.ArrayDeque;
import java.util.ArrayList;
import java.util.Collections;
import java.util.Deque;
import java.util.HashMap;
import java.util.HashSet;
import java.util.List;
import java.util.Map;
import java.util.Set;
import java.util.TreeSet;

/**
 * The document told a second time, as slowly and plainly as it goes: whole histories of samples,
 * real square roots, sets of picks. Runs of calls on it are compared with the class.
 */
final class Model {
    static final int NONE = -1;

    /** A network text that has been read. */
    static final class Plan {
        final List<int[]> stations = new ArrayList<>();
        final List<int[]> rungs = new ArrayList<>();
        int[] grid = {0, 0, 5, 5, 20};
        int[] speed = {60};
        int[] average = {3, 12};
        int[] trigger = {300, 150};
        int[] votes = {3};
        int[] slack = {2};
        int[] decay = {1};

        static int root(int dx, int dy) {
            return (int) Math.floor(Math.sqrt((double) dx * dx + (double) dy * dy));
        }

        int[] node(int node) {
            return new int[] {grid[0] + node % grid[2] * grid[4], grid[1] + node / grid[2] * grid[4]};
        }

        int apart(int[] one, int[] other) {
            return root(one[0] - other[0], one[1] - other[1]);
        }

        int travel(int[] one, int[] other) {
            return apart(one, other) * 10 / speed[0];
        }

        int ladder(int amplitude) {
            int answer = NONE;
            for (int[] rung : rungs) {
                answer = rung[0] <= amplitude ? rung[1] : answer;
            }
            return answer;
        }

        int ratio(long shortSum, long longSum) {
            return longSum == 0 ? 0 : (int) (shortSum * average[1] * 100 / (longSum * average[0]));
        }
    }

    static final class Pick {
        int station;
        int time;
        int peak;
        boolean removed;

        Pick copy() {
            Pick pick = new Pick();
            pick.station = station;
            pick.time = time;
            pick.peak = peak;
            pick.removed = removed;
            return pick;
        }
    }

    static final class Event {
        boolean retracted;
        int declared;
        Set<Integer> picks = new TreeSet<>();

        Event copy() {
            Event event = new Event();
            event.retracted = retracted;
            event.declared = declared;
            event.picks.addAll(picks);
            return event;
        }
    }

    /** All that changes can change. */
    static final class World {
        int tick;
        final int[] levels = new int[8];
        final boolean[] triggered = new boolean[8];
        final boolean[] muted = new boolean[8];
        final List<int[]> samples = new ArrayList<>();
        final List<Pick> picks = new ArrayList<>();
        final List<Event> events = new ArrayList<>();

        World copy() {
            World world = new World();
            world.tick = tick;
            System.arraycopy(levels, 0, world.levels, 0, 8);
            System.arraycopy(triggered, 0, world.triggered, 0, 8);
            System.arraycopy(muted, 0, world.muted, 0, 8);
            world.samples.addAll(samples);
            picks.forEach(pick -> world.picks.add(pick.copy()));
            events.forEach(event -> world.events.add(event.copy()));
            return world;
        }

        long sum(int station, int span) {
            long sum = 0;
            for (int k = Math.max(0, samples.size() - span); k < samples.size(); k++) {
                sum += samples.get(k)[station];
            }
            return sum;
        }

        int ratio(Plan plan, int station) {
            return plan.ratio(sum(station, plan.average[0]), sum(station, plan.average[1]));
        }

        int eventOf(int pick) {
            for (int event = 0; event < events.size(); event++) {
                if (events.get(event).picks.contains(pick)) {
                    return event;
                }
            }
            return NONE;
        }

        boolean fit(Plan plan, int one, int other) {
            Pick a = picks.get(one);
            Pick b = picks.get(other);
            return !a.removed && !b.removed && a.station != b.station
                    && Math.abs(a.time - b.time)
                    <= plan.travel(plan.stations.get(a.station), plan.stations.get(b.station)) + plan.slack[0];
        }

        boolean fitAll(Plan plan, Set<Integer> some, int pick) {
            return some.stream().allMatch(other -> fit(plan, other, pick));
        }

        void step(Plan plan) {
            tick++;
            samples.add(levels.clone());
            for (int station = 0; station < plan.stations.size(); station++) {
                int sample = levels[station];
                if (triggered[station]) {
                    Pick latest = null;
                    for (Pick pick : picks) {
                        latest = pick.station == station ? pick : latest;
                    }
                    latest.peak = Math.max(latest.peak, sample);
                    triggered[station] = ratio(plan, station) >= plan.trigger[1];
                } else if (tick >= plan.average[1] && !muted[station]
                        && ratio(plan, station) >= plan.trigger[0] && picks.size() < 60) {
                    triggered[station] = true;
                    Pick pick = new Pick();
                    pick.station = station;
                    pick.time = tick;
                    pick.peak = sample;
                    picks.add(pick);
                    vote(plan, picks.size() - 1);
                }
            }
        }

        void vote(Plan plan, int fresh) {
            for (Event event : events) {
                if (!event.retracted && fitAll(plan, event.picks, fresh)) {
                    event.picks.add(fresh);
                    return;
                }
            }
            Set<Integer> group = new HashSet<>();
            group.add(fresh);
            for (int pick = 0; pick < picks.size(); pick++) {
                if (pick != fresh && eventOf(pick) == NONE && !picks.get(pick).removed && fitAll(plan, group, pick)) {
                    group.add(pick);
                }
            }
            if (group.size() >= plan.votes[0] && events.size() < 20) {
                Event event = new Event();
                event.declared = tick;
                event.picks.addAll(group);
                events.add(event);
            }
        }

        int mute(Plan plan, int station) {
            muted[station] = true;
            triggered[station] = false;
            Set<Event> touched = new HashSet<>();
            for (int pick = 0; pick < picks.size(); pick++) {
                if (picks.get(pick).station == station) {
                    picks.get(pick).removed = true;
                    if (eventOf(pick) != NONE) {
                        touched.add(events.get(eventOf(pick)));
                        events.get(eventOf(pick)).picks.remove(pick);
                    }
                }
            }
            int lost = 0;
            for (Event event : touched) {
                if (event.picks.size() < plan.votes[0]) {
                    event.retracted = true;
                    event.picks.clear();
                    lost++;
                }
            }
            return lost;
        }

        int standing() {
            return (int) events.stream().filter(event -> !event.retracted).count();
        }

        List<Integer> delays(Plan plan, int node, int event) {
            List<Integer> delays = new ArrayList<>();
            for (int pick : events.get(event).picks) {
                int[] place = plan.stations.get(picks.get(pick).station);
                delays.add(picks.get(pick).time - plan.travel(plan.node(node), place));
            }
            return delays;
        }

        int origin(Plan plan, int node, int event) {
            List<Integer> delays = delays(plan, node, event);
            return delays.stream().mapToInt(x -> x).sum() / delays.size();
        }

        int misfit(Plan plan, int node, int event) {
            int origin = origin(plan, node, event);
            return delays(plan, node, event).stream().mapToInt(x -> Math.abs(x - origin)).sum();
        }

        int place(Plan plan, int event) {
            int best = 0;
            for (int node = 1; node < plan.grid[2] * plan.grid[3]; node++) {
                best = misfit(plan, node, event) < misfit(plan, best, event) ? node : best;
            }
            return best;
        }

        int magnitude(Plan plan, int event) {
            int[] at = plan.node(place(plan, event));
            List<Integer> all = new ArrayList<>();
            for (int pick : events.get(event).picks) {
                int[] station = plan.stations.get(picks.get(pick).station);
                all.add(plan.ladder(picks.get(pick).peak + plan.decay[0] * plan.apart(at, station)));
            }
            Collections.sort(all);
            return all.get((all.size() - 1) / 2);
        }
    }

    /** A parse error: its code and position. */
    static final class Fault extends Exception {
        private static final long serialVersionUID = 1;
        final int code;
        final int position;

        Fault(int code, int position) {
            super("code " + code + " at " + position);
            this.code = code;
            this.position = position;
        }
    }

    /** Reads a text by recursive descent, byte by byte. */
    static final class Descent {
        private static final Map<String, int[][]> RANGES = new HashMap<>();

        static {
            RANGES.put("station", new int[][] {{0, 999}, {0, 999}});
            RANGES.put("grid", new int[][] {{0, 999}, {0, 999}, {1, 12}, {1, 12}, {1, 99}});
            RANGES.put("speed", new int[][] {{1, 999}});
            RANGES.put("average", new int[][] {{1, 50}, {1, 99}});
            RANGES.put("trigger", new int[][] {{1, 9999}, {0, 9999}});
            RANGES.put("votes", new int[][] {{1, 8}});
            RANGES.put("slack", new int[][] {{0, 99}});
            RANGES.put("rung", new int[][] {{0, 9999}, {0, 99}});
            RANGES.put("decay", new int[][] {{0, 99}});
        }

        private final String text;
        private final Plan plan = new Plan();
        private final Set<String> seen = new HashSet<>();
        private int at = 0;
        private int start = 0;

        Descent(String text) {
            this.text = text;
        }

        /** The next token, or "" at the end; start is its position. */
        private String next() {
            while (at < text.length() && " \n".indexOf(text.charAt(at)) >= 0) {
                at++;
            }
            start = at;
            String run = text.substring(at).replaceFirst("(?s)^([a-z]+|[0-9]+|.).*$", "$1");
            at += run.length();
            return run;
        }

        Plan network() throws Fault {
            for (String word = next(); !word.isEmpty(); word = next()) {
                statement(word);
                if (!next().equals(";")) {
                    throw new Fault(1, start);
                }
            }
            return plan;
        }

        private void statement(String word) throws Fault {
            if (!RANGES.containsKey(word)) {
                throw new Fault(1, start);
            }
            List<int[]> several = word.equals("station") ? plan.stations : word.equals("rung") ? plan.rungs : null;
            if (several != null && several.size() == 8) {
                throw new Fault(4, start);
            }
            if (several == null && !seen.add(word)) {
                throw new Fault(2, start);
            }
            int[][] ranges = RANGES.get(word);
            int[] items = new int[ranges.length];
            for (int k = 0; k < items.length; k++) {
                items[k] = item(word, items, k, ranges[k]);
            }
            keep(word, items);
        }

        private int item(String word, int[] items, int k, int[] range) throws Fault {
            String digits = next();
            if (!digits.matches("[0-9]{1,4}")) {
                throw new Fault(1, start);
            }
            int value = Integer.parseInt(digits);
            boolean wrong = value < range[0] || value > range[1];
            wrong |= word.equals("average") && k == 1 && value < items[0];
            wrong |= word.equals("trigger") && k == 1 && value > items[0];
            if (word.equals("rung") && !plan.rungs.isEmpty()) {
                int[] before = plan.rungs.get(plan.rungs.size() - 1);
                wrong |= k == 0 ? value <= before[0] : value < before[1];
            }
            if (wrong) {
                throw new Fault(3, start);
            }
            return value;
        }

        private void keep(String word, int[] items) {
            switch (word) {
                case "station" -> plan.stations.add(items);
                case "rung" -> plan.rungs.add(items);
                case "grid" -> plan.grid = items;
                case "speed" -> plan.speed = items;
                case "average" -> plan.average = items;
                case "trigger" -> plan.trigger = items;
                case "votes" -> plan.votes = items;
                case "slack" -> plan.slack = items;
                default -> plan.decay = items;
            }
        }
    }

    private String buffer = "";
    private int errorAt = NONE;
    private String text = "";
    private Plan plan = new Plan();
    private World world = new World();
    private final Deque<World> undone = new ArrayDeque<>();
    private final World[] slots = new World[2];

    /** Does the call of this name; a boolean is 1 or 0, and what is thrown is thrown. */
    long call(String name, int... x) {
        return switch (name) {
            case "append" -> append(x);
            case "parse" -> parse(x[0]);
            case "errorPosition" -> errorAt;
            case "size" -> size(x[0]);
            case "tick" -> world.tick;
            case "between" -> plan.travel(station(x[0]), station(x[1]));
            case "travel" -> travel(x[0], x[1]);
            case "ladder" -> plan.ladder(ranged(x[0], 0, 99999));
            case "station" -> property(x[0], x[1]);
            case "triggered" -> flags(world.triggered);
            case "pick" -> pick(x[0], x[1]);
            case "fits" -> world.fit(plan, pick(x[0]), pick(x[1])) ? 1 : 0;
            case "event" -> event(x[0], x[1]);
            case "eventPick" -> eventPick(x[0], x[1]);
            case "misfit" -> misfit(x[0], x[1]);
            case "describe" -> describe(x[0]);
            case "describedByte" -> x[0] < 0 || x[0] >= text.length() ? NONE : text.charAt(x[0]);
            case "ratioAfter" -> ratioAfter(x[0], x[1], x[2]);
            case "eventsWithout" -> eventsWithout(x[0], x[1]);
            case "ticksToEvent" -> ticksToEvent();
            case "undo" -> undo();
            case "saveSnapshot" -> save(x[0]);
            case "restoreSnapshot" -> restore(x[0]);
            default -> change(name, x);
        };
    }

    private static int ranged(int value, int least, int most) {
        if (value < least || value > most) {
            throw new IllegalArgumentException();
        }
        return value;
    }

    private static int index(int value, int count) {
        if (value < 0 || value >= count) {
            throw new IndexOutOfBoundsException();
        }
        return value;
    }

    private static void state(boolean good) {
        if (!good) {
            throw new IllegalStateException();
        }
    }

    private static int flags(boolean[] row) {
        int count = 0;
        for (boolean flag : row) {
            count += flag ? 1 : 0;
        }
        return count;
    }

    private int[] station(int station) {
        return plan.stations.get(index(station, plan.stations.size()));
    }

    private int pick(int pick) {
        return index(pick, world.picks.size());
    }

    private Event event(int event) {
        return world.events.get(index(event, world.events.size()));
    }

    private int node(int node) {
        return index(node, plan.grid[2] * plan.grid[3]);
    }

    private int append(int[] x) {
        if (buffer.length() + 20 > 500) {
            return NONE;
        }
        for (int word : x) {
            for (int k = 3; k >= 0; k--) {
                buffer += (char) (word >>> 8 * k & 255);
            }
        }
        return buffer.length();
    }

    private int parse(int length) {
        String read = buffer.substring(0, ranged(length, 0, buffer.length()));
        buffer = "";
        try {
            plan = new Descent(read).network();
        } catch (Fault fault) {
            errorAt = fault.position;
            return fault.code;
        }
        errorAt = NONE;
        world = new World();
        undone.clear();
        slots[0] = null;
        slots[1] = null;
        return 0;
    }

    private int size(int what) {
        return switch (ranged(what, 0, 5)) {
            case 0 -> plan.stations.size();
            case 1 -> plan.grid[2] * plan.grid[3];
            case 2 -> plan.rungs.size();
            case 3 -> world.picks.size();
            case 4 -> world.events.size();
            default -> world.standing();
        };
    }

    private int travel(int node, int station) {
        node(node);
        return plan.travel(plan.node(node), station(station));
    }

    private long property(int station, int what) {
        int[] place = station(station);
        return switch (ranged(what, 0, 7)) {
            case 0 -> place[0];
            case 1 -> place[1];
            case 2 -> world.levels[station];
            case 3 -> world.sum(station, plan.average[0]);
            case 4 -> world.sum(station, plan.average[1]);
            case 5 -> world.ratio(plan, station);
            case 6 -> world.triggered[station] ? 1 : 0;
            default -> world.muted[station] ? 1 : 0;
        };
    }

    private int pick(int number, int what) {
        Pick pick = world.picks.get(pick(number));
        return switch (ranged(what, 0, 4)) {
            case 0 -> pick.station;
            case 1 -> pick.time;
            case 2 -> pick.peak;
            case 3 -> world.eventOf(number);
            default -> pick.removed ? 1 : 0;
        };
    }

    private int event(int number, int what) {
        Event event = event(number);
        ranged(what, 0, 6);
        if (event.retracted && what >= 3) {
            return NONE;
        }
        return switch (what) {
            case 0 -> event.retracted ? 1 : 0;
            case 1 -> event.picks.size();
            case 2 -> event.declared;
            case 3 -> world.place(plan, number);
            case 4 -> world.origin(plan, world.place(plan, number), number);
            case 5 -> world.misfit(plan, world.place(plan, number), number);
            default -> world.magnitude(plan, number);
        };
    }

    private int eventPick(int event, int k) {
        List<Integer> picks = new ArrayList<>(event(event).picks);
        return k < 0 || k >= picks.size() ? NONE : picks.get(k);
    }

    private int misfit(int node, int event) {
        node(node);
        state(!event(event).retracted);
        return world.misfit(plan, node, event);
    }

    private int describe(int number) {
        Event event = event(number);
        if (event.retracted) {
            text = "event " + number + " retracted";
        } else {
            int[] place = plan.node(world.place(plan, number));
            int magnitude = world.magnitude(plan, number);
            text = "event " + number + " at " + place[0] + "," + place[1] + " with " + event.picks.size() + " votes"
                    + (magnitude == NONE ? "" : " magnitude " + magnitude);
        }
        return text.length();
    }

    private int ratioAfter(int station, int level, int ticks) {
        station(station);
        ranged(level, 0, 9999);
        ranged(ticks, 0, 200);
        World later = world.copy();
        later.levels[station] = level;
        for (int k = 0; k < ticks; k++) {
            later.step(plan);
        }
        return later.ratio(plan, station);
    }

    private int eventsWithout(int station, int ticks) {
        station(station);
        ranged(ticks, 0, 200);
        state(!world.muted[station]);
        World later = world.copy();
        later.mute(plan, station);
        for (int k = 0; k < ticks; k++) {
            later.step(plan);
        }
        return later.standing();
    }

    private int ticksToEvent() {
        World later = world.copy();
        for (int ticks = 1; ticks <= 200; ticks++) {
            later.step(plan);
            if (later.events.size() > world.events.size()) {
                return ticks;
            }
        }
        return NONE;
    }

    /** Tries the change on the world, and keeps the world before it if nothing was thrown. */
    private int change(String name, int[] x) {
        World before = world.copy();
        int answer = switch (name) {
            case "setLevel" -> setLevel(x[0], x[1]);
            case "pass" -> pass(x[0]);
            case "mute" -> mute(x[0]);
            case "unmute" -> unmute(x[0]);
            case "retract" -> retract(x[0]);
            default -> throw new AssertionError(name);
        };
        undone.push(before);
        while (undone.size() > 10) {
            undone.removeLast();
        }
        return answer;
    }

    private int setLevel(int station, int level) {
        station(station);
        int before = world.levels[station];
        world.levels[station] = ranged(level, 0, 9999);
        return before;
    }

    private int pass(int ticks) {
        ranged(ticks, 1, 200);
        state(world.tick + ticks <= 9999);
        int before = world.picks.size();
        for (int k = 0; k < ticks; k++) {
            world.step(plan);
        }
        return world.picks.size() - before;
    }

    private int mute(int station) {
        station(station);
        state(!world.muted[station]);
        return world.mute(plan, station);
    }

    private int unmute(int station) {
        station(station);
        state(world.muted[station]);
        world.muted[station] = false;
        return world.ratio(plan, station);
    }

    private int retract(int number) {
        Event event = event(number);
        state(!event.retracted);
        int count = event.picks.size();
        event.retracted = true;
        event.picks.clear();
        return count;
    }

    private int undo() {
        if (undone.isEmpty()) {
            return NONE;
        }
        world = undone.pop();
        return undone.size();
    }

    private int save(int slot) {
        index(slot, 2);
        int before = slots[slot] == null ? 0 : 1;
        slots[slot] = world.copy();
        return before;
    }

    private int restore(int slot) {
        index(slot, 2);
        state(slots[slot] != null);
        world = slots[slot].copy();
        undone.clear();
        return world.tick;
    }
}
