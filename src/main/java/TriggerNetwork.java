import java.util.Arrays;

/** A seismic trigger network. The numbered promises that it keeps stand in ../shared/DOC.md. */
public final class TriggerNetwork {
    public static final int NONE = -1;

    private static final int MOST_BYTES = 500;
    private static final int APPENDED_BYTES = 20;
    private static final int MOST_STATIONS = 8;
    private static final int MOST_NODES = 144;
    private static final int MOST_RUNGS = 8;
    private static final int MOST_PICKS = 60;
    private static final int MOST_EVENTS = 20;
    private static final int MOST_UNDONE = 10;
    private static final int SLOTS = 2;
    private static final int LONGEST_SPAN = 99;
    private static final int HIGHEST_TICK = 9999;
    private static final int HIGHEST_LEVEL = 9999;
    private static final int HIGHEST_AMPLITUDE = 99999;
    private static final int MOST_TICKS = 200;

    private final int[] buffer = new int[MOST_BYTES];
    private int bufferLength = 0;
    private int errorAt = NONE;
    private final Grammar grammar = new Grammar();
    private Network network = new Network();
    /** A text is read into this one, so that a faulty text leaves the network as it was. */
    private Network spare = new Network();
    private final Situation now = new Situation();
    /** What would be is tried out here, so that nothing changes by it. */
    private final Situation trial = new Situation();
    private final Memory memory = new Memory();
    private final Engine engine = new Engine();
    private final Locator locator = new Locator();
    private final StringBuilder description = new StringBuilder();

    public TriggerNetwork() {
    }

    // ---- network

    public int append(int a, int b, int c, int d, int e) {
        if (bufferLength + APPENDED_BYTES > MOST_BYTES) {
            return NONE;
        }
        appendWord(a);
        appendWord(b);
        appendWord(c);
        appendWord(d);
        appendWord(e);
        return bufferLength;
    }

    public int parse(int length) throws IllegalArgumentException {
        if (length < 0 || length > bufferLength) {
            throw new IllegalArgumentException("length is out of range");
        }
        bufferLength = 0;
        int code = grammar.read(buffer, length, spare);
        errorAt = grammar.errorAt;
        if (code == 0) {
            adoptSpare();
        }
        return code;
    }

    public int errorPosition() {
        return errorAt;
    }

    public int size(int what) throws IllegalArgumentException {
        switch (what) {
            case 0:
                return network.stationCount;
            case 1:
                return network.grid.nodeCount();
            case 2:
                return network.rungs.count;
            case 3:
                return now.pickCount;
            case 4:
                return now.eventCount;
            case 5:
                return now.standingEvents();
            default:
                throw new IllegalArgumentException("no such number of things");
        }
    }

    public int tick() {
        return now.tick;
    }

    // ---- distances and the ladder

    public int between(int one, int other) throws IndexOutOfBoundsException {
        needStation(one);
        needStation(other);
        return network.travelOfStations(one, other);
    }

    public int travel(int node, int station) throws IndexOutOfBoundsException {
        needNode(node);
        needStation(station);
        return network.travelFromNode(node, station);
    }

    public int ladder(int amplitude) throws IllegalArgumentException {
        if (amplitude < 0 || amplitude > HIGHEST_AMPLITUDE) {
            throw new IllegalArgumentException("amplitude is out of range");
        }
        return network.rungs.magnitudeOf(amplitude);
    }

    // ---- stations

    public int station(int station, int what) throws IndexOutOfBoundsException, IllegalArgumentException {
        needStation(station);
        switch (what) {
            case 0:
                return network.xs[station];
            case 1:
                return network.ys[station];
            case 2:
                return now.levels[station];
            case 3:
                return now.shortSums[station];
            case 4:
                return now.longSums[station];
            case 5:
                return network.ratioOf(now.shortSums[station], now.longSums[station]);
            case 6:
                return now.triggered[station];
            case 7:
                return now.muted[station];
            default:
                throw new IllegalArgumentException("no such property of a station");
        }
    }

    public int triggered() {
        return now.triggeredStations();
    }

    // ---- picks and events

    public int pick(int pick, int what) throws IndexOutOfBoundsException, IllegalArgumentException {
        needPick(pick);
        switch (what) {
            case 0:
                return now.pickStations[pick];
            case 1:
                return now.pickTimes[pick];
            case 2:
                return now.pickPeaks[pick];
            case 3:
                return now.pickEvents[pick];
            case 4:
                return now.removed[pick];
            default:
                throw new IllegalArgumentException("no such property of a pick");
        }
    }

    public boolean fits(int one, int other) throws IndexOutOfBoundsException {
        needPick(one);
        needPick(other);
        return now.picksFit(network, one, other);
    }

    public int event(int event, int what) throws IndexOutOfBoundsException, IllegalArgumentException {
        needEvent(event);
        switch (what) {
            case 0:
                return now.retracted[event];
            case 1:
                return now.picksOf(event);
            case 2:
                return now.declared[event];
            case 3:
            case 4:
            case 5:
            case 6:
                return now.retracted[event] == 1 ? NONE : located(event, what);
            default:
                throw new IllegalArgumentException("no such property of an event");
        }
    }

    public int eventPick(int event, int k) throws IndexOutOfBoundsException {
        needEvent(event);
        return now.pickOf(event, k);
    }

    public int misfit(int node, int event) throws IndexOutOfBoundsException, IllegalStateException {
        needNode(node);
        needEvent(event);
        needStanding(event);
        locator.gather(now, event);
        locator.weigh(network, now, node);
        return locator.misfit;
    }

    // ---- descriptions

    public int describe(int event) throws IndexOutOfBoundsException {
        needEvent(event);
        description.setLength(0);
        description.append("event ").append(event);
        if (now.retracted[event] == 1) {
            description.append(" retracted");
        } else {
            describeStanding(event);
        }
        return description.length();
    }

    public int describedByte(int index) {
        if (index < 0 || index >= description.length()) {
            return NONE;
        }
        return description.charAt(index);
    }

    // ---- what would be: nothing changes by it

    public int ratioAfter(int station, int level, int ticks)
            throws IndexOutOfBoundsException, IllegalArgumentException {
        needStation(station);
        needLevel(level);
        needTicks(0, ticks);
        int shortSum = now.sumAfter(station, network.shortSpan, level, ticks);
        int longSum = now.sumAfter(station, network.longSpan, level, ticks);
        return network.ratioOf(shortSum, longSum);
    }

    public int eventsWithout(int station, int ticks)
            throws IndexOutOfBoundsException, IllegalArgumentException, IllegalStateException {
        needStation(station);
        needTicks(0, ticks);
        needMuted(station, 0);
        trial.copyFrom(now);
        trial.silence(network, station);
        for (int done = 0; done < ticks; done++) {
            engine.doTick(network, trial);
        }
        return trial.standingEvents();
    }

    public int ticksToEvent() {
        trial.copyFrom(now);
        for (int ticks = 1; ticks <= MOST_TICKS; ticks++) {
            engine.doTick(network, trial);
            if (trial.eventCount > now.eventCount) {
                return ticks;
            }
        }
        return NONE;
    }

    // ---- changes

    public int setLevel(int station, int level) throws IndexOutOfBoundsException, IllegalArgumentException {
        needStation(station);
        needLevel(level);
        memory.remember(now);
        int before = now.levels[station];
        now.levels[station] = level;
        return before;
    }

    public int pass(int ticks) throws IllegalArgumentException, IllegalStateException {
        needTicks(1, ticks);
        if (now.tick + ticks > HIGHEST_TICK) {
            throw new IllegalStateException("the tick would be too high");
        }
        memory.remember(now);
        int before = now.pickCount;
        for (int done = 0; done < ticks; done++) {
            engine.doTick(network, now);
        }
        return now.pickCount - before;
    }

    public int mute(int station) throws IndexOutOfBoundsException, IllegalStateException {
        needStation(station);
        needMuted(station, 0);
        memory.remember(now);
        return now.silence(network, station);
    }

    public int unmute(int station) throws IndexOutOfBoundsException, IllegalStateException {
        needStation(station);
        needMuted(station, 1);
        memory.remember(now);
        now.muted[station] = 0;
        return network.ratioOf(now.shortSums[station], now.longSums[station]);
    }

    public int retract(int event) throws IndexOutOfBoundsException, IllegalStateException {
        needEvent(event);
        needStanding(event);
        memory.remember(now);
        int before = now.picksOf(event);
        now.withdraw(event);
        return before;
    }

    // ---- undo and snapshots

    public int undo() {
        return memory.takeBack(now);
    }

    public boolean saveSnapshot(int slot) throws IndexOutOfBoundsException {
        needSlot(slot);
        return memory.store(slot, now);
    }

    public int restoreSnapshot(int slot) throws IndexOutOfBoundsException, IllegalStateException {
        needSlot(slot);
        if (!memory.filled[slot]) {
            throw new IllegalStateException("the slot is empty");
        }
        memory.fetch(slot, now);
        return now.tick;
    }

    // ---- what the face needs

    private void appendWord(int word) {
        for (int shift = 24; shift >= 0; shift -= 8) {
            if (bufferLength < buffer.length) {
                buffer[bufferLength] = word >> shift & 255;
                bufferLength++;
            }
        }
    }

    private void adoptSpare() {
        Network read = spare;
        spare = network;
        network = read;
        now.clear();
        memory.forget();
    }

    private int located(int event, int what) {
        locator.locate(network, now, event);
        switch (what) {
            case 3:
                return locator.node;
            case 4:
                return locator.origin;
            case 5:
                return locator.misfit;
            default:
                return locator.magnitude(network, now);
        }
    }

    private void describeStanding(int event) {
        locator.locate(network, now, event);
        int magnitude = locator.magnitude(network, now);
        description.append(" at ").append(network.grid.nodeX(locator.node));
        description.append(',').append(network.grid.nodeY(locator.node));
        description.append(" with ").append(locator.count).append(" votes");
        if (magnitude != NONE) {
            description.append(" magnitude ").append(magnitude);
        }
    }

    private void needStation(int station) {
        if (station < 0 || station >= network.stationCount) {
            throw new IndexOutOfBoundsException("no such station");
        }
    }

    private void needNode(int node) {
        if (node < 0 || node >= network.grid.nodeCount()) {
            throw new IndexOutOfBoundsException("no such node");
        }
    }

    private void needPick(int pick) {
        if (pick < 0 || pick >= now.pickCount) {
            throw new IndexOutOfBoundsException("no such pick");
        }
    }

    private void needEvent(int event) {
        if (event < 0 || event >= now.eventCount) {
            throw new IndexOutOfBoundsException("no such event");
        }
    }

    private void needSlot(int slot) {
        if (slot < 0 || slot >= SLOTS) {
            throw new IndexOutOfBoundsException("no such slot");
        }
    }

    private void needLevel(int level) {
        if (level < 0 || level > HIGHEST_LEVEL) {
            throw new IllegalArgumentException("level is out of range");
        }
    }

    private void needTicks(int fewest, int ticks) {
        if (ticks < fewest || ticks > MOST_TICKS) {
            throw new IllegalArgumentException("ticks is out of range");
        }
    }

    private void needMuted(int station, int muted) {
        if (now.muted[station] != muted) {
            throw new IllegalStateException("the muting of the station is not so");
        }
    }

    private void needStanding(int event) {
        if (now.retracted[event] == 1) {
            throw new IllegalStateException("the event is retracted");
        }
    }

    // ---- arithmetic

    /** The greatest whole number below 4096 whose square is at most this; no distance is greater. */
    private static int root(int square) {
        int root = 0;
        for (int power = 11; power >= 0; power--) {
            int larger = root + (1 << power);
            if (larger * larger <= square) {
                root = larger;
            }
        }
        return root;
    }

    private static int distance(int acrossX, int acrossY) {
        return root(acrossX * acrossX + acrossY * acrossY);
    }

    private static void copyRow(int[] from, int[] to) {
        System.arraycopy(from, 0, to, 0, Math.min(from.length, to.length));
    }

    // ---- the described network

    /** The places at which an event can be located. */
    private static final class Grid {
        int x;
        int y;
        int columns;
        int rows;
        int step;

        void place(int newX, int newY, int newColumns, int newRows, int newStep) {
            x = newX;
            y = newY;
            columns = newColumns;
            rows = newRows;
            step = newStep;
        }

        int nodeCount() {
            return columns * rows;
        }

        int nodeX(int node) {
            return x + (columns == 0 ? 0 : node % columns) * step;
        }

        int nodeY(int node) {
            return y + (columns == 0 ? 0 : node / columns) * step;
        }
    }

    /** The ladder of amplitudes and their magnitudes. */
    private static final class Rungs {
        int count;
        final int[] amplitudes = new int[MOST_RUNGS];
        final int[] magnitudes = new int[MOST_RUNGS];

        void put(int amplitude, int magnitude) {
            if (count < MOST_RUNGS) {
                amplitudes[count] = amplitude;
                magnitudes[count] = magnitude;
                count++;
            }
        }

        int lowestNextAmplitude() {
            return count > 0 && count <= MOST_RUNGS ? amplitudes[count - 1] + 1 : 0;
        }

        int lowestNextMagnitude() {
            return count > 0 && count <= MOST_RUNGS ? magnitudes[count - 1] : 0;
        }

        int magnitudeOf(int amplitude) {
            int magnitude = NONE;
            for (int rung = 0; rung < count && rung < MOST_RUNGS; rung++) {
                if (amplitudes[rung] <= amplitude) {
                    magnitude = magnitudes[rung];
                }
            }
            return magnitude;
        }
    }

    /** All that a network text describes, and the distances that follow from it. */
    private static final class Network {
        final Grid grid = new Grid();
        final Rungs rungs = new Rungs();
        int tenths;
        int shortSpan;
        int longSpan;
        int on;
        int off;
        int votes;
        int slack;
        int decay;
        int stationCount;
        final int[] xs = new int[MOST_STATIONS];
        final int[] ys = new int[MOST_STATIONS];
        final int[] stationTravels = new int[MOST_STATIONS * MOST_STATIONS];
        final int[] nodeDistances = new int[MOST_NODES * MOST_STATIONS];

        Network() {
            reset();
        }

        void reset() {
            grid.place(0, 0, 5, 5, 20);
            rungs.count = 0;
            tenths = 60;
            shortSpan = 3;
            longSpan = 12;
            on = 300;
            off = 150;
            votes = 3;
            slack = 2;
            decay = 1;
            stationCount = 0;
        }

        void putStation(int x, int y) {
            if (stationCount < MOST_STATIONS) {
                xs[stationCount] = x;
                ys[stationCount] = y;
                stationCount++;
            }
        }

        /** Distances are asked for far more often than networks are read. */
        void measure() {
            for (int station = 0; station < stationCount && station < MOST_STATIONS; station++) {
                for (int other = 0; other < stationCount && other < MOST_STATIONS; other++) {
                    stationTravels[other * MOST_STATIONS + station] =
                            travelOver(distance(xs[other] - xs[station], ys[other] - ys[station]));
                }
                for (int node = 0; node < grid.nodeCount() && node < MOST_NODES; node++) {
                    nodeDistances[node * MOST_STATIONS + station] =
                            distance(grid.nodeX(node) - xs[station], grid.nodeY(node) - ys[station]);
                }
            }
        }

        int distanceFromNode(int node, int station) {
            int cell = node * MOST_STATIONS + station;
            return cell >= 0 && cell < nodeDistances.length ? nodeDistances[cell] : 0;
        }

        int travelFromNode(int node, int station) {
            return travelOver(distanceFromNode(node, station));
        }

        int travelOfStations(int one, int other) {
            int cell = one * MOST_STATIONS + other;
            return cell >= 0 && cell < stationTravels.length ? stationTravels[cell] : 0;
        }

        int travelOver(int distance) {
            return tenths == 0 ? 0 : distance * 10 / tenths;
        }

        /** Long arithmetic: the products of large sums do not fit into an int. */
        int ratioOf(int shortSum, int longSum) {
            long divisor = (long) longSum * shortSpan;
            return divisor == 0 ? 0 : (int) ((long) shortSum * longSpan * 100 / divisor);
        }
    }

    // ---- reading a network text

    /** The tokens of a text; a token that breaks the rules is an invalid one. */
    private static final class Tokens {
        static final int BLANK = 0;
        static final int WORD = 1;
        static final int NUMBER = 2;
        static final int SEMICOLON = 3;
        static final int INVALID = 4;
        static final int LONGEST_WORD = 8;
        static final int LONGEST_NUMBER = 4;

        int count;
        final int[] kinds = new int[MOST_BYTES];
        final int[] starts = new int[MOST_BYTES];
        final int[] lengths = new int[MOST_BYTES];
        final int[] values = new int[MOST_BYTES];

        void split(int[] text, int length) {
            count = 0;
            int before = BLANK;
            for (int index = 0; index < length && index < text.length; index++) {
                int kind = kindOf(text[index]);
                boolean goesOn = kind == before && (kind == WORD || kind == NUMBER);
                if (kind != BLANK && !goesOn) {
                    open(kind, index);
                }
                if (kind != BLANK) {
                    extend(text[index]);
                }
                before = kind;
            }
            refuseLongOnes();
        }

        static int kindOf(int sign) {
            if (sign == ' ' || sign == '\n') {
                return BLANK;
            }
            if (sign >= 'a' && sign <= 'z') {
                return WORD;
            }
            if (sign >= '0' && sign <= '9') {
                return NUMBER;
            }
            return sign == ';' ? SEMICOLON : INVALID;
        }

        void open(int kind, int start) {
            if (count < MOST_BYTES) {
                kinds[count] = kind;
                starts[count] = start;
                lengths[count] = 0;
                values[count] = 0;
                count++;
            }
        }

        void extend(int sign) {
            int latest = count - 1;
            if (latest >= 0 && latest < MOST_BYTES) {
                lengths[latest]++;
                // A value that runs over belongs to a run too long to be a number.
                values[latest] = values[latest] * 10 + sign - '0';
            }
        }

        void refuseLongOnes() {
            for (int token = 0; token < count && token < MOST_BYTES; token++) {
                boolean longWord = kinds[token] == WORD && lengths[token] > LONGEST_WORD;
                boolean longNumber = kinds[token] == NUMBER && lengths[token] > LONGEST_NUMBER;
                if (longWord || longNumber) {
                    kinds[token] = INVALID;
                }
            }
        }

        boolean spells(int token, int[] text, String word) {
            if (token < 0 || token >= count || lengths[token] != word.length()) {
                return false;
            }
            for (int k = 0; k < word.length(); k++) {
                int index = starts[token] + k;
                if (index < 0 || index >= text.length || text[index] != word.charAt(k)) {
                    return false;
                }
            }
            return true;
        }
    }

    /** Reads the statements of a text, token by token, into a network. */
    private static final class Grammar {
        static final int STATION = 0;
        static final int GRID = 1;
        static final int SPEED = 2;
        static final int AVERAGE = 3;
        static final int TRIGGER = 4;
        static final int VOTES = 5;
        static final int SLACK = 6;
        static final int RUNG = 7;
        static final int DECAY = 8;
        static final int SORTS = 9;
        static final int MOST_ITEMS = 5;

        static final int WRONG_TOKEN = 1;
        static final int SECOND_STATEMENT = 2;
        static final int OUT_OF_RANGE = 3;
        static final int NINTH_STATEMENT = 4;

        private static final int[] ITEMS = {2, 5, 1, 2, 2, 1, 1, 2, 1};
        private static final int[] MOST = {8, 1, 1, 1, 1, 1, 1, 8, 1};
        /** A row of MOST_ITEMS for each sort; lowest() and highest() know the bounds that depend on the text. */
        private static final int[] LOWEST = {
            0, 0, 0, 0, 0,
            0, 0, 1, 1, 1,
            1, 0, 0, 0, 0,
            1, 1, 0, 0, 0,
            1, 0, 0, 0, 0,
            1, 0, 0, 0, 0,
            0, 0, 0, 0, 0,
            0, 0, 0, 0, 0,
            0, 0, 0, 0, 0,
        };
        private static final int[] HIGHEST = {
            999, 999, 0, 0, 0,
            999, 999, 12, 12, 99,
            999, 0, 0, 0, 0,
            50, 99, 0, 0, 0,
            9999, 9999, 0, 0, 0,
            8, 0, 0, 0, 0,
            99, 0, 0, 0, 0,
            9999, 99, 0, 0, 0,
            99, 0, 0, 0, 0,
        };

        int errorAt = NONE;
        private final Tokens tokens = new Tokens();
        private final int[] counts = new int[SORTS];
        private final int[] items = new int[MOST_ITEMS];
        /** The sort of the statement that is being read, or NONE between statements. */
        private int sort;
        private int itemCount;

        /** Answers the code of the error, or 0; after an error the network is of no use. */
        int read(int[] text, int length, Network network) {
            network.reset();
            Arrays.fill(counts, 0);
            sort = NONE;
            tokens.split(text, length);
            for (int token = 0; token < tokens.count && token < MOST_BYTES; token++) {
                int code = take(token, text, network);
                if (code != 0) {
                    errorAt = tokens.starts[token];
                    return code;
                }
            }
            if (sort != NONE) {
                errorAt = length;
                return WRONG_TOKEN;
            }
            errorAt = NONE;
            network.measure();
            return 0;
        }

        private int take(int token, int[] text, Network network) {
            if (sort < 0 || sort >= SORTS) {
                return begin(token, text);
            }
            if (itemCount < ITEMS[sort] && itemCount < MOST_ITEMS) {
                return takeItem(token, network);
            }
            if (tokens.kinds[token] != Tokens.SEMICOLON) {
                return WRONG_TOKEN;
            }
            finish(network);
            return 0;
        }

        private int begin(int token, int[] text) {
            int found = tokens.kinds[token] == Tokens.WORD ? sortOf(token, text) : NONE;
            if (found == NONE) {
                return WRONG_TOKEN;
            }
            if (counts[found] >= MOST[found]) {
                return MOST[found] == 1 ? SECOND_STATEMENT : NINTH_STATEMENT;
            }
            counts[found]++;
            sort = found;
            itemCount = 0;
            return 0;
        }

        private int sortOf(int token, int[] text) {
            for (int candidate = 0; candidate < SORTS; candidate++) {
                if (tokens.spells(token, text, wordOf(candidate))) {
                    return candidate;
                }
            }
            return NONE;
        }

        private static String wordOf(int sort) {
            switch (sort) {
                case STATION:
                    return "station";
                case GRID:
                    return "grid";
                case SPEED:
                    return "speed";
                case AVERAGE:
                    return "average";
                case TRIGGER:
                    return "trigger";
                case VOTES:
                    return "votes";
                case SLACK:
                    return "slack";
                case RUNG:
                    return "rung";
                default:
                    return "decay";
            }
        }

        private int takeItem(int token, Network network) {
            if (tokens.kinds[token] != Tokens.NUMBER) {
                return WRONG_TOKEN;
            }
            int value = tokens.values[token];
            if (value < lowest(network) || value > highest()) {
                return OUT_OF_RANGE;
            }
            items[itemCount] = value;
            itemCount++;
            return 0;
        }

        private int lowest(Network network) {
            if (sort == AVERAGE && itemCount == 1) {
                return items[0];
            }
            if (sort == RUNG) {
                return itemCount == 0 ? network.rungs.lowestNextAmplitude() : network.rungs.lowestNextMagnitude();
            }
            return LOWEST[sort * MOST_ITEMS + itemCount];
        }

        private int highest() {
            if (sort == TRIGGER && itemCount == 1) {
                return items[0];
            }
            return HIGHEST[sort * MOST_ITEMS + itemCount];
        }

        private void finish(Network network) {
            switch (sort) {
                case STATION:
                    network.putStation(items[0], items[1]);
                    break;
                case GRID:
                    network.grid.place(items[0], items[1], items[2], items[3], items[4]);
                    break;
                case SPEED:
                    network.tenths = items[0];
                    break;
                case AVERAGE:
                    network.shortSpan = items[0];
                    network.longSpan = items[1];
                    break;
                case TRIGGER:
                    network.on = items[0];
                    network.off = items[1];
                    break;
                case VOTES:
                    network.votes = items[0];
                    break;
                case SLACK:
                    network.slack = items[0];
                    break;
                case RUNG:
                    network.rungs.put(items[0], items[1]);
                    break;
                default:
                    network.decay = items[0];
                    break;
            }
            sort = NONE;
        }
    }

    // ---- what changes can change

    /** All that changes can change; flags are 1 or 0. */
    private static final class Situation {
        int tick;
        int pickCount;
        int eventCount;
        final int[] levels = new int[MOST_STATIONS];
        /** A ring for each station: the sample of a tick stands at the tick's remainder. */
        final int[] samples = new int[MOST_STATIONS * LONGEST_SPAN];
        final int[] shortSums = new int[MOST_STATIONS];
        final int[] longSums = new int[MOST_STATIONS];
        final int[] triggered = new int[MOST_STATIONS];
        final int[] muted = new int[MOST_STATIONS];
        final int[] latestPicks = new int[MOST_STATIONS];
        final int[] pickStations = new int[MOST_PICKS];
        final int[] pickTimes = new int[MOST_PICKS];
        final int[] pickPeaks = new int[MOST_PICKS];
        final int[] pickEvents = new int[MOST_PICKS];
        final int[] removed = new int[MOST_PICKS];
        final int[] declared = new int[MOST_EVENTS];
        final int[] retracted = new int[MOST_EVENTS];

        /** Rows of picks and events need no clearing: their makers fill them. */
        void clear() {
            tick = 0;
            pickCount = 0;
            eventCount = 0;
            Arrays.fill(levels, 0);
            Arrays.fill(samples, 0);
            Arrays.fill(shortSums, 0);
            Arrays.fill(longSums, 0);
            Arrays.fill(triggered, 0);
            Arrays.fill(muted, 0);
            Arrays.fill(latestPicks, 0);
        }

        void copyFrom(Situation other) {
            tick = other.tick;
            pickCount = other.pickCount;
            eventCount = other.eventCount;
            copyRow(other.levels, levels);
            copyRow(other.samples, samples);
            copyRow(other.shortSums, shortSums);
            copyRow(other.longSums, longSums);
            copyRow(other.triggered, triggered);
            copyRow(other.muted, muted);
            copyRow(other.latestPicks, latestPicks);
            copyRow(other.pickStations, pickStations);
            copyRow(other.pickTimes, pickTimes);
            copyRow(other.pickPeaks, pickPeaks);
            copyRow(other.pickEvents, pickEvents);
            copyRow(other.removed, removed);
            copyRow(other.declared, declared);
            copyRow(other.retracted, retracted);
        }

        int standingEvents() {
            int standing = 0;
            for (int event = 0; event < eventCount && event < MOST_EVENTS; event++) {
                standing += 1 - retracted[event];
            }
            return standing;
        }

        int triggeredStations() {
            int count = 0;
            for (int station = 0; station < MOST_STATIONS; station++) {
                count += triggered[station];
            }
            return count;
        }

        int sampleAt(int station, int time) {
            int cell = time < 1 ? NONE : station * LONGEST_SPAN + time % LONGEST_SPAN;
            return cell >= 0 && cell < samples.length ? samples[cell] : 0;
        }

        /** To be called for the new tick; the sums follow, as adding up whole spans each tick is dear. */
        void takeSample(Network network, int station) {
            int cell = station * LONGEST_SPAN + tick % LONGEST_SPAN;
            if (station < 0 || station >= MOST_STATIONS || cell < 0 || cell >= samples.length) {
                return;
            }
            int level = levels[station];
            // The oldest sample may stand in the very cell that the new one takes.
            shortSums[station] += level - sampleAt(station, tick - network.shortSpan);
            longSums[station] += level - sampleAt(station, tick - network.longSpan);
            samples[cell] = level;
        }

        /** The sum of the latest samples of a span, if some ticks with this level were done. */
        int sumAfter(int station, int span, int level, int ticks) {
            int sum = 0;
            for (int back = 0; back < span; back++) {
                sum += back < ticks ? level : sampleAt(station, tick - (back - ticks));
            }
            return sum;
        }

        int picksOf(int event) {
            int count = 0;
            for (int pick = 0; pick < pickCount && pick < MOST_PICKS; pick++) {
                if (pickEvents[pick] == event) {
                    count++;
                }
            }
            return count;
        }

        int pickOf(int event, int k) {
            int count = 0;
            for (int pick = 0; pick < pickCount && pick < MOST_PICKS; pick++) {
                if (pickEvents[pick] == event) {
                    if (count == k) {
                        return pick;
                    }
                    count++;
                }
            }
            return NONE;
        }

        boolean picksFit(Network network, int one, int other) {
            if (one < 0 || one >= MOST_PICKS || other < 0 || other >= MOST_PICKS) {
                return false;
            }
            if (removed[one] == 1 || removed[other] == 1 || pickStations[one] == pickStations[other]) {
                return false;
            }
            int apart = Math.abs(pickTimes[one] - pickTimes[other]);
            return apart <= network.travelOfStations(pickStations[one], pickStations[other]) + network.slack;
        }

        void addPick(int station, int sample) {
            if (pickCount < MOST_PICKS && station >= 0 && station < MOST_STATIONS) {
                pickStations[pickCount] = station;
                pickTimes[pickCount] = tick;
                pickPeaks[pickCount] = sample;
                pickEvents[pickCount] = NONE;
                removed[pickCount] = 0;
                latestPicks[station] = pickCount;
                pickCount++;
            }
        }

        /** Mutes a station and answers how many events are retracted by it. */
        int silence(Network network, int station) {
            if (station < 0 || station >= MOST_STATIONS) {
                return 0;
            }
            muted[station] = 1;
            triggered[station] = 0;
            for (int pick = 0; pick < pickCount && pick < MOST_PICKS; pick++) {
                if (pickStations[pick] == station) {
                    removed[pick] = 1;
                    pickEvents[pick] = NONE;
                }
            }
            // Only an event that has just lost a pick can have fewer picks than votes tells.
            int lost = 0;
            for (int event = 0; event < eventCount && event < MOST_EVENTS; event++) {
                if (retracted[event] == 0 && picksOf(event) < network.votes) {
                    withdraw(event);
                    lost++;
                }
            }
            return lost;
        }

        void withdraw(int event) {
            if (event < 0 || event >= MOST_EVENTS) {
                return;
            }
            retracted[event] = 1;
            for (int pick = 0; pick < pickCount && pick < MOST_PICKS; pick++) {
                if (pickEvents[pick] == event) {
                    pickEvents[pick] = NONE;
                }
            }
        }
    }

    /** The changes that can be undone, and the snapshots. */
    private static final class Memory {
        private final Situation[] undone = new Situation[MOST_UNDONE];
        private final Situation[] slots = new Situation[SLOTS];
        final boolean[] filled = new boolean[SLOTS];
        /** The rows are a ring: this one is written next, and the latest stands before it. */
        private int next = 0;
        private int count = 0;

        Memory() {
            for (int row = 0; row < MOST_UNDONE; row++) {
                undone[row] = new Situation();
            }
            for (int slot = 0; slot < SLOTS; slot++) {
                slots[slot] = new Situation();
            }
        }

        void forget() {
            count = 0;
            for (int slot = 0; slot < SLOTS; slot++) {
                filled[slot] = false;
            }
        }

        void remember(Situation now) {
            Situation row = undone[next];
            if (row != null) {
                row.copyFrom(now);
            }
            next = (next + 1) % MOST_UNDONE;
            count = Math.min(count + 1, MOST_UNDONE);
        }

        int takeBack(Situation now) {
            if (count == 0) {
                return NONE;
            }
            next = (next + MOST_UNDONE - 1) % MOST_UNDONE;
            count--;
            Situation row = undone[next];
            if (row != null) {
                now.copyFrom(row);
            }
            return count;
        }

        boolean store(int slot, Situation now) {
            boolean earlier = filled[slot];
            Situation row = slots[slot];
            if (row != null) {
                row.copyFrom(now);
            }
            filled[slot] = true;
            return earlier;
        }

        void fetch(int slot, Situation now) {
            Situation row = slots[slot];
            if (row != null) {
                now.copyFrom(row);
            }
            count = 0;
        }
    }

    // ---- ticks and votes

    /** Does the ticks of a situation, and the votes of its new picks. */
    private static final class Engine {
        private final int[] group = new int[MOST_PICKS];
        private int groupSize;

        void doTick(Network network, Situation now) {
            now.tick++;
            for (int station = 0; station < network.stationCount && station < MOST_STATIONS; station++) {
                now.takeSample(network, station);
            }
            for (int station = 0; station < network.stationCount && station < MOST_STATIONS; station++) {
                if (judge(network, now, station)) {
                    vote(network, now, now.pickCount - 1);
                }
            }
        }

        /** Answers whether the station has made a new pick. */
        private static boolean judge(Network network, Situation now, int station) {
            int sample = now.levels[station];
            int ratio = network.ratioOf(now.shortSums[station], now.longSums[station]);
            if (now.triggered[station] == 1) {
                raisePeak(now, now.latestPicks[station], sample);
                if (ratio < network.off) {
                    now.triggered[station] = 0;
                }
                return false;
            }
            boolean hears = now.tick >= network.longSpan && now.muted[station] == 0;
            if (!hears || ratio < network.on || now.pickCount >= MOST_PICKS) {
                return false;
            }
            now.triggered[station] = 1;
            now.addPick(station, sample);
            return true;
        }

        private static void raisePeak(Situation now, int pick, int sample) {
            if (pick >= 0 && pick < MOST_PICKS) {
                now.pickPeaks[pick] = Math.max(now.pickPeaks[pick], sample);
            }
        }

        private void vote(Network network, Situation now, int pick) {
            if (pick < 0 || pick >= MOST_PICKS) {
                return;
            }
            for (int event = 0; event < now.eventCount && event < MOST_EVENTS; event++) {
                if (now.retracted[event] == 0 && fitsAllOf(network, now, event, pick)) {
                    now.pickEvents[pick] = event;
                    return;
                }
            }
            formGroup(network, now, pick);
            if (groupSize >= network.votes && now.eventCount < MOST_EVENTS) {
                declareGroup(now);
            }
        }

        private static boolean fitsAllOf(Network network, Situation now, int event, int newPick) {
            for (int pick = 0; pick < now.pickCount && pick < MOST_PICKS; pick++) {
                if (now.pickEvents[pick] == event && !now.picksFit(network, pick, newPick)) {
                    return false;
                }
            }
            return true;
        }

        /** The new pick fits to no pick of its own station, so it is never taken twice. */
        private void formGroup(Network network, Situation now, int newPick) {
            group[0] = newPick;
            groupSize = 1;
            for (int pick = 0; pick < now.pickCount && pick < MOST_PICKS; pick++) {
                boolean free = now.pickEvents[pick] == NONE && now.removed[pick] == 0;
                if (free && fitsGroup(network, now, pick) && groupSize < MOST_PICKS) {
                    group[groupSize] = pick;
                    groupSize++;
                }
            }
        }

        private boolean fitsGroup(Network network, Situation now, int pick) {
            for (int member = 0; member < groupSize && member < MOST_PICKS; member++) {
                if (!now.picksFit(network, group[member], pick)) {
                    return false;
                }
            }
            return true;
        }

        private void declareGroup(Situation now) {
            if (now.eventCount < 0 || now.eventCount >= MOST_EVENTS) {
                return;
            }
            now.declared[now.eventCount] = now.tick;
            now.retracted[now.eventCount] = 0;
            for (int member = 0; member < groupSize && member < MOST_PICKS; member++) {
                int pick = group[member];
                if (pick >= 0 && pick < MOST_PICKS) {
                    now.pickEvents[pick] = now.eventCount;
                }
            }
            now.eventCount++;
        }
    }

    // ---- location and magnitude

    /** Locates one event at a time: first gather its picks, then weigh nodes or locate it. */
    private static final class Locator {
        int count;
        int node;
        int origin;
        int misfit;
        private final int[] members = new int[MOST_PICKS];
        private final int[] magnitudes = new int[MOST_PICKS];

        void gather(Situation now, int event) {
            count = 0;
            for (int pick = 0; pick < now.pickCount && pick < MOST_PICKS; pick++) {
                if (now.pickEvents[pick] == event && count < MOST_PICKS) {
                    members[count] = pick;
                    count++;
                }
            }
        }

        void locate(Network network, Situation now, int event) {
            gather(now, event);
            int best = 0;
            weigh(network, now, 0);
            int smallest = misfit;
            for (int candidate = 1; candidate < network.grid.nodeCount() && candidate < MOST_NODES; candidate++) {
                weigh(network, now, candidate);
                if (misfit < smallest) {
                    smallest = misfit;
                    best = candidate;
                }
            }
            weigh(network, now, best);
        }

        /** Sets the node, and its origin and misfit for the gathered picks. */
        void weigh(Network network, Situation now, int newNode) {
            node = newNode;
            int sum = 0;
            for (int member = 0; member < count && member < MOST_PICKS; member++) {
                sum += delay(network, now, members[member]);
            }
            origin = count == 0 ? 0 : sum / count;
            misfit = 0;
            for (int member = 0; member < count && member < MOST_PICKS; member++) {
                misfit += Math.abs(delay(network, now, members[member]) - origin);
            }
        }

        private int delay(Network network, Situation now, int pick) {
            if (pick < 0 || pick >= MOST_PICKS) {
                return 0;
            }
            return now.pickTimes[pick] - network.travelFromNode(node, now.pickStations[pick]);
        }

        /** The magnitude of the event that has been located. */
        int magnitude(Network network, Situation now) {
            for (int member = 0; member < count && member < MOST_PICKS; member++) {
                insert(member, magnitudeOfPick(network, now, members[member]));
            }
            int middle = (count - 1) / 2;
            return count > 0 && middle < MOST_PICKS ? magnitudes[middle] : NONE;
        }

        private int magnitudeOfPick(Network network, Situation now, int pick) {
            if (pick < 0 || pick >= MOST_PICKS) {
                return NONE;
            }
            int away = network.distanceFromNode(node, now.pickStations[pick]);
            return network.rungs.magnitudeOf(now.pickPeaks[pick] + network.decay * away);
        }

        /** Keeps the magnitudes before this place ascending, with the new one among them. */
        private void insert(int place, int magnitude) {
            int free = place;
            for (int before = place - 1; before >= 0 && before < MOST_PICKS - 1; before--) {
                if (magnitudes[before] <= magnitude) {
                    break;
                }
                magnitudes[before + 1] = magnitudes[before];
                free = before;
            }
            if (free >= 0 && free < MOST_PICKS) {
                magnitudes[free] = magnitude;
            }
        }
    }
}
