/** Tape measures whose zeros are lost, and what their readings tell all the same. */
public final class LostZeros {
    public static final int INVALID_ARGUMENT = -1;
    public static final int NOT_POSSIBLE = -2;
    public static final int LIMIT_REACHED = -3;
    public static final int NOT_FOUND = -4;

    private static final int TAPES = 8;
    private static final int POINTS = 12;
    private static final int READINGS = 40;
    private static final int STATES = 4;
    private static final int PAD_SIGNS = 60;
    private static final int GREATEST = 999;
    private static final int PAIRS = POINTS * (POINTS - 1) / 2;

    /** A tape with readings at all points: each up to "0a=-999", with "," between two. */
    private static final int WRITTEN_SIGNS = POINTS * 8;

    /** Points and tapes are the nodes that readings join: first the points, then the tapes. */
    private static final int NODES = POINTS + TAPES;

    /** What a tape reads where it has no reading. */
    private static final int NONE = 1000000;

    private static final int OK = 0;
    private static final int READ_ALREADY = 1;
    private static final int ANOTHER_FOLLOWS = 2;
    private static final int NO_READING = 3;
    private static final int TOO_FAR = 4;
    private static final int ZEROS_APART = 5;

    /** What is added to the answer of a deed that is not refused. */
    private static final int DONE = 10;

    /** What is added to differences and readings when they are told. */
    private static final int TOLD = 100000;

    /** Where a table's row of numbers has what; before these stand the readings. */
    private static final int TAPE_COUNT = TAPES * POINTS;
    private static final int TAKEN = TAPE_COUNT + 1;
    private static final int REFUSED = TAPE_COUNT + 2;
    private static final int CUTS = TAPE_COUNT + 3;
    private static final int GLUED = TAPE_COUNT + 4;
    private static final int ROW = TAPE_COUNT + 5;

    /** What why() tells, by its argument. */
    private static final int STOP_REASON = 0;
    private static final int STOP_PART = 1;
    private static final int STOP_SIGN = 2;
    private static final int STOP_NUMBERS = 3;

    private final Table table = new Table();
    private final History history = new History();
    private final int[] snapshot = new int[ROW];
    private boolean saved;
    private final Text pad = new Text(PAD_SIGNS);
    private final int[] stop = new int[STOP_NUMBERS];
    private boolean stopped;

    // Used again by every look, so that no call makes an object.
    private final Groups groups = new Groups();
    private final Walk walk = new Walk();
    private final Table rest = new Table();
    private final Text written = new Text(WRITTEN_SIGNS);

    /** Creates a table without tapes. */
    public LostZeros() {
    }

    // ---- tapes

    /** A tape comes, without readings; returns its number. */
    public int tape() {
        if (table.tapes() >= TAPES) {
            return LIMIT_REACHED;
        }
        history.record(table);
        return table.bring();
    }

    /** A tape goes, with its readings; returns how many are lost by that. */
    public int drop(int tape) {
        if (!table.isTape(tape)) {
            return INVALID_ARGUMENT;
        }
        history.record(table);
        int lost = table.readingsOf(tape);
        table.remove(tape);
        return lost;
    }

    /** Makes all readings of a tape greater by a number. */
    public int shift(int tape, int by) {
        if (!table.isTape(tape) || !isNumber(by)) {
            return INVALID_ARGUMENT;
        }
        history.record(table);
        if (!staysInRange(tape, by)) {
            return refuse(TOO_FAR);
        }
        for (int point = 0; point < POINTS; point++) {
            if (table.has(tape, point)) {
                table.put(tape, point, table.at(tape, point) + by);
            }
        }
        return DONE + table.readingsOf(tape);
    }

    /** The readings of a tape that are the mark or more go to a new tape. */
    public int cut(int tape, int mark) {
        if (!table.isTape(tape) || !isNumber(mark)) {
            return INVALID_ARGUMENT;
        }
        if (table.tapes() >= TAPES) {
            return LIMIT_REACHED;
        }
        history.record(table);
        int top = table.pointOfGreatest(tape);
        if (top != NOT_FOUND && table.at(tape, top) - mark > GREATEST) {
            return refuse(TOO_FAR);
        }
        table.tally(CUTS);
        return DONE + moveFrom(tape, mark, table.bring());
    }

    /** A tape gets the readings of another one, which goes. */
    public int glue(int tape, int other) {
        if (!table.isTape(tape) || !table.isTape(other) || tape == other) {
            return INVALID_ARGUMENT;
        }
        history.record(table);
        groups.join(table);
        if (!groups.together(POINTS + tape, POINTS + other)) {
            return refuse(ZEROS_APART);
        }
        int by = groups.way(POINTS + tape, POINTS + other);
        if (!staysInRange(other, by)) {
            return refuse(TOO_FAR);
        }
        int got = copyMissing(other, tape, by);
        table.remove(other);
        table.tally(GLUED);
        return DONE + got;
    }

    // ---- readings

    /** A tape gets a reading at a point. */
    public int read(int tape, int point, int number) {
        int error = errorOf(tape, point, number);
        if (error != OK) {
            return error;
        }
        history.record(table);
        return enter(tape, point, number);
    }

    /** A tape loses its reading at a point. */
    public int lose(int tape, int point) {
        if (!table.isTape(tape) || !isPoint(point)) {
            return INVALID_ARGUMENT;
        }
        history.record(table);
        if (!table.has(tape, point)) {
            return refuse(NO_READING);
        }
        table.put(tape, point, NONE);
        return DONE + table.readings();
    }

    // ---- texts

    /** Appends a character to the pad; returns the pad's length then. */
    public int append(int code) {
        if (code < 33 || code > 126) {
            return INVALID_ARGUMENT;
        }
        if (pad.length() >= PAD_SIGNS) {
            return LIMIT_REACHED;
        }
        pad.add(code);
        return pad.length();
    }

    /** Empties the pad; returns the length that it had. */
    public int clear() {
        int had = pad.length();
        pad.empty();
        return had;
    }

    /** Returns the position of the first wrong character of the pad. */
    public int fault() {
        return Grammar.firstFault(pad);
    }

    /** Takes the readings of the pad up to the first that is refused or returns an error. */
    public int take() {
        if (Grammar.firstFault(pad) != NOT_FOUND) {
            return NOT_POSSIBLE;
        }
        history.record(table);
        stopped = false;
        int parts = Grammar.parts(pad);
        int taken = 0;
        for (int part = 0; part < parts && !stopped; part++) {
            int start = Grammar.startOf(pad, part);
            int answer = takePart(start);
            if (answer > DONE) {
                taken++;
            } else {
                stopAt(answer, part, start);
            }
        }
        pad.empty();
        return taken;
    }

    /** Tells about the reading at which the latest take() stopped. */
    public int why(int what) {
        if (what < 0 || what >= STOP_NUMBERS) {
            return INVALID_ARGUMENT;
        }
        return stopped ? stop[what] : NOT_FOUND;
    }

    /** Returns a character of a written tape. */
    public int sign(int tape, int place) {
        if (!table.isTape(tape) || place < 0) {
            return INVALID_ARGUMENT;
        }
        write(tape);
        return place < written.length() ? written.at(place) : NOT_FOUND;
    }

    // ---- looks; nothing is changed

    /** Returns what a tape reads at a point. */
    public int reading(int tape, int point) {
        if (!table.isTape(tape) || !isPoint(point)) {
            return INVALID_ARGUMENT;
        }
        return table.has(tape, point) ? TOLD + table.at(tape, point) : NOT_FOUND;
    }

    /** Returns the place of the second point less that of the first one. */
    public int difference(int from, int to, int way) {
        if (!isPoint(from) || !isPoint(to) || way < 0 || way > 1) {
            return INVALID_ARGUMENT;
        }
        if (way == 0) {
            return walk.meets(table, from, to) ? TOLD + walk.placeOf(to) : NOT_FOUND;
        }
        groups.join(table);
        return tell(from, to);
    }

    /** Tells what a tape would read at a point. */
    public int follows(int tape, int point) {
        if (!table.isTape(tape) || !isPoint(point)) {
            return INVALID_ARGUMENT;
        }
        groups.join(table);
        return tell(POINTS + tape, point);
    }

    /** Returns the place of the zero of the second tape less that of the first one. */
    public int zeros(int tape, int other) {
        if (!table.isTape(tape) || !table.isTape(other)) {
            return INVALID_ARGUMENT;
        }
        groups.join(table);
        return tell(POINTS + tape, POINTS + other);
    }

    /** Tells why a reading would be refused, 0 if it would not be. */
    public int whyNot(int tape, int point, int number) {
        if (!table.isTape(tape) || !isPoint(point) || !isNumber(number)) {
            return INVALID_ARGUMENT;
        }
        return reasonAgainst(tape, point, number);
    }

    /** Returns how many readings alone hold their tape and their point together. */
    public int holding(int way) {
        if (way < 0 || way > 1) {
            return INVALID_ARGUMENT;
        }
        rest.copyFrom(table.row);
        int ends = way == 1 ? takeEndsAway() : 0;
        return ends + holdingOfRest();
    }

    /** Returns a number of a point. */
    public int point(int point, int what) {
        if (!isPoint(point) || what < 0 || what > 3) {
            return INVALID_ARGUMENT;
        }
        groups.join(table);
        switch (what) {
            case 0:
                return table.readingsAt(point);
            case 1:
                return groups.pointsWith(point);
            case 2:
                return groups.pointsAheadOf(point);
            default:
                return groups.farFromFirst(point);
        }
    }

    /** Returns a number of a tape. */
    public int tapeOf(int tape, int what) {
        if (!table.isTape(tape) || what < 0 || what > 4) {
            return INVALID_ARGUMENT;
        }
        switch (what) {
            case 0:
                return table.readingsOf(tape);
            case 1:
                return table.pointOfLeast(tape);
            case 2:
                return table.pointOfGreatest(tape);
            case 3:
                return table.spread(tape);
            default:
                groups.join(table);
                return groups.tapesWith(POINTS + tape, table.tapes());
        }
    }

    /** Returns a number of the whole. */
    public int count(int what) {
        if (what < 0 || what > 13) {
            return INVALID_ARGUMENT;
        }
        if (what >= 2 && what <= 5) {
            return numberOfGroups(what);
        }
        switch (what) {
            case 0:
                return table.tapes();
            case 1:
                return table.readings();
            case 6:
                return table.barePoints();
            case 7:
                return table.bareTapes();
            case 8:
                return table.tallied(TAKEN);
            case 9:
                return table.tallied(REFUSED);
            case 10:
                return table.tallied(CUTS);
            case 11:
                return table.tallied(GLUED);
            case 12:
                return pad.length();
            default:
                return history.states();
        }
    }

    /** Returns the pairs of points that hang together, divided by all pairs. */
    public double known() {
        groups.join(table);
        int ends = 0;
        for (int point = 0; point < POINTS; point++) {
            ends += groups.pointsWith(point) - 1;
        }
        // Each pair was counted at both of its points.
        int pairs = ends / 2;
        return (double) pairs / PAIRS;
    }

    // ---- what would be; nothing is changed

    /** Tells how many more pairs of points would hang together with a reading. */
    public int ifRead(int tape, int point) {
        if (!table.isTape(tape) || !isPoint(point)) {
            return INVALID_ARGUMENT;
        }
        groups.join(table);
        return groups.newPairs(tape, point);
    }

    /** Returns 12 times the tape, and the point, with the greatest ifRead(). */
    public int bestReading() {
        if (table.tapes() == 0) {
            return NOT_FOUND;
        }
        groups.join(table);
        int best = 0;
        int most = 0;
        for (int tape = 0; tape < table.tapes(); tape++) {
            for (int point = 0; point < POINTS; point++) {
                int pairs = groups.newPairs(tape, point);
                if (pairs > most) {
                    most = pairs;
                    best = tape * POINTS + point;
                }
            }
        }
        return best;
    }

    // ---- history, snapshot

    /** Undoes the latest change; returns how many states the history has then. */
    public int undo() {
        if (history.states() == 0) {
            return NOT_POSSIBLE;
        }
        history.bringBack(table);
        return history.states();
    }

    /** Takes a snapshot; returns how many readings there are. */
    public int save() {
        table.copyTo(snapshot);
        saved = true;
        return table.readings();
    }

    /** Restores the snapshot, which stays; returns how many readings there are then. */
    public int restore() {
        if (!saved) {
            return NOT_POSSIBLE;
        }
        history.record(table);
        table.copyFrom(snapshot);
        return table.readings();
    }

    // ---- arguments

    private static boolean isPoint(int point) {
        return point >= 0 && point < POINTS;
    }

    private static boolean isNode(int node) {
        return node >= 0 && node < NODES;
    }

    private static boolean isNumber(int number) {
        return number >= -GREATEST && number <= GREATEST;
    }

    // ---- parts of deeds

    private int refuse(int reason) {
        table.tally(REFUSED);
        return reason;
    }

    private boolean staysInRange(int tape, int by) {
        for (int point = 0; point < POINTS; point++) {
            if (table.has(tape, point) && !isNumber(table.at(tape, point) + by)) {
                return false;
            }
        }
        return true;
    }

    /** Moves the readings that are the mark or more to a new tape; returns how many. */
    private int moveFrom(int tape, int mark, int newTape) {
        int moved = 0;
        for (int point = 0; point < POINTS; point++) {
            int number = table.at(tape, point);
            if (number != NONE && number >= mark) {
                table.put(newTape, point, number - mark);
                table.put(tape, point, NONE);
                moved++;
            }
        }
        return moved;
    }

    /** Gives a tape the readings of another one where it has none itself; returns how many. */
    private int copyMissing(int from, int to, int by) {
        int copied = 0;
        for (int point = 0; point < POINTS; point++) {
            if (table.has(from, point) && !table.has(to, point)) {
                table.put(to, point, table.at(from, point) + by);
                copied++;
            }
        }
        return copied;
    }

    private int errorOf(int tape, int point, int number) {
        if (!table.isTape(tape) || !isPoint(point) || !isNumber(number)) {
            return INVALID_ARGUMENT;
        }
        return table.readings() >= READINGS ? LIMIT_REACHED : OK;
    }

    private int reasonAgainst(int tape, int point, int number) {
        if (table.has(tape, point)) {
            return READ_ALREADY;
        }
        groups.join(table);
        int zero = POINTS + tape;
        boolean another = groups.together(zero, point) && groups.way(zero, point) != number;
        return another ? ANOTHER_FOLLOWS : OK;
    }

    /** Reads without a state in the history, as the readings of the pad are one change. */
    private int enter(int tape, int point, int number) {
        int reason = reasonAgainst(tape, point, number);
        if (reason != OK) {
            return refuse(reason);
        }
        table.put(tape, point, number);
        table.tally(TAKEN);
        return DONE + table.readings();
    }

    private int takePart(int start) {
        int tape = pad.at(start) - '0';
        int point = pad.at(start + 1) - 'a';
        int number = Grammar.numberAt(pad, start + 3);
        int error = errorOf(tape, point, number);
        return error != OK ? error : enter(tape, point, number);
    }

    private void stopAt(int reason, int part, int sign) {
        stopped = true;
        stop[STOP_REASON] = reason;
        stop[STOP_PART] = part;
        stop[STOP_SIGN] = sign;
    }

    private void write(int tape) {
        written.empty();
        for (int point = 0; point < POINTS; point++) {
            if (table.has(tape, point)) {
                if (written.length() > 0) {
                    written.add(',');
                }
                written.add('0' + tape);
                written.add('a' + point);
                written.add('=');
                written.addNumber(table.at(tape, point));
            }
        }
    }

    // ---- parts of looks

    /** Tells how far the second node is from the first one, when the groups are joined. */
    private int tell(int from, int to) {
        return groups.together(from, to) ? TOLD + groups.way(from, to) : NOT_FOUND;
    }

    private int numberOfGroups(int what) {
        groups.join(table);
        switch (what) {
            case 2:
                return groups.clusters();
            case 3:
                return groups.clustersRead(table);
            case 4:
                int clusters = groups.clustersRead(table);
                return clusters > 0 ? clusters - 1 : 0;
            default:
                return groups.greatestWay();
        }
    }

    /**
     * Takes points and tapes with one reading only away, again and again; returns how many
     * readings go by that. Each of them holds, as nothing else leads to such an end.
     */
    private int takeEndsAway() {
        int all = 0;
        for (int round = 0; round < READINGS; round++) {
            int gone = takeEndsOnce();
            if (gone == 0) {
                return all;
            }
            all += gone;
        }
        return all;
    }

    private int takeEndsOnce() {
        int gone = 0;
        for (int tape = 0; tape < rest.tapes(); tape++) {
            for (int point = 0; point < POINTS; point++) {
                if (rest.has(tape, point)
                        && (rest.readingsOf(tape) == 1 || rest.readingsAt(point) == 1)) {
                    rest.put(tape, point, NONE);
                    gone++;
                }
            }
        }
        return gone;
    }

    /** Leaves one reading of the rest after the other out; returns how many of them hold. */
    private int holdingOfRest() {
        int hold = 0;
        for (int tape = 0; tape < rest.tapes(); tape++) {
            for (int point = 0; point < POINTS; point++) {
                int number = rest.at(tape, point);
                if (number != NONE) {
                    rest.put(tape, point, NONE);
                    if (!walk.meets(rest, point, POINTS + tape)) {
                        hold++;
                    }
                    rest.put(tape, point, number);
                }
            }
        }
        return hold;
    }

    /** The tapes with their readings, and what is counted: all that undo brings back. */
    private static final class Table {
        final int[] row = new int[ROW];

        Table() {
            for (int cell = 0; cell < TAPE_COUNT; cell++) {
                row[cell] = NONE;
            }
        }

        int tapes() {
            return row[TAPE_COUNT];
        }

        boolean isTape(int tape) {
            return tape >= 0 && tape < row[TAPE_COUNT];
        }

        int at(int tape, int point) {
            boolean there = tape >= 0 && tape < TAPES && point >= 0 && point < POINTS;
            return there ? row[tape * POINTS + point] : NONE;
        }

        boolean has(int tape, int point) {
            return at(tape, point) != NONE;
        }

        void put(int tape, int point, int number) {
            if (tape >= 0 && tape < TAPES && point >= 0 && point < POINTS) {
                row[tape * POINTS + point] = number;
            }
        }

        /** Brings a tape and returns its number; it has no readings, as there is none behind. */
        int bring() {
            row[TAPE_COUNT]++;
            return row[TAPE_COUNT] - 1;
        }

        /** Each later tape takes the place ahead of it, and the last one gets what is behind. */
        void remove(int tape) {
            for (int place = tape; place < TAPES; place++) {
                for (int point = 0; point < POINTS; point++) {
                    put(place, point, at(place + 1, point));
                }
            }
            row[TAPE_COUNT]--;
        }

        int readings() {
            int all = 0;
            for (int tape = 0; tape < tapes(); tape++) {
                all += readingsOf(tape);
            }
            return all;
        }

        int readingsOf(int tape) {
            int all = 0;
            for (int point = 0; point < POINTS; point++) {
                all += has(tape, point) ? 1 : 0;
            }
            return all;
        }

        int readingsAt(int point) {
            int all = 0;
            for (int tape = 0; tape < tapes(); tape++) {
                all += has(tape, point) ? 1 : 0;
            }
            return all;
        }

        int barePoints() {
            int bare = 0;
            for (int point = 0; point < POINTS; point++) {
                bare += readingsAt(point) == 0 ? 1 : 0;
            }
            return bare;
        }

        int bareTapes() {
            int bare = 0;
            for (int tape = 0; tape < tapes(); tape++) {
                bare += readingsOf(tape) == 0 ? 1 : 0;
            }
            return bare;
        }

        int pointOfLeast(int tape) {
            int best = NOT_FOUND;
            for (int point = 0; point < POINTS; point++) {
                if (has(tape, point) && (best == NOT_FOUND || at(tape, point) < at(tape, best))) {
                    best = point;
                }
            }
            return best;
        }

        int pointOfGreatest(int tape) {
            int best = NOT_FOUND;
            for (int point = 0; point < POINTS; point++) {
                if (has(tape, point) && (best == NOT_FOUND || at(tape, point) > at(tape, best))) {
                    best = point;
                }
            }
            return best;
        }

        /** Without readings both are NONE, and their difference is 0. */
        int spread(int tape) {
            return at(tape, pointOfGreatest(tape)) - at(tape, pointOfLeast(tape));
        }

        void tally(int what) {
            if (what >= TAKEN && what < ROW) {
                row[what]++;
            }
        }

        int tallied(int what) {
            return what >= TAKEN && what < ROW ? row[what] : 0;
        }

        void copyTo(int[] other) {
            for (int cell = 0; cell < ROW && cell < other.length; cell++) {
                other[cell] = row[cell];
            }
        }

        void copyFrom(int[] other) {
            for (int cell = 0; cell < ROW && cell < other.length; cell++) {
                row[cell] = other[cell];
            }
        }
    }

    /** The states ahead of the latest changes, the oldest one first. */
    private static final class History {
        private final int[][] rows = new int[STATES][ROW];
        private int states;

        int states() {
            return states;
        }

        void record(Table table) {
            if (states >= STATES) {
                dropOldest();
            }
            if (states >= 0 && states < STATES) {
                table.copyTo(rows[states]);
                states++;
            }
        }

        /** Its row is used again, as the last one. */
        private void dropOldest() {
            int[] oldest = rows[0];
            for (int state = 1; state < STATES; state++) {
                rows[state - 1] = rows[state];
            }
            rows[STATES - 1] = oldest;
            states--;
        }

        void bringBack(Table table) {
            if (states > 0 && states <= STATES) {
                states--;
                table.copyFrom(rows[states]);
            }
        }
    }

    /** Goes from one node by readings until another one is met. */
    private static final class Walk {
        private final boolean[] met = new boolean[NODES];
        private final int[] place = new int[NODES];
        private final int[] line = new int[NODES];
        private int waiting;

        /** Tells whether the second node is met; its place is then told from the first one. */
        boolean meets(Table table, int from, int to) {
            if (!isNode(from) || !isNode(to)) {
                return false;
            }
            for (int node = 0; node < NODES; node++) {
                met[node] = false;
            }
            waiting = 0;
            meet(from, 0);
            for (int next = 0; next < waiting && next < NODES && !met[to]; next++) {
                if (line[next] < POINTS) {
                    goFromPoint(table, line[next]);
                } else {
                    goFromTape(table, line[next] - POINTS);
                }
            }
            return met[to];
        }

        int placeOf(int node) {
            return isNode(node) ? place[node] : 0;
        }

        private void goFromPoint(Table table, int point) {
            for (int tape = 0; tape < table.tapes(); tape++) {
                if (table.has(tape, point)) {
                    meet(POINTS + tape, placeOf(point) - table.at(tape, point));
                }
            }
        }

        private void goFromTape(Table table, int tape) {
            for (int point = 0; point < POINTS; point++) {
                if (table.has(tape, point)) {
                    meet(point, placeOf(POINTS + tape) + table.at(tape, point));
                }
            }
        }

        private void meet(int node, int where) {
            if (isNode(node) && !met[node] && waiting < NODES) {
                met[node] = true;
                place[node] = where;
                line[waiting] = node;
                waiting++;
            }
        }
    }

    /** All that hangs together joined, each node with its distance from a first one. */
    private static final class Groups {
        private final int[] first = new int[NODES];
        private final int[] distance = new int[NODES];

        void join(Table table) {
            for (int node = 0; node < NODES; node++) {
                first[node] = node;
                distance[node] = 0;
            }
            for (int tape = 0; tape < table.tapes(); tape++) {
                for (int point = 0; point < POINTS; point++) {
                    if (table.has(tape, point)) {
                        joinTwo(POINTS + tape, point, table.at(tape, point));
                    }
                }
            }
        }

        /** The group of the second node comes to that of the first one, as far as the way tells. */
        private void joinTwo(int one, int two, int far) {
            if (!isNode(one) || !isNode(two) || first[one] == first[two]) {
                return;
            }
            int coming = first[two];
            int by = distance[one] + far - distance[two];
            for (int node = 0; node < NODES; node++) {
                if (first[node] == coming) {
                    first[node] = first[one];
                    distance[node] += by;
                }
            }
        }

        boolean together(int one, int two) {
            return isNode(one) && isNode(two) && first[one] == first[two];
        }

        /** How far the second node is behind the first one, if they hang together. */
        int way(int from, int to) {
            return isNode(from) && isNode(to) ? distance[to] - distance[from] : 0;
        }

        int pointsWith(int node) {
            int all = 0;
            for (int point = 0; point < POINTS; point++) {
                all += together(node, point) ? 1 : 0;
            }
            return all;
        }

        int tapesWith(int node, int tapes) {
            int all = 0;
            for (int tape = 0; tape < tapes; tape++) {
                all += together(node, POINTS + tape) ? 1 : 0;
            }
            return all;
        }

        int newPairs(int tape, int point) {
            int zero = POINTS + tape;
            return together(zero, point) ? 0 : pointsWith(zero) * pointsWith(point);
        }

        int pointsAheadOf(int point) {
            int ahead = 0;
            for (int other = 0; other < POINTS; other++) {
                if (together(point, other)) {
                    int far = way(point, other);
                    ahead += far < 0 || far == 0 && other < point ? 1 : 0;
                }
            }
            return ahead;
        }

        int farFromFirst(int point) {
            int farthest = 0;
            for (int other = 0; other < POINTS; other++) {
                if (together(point, other) && way(other, point) > farthest) {
                    farthest = way(other, point);
                }
            }
            return farthest;
        }

        int greatestWay() {
            int greatest = 0;
            for (int point = 0; point < POINTS; point++) {
                int far = farFromFirst(point);
                greatest = far > greatest ? far : greatest;
            }
            return greatest;
        }

        int clusters() {
            int all = 0;
            for (int point = 0; point < POINTS; point++) {
                all += isLowest(point) ? 1 : 0;
            }
            return all;
        }

        /** The lowest point is enough to look at: it is alone, or hangs by a reading of its own. */
        int clustersRead(Table table) {
            int all = 0;
            for (int point = 0; point < POINTS; point++) {
                all += isLowest(point) && table.readingsAt(point) > 0 ? 1 : 0;
            }
            return all;
        }

        private boolean isLowest(int point) {
            for (int other = 0; other < point; other++) {
                if (together(other, point)) {
                    return false;
                }
            }
            return true;
        }
    }

    /** A row of signs with room for a certain number of them. */
    private static final class Text {
        private final int[] signs;
        private int length;

        Text(int room) {
            signs = new int[room > 0 ? room : 0];
        }

        int length() {
            return length;
        }

        int at(int place) {
            return place >= 0 && place < length && place < signs.length ? signs[place] : 0;
        }

        void empty() {
            length = 0;
        }

        void add(int sign) {
            if (length >= 0 && length < signs.length) {
                signs[length] = sign;
                length++;
            }
        }

        /** Adds a number, -999 to 999, without needless 0 ahead. */
        void addNumber(int number) {
            int size = number < 0 ? -number : number;
            if (number < 0) {
                add('-');
            }
            if (size >= 100) {
                add('0' + size / 100);
            }
            if (size >= 10) {
                add('0' + size / 10 % 10);
            }
            add('0' + size % 10);
        }
    }

    /** What texts of readings look like. */
    private static final class Grammar {
        /** What has come of a part so far; from ONE_DIGIT on it is complete. */
        private static final int WRONG = -1;
        private static final int NOTHING = 0;
        private static final int TAPE_CAME = 1;
        private static final int POINT_CAME = 2;
        private static final int EQUALS_CAME = 3;
        private static final int MINUS_CAME = 4;
        private static final int ONE_DIGIT = 5;
        private static final int TWO_DIGITS = 6;
        private static final int FULL_NUMBER = 7;

        /** Returns the position of the first fault, NOT_FOUND if there is none. */
        static int firstFault(Text text) {
            int state = NOTHING;
            for (int place = 0; place < text.length(); place++) {
                state = stateAfter(state, text.at(place));
                if (state == WRONG) {
                    return place;
                }
            }
            return state >= ONE_DIGIT ? NOT_FOUND : text.length();
        }

        private static int stateAfter(int state, int sign) {
            switch (state) {
                case NOTHING:
                    return sign >= '0' && sign <= '7' ? TAPE_CAME : WRONG;
                case TAPE_CAME:
                    return sign >= 'a' && sign <= 'l' ? POINT_CAME : WRONG;
                case POINT_CAME:
                    return sign == '=' ? EQUALS_CAME : WRONG;
                case EQUALS_CAME:
                    return sign == '0' ? FULL_NUMBER : sign == '-' ? MINUS_CAME : firstDigit(sign);
                case MINUS_CAME:
                    return firstDigit(sign);
                case ONE_DIGIT:
                    return isDigit(sign) ? TWO_DIGITS : nextPart(sign);
                case TWO_DIGITS:
                    return isDigit(sign) ? FULL_NUMBER : nextPart(sign);
                default:
                    return nextPart(sign);
            }
        }

        private static int firstDigit(int sign) {
            return isDigit(sign) && sign != '0' ? ONE_DIGIT : WRONG;
        }

        private static int nextPart(int sign) {
            return sign == ',' ? NOTHING : WRONG;
        }

        private static boolean isDigit(int sign) {
            return sign >= '0' && sign <= '9';
        }

        /** How many parts a text without a fault has. */
        static int parts(Text text) {
            int all = 1;
            for (int place = 0; place < text.length(); place++) {
                all += text.at(place) == ',' ? 1 : 0;
            }
            return all;
        }

        /** Returns the position of the first sign of a part. */
        static int startOf(Text text, int part) {
            int start = 0;
            int before = 0;
            for (int place = 0; place < text.length() && before < part; place++) {
                if (text.at(place) == ',') {
                    before++;
                    start = place + 1;
                }
            }
            return start;
        }

        /** Returns the number that begins at a position. */
        static int numberAt(Text text, int start) {
            boolean below = text.at(start) == '-';
            int size = 0;
            int place = below ? start + 1 : start;
            while (place < text.length() && isDigit(text.at(place))) {
                size = size * 10 + text.at(place) - '0';
                place++;
            }
            return below ? -size : size;
        }
    }
}
