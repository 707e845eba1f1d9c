import java.util.ArrayDeque;
import java.util.ArrayList;
import java.util.Deque;
import java.util.List;
import java.util.Map;
import java.util.TreeMap;
import java.util.regex.Matcher;
import java.util.regex.Pattern;

/**
 * The document once more, by other means than the program: lists of maps for the tapes, whole
 * copies for the history, all ways by one matrix, and a pattern for the texts. Slow and plain.
 */
final class Model {
    private static final Pattern TEXT = Pattern.compile(
            "[0-7][a-l]=(0|-?[1-9][0-9]{0,2})(,[0-7][a-l]=(0|-?[1-9][0-9]{0,2}))*");

    private static final class State {
        final List<TreeMap<Integer, Integer>> tapes = new ArrayList<>();
        int taken;
        int refused;
        int cuts;
        int glued;

        State copy() {
            State other = new State();
            for (TreeMap<Integer, Integer> tape : tapes) {
                other.tapes.add(new TreeMap<>(tape));
            }
            other.taken = taken;
            other.refused = refused;
            other.cuts = cuts;
            other.glued = glued;
            return other;
        }

        int readings() {
            int all = 0;
            for (TreeMap<Integer, Integer> tape : tapes) {
                all += tape.size();
            }
            return all;
        }
    }

    private State now = new State();
    private final Deque<State> history = new ArrayDeque<>();
    private State snapshot;
    private String pad = "";
    private int[] stop;

    /** From node to node, how much farther the second is; null where they hang not together. */
    private static Integer[][] ways(State state) {
        Integer[][] ways = new Integer[20][20];
        for (int node = 0; node < 20; node++) {
            ways[node][node] = 0;
        }
        for (int tape = 0; tape < state.tapes.size(); tape++) {
            for (Map.Entry<Integer, Integer> entry : state.tapes.get(tape).entrySet()) {
                ways[12 + tape][entry.getKey()] = entry.getValue();
                ways[entry.getKey()][12 + tape] = -entry.getValue();
            }
        }
        for (int over = 0; over < 20; over++) {
            for (int from = 0; from < 20; from++) {
                for (int to = 0; to < 20; to++) {
                    if (ways[from][to] == null && ways[from][over] != null && ways[over][to] != null) {
                        ways[from][to] = ways[from][over] + ways[over][to];
                    }
                }
            }
        }
        return ways;
    }

    private boolean noTape(int tape) {
        return tape < 0 || tape >= now.tapes.size();
    }

    private static boolean noPoint(int point) {
        return point < 0 || point > 11;
    }

    private static boolean noNumber(int number) {
        return number < -999 || number > 999;
    }

    private void record() {
        history.addLast(now.copy());
        if (history.size() > 4) {
            history.removeFirst();
        }
    }

    private int refuse(int reason) {
        now.refused++;
        return reason;
    }

    int tape() {
        if (now.tapes.size() == 8) {
            return -3;
        }
        record();
        now.tapes.add(new TreeMap<>());
        return now.tapes.size() - 1;
    }

    int drop(int tape) {
        if (noTape(tape)) {
            return -1;
        }
        record();
        return now.tapes.remove(tape).size();
    }

    int shift(int tape, int by) {
        if (noTape(tape) || noNumber(by)) {
            return -1;
        }
        record();
        TreeMap<Integer, Integer> shifted = new TreeMap<>();
        for (Map.Entry<Integer, Integer> entry : now.tapes.get(tape).entrySet()) {
            if (noNumber(entry.getValue() + by)) {
                return refuse(4);
            }
            shifted.put(entry.getKey(), entry.getValue() + by);
        }
        now.tapes.set(tape, shifted);
        return 10 + shifted.size();
    }

    int cut(int tape, int mark) {
        if (noTape(tape) || noNumber(mark)) {
            return -1;
        }
        if (now.tapes.size() == 8) {
            return -3;
        }
        record();
        TreeMap<Integer, Integer> low = new TreeMap<>();
        TreeMap<Integer, Integer> high = new TreeMap<>();
        for (Map.Entry<Integer, Integer> entry : now.tapes.get(tape).entrySet()) {
            if (entry.getValue() < mark) {
                low.put(entry.getKey(), entry.getValue());
            } else if (entry.getValue() - mark > 999) {
                return refuse(4);
            } else {
                high.put(entry.getKey(), entry.getValue() - mark);
            }
        }
        now.tapes.set(tape, low);
        now.tapes.add(high);
        now.cuts++;
        return 10 + high.size();
    }

    int glue(int tape, int other) {
        if (noTape(tape) || noTape(other) || tape == other) {
            return -1;
        }
        record();
        Integer far = ways(now)[12 + tape][12 + other];
        if (far == null) {
            return refuse(5);
        }
        TreeMap<Integer, Integer> longer = new TreeMap<>(now.tapes.get(tape));
        for (Map.Entry<Integer, Integer> entry : now.tapes.get(other).entrySet()) {
            int number = entry.getValue() + far;
            if (noNumber(number)) {
                return refuse(4);
            }
            longer.putIfAbsent(entry.getKey(), number);
        }
        int got = longer.size() - now.tapes.get(tape).size();
        now.tapes.set(tape, longer);
        now.tapes.remove(other);
        now.glued++;
        return 10 + got;
    }

    private int enter(int tape, int point, int number) {
        int reason = whyNot(tape, point, number);
        if (reason != 0) {
            return refuse(reason);
        }
        now.tapes.get(tape).put(point, number);
        now.taken++;
        return 10 + now.readings();
    }

    private int errorOfReading(int tape, int point, int number) {
        if (noTape(tape) || noPoint(point) || noNumber(number)) {
            return -1;
        }
        return now.readings() == 40 ? -3 : 0;
    }

    int read(int tape, int point, int number) {
        int error = errorOfReading(tape, point, number);
        if (error != 0) {
            return error;
        }
        record();
        return enter(tape, point, number);
    }

    int lose(int tape, int point) {
        if (noTape(tape) || noPoint(point)) {
            return -1;
        }
        record();
        return now.tapes.get(tape).remove(point) == null ? refuse(3) : 10 + now.readings();
    }

    int append(int code) {
        if (code < 33 || code > 126) {
            return -1;
        }
        if (pad.length() == 60) {
            return -3;
        }
        pad += (char) code;
        return pad.length();
    }

    int clear() {
        int had = pad.length();
        pad = "";
        return had;
    }

    int fault() {
        for (int length = 1; length <= pad.length(); length++) {
            Matcher matcher = TEXT.matcher(pad.substring(0, length));
            if (!matcher.matches() && !matcher.hitEnd()) {
                return length - 1;
            }
        }
        return TEXT.matcher(pad).matches() ? -4 : pad.length();
    }

    int take() {
        if (fault() != -4) {
            return -2;
        }
        record();
        stop = null;
        String[] parts = pad.split(",");
        int position = 0;
        pad = "";
        for (int part = 0; part < parts.length; part++) {
            int tape = parts[part].charAt(0) - '0';
            int point = parts[part].charAt(1) - 'a';
            int number = Integer.parseInt(parts[part].substring(3));
            int error = errorOfReading(tape, point, number);
            int answer = error != 0 ? error : enter(tape, point, number);
            if (answer < 10) {
                stop = new int[] {answer, part, position};
                return part;
            }
            position += parts[part].length() + 1;
        }
        return parts.length;
    }

    int why(int what) {
        if (what < 0 || what > 2) {
            return -1;
        }
        return stop == null ? -4 : stop[what];
    }

    int sign(int tape, int place) {
        if (noTape(tape) || place < 0) {
            return -1;
        }
        List<String> parts = new ArrayList<>();
        for (Map.Entry<Integer, Integer> entry : now.tapes.get(tape).entrySet()) {
            parts.add(tape + "" + (char) ('a' + entry.getKey()) + "=" + entry.getValue());
        }
        String text = String.join(",", parts);
        return place < text.length() ? text.charAt(place) : -4;
    }

    int reading(int tape, int point) {
        if (noTape(tape) || noPoint(point)) {
            return -1;
        }
        return told(now.tapes.get(tape).get(point));
    }

    private static int told(Integer number) {
        return number == null ? -4 : 100000 + number;
    }

    int difference(int from, int to, int way) {
        if (noPoint(from) || noPoint(to) || way < 0 || way > 1) {
            return -1;
        }
        return told(ways(now)[from][to]);
    }

    int follows(int tape, int point) {
        if (noTape(tape) || noPoint(point)) {
            return -1;
        }
        return told(ways(now)[12 + tape][point]);
    }

    int zeros(int tape, int other) {
        if (noTape(tape) || noTape(other)) {
            return -1;
        }
        return told(ways(now)[12 + tape][12 + other]);
    }

    int whyNot(int tape, int point, int number) {
        if (noTape(tape) || noPoint(point) || noNumber(number)) {
            return -1;
        }
        if (now.tapes.get(tape).containsKey(point)) {
            return 1;
        }
        Integer follows = ways(now)[12 + tape][point];
        return follows != null && follows != number ? 2 : 0;
    }

    int holding(int way) {
        if (way < 0 || way > 1) {
            return -1;
        }
        int hold = 0;
        for (int tape = 0; tape < now.tapes.size(); tape++) {
            for (int point : now.tapes.get(tape).keySet()) {
                State without = now.copy();
                without.tapes.get(tape).remove(point);
                hold += ways(without)[12 + tape][point] == null ? 1 : 0;
            }
        }
        return hold;
    }

    private int readingsAt(int point) {
        int all = 0;
        for (TreeMap<Integer, Integer> tape : now.tapes) {
            all += tape.containsKey(point) ? 1 : 0;
        }
        return all;
    }

    int point(int point, int what) {
        if (noPoint(point) || what < 0 || what > 3) {
            return -1;
        }
        if (what == 0) {
            return readingsAt(point);
        }
        Integer[][] ways = ways(now);
        List<Integer> order = new ArrayList<>();
        for (int other = 0; other < 12; other++) {
            if (ways[point][other] != null) {
                order.add(other);
            }
        }
        // The sort keeps those at the same place in their order, the lowest first.
        order.sort((one, two) -> Integer.compare(ways[point][one], ways[point][two]));
        return what == 1 ? order.size() : what == 2 ? order.indexOf(point) : ways[order.get(0)][point];
    }

    int tapeOf(int tape, int what) {
        if (noTape(tape) || what < 0 || what > 4) {
            return -1;
        }
        TreeMap<Integer, Integer> readings = now.tapes.get(tape);
        if (what == 4) {
            int all = 0;
            for (int other = 0; other < now.tapes.size(); other++) {
                all += ways(now)[12 + tape][12 + other] != null ? 1 : 0;
            }
            return all;
        }
        if (what == 0 || readings.isEmpty()) {
            return what == 0 || what == 3 ? readings.size() : -4;
        }
        List<Integer> points = new ArrayList<>(readings.keySet());
        points.sort((one, two) -> Integer.compare(readings.get(one), readings.get(two)));
        int least = points.get(0);
        points.sort((one, two) -> Integer.compare(readings.get(two), readings.get(one)));
        int greatest = points.get(0);
        return what == 1 ? least : what == 2 ? greatest : readings.get(greatest) - readings.get(least);
    }

    /** The clusters with a reading, or all; as many as there are sets of what is met from points. */
    private int clusters(boolean read) {
        Integer[][] ways = ways(now);
        java.util.Set<String> sets = new java.util.HashSet<>();
        for (int point = 0; point < 12; point++) {
            if (!read || readingsAt(point) > 0) {
                StringBuilder set = new StringBuilder();
                for (int other = 0; other < 12; other++) {
                    set.append(ways[point][other] != null ? '1' : '0');
                }
                sets.add(set.toString());
            }
        }
        return sets.size();
    }

    int count(int what) {
        int bare = 0;
        switch (what) {
            case 0:
                return now.tapes.size();
            case 1:
                return now.readings();
            case 2:
                return clusters(false);
            case 3:
                return clusters(true);
            case 4:
                return Math.max(0, clusters(true) - 1);
            case 5:
                int greatest = 0;
                Integer[][] ways = ways(now);
                for (int from = 0; from < 12; from++) {
                    for (int to = 0; to < 12; to++) {
                        greatest = Math.max(greatest, ways[from][to] == null ? 0 : ways[from][to]);
                    }
                }
                return greatest;
            case 6:
                for (int point = 0; point < 12; point++) {
                    bare += readingsAt(point) == 0 ? 1 : 0;
                }
                return bare;
            case 7:
                for (TreeMap<Integer, Integer> tape : now.tapes) {
                    bare += tape.isEmpty() ? 1 : 0;
                }
                return bare;
            case 8:
                return now.taken;
            case 9:
                return now.refused;
            case 10:
                return now.cuts;
            case 11:
                return now.glued;
            case 12:
                return pad.length();
            case 13:
                return history.size();
            default:
                return -1;
        }
    }

    private static int pairs(State state) {
        Integer[][] ways = ways(state);
        int pairs = 0;
        for (int one = 0; one < 12; one++) {
            for (int two = one + 1; two < 12; two++) {
                pairs += ways[one][two] != null ? 1 : 0;
            }
        }
        return pairs;
    }

    double known() {
        return pairs(now) / 66.0;
    }

    int ifRead(int tape, int point) {
        if (noTape(tape) || noPoint(point)) {
            return -1;
        }
        Integer follows = ways(now)[12 + tape][point];
        State then = now.copy();
        then.tapes.get(tape).put(point, follows == null ? 0 : follows);
        return pairs(then) - pairs(now);
    }

    int bestReading() {
        int best = -4;
        int most = -1;
        for (int number = 0; number < 12 * now.tapes.size(); number++) {
            int more = ifRead(number / 12, number % 12);
            if (more > most) {
                most = more;
                best = number;
            }
        }
        return best;
    }

    int undo() {
        if (history.isEmpty()) {
            return -2;
        }
        now = history.removeLast();
        return history.size();
    }

    int save() {
        snapshot = now.copy();
        return now.readings();
    }

    int restore() {
        if (snapshot == null) {
            return -2;
        }
        record();
        now = snapshot.copy();
        return now.readings();
    }
}
