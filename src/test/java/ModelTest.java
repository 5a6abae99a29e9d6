import java.util.ArrayDeque;
import java.util.ArrayList;
import java.util.Arrays;
import java.util.Deque;
import java.util.List;
import java.util.Random;
import java.util.regex.Matcher;
import java.util.regex.Pattern;

/**
 * Long runs of drawn calls, each answer compared with that of a model which is written another way: statements
 * by regular expressions, best orders by trying all of them. The seeds are fixed, so every run is the same.
 * No object is asked more than 512 times, for what it answers after that is free.
 */
public final class ModelTest {
    private static final int INVALID = -1, IMPOSSIBLE = -2, EXCEEDED = -3, MISSING = -4;
    private static final int MOST_CALLS = 512;
    /** A text, what is asked of it, and some calls behind it. */
    private static final int CALLS_OF_A_CONCERT = 340;

    /** A value that is copied whole before each edit. */
    private static final class State {
        List<Integer> times = new ArrayList<>();
        List<Integer> sides = new ArrayList<>();
        List<int[]> kinds = new ArrayList<>();
        int[][][] parts = new int[8][5][];
        boolean[] encore = new boolean[8];
        Integer[] pins = new Integer[8];
        List<Integer> order = new ArrayList<>();

        State copy() {
            State s = new State();
            s.times.addAll(times);
            s.sides.addAll(sides);
            for (int[] kind : kinds) {
                s.kinds.add(kind.clone());
            }
            for (int song = 0; song < 8; song++) {
                for (int player = 0; player < 5; player++) {
                    s.parts[song][player] = parts[song][player] == null ? null : parts[song][player].clone();
                }
            }
            s.encore = encore.clone();
            s.pins = pins.clone();
            s.order.addAll(order);
            return s;
        }

        int players(int song, int kind) {
            return (int) Arrays.stream(parts[song]).filter(p -> p != null && p[0] == kind).count();
        }

        boolean overfull() {
            for (int song = 0; song < 8; song++) {
                for (int kind = 0; kind < kinds.size(); kind++) {
                    if (players(song, kind) > kinds.get(kind)[0]) {
                        return true;
                    }
                }
            }
            return false;
        }

        int change(int player, int a, int b) {
            int[] x = parts[a][player];
            int[] y = parts[b][player];
            if (x == null && y == null || x != null && Arrays.equals(x, y)) {
                return 0;
            }
            if (x == null) {
                return 1;
            }
            if (y == null) {
                return 2;
            }
            if (x[0] != y[0]) {
                return 3;
            }
            return players(b, y[0]) < kinds.get(y[0])[0] ? 4 : 5;
        }

        int cost(int player, int a, int b) {
            int change = change(player, a, b);
            int[] x = parts[a][player];
            int[] y = parts[b][player];
            int cost = new int[] {0, 1, 1, 3, 2, 2}[change];
            if (change == 5) {
                return cost + Math.abs(x[1] - y[1]);
            }
            if ((change == 2 || change == 3) && kinds.get(x[0])[1] != sides.get(player)) {
                cost++;
            }
            if ((change == 1 || change == 3 || change == 4) && kinds.get(y[0])[1] != sides.get(player)) {
                cost++;
            }
            return cost;
        }

        int cost(int a, int b) {
            int sum = 0;
            for (int player = 0; player < sides.size(); player++) {
                sum += cost(player, a, b);
            }
            return sum;
        }

        boolean allowed(List<Integer> songs) {
            for (int i = 0; i < songs.size(); i++) {
                Integer pin = pins[songs.get(i)];
                if (pin != null && pin != i) {
                    return false;
                }
                for (int j = 0; j < i; j++) {
                    if (encore[songs.get(j)] && !encore[songs.get(i)]) {
                        return false;
                    }
                }
            }
            return true;
        }
    }

    /** What all orders tell: tried in the order of their songs, so that the first of the least is the best. */
    private static final class Best {
        int cost = MISSING;
        int count = 0;
        List<Integer> order = null;
        int[] from = new int[8];

        Best(State s) {
            Arrays.fill(from, MISSING);
            int songs = s.times.size();
            int[][] costs = new int[songs][songs];
            for (int a = 0; a < songs; a++) {
                for (int b = 0; b < songs; b++) {
                    costs[a][b] = a == b ? 0 : s.cost(a, b);
                }
            }
            tryAll(s, costs, new ArrayList<>(), 0);
        }

        private void tryAll(State s, int[][] costs, List<Integer> songs, int sum) {
            if (songs.size() == costs.length) {
                if (s.allowed(songs)) {
                    take(songs, sum);
                }
                return;
            }
            for (int song = 0; song < costs.length; song++) {
                if (!songs.contains(song)) {
                    int step = songs.isEmpty() ? 0 : costs[songs.get(songs.size() - 1)][song];
                    songs.add(song);
                    tryAll(s, costs, songs, sum + step);
                    songs.remove(songs.size() - 1);
                }
            }
        }

        private void take(List<Integer> songs, int sum) {
            int first = songs.get(0);
            if (from[first] == MISSING || sum < from[first]) {
                from[first] = sum;
            }
            if (order == null || sum < cost) {
                cost = sum;
                count = 0;
                order = new ArrayList<>(songs);
            }
            if (sum == cost) {
                count++;
            }
        }
    }

    private static final class Model {
        private static final Pattern STATEMENT = Pattern.compile(
            "([spe])(\\d{1,2});|k(\\d{1,2}),(\\d{1,2});|u(\\d{1,2}),(\\d{1,2}),(\\d{1,2}),(\\d{1,2});");

        final StringBuilder text = new StringBuilder();
        State now;
        final Deque<State> before = new ArrayDeque<>();
        int callsLeft = MOST_CALLS;
        private Best best;

        Model(String first) {
            text.append(first);
            configure();
            text.setLength(0);
        }

        /** The concert of the text, or where its first malformed statement begins. */
        private Object read() {
            State s = new State();
            int start = 0;
            while (start < text.length()) {
                int end = text.indexOf(";", start);
                if (end < 0 || !state(s, text.substring(start, end + 1)) || s.overfull()) {
                    return start;
                }
                start = end + 1;
            }
            for (int song = 0; song < s.times.size(); song++) {
                s.order.add(song);
            }
            return s;
        }

        private static boolean state(State s, String statement) {
            Matcher m = STATEMENT.matcher(statement);
            if (!m.matches()) {
                return false;
            }
            int[] n = new int[9];
            for (int i = 2; i <= 8; i++) {
                n[i] = m.group(i) == null ? -1 : Integer.parseInt(m.group(i));
            }
            switch (statement.charAt(0)) {
                case 's':
                    s.times.add(n[2]);
                    return s.times.size() <= 8 && n[2] >= 1 && n[2] <= 20;
                case 'p':
                    s.sides.add(n[2]);
                    return s.sides.size() <= 5 && n[2] <= 1;
                case 'e':
                    if (n[2] >= s.times.size()) {
                        return false;
                    }
                    s.encore[n[2]] = true;
                    return true;
                case 'k':
                    s.kinds.add(new int[] {n[3], n[4]});
                    return s.kinds.size() <= 6 && n[3] >= 1 && n[3] <= 5 && n[4] <= 1;
                default:
                    if (n[5] >= s.times.size() || n[6] >= s.sides.size() || n[7] >= s.kinds.size() || n[8] > 5) {
                        return false;
                    }
                    s.parts[n[5]][n[6]] = new int[] {n[7], n[8]};
                    return true;
            }
        }

        int configure() {
            if (!(read() instanceof State s) || s.times.isEmpty() || s.sides.isEmpty() || s.kinds.isEmpty()) {
                return IMPOSSIBLE;
            }
            now = s;
            best = null;
            before.clear();
            return now.times.size();
        }

        private void edit(State next) {
            before.push(now);
            if (before.size() > 5) {
                before.removeLast();
            }
            now = next;
            best = null;
        }

        private Best best() {
            if (best == null) {
                best = new Best(now);
            }
            return best;
        }

        private boolean song(int song) {
            return song >= 0 && song < now.times.size();
        }

        private boolean player(int player) {
            return player >= 0 && player < now.sides.size();
        }

        private boolean kind(int kind) {
            return kind >= 0 && kind < now.kinds.size();
        }

        int call(int method, int a, int b, int c, int d) {
            return method < 13 ? edits(method, a, b, c, d) : questions(method, a, b, c);
        }

        private int edits(int method, int a, int b, int c, int d) {
            State next = now.copy();
            switch (method) {
                case 0:
                    if (a < 32 || a > 126) {
                        return INVALID;
                    }
                    if (text.length() == 300) {
                        return EXCEEDED;
                    }
                    return text.append((char) a).length();
                case 1:
                    int length = text.length();
                    text.setLength(0);
                    return length;
                case 2:
                    return read() instanceof Integer start ? start : MISSING;
                case 3:
                    return configure();
                case 4:
                    if (!song(a) || !player(b) || !kind(c) || d < 0 || d > 5) {
                        return INVALID;
                    }
                    next.parts[a][b] = new int[] {c, d};
                    if (next.overfull()) {
                        return IMPOSSIBLE;
                    }
                    edit(next);
                    return next.players(a, c);
                case 5:
                    if (!song(a) || !player(b)) {
                        return INVALID;
                    }
                    if (now.parts[a][b] == null) {
                        return MISSING;
                    }
                    next.parts[a][b] = null;
                    int kind = now.parts[a][b][0];
                    edit(next);
                    return kind;
                case 6:
                    if (!kind(a) || b < 1 || b > 5) {
                        return INVALID;
                    }
                    int units = now.kinds.get(a)[0];
                    next.kinds.get(a)[0] = b;
                    if (next.overfull()) {
                        return IMPOSSIBLE;
                    }
                    edit(next);
                    return units;
                case 7:
                    if (!song(a) || !song(b)) {
                        return INVALID;
                    }
                    next.pins[a] = null;
                    if (Arrays.asList(next.pins).contains(b)) {
                        return IMPOSSIBLE;
                    }
                    next.pins[a] = b;
                    edit(next);
                    return (int) Arrays.stream(now.pins).filter(p -> p != null).count();
                case 8:
                    if (!song(a)) {
                        return INVALID;
                    }
                    if (now.pins[a] == null) {
                        return MISSING;
                    }
                    int position = now.pins[a];
                    next.pins[a] = null;
                    edit(next);
                    return position;
                case 9:
                    if (!song(a) || b < 0 || b > 1) {
                        return INVALID;
                    }
                    int was = now.encore[a] ? 1 : 0;
                    next.encore[a] = b == 1;
                    edit(next);
                    return was;
                case 10:
                    if (!song(a) || !song(b)) {
                        return INVALID;
                    }
                    Integer song = next.order.remove(a);
                    next.order.add(b, song);
                    edit(next);
                    return song;
                case 11:
                    if (best().order == null) {
                        return MISSING;
                    }
                    next.order = new ArrayList<>(best().order);
                    int cost = best().cost;
                    edit(next);
                    return cost;
                default:
                    if (before.isEmpty()) {
                        return IMPOSSIBLE;
                    }
                    now = before.pop();
                    best = null;
                    return before.size();
            }
        }

        private int questions(int method, int a, int b, int c) {
            switch (method) {
                case 13:
                    return now.times.size();
                case 14:
                case 15:
                    if (!song(a) || !player(b)) {
                        return INVALID;
                    }
                    return now.parts[a][b] == null ? MISSING : now.parts[a][b][method - 14];
                case 16:
                    return !song(a) || !kind(b) ? INVALID : now.kinds.get(b)[0] - now.players(a, b);
                case 17:
                    return !player(a) || !song(b) || !song(c) || b == c ? INVALID : now.change(a, b, c);
                case 18:
                    return !player(a) || !song(b) || !song(c) || b == c ? INVALID : now.cost(a, b, c);
                case 19:
                    return !song(a) || !song(b) || a == b ? INVALID : now.cost(a, b);
                case 20:
                    return !song(a) ? INVALID : now.order.get(a);
                case 21:
                    return costs().stream().mapToInt(x -> x).sum();
                case 22:
                    return now.allowed(now.order) ? 1 : 0;
                case 23:
                    List<Integer> costs = costs();
                    return costs.isEmpty() ? MISSING : costs.indexOf(java.util.Collections.max(costs));
                case 24:
                    return best().cost;
                case 25:
                    return !song(a) ? INVALID : best().order == null ? MISSING : best().order.get(a);
                case 26:
                    return !song(a) ? INVALID : best().from[a];
                case 27:
                    return best().count;
                case 28:
                    return kind(a) ? saving(a) : INVALID;
                default:
                    return a < 0 || a > 160 ? INVALID : encores(a);
            }
        }

        private List<Integer> costs() {
            List<Integer> costs = new ArrayList<>();
            for (int i = 1; i < now.order.size(); i++) {
                costs.add(now.cost(now.order.get(i - 1), now.order.get(i)));
            }
            return costs;
        }

        private int saving(int kind) {
            if (best().order == null) {
                return MISSING;
            }
            State more = now.copy();
            more.kinds.get(kind)[0]++;
            return best().cost - new Best(more).cost;
        }

        private int encores(int minutes) {
            int chosen = 0;
            long chosenRank = -1;
            for (int set = 0; set < 256; set++) {
                int time = 0;
                boolean fits = true;
                for (int song = 0; song < 8; song++) {
                    if ((set & 1 << song) != 0) {
                        fits &= song(song) && now.encore[song];
                        time += song(song) ? now.times.get(song) : 0;
                    }
                }
                long rank = (time * 100L + Integer.bitCount(set)) * 1000 + (255 - set);
                if (fits && time <= minutes && rank > chosenRank) {
                    chosenRank = rank;
                    chosen = set;
                }
            }
            return chosen;
        }
    }

    private static int call(SetlistPlanner x, int method, int a, int b, int c, int d) {
        switch (method) {
            case 0: return x.append(a);
            case 1: return x.clearText();
            case 2: return x.firstError();
            case 3: return x.configure();
            case 4: return x.setPart(a, b, c, d);
            case 5: return x.removePart(a, b);
            case 6: return x.setUnits(a, b);
            case 7: return x.pin(a, b);
            case 8: return x.unpin(a);
            case 9: return x.setEncore(a, b);
            case 10: return x.moveSong(a, b);
            case 11: return x.adoptBest();
            case 12: return x.undo();
            case 13: return x.songCount();
            case 14: return x.kindOf(a, b);
            case 15: return x.tuningOf(a, b);
            case 16: return x.spareUnits(a, b);
            case 17: return x.changeOf(a, b, c);
            case 18: return x.changeCost(a, b, c);
            case 19: return x.changeoverCost(a, b);
            case 20: return x.songAt(a);
            case 21: return x.orderCost();
            case 22: return x.isAllowed();
            case 23: return x.dearestChangeover();
            case 24: return x.bestCost();
            case 25: return x.bestSongAt(a);
            case 26: return x.bestCostFrom(a);
            case 27: return x.bestOrderCount();
            case 28: return x.savingByUnit(a);
            default: return x.encoresWithin(a);
        }
    }

    private static final String[] NAMES = {
        "append", "clearText", "firstError", "configure", "setPart", "removePart", "setUnits", "pin", "unpin",
        "setEncore", "moveSong", "adoptBest", "undo", "songCount", "kindOf", "tuningOf", "spareUnits", "changeOf",
        "changeCost", "changeoverCost", "songAt", "orderCost", "isAllowed", "dearestChangeover", "bestCost",
        "bestSongAt", "bestCostFrom", "bestOrderCount", "savingByUnit", "encoresWithin"};
    private static final String FIRST =
        "s4;s5;s3;s6;s4;p0;p1;p0;k2,0;k1,1;k1,0;u0,0,0,0;u0,1,1,2;u1,0,0,3;u1,2,0,1;u2,1,1,0;u2,2,2,0;"
        + "u3,0,2,0;u3,1,0,0;u4,0,0,0;u4,1,1,2;u4,2,0,4;e4;";

    private static int wrong = 0;
    private static int calls = 0;
    private static int configured = 0;
    private static final int[] errors = new int[NAMES.length];

    private static void compare(int run, SetlistPlanner x, Model model, int method, int... arguments) {
        if (model.callsLeft == 0) {
            return;
        }
        model.callsLeft--;
        int[] n = Arrays.copyOf(arguments, 4);
        int want = model.call(method, n[0], n[1], n[2], n[3]);
        int got = call(x, method, n[0], n[1], n[2], n[3]);
        calls++;
        if (want < 0) {
            errors[method]++;
        }
        if (method == 3 && want > 0) {
            configured++;
        }
        if (got != want && ++wrong <= 20) {
            System.out.println("run " + run + ": " + NAMES[method] + Arrays.toString(n) + " answered " + got + ", due is " + want);
        }
    }

    /** A concert of which only few statements ask for more units than there are. */
    private static String concert(Random random, int songs) {
        int players = 1 + random.nextInt(5);
        int kinds = 1 + random.nextInt(6);
        Model model = new Model(FIRST);
        for (int i = 0; i < songs; i++) {
            model.text.append('s').append(1 + random.nextInt(random.nextBoolean() ? 5 : 20)).append(';');
        }
        for (int i = 0; i < players; i++) {
            model.text.append('p').append(random.nextInt(2)).append(';');
        }
        for (int i = 0; i < kinds; i++) {
            int units = 1 + random.nextInt(random.nextBoolean() ? 2 : 5);
            model.text.append('k').append(units).append(",").append(random.nextInt(2)).append(';');
        }
        while (model.text.length() < 285 && random.nextInt(25) != 0) {
            int length = model.text.length();
            if (random.nextInt(12) == 0) {
                model.text.append('e').append(random.nextInt(songs)).append(';');
            } else {
                model.text.append(random.nextInt(8) == 0 ? "u0" : "u").append(random.nextInt(songs)).append(',');
                model.text.append(random.nextInt(players)).append(',').append(random.nextInt(kinds)).append(',');
                model.text.append(random.nextInt(6)).append(';');
            }
            if (model.read() instanceof Integer && random.nextInt(300) != 0) {
                model.text.setLength(length);
            }
        }
        return model.text.toString();
    }

    private static String damaged(Random random, String text) {
        StringBuilder damaged = new StringBuilder(text);
        String signs = "spkue0123456789,,;; xS:/";
        int place = random.nextInt(damaged.length());
        char sign = signs.charAt(random.nextInt(signs.length()));
        switch (random.nextInt(3)) {
            case 0 -> damaged.setCharAt(place, sign);
            case 1 -> damaged.insert(place, sign);
            default -> damaged.deleteCharAt(place);
        }
        return damaged.toString();
    }

    /** Mostly within the range, at times just or far out of it. */
    private static int draw(Random random, int size) {
        switch (random.nextInt(25)) {
            case 0: return -1;
            case 1: return size;
            case 2: return random.nextInt();
            default: return random.nextInt(size);
        }
    }

    /** The arguments of a method that are drawn, by the number of values each may have. */
    private static int[] ranges(State s, int method) {
        int songs = s.times.size();
        int players = s.sides.size();
        int kinds = s.kinds.size();
        switch (method) {
            case 4: return new int[] {songs, players, kinds, 6};
            case 5: case 14: case 15: return new int[] {songs, players};
            case 6: return new int[] {kinds, 6};
            case 7: case 10: case 19: return new int[] {songs, songs};
            case 8: case 20: case 25: case 26: return new int[] {songs};
            case 9: return new int[] {songs, 2};
            case 16: return new int[] {songs, kinds};
            case 17: case 18: return new int[] {players, songs, songs};
            case 28: return new int[] {kinds};
            case 29: return new int[] {minutes(s)};
            default: return new int[0];
        }
    }

    /** Small minutes tell more than great ones, with which every encore fits. */
    private static int minutes(State s) {
        return s.times.size() % 2 == 0 ? 161 : 30;
    }

    private static void run(int run, int songs, int length) {
        Random random = new Random(run);
        SetlistPlanner x = new SetlistPlanner();
        Model model = new Model(FIRST);
        if (songs > 0) {
            writeAndConfigure(run, x, model, concert(random, songs));
        }
        for (int i = 0; i < length && model.callsLeft > 0; i++) {
            if (random.nextInt(60) == 0 && model.callsLeft >= CALLS_OF_A_CONCERT) {
                compare(run, x, model, 1);
                writeAndConfigure(run, x, model, concert(random, 1 + random.nextInt(Math.max(1, songs))));
            }
            int method = 4 + random.nextInt(NAMES.length - 4);
            int[] ranges = ranges(model.now, method);
            int[] arguments = new int[ranges.length];
            for (int k = 0; k < ranges.length; k++) {
                arguments[k] = draw(random, ranges[k]);
            }
            compare(run, x, model, method, arguments);
        }
    }

    private static void writeAndConfigure(int run, SetlistPlanner x, Model model, String text) {
        for (int i = 0; i < text.length(); i++) {
            compare(run, x, model, 0, (int) text.charAt(i));
        }
        compare(run, x, model, 2);
        compare(run, x, model, 3);
    }

    /** Damaged texts: where the error is, and that a text which is refused leaves the concert as it was. */
    private static void runTexts(int run) {
        Random random = new Random(run);
        SetlistPlanner x = new SetlistPlanner();
        Model model = new Model(FIRST);
        String text = concert(random, 1 + random.nextInt(random.nextInt(10) == 0 ? 9 : 4));
        for (int damage = random.nextInt(3); damage > 0; damage--) {
            text = damaged(random, text);
        }
        writeAndConfigure(run, x, model, text);
        for (int song = 0; song < model.now.times.size(); song++) {
            for (int player = 0; player < model.now.sides.size(); player++) {
                compare(run, x, model, 14, song, player);
                compare(run, x, model, 15, song, player);
            }
            compare(run, x, model, 9, song, 1);
        }
        compare(run, x, model, 29, 160);
        compare(run, x, model, 12);
        compare(run, x, model, 1);
    }

    public static void main(String[] args) {
        for (int run = 0; run < 600; run++) {
            run(run, run % 6, MOST_CALLS);
        }
        for (int run = 600; run < 620; run++) {
            run(run, 6 + run % 3, 60);
        }
        for (int run = 1000; run < 7500; run++) {
            runTexts(run);
        }
        if (configured < 3000) {
            wrong++;
            System.out.println("only " + configured + " of the drawn concerts are complete");
        }
        for (int method = 4; method < NAMES.length; method++) {
            boolean mayRefuse = !Arrays.asList("songCount", "orderCost", "isAllowed", "bestOrderCount").contains(NAMES[method]);
            if (mayRefuse && errors[method] == 0) {
                wrong++;
                System.out.println("no run made " + NAMES[method] + " refuse");
            }
        }
        System.out.println(calls + " calls; " + (wrong == 0 ? "all answers are as due" : wrong + " answers are not as due"));
        if (wrong != 0) {
            System.exit(1);
        }
    }
}
