import java.io.IOException;
import java.lang.reflect.InvocationTargetException;
import java.lang.reflect.Method;
import java.nio.file.Files;
import java.nio.file.Path;
import java.util.ArrayList;
import java.util.Arrays;
import java.util.HashMap;
import java.util.List;
import java.util.Map;
import java.util.TreeMap;
import java.util.TreeSet;
import java.util.regex.Matcher;
import java.util.regex.Pattern;
import java.util.stream.Stream;

/**
 * Runs the cases of src/test/boundaries, each of which stands under the sentence of the document that it holds
 * (README.md tells their form). Beyond the answers it looks at three things that no case says itself:
 * a call that returns an error code, and a question, changes nothing: two objects, of which one alone had the call,
 * answer alike whatever is asked of them afterwards, also after each undo;
 * every sentence of the document has a case, and every quoted sentence stands in the document;
 * every error code of every method, and the smallest and the largest int as every argument, occurs in a case.
 */
public final class BoundaryTest {
    private static final Path CASES = Path.of("src/test/boundaries");
    private static final Path DOCUMENT = Path.of("../shared/DOC.md");
    private static final int MOST_CALLS = 512;
    private static final Map<String, Integer> ERROR_CODES = Map.of("INVALID_ARGUMENT", -1, "NOT_POSSIBLE", -2,
        "CAPACITY_EXCEEDED", -3, "NOT_FOUND", -4);
    private static final List<String> QUESTIONS = List.of("firstError", "songCount", "kindOf", "tuningOf", "spareUnits",
        "changeOf", "changeCost", "changeoverCost", "songAt", "orderCost", "isAllowed", "dearestChangeover", "bestCost",
        "bestSongAt", "bestCostFrom", "bestOrderCount", "savingByUnit", "encoresWithin");

    private static final Map<String, Method> methods = new TreeMap<>();
    private static int wrong = 0;
    private static int checks = 0;

    private static void complain(String what) {
        wrong++;
        System.out.println(what);
    }

    private record Call(String method, List<Integer> arguments, int due, String where) {
        boolean mustChangeNothing() {
            return due < 0 || QUESTIONS.contains(method);
        }

        @Override
        public String toString() {
            String list = arguments.toString();
            return method + "(" + list.substring(1, list.length() - 1) + ")";
        }
    }

    private static final class Case {
        final String title;
        final List<Call> calls = new ArrayList<>();
        /** The length that the text has behind these calls. */
        int textLength = 0;

        Case(String title) {
            this.title = title;
        }

        void add(String method, List<Integer> arguments, int due, String where) {
            calls.add(new Call(method, arguments, due, where));
            if (method.equals("append") && due > 0) {
                textLength = due;
            }
            if (method.equals("clearText")) {
                textLength = 0;
            }
        }
    }

    /** An object, and what it was asked and answered. */
    private static final class Talk {
        private final SetlistPlanner planner = new SetlistPlanner();
        private int callsLeft = MOST_CALLS;
        private final StringBuilder log = new StringBuilder();
        private int last = 0;

        void replay(List<Call> calls) {
            for (Call call : calls) {
                ask(call.method, call.arguments.toArray());
            }
            log.setLength(0);
        }

        /** What an object answers after its 512th call is free, so it isn't asked any more. */
        int ask(String method, Object... arguments) {
            if (callsLeft <= 0) {
                return 0;
            }
            callsLeft--;
            last = answer(planner, method, arguments);
            log.append(' ').append(method).append(Arrays.toString(arguments)).append('=').append(last);
            return last;
        }
    }

    private static int answer(SetlistPlanner planner, String method, Object... arguments) {
        try {
            return (Integer) methods.get(method).invoke(planner, arguments);
        } catch (IllegalAccessException | InvocationTargetException e) {
            complain(method + Arrays.toString(arguments) + " threw " + e.getCause());
            return Integer.MIN_VALUE;
        }
    }

    /** A way to ask for a part of the state; the calls may be edits, for the object is thrown away afterwards. */
    private interface Probe {
        void ask(Talk talk);
    }

    private static void askConcert(Talk talk) {
        int songs = talk.ask("songCount");
        for (int song = 0; song < songs; song++) {
            for (int player = 0; player < 5; player++) {
                talk.ask("kindOf", song, player);
                talk.ask("tuningOf", song, player);
            }
            for (int kind = 0; kind < 6; kind++) {
                talk.ask("spareUnits", song, kind);
            }
        }
    }

    private static void askChanges(Talk talk) {
        int songs = talk.ask("songCount");
        for (int from = 0; from < songs; from++) {
            for (int player = 0; player < 5; player++) {
                talk.ask("changeOf", player, from, (from + 1) % songs);
                talk.ask("changeCost", player, from, (from + 1) % songs);
            }
            for (int to = 0; to < songs; to++) {
                talk.ask("changeoverCost", from, to);
            }
        }
    }

    private static void askOrders(Talk talk) {
        int songs = talk.ask("songCount");
        talk.ask("orderCost");
        talk.ask("isAllowed");
        talk.ask("dearestChangeover");
        talk.ask("bestCost");
        talk.ask("bestOrderCount");
        for (int song = 0; song < songs; song++) {
            talk.ask("songAt", song);
            talk.ask("bestSongAt", song);
            talk.ask("bestCostFrom", song);
        }
        for (int kind = 0; kind < 6; kind++) {
            talk.ask("savingByUnit", kind);
        }
    }

    private static void askPins(Talk talk) {
        for (int song = 0; song < 8; song++) {
            talk.ask("unpin", song);
        }
    }

    private static void askEncores(Talk talk) {
        for (int song = 0; song < 8; song++) {
            talk.ask("setEncore", song, 0);
        }
    }

    private static void askEncoresWithin(Talk talk) {
        for (int minutes = 0; minutes <= 160; minutes++) {
            talk.ask("encoresWithin", minutes);
        }
    }

    private static void askPlayingTimes(Talk talk) {
        askEncores(talk);
        for (int song = 0; song < 8; song++) {
            talk.ask("setEncore", song, 1);
            for (int minutes = 1; minutes <= 20; minutes++) {
                talk.ask("encoresWithin", minutes);
            }
            talk.ask("setEncore", song, 0);
        }
    }

    private static void askText(Talk talk) {
        talk.ask("firstError");
        talk.ask("configure");
        askConcert(talk);
    }

    private static void askTextLength(Talk talk) {
        talk.ask("append", (int) ';');
        talk.ask("firstError");
        talk.ask("clearText");
        talk.ask("clearText");
    }

    private static final List<Probe> OF_WHAT_UNDO_CHANGES = List.of(BoundaryTest::askConcert, BoundaryTest::askChanges,
        BoundaryTest::askOrders, BoundaryTest::askPins, BoundaryTest::askEncores);
    private static final List<Probe> OF_THE_REST = List.of(BoundaryTest::askEncoresWithin, BoundaryTest::askPlayingTimes,
        BoundaryTest::askText, BoundaryTest::askTextLength);

    /** Whether a call that stands behind others leaves everything as it was, also what each undo brings back. */
    private static void checkUnchanged(List<Call> before, Call call) {
        for (Probe probe : OF_THE_REST) {
            compare(before, call, 0, probe);
        }
        boolean canUndo = true;
        for (int undos = 0; canUndo && undos <= 6; undos++) {
            for (Probe probe : OF_WHAT_UNDO_CHANGES) {
                canUndo = compare(before, call, undos, probe);
            }
        }
    }

    private static boolean compare(List<Call> before, Call call, int undos, Probe probe) {
        Talk without = new Talk();
        without.replay(before);
        without.callsLeft--;
        Talk with = new Talk();
        with.replay(before);
        with.replay(List.of(call));
        boolean canUndo = true;
        for (int i = 0; i < undos; i++) {
            with.ask("undo");
            canUndo = without.ask("undo") != -2;
        }
        probe.ask(without);
        probe.ask(with);
        checks++;
        if (!without.log.toString().equals(with.log.toString())) {
            complain(call.where + ": " + call + " changed something. Without it:\n " + without.log + "\nwith it:\n " + with.log);
        }
        return canUndo;
    }

    private static void run(Case one) {
        SetlistPlanner planner = new SetlistPlanner();
        if (one.calls.size() > MOST_CALLS) {
            complain(one.title + ": more than " + MOST_CALLS + " calls");
        }
        for (int i = 0; i < one.calls.size(); i++) {
            Call call = one.calls.get(i);
            int answer = answer(planner, call.method, call.arguments.toArray());
            if (answer != call.due) {
                complain(call.where + " (" + one.title + "): " + call + " answered " + answer + ", due is " + call.due);
            }
            boolean isRepeated = i > 0 && one.calls.get(i - 1).equals(call);
            if (call.mustChangeNothing() && !isRepeated) {
                checkUnchanged(one.calls.subList(0, i), call);
            }
        }
    }

    /** Reads the case files. */
    private static final class Reader {
        private static final Pattern CALL = Pattern.compile("(\\w+)\\(([^)]*)\\) *= *(\\S+?)( *\\* *(\\d+))?");
        private static final Pattern TEXT = Pattern.compile("(?:\"([^\"]*)\"|([A-Z]+))(?: *\\* *(\\d+))?");

        final List<Case> cases = new ArrayList<>();
        /** By section of the document, the quotations that have a case. */
        final Map<String, List<String>> quotations = new HashMap<>();
        private final Map<String, String> texts = new HashMap<>();
        private final Map<String, List<String>> scripts = new HashMap<>();
        private List<String> openScript = null;
        private final List<String> openQuotations = new ArrayList<>();
        private String quotation = "";
        private String where = "";

        void read(Path file) throws IOException {
            List<String> lines = Files.readAllLines(file);
            for (int i = 0; i < lines.size(); i++) {
                where = file.getFileName() + ":" + (i + 1);
                String line = lines.get(i).strip();
                if (openScript != null) {
                    readScript(line);
                } else if (!line.isEmpty() && !line.startsWith("#")) {
                    readLine(line);
                }
            }
            if (!openQuotations.isEmpty()) {
                complain(where + ": no case for " + openQuotations);
            }
        }

        private void readScript(String line) {
            if (line.equals("end")) {
                openScript = null;
            } else {
                openScript.add(line);
            }
        }

        private void readLine(String line) {
            String first = line.contains(" ") ? line.substring(0, line.indexOf(' ')) : line;
            String rest = line.substring(first.length()).strip();
            switch (first) {
                case "==" -> openQuotations.add(rest);
                case "--" -> beginCase(rest);
                case "define" -> texts.put(rest.split(" ")[0], textOf(rest.substring(rest.indexOf(' '))));
                case "script" -> scripts.put(rest, openScript = new ArrayList<>());
                case "do" -> scripts.get(rest).forEach(this::readLine);
                case "text" -> write(textOf(rest));
                case "concert" -> configure(textOf(rest));
                case "order" -> readOrder("songAt", rest);
                case "best" -> readOrder("bestSongAt", rest);
                default -> readCalls(line);
            }
        }

        private void beginCase(String title) {
            if (!openQuotations.isEmpty()) {
                quotation = String.join(" / ", openQuotations);
                for (String one : openQuotations) {
                    String section = one.substring(0, one.indexOf(':'));
                    quotations.computeIfAbsent(section, s -> new ArrayList<>()).add(one.substring(one.indexOf(':') + 1).strip());
                }
                openQuotations.clear();
            }
            cases.add(new Case(quotation + " -- " + title));
        }

        private Case present() {
            return cases.get(cases.size() - 1);
        }

        private String textOf(String parts) {
            StringBuilder text = new StringBuilder();
            Matcher part = TEXT.matcher(parts);
            while (part.find()) {
                String one = part.group(1) == null ? texts.get(part.group(2)) : part.group(1);
                text.append(one.repeat(part.group(3) == null ? 1 : Integer.parseInt(part.group(3))));
            }
            return text.toString();
        }

        private void write(String text) {
            for (int i = 0; i < text.length(); i++) {
                present().add("append", List.of((int) text.charAt(i)), present().textLength + 1, where);
            }
        }

        private void configure(String text) {
            write(text);
            present().add("configure", List.of(), (int) text.chars().filter(c -> c == 's').count(), where);
        }

        /** "= 2 0 1": these songs, and no further one. */
        private void readOrder(String method, String rest) {
            String[] songs = rest.substring(1).strip().split(" ");
            for (int position = 0; position < songs.length; position++) {
                present().add(method, List.of(position), Integer.parseInt(songs[position]), where);
            }
            present().add(method, List.of(songs.length), -1, where);
        }

        private void readCalls(String line) {
            for (String one : line.split(";")) {
                Matcher call = CALL.matcher(one.strip());
                if (!call.matches()) {
                    complain(where + ": not understood: " + one);
                    return;
                }
                int times = call.group(5) == null ? 1 : Integer.parseInt(call.group(5));
                for (int i = 0; i < times; i++) {
                    addCalls(call.group(1), call.group(2), number(call.group(3)), new ArrayList<>());
                }
            }
        }

        /** An argument in braces stands for a call with each of its numbers. */
        private void addCalls(String method, String arguments, int due, List<Integer> known) {
            String rest = arguments.strip();
            if (rest.isEmpty()) {
                present().add(method, List.copyOf(known), due, where);
                return;
            }
            boolean isSet = rest.startsWith("{");
            int end = isSet ? rest.indexOf('}') : (rest + ",").indexOf(',');
            String after = end + 1 < rest.length() ? rest.substring(end + 1) : "";
            for (String one : rest.substring(isSet ? 1 : 0, end).split(",")) {
                List<Integer> longer = new ArrayList<>(known);
                longer.add(number(one.strip()));
                addCalls(method, after.replaceFirst("^ *,", ""), due, longer);
            }
        }

        private static int number(String name) {
            return switch (name) {
                case "MIN" -> Integer.MIN_VALUE;
                case "MAX" -> Integer.MAX_VALUE;
                default -> ERROR_CODES.containsKey(name) ? ERROR_CODES.get(name) : Integer.parseInt(name);
            };
        }
    }

    /** By a short name ("promise 9", "description"), the lines of each section of the document. */
    private static Map<String, List<String>> readDocument() throws IOException {
        Map<String, List<String>> sections = new TreeMap<>();
        List<String> lines = new ArrayList<>();
        boolean inCode = false;
        for (String line : Files.readAllLines(DOCUMENT)) {
            if (line.startsWith("```")) {
                inCode = !inCode;
            } else if (line.startsWith("## ")) {
                lines = new ArrayList<>();
                sections.put(line.substring(3).toLowerCase().replaceFirst("^(promise \\d+):.*", "$1"), lines);
            } else if (!inCode && !line.startsWith("`") && !line.startsWith("----")) {
                lines.add(plain(line));
            }
        }
        return sections;
    }

    private static String plain(String line) {
        return line.replace("`", "").replaceFirst("^- ", "").replaceAll("\\s+", " ").strip();
    }

    private static void checkQuotations(Map<String, List<String>> document, Reader reader) {
        for (String section : reader.quotations.keySet()) {
            String text = String.join(" ", document.getOrDefault(section, List.of()));
            for (String quotation : reader.quotations.get(section)) {
                if (!text.contains(quotation)) {
                    complain("the document has not under " + section + ": " + quotation);
                }
            }
        }
        for (String section : document.keySet()) {
            if (section.startsWith("promise") || section.equals("description")) {
                checkSentences(section, document.get(section), reader.quotations.getOrDefault(section, List.of()));
            }
        }
    }

    private static void checkSentences(String section, List<String> lines, List<String> quotations) {
        for (String line : lines) {
            if (line.startsWith("Examples:")) {
                return;
            }
            for (String sentence : line.split("(?<=[.;]) ")) {
                String bare = sentence.replaceFirst("[.;:]$", "");
                if (!bare.isEmpty() && quotations.stream().noneMatch(q -> q.contains(bare) || bare.contains(q))) {
                    complain("no case for the sentence of " + section + ": " + sentence);
                }
            }
        }
    }

    /** Each error code that the document names at a method, and each argument at both ends of int, must have a call. */
    private static void checkCalls(Map<String, List<String>> document, List<Case> cases) throws IOException {
        TreeSet<String> seen = new TreeSet<>();
        for (Case one : cases) {
            for (Call call : one.calls) {
                seen.add(call.method + " " + call.due);
                for (int i = 0; i < call.arguments.size(); i++) {
                    seen.add(call.method + " argument " + i + " " + call.arguments.get(i));
                }
            }
        }
        TreeSet<String> due = new TreeSet<>();
        for (String line : Files.readAllLines(DOCUMENT)) {
            Matcher heading = Pattern.compile("## (Promise \\d+): (\\w+)").matcher(line);
            if (heading.matches()) {
                String text = String.join(" ", document.get(heading.group(1).toLowerCase()));
                for (String code : ERROR_CODES.keySet()) {
                    if (text.contains(code)) {
                        due.add(heading.group(2) + " " + ERROR_CODES.get(code));
                    }
                }
            }
        }
        for (Method method : methods.values()) {
            for (int i = 0; i < method.getParameterCount(); i++) {
                due.add(method.getName() + " argument " + i + " " + Integer.MIN_VALUE);
                due.add(method.getName() + " argument " + i + " " + Integer.MAX_VALUE);
            }
        }
        due.removeAll(seen);
        if (!due.isEmpty()) {
            complain("no case for " + due);
        }
    }

    public static void main(String[] args) throws IOException {
        for (Method method : SetlistPlanner.class.getDeclaredMethods()) {
            methods.put(method.getName(), method);
        }
        methods.values().removeIf(m -> !java.lang.reflect.Modifier.isPublic(m.getModifiers()));
        Reader reader = new Reader();
        try (Stream<Path> files = Files.list(CASES)) {
            for (Path file : files.filter(f -> f.toString().endsWith(".txt")).sorted().toList()) {
                reader.read(file);
            }
        }
        reader.cases.forEach(BoundaryTest::run);
        Map<String, List<String>> document = readDocument();
        checkQuotations(document, reader);
        checkCalls(document, reader.cases);
        int calls = reader.cases.stream().mapToInt(c -> c.calls.size()).sum();
        System.out.println(reader.cases.size() + " cases, " + calls + " calls, " + checks + " comparisons; "
            + (wrong == 0 ? "all is as due" : wrong + " things are not as due"));
        if (wrong != 0) {
            System.exit(1);
        }
    }
}
