import java.util.ArrayList;
import java.util.HashMap;
import java.util.List;
import java.util.Map;
import java.util.Objects;
import java.util.Random;
import java.util.TreeMap;
import java.util.TreeSet;
import java.util.regex.Matcher;
import java.util.regex.Pattern;

/** Runs of calls, drawn from fixed seeds, on the class and on a plain model of the document's words. */
public final class ModelTests {
    private static final int RUNS = 3000;
    // The rest of an object's 512 calls is for questions.
    private static final int CALLS = 384;
    private static final int OBJECTS = 40;
    private static final int KEYS = 26;
    private static final int THROWN = Integer.MIN_VALUE;
    private static final List<Question> QUESTIONS = questions();

    private ModelTests() {
    }

    public static void main(String[] args) {
        Map<String, Integer> seen = new TreeMap<>();
        for (int seed = 0; seed < RUNS; seed++) {
            String miss = new Trial(seed, seen).miss();
            if (miss != null) {
                System.out.println("seed " + seed + ": " + miss);
                System.exit(1);
            }
        }
        // A draw that never meets one of these would test nothing of it.
        String[] needed = {"fault 1", "fault 2", "fault 3", "fault 4", "fault 5", "fault 6", "done", "passed", "joined", "dropped",
            "undone", "undone none", "full text", "full moments"};
        for (String what : needed) {
            if (!seen.containsKey(what)) {
                System.out.println("never met: " + what);
                System.exit(1);
            }
        }
        System.out.println("the class and the model agree: " + seen);
    }

    /** A call, with true and false as 1 and 0. */
    private interface Call {
        int on(Face x);
    }

    /** A call that changes nothing. */
    private record Question(String words, Call call) {
        int answerOf(Face x) {
            try {
                return call.on(x);
            } catch (IndexOutOfBoundsException e) {
                // The machine's own exceptions are of classes below this one.
                if (e.getClass() != IndexOutOfBoundsException.class) {
                    throw new Miss(words + " threw " + e.getClass());
                }
                return THROWN;
            }
        }
    }

    private static final class Miss extends RuntimeException {
        private static final long serialVersionUID = 1L;

        Miss(String words) {
            super(words);
        }
    }

    /** All that can be asked, and one step beyond each end. */
    private static List<Question> questions() {
        List<Question> all = new ArrayList<>();
        for (int i = -1; i <= OBJECTS; i++) {
            int n = i;
            all.add(new Question("changed(" + n + ")", x -> x.changed(n)));
            all.add(new Question("reached(" + n + ")", x -> x.reached(n) ? 1 : 0));
            for (int j = -1; j <= 4; j++) {
                int what = j;
                all.add(new Question("object(" + n + ", " + what + ")", x -> x.object(n, what)));
            }
            for (int j = -1; j <= KEYS; j++) {
                int key = j;
                all.add(new Question("kind(" + n + ", " + key + ")", x -> x.kind(n, key)));
                all.add(new Question("value(" + n + ", " + key + ")", x -> x.value(n, key)));
            }
        }
        for (int i = -1; i <= 5; i++) {
            int what = i;
            all.add(new Question("told(" + what + ")", x -> x.told(what)));
        }
        return all;
    }

    /** An object that is there: its keys with VALUES as texts ("5", "#3"), and whether it is signed. */
    private static final class Thing {
        final TreeMap<Character, String> keys = new TreeMap<>();
        boolean signed;

        Thing copy() {
            Thing other = new Thing();
            other.keys.putAll(keys);
            other.signed = signed;
            return other;
        }

        boolean same(Thing other) {
            return keys.equals(other.keys) && signed == other.signed;
        }
    }

    private static final class Fault extends RuntimeException {
        private static final long serialVersionUID = 1L;
        final int number;

        Fault(int number) {
            this.number = number;
        }
    }

    private static final class Model implements Face {
        private static final Thing NO_THING = new Thing();
        private static final String VALUE = "(-?[0-9]{1,5}|#[0-9]{1,2})";
        private static final String PATH = "([a-z]{1,8})";
        private static final Pattern ONE = Pattern.compile("([ARG]) ([0-9]{1,2});");
        private static final Pattern SET = Pattern.compile("S " + PATH + " " + VALUE + ";");
        private static final Pattern DELETE = Pattern.compile("D " + PATH + ";");
        private static final Pattern MOVE = Pattern.compile("M " + PATH + " " + PATH + ";");
        private static final Pattern CHANGE = Pattern.compile("C " + PATH + " " + VALUE + " " + VALUE + ";");

        String text = "";
        TreeMap<Integer, Thing> things = new TreeMap<>();
        final ArrayList<TreeMap<Integer, Thing>> moments = new ArrayList<>();
        List<Integer> changed = new ArrayList<>();
        int passed;
        int lines;
        private int passedNow;
        private int linesNow;

        Model() {
            things.put(0, new Thing());
        }

        static TreeMap<Integer, Thing> copy(TreeMap<Integer, Thing> from) {
            TreeMap<Integer, Thing> to = new TreeMap<>();
            from.forEach((n, thing) -> to.put(n, thing.copy()));
            return to;
        }

        List<Integer> unlike(TreeMap<Integer, Thing> old) {
            TreeSet<Integer> all = new TreeSet<>(old.keySet());
            all.addAll(things.keySet());
            List<Integer> list = new ArrayList<>();
            for (int n : all) {
                Thing a = old.get(n);
                Thing b = things.get(n);
                if (a == null || b == null || !a.same(b)) {
                    list.add(n);
                }
            }
            return list;
        }

        void keep(TreeMap<Integer, Thing> old) {
            moments.add(old);
            if (moments.size() > 16) {
                moments.remove(0);
            }
            changed = unlike(old);
        }

        @Override
        public boolean sign(int c) {
            if (c < 32 || c > 126 || text.length() == 300) {
                return false;
            }
            text += (char) c;
            return true;
        }

        @Override
        public int run(boolean forced) {
            TreeMap<Integer, Thing> old = copy(things);
            int fault = edit(forced);
            text = "";
            if (fault < 0) {
                things = old;
                return fault;
            }
            passed = passedNow;
            lines = linesNow;
            keep(old);
            return changed.size();
        }

        @Override
        public int dry(boolean forced) {
            TreeMap<Integer, Thing> old = copy(things);
            int fault = edit(forced);
            int answer = fault < 0 ? fault : unlike(old).size();
            things = old;
            return answer;
        }

        @Override
        public int changed(int i) {
            return changed.get(in(i, changed.size()));
        }

        private int edit(boolean forced) {
            passedNow = 0;
            linesNow = 0;
            String rest = text.replaceAll("^ +", "");
            try {
                while (!rest.isEmpty()) {
                    int end = rest.indexOf(';');
                    if (end < 0) {
                        throw new Fault(1);
                    }
                    line(rest.substring(0, end + 1), forced);
                    linesNow++;
                    rest = rest.substring(end + 1).replaceAll("^ +", "");
                }
            } catch (Fault fault) {
                return -1 - (10 * linesNow + fault.number);
            }
            return 0;
        }

        private void line(String line, boolean forced) {
            Matcher one = ONE.matcher(line);
            Matcher set = SET.matcher(line);
            Matcher delete = DELETE.matcher(line);
            Matcher move = MOVE.matcher(line);
            Matcher change = CHANGE.matcher(line);
            if (one.matches()) {
                onObject(one.group(1), Integer.parseInt(one.group(2)), forced);
            } else if (set.matches()) {
                String v = value(set.group(2));
                at(set.group(1), false, forced).put(last(set.group(1)), v);
            } else if (delete.matches()) {
                at(delete.group(1), true, forced).remove(last(delete.group(1)));
            } else if (move.matches()) {
                move(move.group(1), move.group(2), forced);
            } else if (change.matches()) {
                String v = value(change.group(2));
                String w = value(change.group(3));
                Thing thing = follow(change.group(1));
                String is = thing.keys.get(last(change.group(1)));
                if (is != null && !is.equals(v)) {
                    passedNow++;
                } else {
                    at(change.group(1), true, forced).put(last(change.group(1)), w);
                }
            } else {
                throw new Fault(1);
            }
        }

        private void move(String p, String q, boolean forced) {
            Thing from = follow(p);
            Thing to = follow(q);
            String v = from.keys.get(last(p));
            fail(v == null, 5);
            fail(!forced && (from.signed || to.signed), 6);
            from.keys.remove(last(p));
            to.keys.put(last(q), v);
        }

        private void onObject(String verb, int n, boolean forced) {
            fail(n > 39 || verb.equals("R") && n == 0, 2);
            fail(verb.equals("A") == things.containsKey(n), 3);
            if (verb.equals("A")) {
                things.put(n, new Thing());
            } else if (verb.equals("G")) {
                things.get(n).signed = true;
            } else {
                fail(!forced && things.get(n).signed, 6);
                things.remove(n);
            }
        }

        private TreeMap<Character, String> at(String path, boolean needed, boolean forced) {
            Thing thing = follow(path);
            fail(needed && !thing.keys.containsKey(last(path)), 5);
            fail(!forced && thing.signed, 6);
            return thing.keys;
        }

        private Thing follow(String path) {
            Thing thing = things.get(0);
            for (char c : path.substring(0, path.length() - 1).toCharArray()) {
                String v = thing.keys.get(c);
                fail(v == null || v.charAt(0) != '#', 4);
                thing = things.get(Integer.parseInt(v.substring(1)));
                fail(thing == null, 4);
            }
            return thing;
        }

        private static char last(String path) {
            return path.charAt(path.length() - 1);
        }

        private static String value(String told) {
            if (told.charAt(0) != '#') {
                return Integer.toString(Integer.parseInt(told));
            }
            int n = Integer.parseInt(told.substring(1));
            fail(n > 39, 2);
            return "#" + n;
        }

        private static void fail(boolean so, int number) {
            if (so) {
                throw new Fault(number);
            }
        }

        @Override
        public int undo() {
            if (moments.isEmpty()) {
                changed = new ArrayList<>();
                return -1;
            }
            TreeMap<Integer, Thing> old = things;
            things = moments.remove(moments.size() - 1);
            changed = unlike(old);
            return changed.size();
        }

        private TreeSet<Integer> reached() {
            TreeSet<Integer> all = new TreeSet<>();
            reachFrom(0, all);
            return all;
        }

        private void reachFrom(int n, TreeSet<Integer> all) {
            if (!things.containsKey(n) || !all.add(n)) {
                return;
            }
            for (String v : things.get(n).keys.values()) {
                if (v.charAt(0) == '#') {
                    reachFrom(Integer.parseInt(v.substring(1)), all);
                }
            }
        }

        @Override
        public boolean reached(int n) {
            return reached().contains(in(n, OBJECTS));
        }

        @Override
        public int drop() {
            TreeMap<Integer, Thing> old = copy(things);
            TreeSet<Integer> all = reached();
            things.keySet().removeIf(n -> !all.contains(n));
            keep(old);
            return old.size() - things.size();
        }

        @Override
        public int join() {
            TreeMap<Integer, Thing> old = copy(things);
            boolean again = true;
            while (again) {
                again = joinOne();
            }
            keep(old);
            return old.size() - things.size();
        }

        private boolean joinOne() {
            for (int a : things.keySet()) {
                for (int b : things.keySet()) {
                    if (a > 0 && a < b && !things.get(a).signed && !things.get(b).signed && alike(a, b)) {
                        things.remove(b);
                        things.values().forEach(t -> t.keys.replaceAll((k, v) -> v.equals("#" + b) ? "#" + a : v));
                        return true;
                    }
                }
            }
            return false;
        }

        private boolean alike(int a, int b) {
            Map<Character, String> x = new HashMap<>(things.get(a).keys);
            Map<Character, String> y = new HashMap<>(things.get(b).keys);
            for (char c : things.get(a).keys.keySet()) {
                if (x.get(c).equals("#" + a) && Objects.equals(y.get(c), "#" + b)) {
                    x.put(c, "self");
                    y.put(c, "self");
                }
            }
            return x.equals(y);
        }

        @Override
        public int kind(int n, int key) {
            String v = told(n, key);
            return v == null ? 0 : v.charAt(0) == '#' ? 2 : 1;
        }

        @Override
        public int value(int n, int key) {
            String v = told(n, key);
            return v == null ? 0 : Integer.parseInt(v.charAt(0) == '#' ? v.substring(1) : v);
        }

        private String told(int n, int key) {
            return thing(n).keys.get((char) ('a' + in(key, KEYS)));
        }

        private Thing thing(int n) {
            return things.getOrDefault(in(n, OBJECTS), NO_THING);
        }

        @Override
        public int object(int n, int what) {
            int[] all = {things.containsKey(n) ? 1 : 0, thing(n).signed ? 1 : 0, thing(n).keys.size(), references(n)};
            return all[in(what, all.length)];
        }

        @Override
        public int told(int what) {
            int[] all = {text.length(), things.size(), moments.size(), passed, lines};
            return what >= 0 && what < all.length ? all[what] : -1;
        }

        private static int in(int i, int count) {
            if (i < 0 || i >= count) {
                throw new IndexOutOfBoundsException();
            }
            return i;
        }

        private int references(int n) {
            int count = 0;
            for (Thing thing : things.values()) {
                for (String v : thing.keys.values()) {
                    count += v.equals("#" + n) ? 1 : 0;
                }
            }
            return count;
        }
    }

    /** One run of calls on both. */
    private static final class Trial {
        private final Random random;
        private final Map<String, Integer> seen;
        private final Probe made = new Probe();
        private final Model model = new Model();
        private final List<Call> calls = new ArrayList<>();
        private final StringBuilder log = new StringBuilder();
        private final int objects;
        private final int letters;

        Trial(int seed, Map<String, Integer> seen) {
            this.random = new Random(seed);
            this.seen = seen;
            this.objects = 2 + random.nextInt(seed % 5 == 0 ? 38 : 6);
            this.letters = 1 + random.nextInt(seed % 7 == 0 ? 26 : 3);
        }

        /** What went wrong, behind the calls before it; or null. */
        String miss() {
            try {
                if (random.nextBoolean()) {
                    tell(start());
                    call("run(false)", x -> x.run(false), "done");
                }
                while (calls.size() < CALLS) {
                    step();
                    if (random.nextInt(8) == 0) {
                        compare();
                    }
                }
                compare();
            } catch (Miss miss) {
                return log + miss.getMessage();
            }
            return null;
        }

        private void step() {
            int draw = random.nextInt(20);
            if (draw < 2) {
                call("undo()", Face::undo, "undone");
            } else if (draw < 3) {
                call("drop()", Face::drop, "dropped");
            } else if (draw < 5) {
                call("join()", Face::join, "joined");
            } else {
                tell(text());
                boolean forced = random.nextInt(3) == 0;
                int draws = random.nextInt(6);
                if (draws < 2) {
                    call("dry(" + forced + ")", x -> x.dry(forced), "done");
                }
                if (draws > 0) {
                    call("run(" + forced + ")", x -> x.run(forced), "done");
                }
            }
        }

        private void tell(String text) {
            log.append("text ").append(text).append('\n');
            for (int i = 0; i < text.length() && calls.size() < CALLS; i++) {
                char c = text.charAt(i);
                if (both("sign(" + c + ")", x -> x.sign(c) ? 1 : 0) == 0) {
                    see("full text");
                    return;
                }
            }
        }

        private void call(String words, Call call, String what) {
            if (calls.size() >= CALLS) {
                return;
            }
            int due = both(words, call);
            log.append(words).append(" = ").append(due).append('\n');
            if (due < -1) {
                see("fault " + (-1 - due) % 10);
            } else if (due == -1) {
                see(what + " none");
            } else if (due > 0) {
                see(what);
            }
        }

        private int both(String words, Call call) {
            calls.add(call);
            int due = call.on(model);
            dueAnswer(words, call.on(made), due);
            return due;
        }

        private static void dueAnswer(String words, int got, int due) {
            if (got != due) {
                throw new Miss(words + " answered " + got + ", due is " + due);
            }
        }

        private void see(String what) {
            seen.merge(what, 1, Integer::sum);
        }

        /** Asks everything, of as many new objects behind the same calls as it takes to stay within 512 each. */
        private void compare() {
            if (model.passed > 0) {
                see("passed");
            }
            if (model.moments.size() == 16) {
                see("full moments");
            }
            Probe x = again();
            for (Question question : QUESTIONS) {
                if (x.callsLeft() == 0) {
                    x = again();
                }
                dueAnswer(question.words, question.answerOf(x), question.answerOf(model));
            }
        }

        private Probe again() {
            Probe x = new Probe();
            for (Call call : calls) {
                call.on(x);
            }
            return x;
        }

        /** Objects to which the root refers: drawn line by line they are too seldom many enough to be alike. */
        private String start() {
            StringBuilder all = new StringBuilder();
            for (int n = 1; n < objects && n <= letters && n < 9; n++) {
                all.append("A ").append(n).append(";S ").append((char) ('a' + n - 1)).append(" #").append(n).append(';');
            }
            return all.toString();
        }

        private String text() {
            StringBuilder all = new StringBuilder();
            int count = random.nextInt(random.nextInt(40) == 0 ? 60 : 7);
            for (int i = 0; i < count; i++) {
                all.append(" ".repeat(random.nextInt(4) == 0 ? random.nextInt(3) : 0));
                all.append(mutated(line()));
            }
            return all.append(" ".repeat(random.nextInt(3) == 0 ? 1 : 0)).toString();
        }

        private String mutated(String line) {
            if (random.nextInt(60) != 0) {
                return line;
            }
            int at = random.nextInt(line.length());
            char c = " ;#-0a9zAZ~".charAt(random.nextInt(11));
            switch (random.nextInt(3)) {
                case 0:
                    return line.substring(0, at) + line.substring(at + 1);
                case 1:
                    return line.substring(0, at) + c + line.substring(at);
                default:
                    return line.substring(0, at) + c + line.substring(at + 1);
            }
        }

        private String line() {
            switch (verb()) {
                case 'A':
                    return "A " + number(false) + ";";
                case 'R':
                    return "R " + number(true) + ";";
                case 'G':
                    return "G " + number(true) + ";";
                case 'D':
                    return "D " + keyPath() + ";";
                case 'M':
                    return "M " + keyPath() + " " + path() + ";";
                case 'C':
                    String path = keyPath();
                    return "C " + path + " " + wanted(path) + " " + value() + ";";
                default:
                    String to = path();
                    return "S " + to + " " + (random.nextInt(6) == 0 ? itself(to) : value()) + ";";
            }
        }

        /** Mostly one that can be done as things are before the text. */
        private char verb() {
            char verb = "AAARGDDMMMCCCSSSSSSSSS".charAt(random.nextInt(22));
            boolean hopeless = verb == 'A' ? model.things.size() >= objects
                : verb == 'R' || verb == 'G' ? model.things.size() == 1
                : verb != 'S' && model.things.get(0).keys.isEmpty();
            return hopeless && random.nextInt(8) > 0 ? 'S' : verb;
        }

        /** Mostly of an object that is there, or of one that is not. */
        private String number(boolean there) {
            String n = number();
            for (int i = 0; i < 20 && model.things.containsKey(Integer.parseInt(n)) != there; i++) {
                n = number();
            }
            return n;
        }

        /** A reference to the object to which the path leads. */
        private String itself(String path) {
            try {
                Thing thing = model.follow(path);
                for (int n : model.things.keySet()) {
                    if (model.things.get(n) == thing) {
                        return "#" + n;
                    }
                }
                return value();
            } catch (Fault fault) {
                return value();
            }
        }

        private String wanted(String path) {
            try {
                String v = model.follow(path).keys.get(Model.last(path));
                return v == null || random.nextInt(3) == 0 ? value() : v;
            } catch (Fault fault) {
                return value();
            }
        }

        private String number() {
            if (random.nextInt(100) == 0) {
                return Integer.toString(random.nextInt(100));
            }
            int n = random.nextInt(objects);
            return n < 10 && random.nextInt(5) == 0 ? "0" + n : Integer.toString(n);
        }

        private String value() {
            if (random.nextInt(3) > 0) {
                return "#" + number();
            }
            if (random.nextInt(10) == 0) {
                return (random.nextBoolean() ? "-" : "") + random.nextInt(random.nextInt(10) == 0 ? 1000000 : 100000);
            }
            return (random.nextInt(3) == 0 ? "-" : "") + (random.nextInt(4) == 0 ? "00" : "") + random.nextInt(2);
        }

        /** Mostly a path to a key that is there. */
        private String keyPath() {
            return pathTo(random.nextInt(8) > 0);
        }

        private String path() {
            return pathTo(random.nextBoolean());
        }

        /** Mostly a path that can go on as things are before the text. */
        private String pathTo(boolean keyIsThere) {
            StringBuilder path = new StringBuilder();
            Thing thing = model.things.get(0);
            boolean far = random.nextInt(20) == 0;
            int most = far ? 8 + random.nextInt(8) / 7 : 1 + random.nextInt(4);
            while (path.length() < most - 1) {
                char c = far ? keyOf(thing) : letter();
                String v = thing.keys.get(c);
                Thing next = v != null && v.charAt(0) == '#' ? model.things.get(Integer.parseInt(v.substring(1))) : null;
                if (next == null) {
                    if (random.nextInt(15) == 0) {
                        path.append(c);
                    }
                    break;
                }
                path.append(c);
                thing = next;
            }
            if (!thing.keys.isEmpty() && keyIsThere) {
                return path.append(keyOf(thing)).toString();
            }
            // The letter by which the path came here is a key that is there.
            return keyIsThere && path.length() > 0 ? path.toString() : path.append(letter()).toString();
        }

        private char keyOf(Thing thing) {
            List<Character> keys = new ArrayList<>(thing.keys.keySet());
            return keys.isEmpty() ? letter() : keys.get(random.nextInt(keys.size()));
        }

        private char letter() {
            return (char) ('a' + random.nextInt(letters));
        }
    }
}
