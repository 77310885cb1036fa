import java.util.ArrayList;
import java.util.HashMap;
import java.util.List;
import java.util.Map;
import java.util.Objects;
import java.util.Random;
import java.util.TreeMap;
import java.util.TreeSet;
import java.util.regex.Matcher;
import java.util.regex.Pattern;

/** Runs of calls, drawn from fixed seeds, on the class and on a plain model of the document's words. */
public final class ModelTests {
    private static final int RUNS = 3000;
    private static final int CALLS = 512;

    private ModelTests() {
    }

    public static void main(String[] args) {
        Map<String, Integer> seen = new TreeMap<>();
        for (int seed = 0; seed < RUNS; seed++) {
            String miss = new Trial(seed, seen).miss();
            if (miss != null) {
                System.out.println("seed " + seed + ": " + miss);
                System.exit(1);
            }
        }
        // A draw that never meets one of these would test nothing of it.
        String[] needed = {"fault 1", "fault 2", "fault 3", "fault 4", "fault 5", "fault 6", "done", "passed", "joined", "dropped",
            "undone", "undone none", "full text", "full moments"};
        for (String what : needed) {
            if (!seen.containsKey(what)) {
                System.out.println("never met: " + what);
                System.exit(1);
            }
        }
        System.out.println("the class and the model agree: " + seen);
    }

    /** An object that is there: its keys with VALUES as texts ("5", "#3"), and whether it is signed. */
    private static final class Thing {
        final TreeMap<Character, String> keys = new TreeMap<>();
        boolean signed;

        Thing copy() {
            Thing other = new Thing();
            other.keys.putAll(keys);
            other.signed = signed;
            return other;
        }

        boolean same(Thing other) {
            return keys.equals(other.keys) && signed == other.signed;
        }
    }

    private static final class Fault extends RuntimeException {
        private static final long serialVersionUID = 1L;
        final int number;

        Fault(int number) {
            this.number = number;
        }
    }

    private static final class Model {
        private static final String VALUE = "(-?[0-9]{1,5}|#[0-9]{1,2})";
        private static final String PATH = "([a-z]{1,8})";
        private static final Pattern ONE = Pattern.compile("([ARG]) ([0-9]{1,2});");
        private static final Pattern SET = Pattern.compile("S " + PATH + " " + VALUE + ";");
        private static final Pattern DELETE = Pattern.compile("D " + PATH + ";");
        private static final Pattern MOVE = Pattern.compile("M " + PATH + " " + PATH + ";");
        private static final Pattern CHANGE = Pattern.compile("C " + PATH + " " + VALUE + " " + VALUE + ";");

        String text = "";
        TreeMap<Integer, Thing> things = new TreeMap<>();
        final ArrayList<TreeMap<Integer, Thing>> moments = new ArrayList<>();
        List<Integer> changed = new ArrayList<>();
        int passed;
        int lines;
        private int passedNow;
        private int linesNow;

        Model() {
            things.put(0, new Thing());
        }

        static TreeMap<Integer, Thing> copy(TreeMap<Integer, Thing> from) {
            TreeMap<Integer, Thing> to = new TreeMap<>();
            from.forEach((n, thing) -> to.put(n, thing.copy()));
            return to;
        }

        List<Integer> unlike(TreeMap<Integer, Thing> old) {
            TreeSet<Integer> all = new TreeSet<>(old.keySet());
            all.addAll(things.keySet());
            List<Integer> list = new ArrayList<>();
            for (int n : all) {
                Thing a = old.get(n);
                Thing b = things.get(n);
                if (a == null || b == null || !a.same(b)) {
                    list.add(n);
                }
            }
            return list;
        }

        void keep(TreeMap<Integer, Thing> old) {
            moments.add(old);
            if (moments.size() > 16) {
                moments.remove(0);
            }
            changed = unlike(old);
        }

        int run(boolean forced, boolean dry) {
            TreeMap<Integer, Thing> old = copy(things);
            int answer = edit(forced);
            if (answer < 0 || dry) {
                answer = answer < 0 ? answer : unlike(old).size();
                things = old;
                text = dry ? text : "";
                return answer;
            }
            text = "";
            passed = passedNow;
            lines = linesNow;
            keep(old);
            return changed.size();
        }

        private int edit(boolean forced) {
            passedNow = 0;
            linesNow = 0;
            String rest = text.replaceAll("^ +", "");
            try {
                while (!rest.isEmpty()) {
                    int end = rest.indexOf(';');
                    if (end < 0) {
                        throw new Fault(1);
                    }
                    line(rest.substring(0, end + 1), forced);
                    linesNow++;
                    rest = rest.substring(end + 1).replaceAll("^ +", "");
                }
            } catch (Fault fault) {
                return -1 - (10 * linesNow + fault.number);
            }
            return 0;
        }

        private void line(String line, boolean forced) {
            Matcher one = ONE.matcher(line);
            Matcher set = SET.matcher(line);
            Matcher delete = DELETE.matcher(line);
            Matcher move = MOVE.matcher(line);
            Matcher change = CHANGE.matcher(line);
            if (one.matches()) {
                onObject(one.group(1), Integer.parseInt(one.group(2)), forced);
            } else if (set.matches()) {
                String v = value(set.group(2));
                at(set.group(1), false, forced).put(last(set.group(1)), v);
            } else if (delete.matches()) {
                at(delete.group(1), true, forced).remove(last(delete.group(1)));
            } else if (move.matches()) {
                move(move.group(1), move.group(2), forced);
            } else if (change.matches()) {
                String v = value(change.group(2));
                String w = value(change.group(3));
                Thing thing = follow(change.group(1));
                String is = thing.keys.get(last(change.group(1)));
                if (is != null && !is.equals(v)) {
                    passedNow++;
                } else {
                    at(change.group(1), true, forced).put(last(change.group(1)), w);
                }
            } else {
                throw new Fault(1);
            }
        }

        private void move(String p, String q, boolean forced) {
            Thing from = follow(p);
            Thing to = follow(q);
            String v = from.keys.get(last(p));
            fail(v == null, 5);
            fail(!forced && (from.signed || to.signed), 6);
            from.keys.remove(last(p));
            to.keys.put(last(q), v);
        }

        private void onObject(String verb, int n, boolean forced) {
            fail(n > 39 || verb.equals("R") && n == 0, 2);
            fail(verb.equals("A") == things.containsKey(n), 3);
            if (verb.equals("A")) {
                things.put(n, new Thing());
            } else if (verb.equals("G")) {
                things.get(n).signed = true;
            } else {
                fail(!forced && things.get(n).signed, 6);
                things.remove(n);
            }
        }

        private TreeMap<Character, String> at(String path, boolean needed, boolean forced) {
            Thing thing = follow(path);
            fail(needed && !thing.keys.containsKey(last(path)), 5);
            fail(!forced && thing.signed, 6);
            return thing.keys;
        }

        private Thing follow(String path) {
            Thing thing = things.get(0);
            for (char c : path.substring(0, path.length() - 1).toCharArray()) {
                String v = thing.keys.get(c);
                fail(v == null || v.charAt(0) != '#', 4);
                thing = things.get(Integer.parseInt(v.substring(1)));
                fail(thing == null, 4);
            }
            return thing;
        }

        private static char last(String path) {
            return path.charAt(path.length() - 1);
        }

        private static String value(String told) {
            if (told.charAt(0) != '#') {
                return Integer.toString(Integer.parseInt(told));
            }
            int n = Integer.parseInt(told.substring(1));
            fail(n > 39, 2);
            return "#" + n;
        }

        private static void fail(boolean so, int number) {
            if (so) {
                throw new Fault(number);
            }
        }

        int undo() {
            if (moments.isEmpty()) {
                changed = new ArrayList<>();
                return -1;
            }
            TreeMap<Integer, Thing> old = things;
            things = moments.remove(moments.size() - 1);
            changed = unlike(old);
            return changed.size();
        }

        TreeSet<Integer> reached() {
            TreeSet<Integer> all = new TreeSet<>();
            all.add(0);
            for (int round = 0; round < 40; round++) {
                for (int n : new ArrayList<>(all)) {
                    for (String v : things.get(n).keys.values()) {
                        if (v.charAt(0) == '#' && things.containsKey(Integer.parseInt(v.substring(1)))) {
                            all.add(Integer.parseInt(v.substring(1)));
                        }
                    }
                }
            }
            return all;
        }

        int drop() {
            TreeMap<Integer, Thing> old = copy(things);
            TreeSet<Integer> all = reached();
            things.keySet().removeIf(n -> !all.contains(n));
            keep(old);
            return old.size() - things.size();
        }

        int join() {
            TreeMap<Integer, Thing> old = copy(things);
            boolean again = true;
            while (again) {
                again = joinOne();
            }
            keep(old);
            return old.size() - things.size();
        }

        private boolean joinOne() {
            for (int a : things.keySet()) {
                for (int b : things.keySet()) {
                    if (a > 0 && a < b && !things.get(a).signed && !things.get(b).signed && alike(a, b)) {
                        things.remove(b);
                        things.values().forEach(t -> t.keys.replaceAll((k, v) -> v.equals("#" + b) ? "#" + a : v));
                        return true;
                    }
                }
            }
            return false;
        }

        private boolean alike(int a, int b) {
            Map<Character, String> x = new HashMap<>(things.get(a).keys);
            Map<Character, String> y = new HashMap<>(things.get(b).keys);
            for (char c : things.get(a).keys.keySet()) {
                if (x.get(c).equals("#" + a) && Objects.equals(y.get(c), "#" + b)) {
                    x.put(c, "self");
                    y.put(c, "self");
                }
            }
            return x.equals(y);
        }

        int references(int n) {
            int count = 0;
            for (Thing thing : things.values()) {
                for (String v : thing.keys.values()) {
                    count += v.equals("#" + n) ? 1 : 0;
                }
            }
            return count;
        }
    }

    /** One run of calls on both. */
    private static final class Trial {
        private final Random random;
        private final Map<String, Integer> seen;
        private final EditLists2 made = new EditLists2();
        private final Model model = new Model();
        private final StringBuilder log = new StringBuilder();
        private final int objects;
        private final int letters;
        private int calls;

        Trial(int seed, Map<String, Integer> seen) {
            this.random = new Random(seed);
            this.seen = seen;
            this.objects = 2 + random.nextInt(seed % 5 == 0 ? 38 : 6);
            this.letters = 1 + random.nextInt(seed % 7 == 0 ? 26 : 3);
        }

        String miss() {
            while (calls < CALLS) {
                String miss = step();
                if (miss == null) {
                    miss = compare();
                }
                if (miss != null) {
                    return log + miss;
                }
            }
            return null;
        }

        private String step() {
            int draw = random.nextInt(20);
            if (draw < 2) {
                return answer("undo()", made.undo(), model.undo(), "undone");
            }
            if (draw < 3) {
                return answer("drop()", made.drop(), model.drop(), "dropped");
            }
            if (draw < 5) {
                return answer("join()", made.join(), model.join(), "joined");
            }
            String text = text();
            for (int i = 0; i < text.length() && calls < CALLS; i++) {
                calls++;
                boolean room = model.text.length() < 300;
                if (made.sign(text.charAt(i)) != room) {
                    return "sign at " + model.text.length();
                }
                if (!room) {
                    see("full text");
                    break;
                }
                model.text += text.charAt(i);
            }
            boolean forced = random.nextInt(3) == 0;
            log.append("text ").append(model.text).append('\n');
            int draws = random.nextInt(6);
            if (draws < 2) {
                String miss = answer("dry " + forced, made.dry(forced), model.run(forced, true), "done");
                if (miss != null || draws == 0) {
                    return miss;
                }
            }
            return answer("run " + forced, made.run(forced), model.run(forced, false), "done");
        }

        private String answer(String call, int got, int due, String what) {
            calls++;
            log.append(call).append(" = ").append(due).append('\n');
            if (due < -1) {
                see("fault " + (-1 - due) % 10);
            } else if (due == -1) {
                see(what + " none");
            } else if (due > 0) {
                see(what);
            }
            return got == due ? null : call + " answered " + got + ", due is " + due;
        }

        private void see(String what) {
            seen.merge(what, 1, Integer::sum);
        }

        /** Asks far more than 512 questions: only the calls that change something are kept within that limit. */
        private String compare() {
            if (model.passed > 0) {
                see("passed");
            }
            if (model.moments.size() == 16) {
                see("full moments");
            }
            int[] told = {model.text.length(), model.things.size(), model.moments.size(), model.passed, model.lines};
            for (int i = 0; i < told.length; i++) {
                if (made.told(i) != told[i]) {
                    return "told(" + i + ") answered " + made.told(i) + ", due is " + told[i];
                }
            }
            for (int i = 0; i <= 40; i++) {
                int due = i < model.changed.size() ? model.changed.get(i) : -1;
                int got;
                try {
                    got = made.changed(i);
                } catch (IndexOutOfBoundsException e) {
                    got = -1;
                }
                if (got != due) {
                    return "changed(" + i + ") answered " + got + ", due is " + due;
                }
            }
            TreeSet<Integer> reached = model.reached();
            for (int n = 0; n < 40; n++) {
                if (made.reached(n) != reached.contains(n)) {
                    return "reached(" + n + ")";
                }
                String miss = compareObject(n);
                if (miss != null) {
                    return miss;
                }
            }
            return null;
        }

        private String compareObject(int n) {
            Thing thing = model.things.get(n);
            Thing shown = thing == null ? new Thing() : thing;
            int[] due = {thing == null ? 0 : 1, shown.signed ? 1 : 0, shown.keys.size(), model.references(n)};
            for (int what = 0; what < due.length; what++) {
                if (made.object(n, what) != due[what]) {
                    return "object(" + n + ", " + what + ") answered " + made.object(n, what) + ", due is " + due[what];
                }
            }
            for (int key = 0; key < 26; key++) {
                String v = shown.keys.get((char) ('a' + key));
                int kind = v == null ? 0 : v.charAt(0) == '#' ? 2 : 1;
                int value = v == null ? 0 : Integer.parseInt(kind == 2 ? v.substring(1) : v);
                if (made.kind(n, key) != kind || made.value(n, key) != value) {
                    return "key " + key + " of " + n + " is " + made.kind(n, key) + " " + made.value(n, key) + ", due is " + v;
                }
            }
            return null;
        }

        private String text() {
            StringBuilder all = new StringBuilder();
            int count = random.nextInt(random.nextInt(40) == 0 ? 60 : 7);
            for (int i = 0; i < count; i++) {
                all.append(" ".repeat(random.nextInt(4) == 0 ? random.nextInt(3) : 0));
                all.append(mutated(line()));
            }
            return all.append(" ".repeat(random.nextInt(3) == 0 ? 1 : 0)).toString();
        }

        private String mutated(String line) {
            if (random.nextInt(60) != 0) {
                return line;
            }
            int at = random.nextInt(line.length());
            char c = " ;#-0a9zAZ~".charAt(random.nextInt(11));
            switch (random.nextInt(3)) {
                case 0:
                    return line.substring(0, at) + line.substring(at + 1);
                case 1:
                    return line.substring(0, at) + c + line.substring(at);
                default:
                    return line.substring(0, at) + c + line.substring(at + 1);
            }
        }

        private String line() {
            switch (random.nextInt(14)) {
                case 0:
                case 1:
                    return "A " + missingNumber() + ";";
                case 2:
                    return "R " + number() + ";";
                case 3:
                    return random.nextInt(3) == 0 ? "G " + number() + ";" : "S " + path() + " " + value() + ";";
                case 4:
                    return "D " + path() + ";";
                case 5:
                case 6:
                    return "M " + path() + " " + path() + ";";
                case 7:
                case 8:
                    return "C " + path() + " " + value() + " " + value() + ";";
                default:
                    return "S " + path() + " " + value() + ";";
            }
        }

        private String missingNumber() {
            for (int i = 0; i < 5; i++) {
                String n = number();
                if (!model.things.containsKey(Integer.parseInt(n))) {
                    return n;
                }
            }
            return number();
        }

        private String number() {
            if (random.nextInt(100) == 0) {
                return Integer.toString(random.nextInt(100));
            }
            int n = random.nextInt(objects);
            return n < 10 && random.nextInt(5) == 0 ? "0" + n : Integer.toString(n);
        }

        private String value() {
            if (random.nextInt(3) > 0) {
                return "#" + number();
            }
            if (random.nextInt(10) == 0) {
                return (random.nextBoolean() ? "-" : "") + random.nextInt(100000);
            }
            return (random.nextInt(3) == 0 ? "-" : "") + (random.nextInt(4) == 0 ? "00" : "") + random.nextInt(2);
        }

        /** Mostly a path that can go on as things are before the text. */
        private String path() {
            StringBuilder path = new StringBuilder();
            Thing thing = model.things.get(0);
            int most = random.nextInt(50) == 0 ? 9 : 1 + random.nextInt(4);
            while (path.length() < most - 1) {
                char c = letter();
                String v = thing.keys.get(c);
                Thing next = v != null && v.charAt(0) == '#' ? model.things.get(Integer.parseInt(v.substring(1))) : null;
                if (next == null) {
                    if (random.nextInt(15) == 0) {
                        path.append(c);
                    }
                    break;
                }
                path.append(c);
                thing = next;
            }
            if (!thing.keys.isEmpty() && random.nextBoolean()) {
                return path.append(new ArrayList<>(thing.keys.keySet()).get(random.nextInt(thing.keys.size()))).toString();
            }
            return path.append(letter()).toString();
        }

        private char letter() {
            return (char) ('a' + random.nextInt(letters));
        }
    }
}
