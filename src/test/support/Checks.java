/** What the tests share: a heading, the answers that are due under it, and ways to look at a whole object. */
abstract class Checks {
    private static final int OBJECTS = 40;
    private static final int KEYS = 26;
    private static final int MOMENTS = 16;

    private static int wrong = 0;
    private static int asked = 0;
    private static String heading = "";

    /** Calls on a new object. */
    interface Script {
        void on(Probe x);
    }

    /** The sentence or promise of the document to which the checks that follow belong. */
    static void heading(String words) {
        heading = words;
    }

    static void end() {
        System.out.println(wrong == 0 ? "all " + asked + " answers are as due" : wrong + " answers are not as due");
        if (wrong != 0) {
            System.exit(1);
        }
    }

    static void due(String call, int got, int want) {
        asked++;
        if (got != want) {
            miss(call + " answered " + got + ", due is " + want);
        }
    }

    static void dueThat(String call, boolean got, boolean want) {
        due(call, got ? 1 : 0, want ? 1 : 0);
    }

    static void dueSame(String what, String got, String want) {
        asked++;
        if (!got.equals(want)) {
            miss(what + " is\n" + got + "and due is\n" + want);
        }
    }

    static void dueThrow(String call, Runnable made) {
        asked++;
        try {
            made.run();
        } catch (IndexOutOfBoundsException e) {
            // The machine's own exceptions are of classes below this one, and the class must not let them come.
            if (e.getClass() != IndexOutOfBoundsException.class) {
                miss(call + " threw " + e.getClass());
            }
            return;
        }
        miss(call + " did not throw");
    }

    static void miss(String what) {
        wrong++;
        System.out.println(heading + ": " + what);
    }

    static void tell(Probe x, String text) {
        for (int i = 0; i < text.length(); i++) {
            dueThat("sign " + text.charAt(i), x.sign(text.charAt(i)), true);
        }
    }

    /** The text, run without force. */
    static void dueRun(Probe x, String text, int answer) {
        tell(x, text);
        due("run of " + text, x.run(false), answer);
    }

    static void dueForced(Probe x, String text, int answer) {
        tell(x, text);
        due("forced run of " + text, x.run(true), answer);
    }

    /** A new object behind a text that has no FAULT. */
    static Probe behind(String start) {
        Probe x = new Probe();
        if (!start.isEmpty()) {
            tell(x, start);
            dueThat("a run without a fault of " + start, x.run(true) >= 0, true);
        }
        return x;
    }

    /** On a new object behind the start: dry() and run() of the text both answer so. */
    static Probe dueAnswer(String start, String text, boolean forced, int answer) {
        Probe x = behind(start);
        tell(x, text);
        String call = (forced ? "forced " : "") + "of [" + text + "] behind [" + start + "]";
        due("dry " + call, x.dry(forced), answer);
        due("run " + call, x.run(forced), answer);
        return x;
    }

    static Probe dueDone(String start, String text, int answer) {
        return dueAnswer(start, text, false, answer);
    }

    /** The text's line 0 has the FAULT; where it is not 6, force does not help. */
    static void dueFault(String start, String text, int fault) {
        dueFaultAt(start, text, 0, fault);
    }

    static void dueFaultAt(String start, String text, int line, int fault) {
        dueAnswer(start, text, false, -1 - (10 * line + fault));
        if (fault != 6) {
            dueAnswer(start, text, true, -1 - (10 * line + fault));
        }
    }

    /** These objects, in this order, and no other place. */
    static void dueChanged(Probe x, int... numbers) {
        for (int i = 0; i < numbers.length; i++) {
            due("changed " + i, x.changed(i), numbers[i]);
        }
        dueThrow("changed " + numbers.length, () -> x.changed(numbers.length));
    }

    /** All that can be asked of all objects; each is asked on a new object, to stay within 512 calls. */
    static String objects(Script script) {
        StringBuilder all = new StringBuilder();
        for (int n = 0; n < OBJECTS; n++) {
            Probe x = new Probe();
            script.on(x);
            all.append(n).append(':');
            for (int what = 0; what < 4; what++) {
                all.append(' ').append(x.object(n, what));
            }
            all.append(x.reached(n) ? " reached" : "");
            for (int key = 0; key < KEYS; key++) {
                int kind = x.kind(n, key);
                int value = x.value(n, key);
                if (kind != 0 || value != 0) {
                    all.append(' ').append((char) ('a' + key)).append(kind == 2 ? "#" : "").append(value);
                }
            }
            all.append('\n');
        }
        return all.toString();
    }

    /** All that can be asked of an object: its objects, text, MOMENTS, and what it tells of calls before. */
    static String whole(Script script) {
        StringBuilder all = new StringBuilder(objects(script));
        Probe told = new Probe();
        script.on(told);
        for (int what = 0; what <= 4; what++) {
            all.append("told ").append(told.told(what)).append('\n');
        }
        all.append(changedOf(script)).append(textOf(script));
        for (int i = 1; i <= MOMENTS; i++) {
            int undos = i;
            all.append("undo ").append(i).append('\n').append(objects(x -> {
                script.on(x);
                for (int k = 0; k < undos; k++) {
                    x.undo();
                }
            }));
        }
        return all.toString();
    }

    private static String changedOf(Script script) {
        Probe x = new Probe();
        script.on(x);
        StringBuilder all = new StringBuilder("changed");
        try {
            for (int i = 0; i <= OBJECTS; i++) {
                all.append(' ').append(x.changed(i));
            }
        } catch (IndexOutOfBoundsException e) {
            all.append(" and no more");
        }
        return all.append('\n').toString();
    }

    private static String textOf(Script script) {
        Probe x = new Probe();
        script.on(x);
        StringBuilder all = new StringBuilder("run ").append(x.run(true)).append(", lines ").append(x.told(4)).append('\n');
        return all.append(objects(y -> {
            script.on(y);
            y.run(true);
        })).toString();
    }
}
