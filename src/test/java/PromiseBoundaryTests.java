/**
 * Each sentence of the promises 1 to 13 that names a boundary: a test of its own, on both sides of the boundary where
 * there are two. The headings are the document's words.
 */
public final class PromiseBoundaryTests extends Checks {
    private PromiseBoundaryTests() {
    }

    public static void main(String[] args) {
        newRootAlone();
        newNoText();
        newNoMoments();
        signMayBeOne();
        signRoom();
        runCounts();
        runFaultAnswers();
        runTextIsEmptyThen();
        dryAnswers();
        dryChangesNothing();
        dryTextStays();
        changedByNumbers();
        changedPlaces();
        changedBehindEachCall();
        changedBehindUndoOfNone();
        changedBehindNoOtherCall();
        undoLatestMoment();
        undoMomentIsNoMore();
        undoHowMany();
        undoNone();
        undoLeavesTheRest();
        dropNotReached();
        dropHowMany();
        joinNeitherRootNorSigned();
        joinSameKeysAndValues();
        joinItself();
        joinGreaterGoes();
        joinReferences();
        joinAsLongAs();
        joinHowMany();
        reachedEnds();
        kindOfEach();
        valueOrObject();
        objectThere();
        objectSigned();
        objectKeys();
        objectReferences();
        objectWhat();
        toldSigns();
        toldObjects();
        toldMoments();
        toldPassedAndLines();
        toldOthers();
        end();
    }

    // Promise 1

    private static void newRootAlone() {
        heading("1 The ROOT alone");
        StringBuilder want = new StringBuilder("0: 1 0 0 0 reached\n");
        for (int n = 1; n < 40; n++) {
            want.append(n).append(": 0 0 0 0\n");
        }
        dueSame("objects", objects(x -> { }), want.toString());
        due("objects that are there", new Probe().told(1), 1);
        Probe used = behind("A 1;S a #1;G 0;");
        due("another object is not this one", new Probe().told(1), 1);
        due("nor this one another", used.told(1), 2);
    }

    private static void newNoText() {
        heading("1 no text");
        Probe x = new Probe();
        due("signs", x.told(0), 0);
        due("dry", x.dry(false), 0);
        due("run", x.run(false), 0);
        due("passed", x.told(3), 0);
        due("lines", x.told(4), 0);
        due("no run yet: passed", new Probe().told(3), 0);
        due("no run yet: lines", new Probe().told(4), 0);
    }

    private static void newNoMoments() {
        heading("1 no MOMENTS");
        Probe x = new Probe();
        due("moments", x.told(2), 0);
        due("undo", x.undo(), -1);
        dueThrow("nothing was changed", () -> x.changed(0));
    }

    // Promise 2

    private static void signMayBeOne() {
        heading("2 A sign behind the text: whether it may be one");
        Probe x = new Probe();
        for (int c = -1; c <= 260; c++) {
            dueThat("sign " + c, x.sign(c), c >= 32 && c <= 126);
        }
        due("signs", x.told(0), 95);
        Probe behind = new Probe();
        tell(behind, "A ");
        dueThat("refused", behind.sign(31), false);
        tell(behind, "1");
        dueThat("refused", behind.sign(127), false);
        tell(behind, ";");
        due("only those that may be are in it, each behind the others", behind.run(false), 1);
    }

    private static void signRoom() {
        heading("2 and there was room");
        Probe x = new Probe();
        tell(x, "A 1;" + " ".repeat(295));
        dueThat("no sign, with room", x.sign(127), false);
        due("299", x.told(0), 299);
        dueThat("the last room", x.sign(' '), true);
        due("300", x.told(0), 300);
        dueThat("no room", x.sign(';'), false);
        dueThat("no room for the least", x.sign(32), false);
        dueThat("no room for the greatest", x.sign(126), false);
        dueThat("neither", x.sign(31), false);
        due("still 300", x.told(0), 300);
        due("dry leaves no room", x.dry(false), 1);
        dueThat("no room", x.sign(' '), false);
        due("run", x.run(false), 1);
        dueThat("room again", x.sign(' '), true);
        due("one sign", x.told(0), 1);
    }

    // Promise 3

    private static void runCounts() {
        heading("3 how many objects are UNLIKE those before");
        due("none", dueDone("", "", 0).told(2), 1);
        dueDone("A 1;", "R 1;A 1;", 0);
        dueDone("", "A 1;", 1);
        dueDone("", "A 1;S a 1;", 2);
        Probe all = dueDone("", allObjects() + "S a 1;", 40);
        due("the first", all.changed(0), 0);
        due("the last", all.changed(39), 39);
        dueThrow("no more", () -> all.changed(40));
        dueDone("", allObjects(), 39);
    }

    private static void runFaultAnswers() {
        heading("3 or, with a FAULT, -1 less ten times the line and the FAULT");
        dueDone("", "x", -2);
        dueDone("", "A 40;", -3);
        dueDone("", "A 0;", -4);
        dueDone("", "S aa 1;", -5);
        dueDone("", "D a;", -6);
        dueDone("G 0;", "S a 1;", -7);
        dueDone("", "G 0;x", -12);
        dueDone("", "G 0;S a 1;", -17);
        dueDone("", "G 0;".repeat(9) + "x", -92);
        dueDone("", "G 0;".repeat(10) + "x", -102);
        dueDone("", "G 0;".repeat(74) + "x", -742);
        dueDone("S a 1;", "G 0;".repeat(74) + "D a;", -747);
        dueDone("", "G 0;".repeat(75), 1);
    }

    private static void runTextIsEmptyThen() {
        heading("3 The text is empty then");
        Probe x = new Probe();
        dueRun(x, "A 1;", 1);
        due("behind a run", x.told(0), 0);
        due("it is not done again", x.run(false), 0);
        dueRun(x, "A 2;A 2;A 3;", -14);
        due("behind a fault", x.told(0), 0);
        due("neither is that", x.run(false), 0);
        dueRun(x, "A", -2);
        dueRun(x, " 3;", -2);
        dueRun(x, "A 3;", 1);
        Probe full = new Probe();
        tell(full, "x".repeat(300));
        due("a full text", full.run(false), -2);
        dueThat("room again", full.sign('A'), true);
        due("one", full.told(0), 1);
    }

    // Promise 4

    private static void dryAnswers() {
        heading("4 What run() would answer");
        String start = "A 1;A 2;S a #1;S ab 5;G 1;";
        String[] texts = {"", " ", "A 3;", "R 2;", "R 1;", "S ab 5;", "C ab 4 4;", "C ab 5 5;", "A 40;", "A 1;", "S xx 1;", "D x;", "?",
            "A 3;A 4;S b 1;", "A 3;D x;", "R 2;A 2;", "R 1;A 1;", "M ab b;", "G 1;G 2;G 0;"};
        for (String text : texts) {
            for (boolean forced : new boolean[] {false, true}) {
                Probe ran = behind(start);
                tell(ran, text);
                int answer = ran.run(forced);
                Probe dry = behind(start);
                tell(dry, text);
                due("dry of " + text, dry.dry(forced), answer);
                due("dry again of " + text, dry.dry(forced), answer);
                dry.dry(!forced);
                due("run behind it of " + text, dry.run(forced), answer);
            }
        }
    }

    private static void dryChangesNothing() {
        heading("4 nothing changes");
        String[] texts = {"", "A 3;S ab 6;G 2;R 1;C c 1 1;S c 2;", "R 1;A 3;D x;", "S c 9;C c 9 8;C c 1 1;M c d;A 40;", "R 2;S b 1;"};
        for (String text : texts) {
            Script before = x -> {
                dueRun(x, "A 1;A 2;S a #1;S ab 5;S c 1;C c 2 3;", 3);
                dueRun(x, "S b #2;C c 2 2;C c 3 3;G 1;", 2);
                due("drop", x.drop(), 0);
                dueRun(x, "S e 1;C e 2 2;G 0;", 1);
                tell(x, text);
            };
            dueSame("the whole behind dry runs of " + text, whole(x -> {
                before.on(x);
                x.dry(false);
                x.dry(true);
            }), whole(before));
        }
    }

    private static void dryTextStays() {
        heading("4 and the text stays");
        Probe x = new Probe();
        tell(x, "A 1;");
        due("dry", x.dry(false), 1);
        due("signs", x.told(0), 4);
        tell(x, "A 2;");
        due("with what comes behind it", x.dry(false), 2);
        tell(x, "A 2;");
        due("with a fault", x.dry(false), -24);
        due("signs with a fault", x.told(0), 12);
        due("run", x.run(false), -24);
        due("now it is empty", x.told(0), 0);
        Probe full = new Probe();
        tell(full, "A 1;" + " ".repeat(292) + "A 2;");
        due("a full text", full.dry(false), 2);
        due("stays", full.told(0), 300);
        due("and is done", full.run(false), 2);
    }

    // Promise 5

    private static void changedByNumbers() {
        heading("5 The i-th object, by numbers");
        dueChanged(dueDone("", "A 39;A 5;A 20;S a 1;A 6;A 1;", 6), 0, 1, 5, 6, 20, 39);
        dueChanged(dueDone("A 5;A 39;", "R 39;G 5;A 38;", 3), 5, 38, 39);
    }

    private static void changedPlaces() {
        heading("5 IndexOutOfBoundsException: place");
        Probe none = new Probe();
        dueRun(none, "", 0);
        dueThrow("of none", () -> none.changed(0));
        Probe one = dueDone("", "A 39;", 1);
        due("of one", one.changed(0), 39);
        dueThrow("1 of one", () -> one.changed(1));
        dueThrow("-1 of one", () -> one.changed(-1));
        Probe all = dueDone("", allObjects() + "G 0;", 40);
        for (int i = 0; i < 40; i++) {
            due("place " + i, all.changed(i), i);
        }
        dueThrow("40 of 40", () -> all.changed(40));
        dueThrow("-1 of 40", () -> all.changed(-1));
        dueThrow("greatest of 40", () -> all.changed(Integer.MAX_VALUE));
        dueThrow("least of 40", () -> all.changed(Integer.MIN_VALUE));
        dueRun(all, "G 5;", 1);
        due("fewer behind more", all.changed(0), 5);
        dueThrow("and none of those before", () -> all.changed(1));
    }

    private static void changedBehindEachCall() {
        heading("5 that was UNLIKE behind the latest run() without a FAULT, undo(), drop() or join()");
        Probe x = new Probe();
        dueRun(x, "A 1;A 2;S a #1;S b #2;", 3);
        dueChanged(x, 0, 1, 2);
        dueRun(x, "A 3;A 4;S ab 1;S bb 1;S ac #3;", 4);
        dueChanged(x, 1, 2, 3, 4);
        due("drop", x.drop(), 1);
        dueChanged(x, 4);
        due("undo", x.undo(), 1);
        dueChanged(x, 4);
        dueRun(x, "S bc #3;R 4;", 2);
        dueChanged(x, 2, 4);
        due("join", x.join(), 1);
        dueChanged(x, 0, 2);
        due("undo", x.undo(), 2);
        dueChanged(x, 0, 2);
        due("undo", x.undo(), 2);
        dueChanged(x, 2, 4);
        dueRun(x, "", 0);
        dueChanged(x);
        dueRun(x, "G 0;", 1);
        due("a drop of one", x.drop(), 1);
        dueChanged(x, 4);
        due("a drop of none", x.drop(), 0);
        dueChanged(x);
        dueRun(x, "G 3;", 1);
        due("a join of none", x.join(), 0);
        dueChanged(x);
        due("an undo of it", x.undo(), 0);
        dueChanged(x);
    }

    private static void changedBehindUndoOfNone() {
        // The document's words make no difference between an undo() that answers NONE and others.
        heading("5 .. behind the latest .. undo()");
        Probe x = new Probe();
        dueRun(x, "A 1;", 1);
        due("undo", x.undo(), 1);
        dueChanged(x, 1);
        due("undo of none", x.undo(), -1);
        dueChanged(x);
    }

    private static void changedBehindNoOtherCall() {
        heading("5 .. and behind no other call");
        Probe x = new Probe();
        dueRun(x, "A 1;A 7;", 2);
        dueRun(x, "A 2;A 3;A 1;", -24);
        dueChanged(x, 1, 7);
        tell(x, "A 2;A 3;G 0;");
        due("dry", x.dry(false), 3);
        dueChanged(x, 1, 7);
        x.sign(31);
        x.reached(0);
        x.object(0, 0);
        x.told(1);
        dueChanged(x, 1, 7);
        due("run", x.run(false), 3);
        dueChanged(x, 0, 2, 3);
    }

    // Promise 6

    private static void undoLatestMoment() {
        heading("6 Objects are as at the latest MOMENT");
        String[] texts = {"A 1;A 2;S a #1;S ab 5;", "S b #2;G 2;S ac #2;", "R 1;M b c;", "A 1;G 0;G 1;", "D a;S z -5;R 2;"};
        for (int done = 1; done <= texts.length; done++) {
            for (int back = 1; back <= done; back++) {
                int runs = done;
                int undos = back;
                dueSame(back + " back behind " + done, objects(x -> {
                    runForced(x, texts, runs);
                    for (int i = 0; i < undos; i++) {
                        dueThat("undo", x.undo() > 0, true);
                    }
                }), objects(x -> runForced(x, texts, runs - undos)));
            }
        }
        String start = "A 1;A 2;A 3;S a #1;S b #2;S ac #2;";
        String before = objects(x -> dueRun(x, start, 4));
        dueSame("undo of drop", objects(x -> {
            dueRun(x, start, 4);
            due("drop", x.drop(), 1);
            due("undo", x.undo(), 1);
        }), before);
        dueSame("undo of join", objects(x -> {
            dueRun(x, start, 4);
            due("join", x.join(), 1);
            due("undo", x.undo(), 1);
        }), before);
    }

    private static void runForced(Probe x, String[] texts, int runs) {
        for (int i = 0; i < runs; i++) {
            tell(x, texts[i]);
            dueThat("a run without a fault", x.run(true) > 0, true);
        }
    }

    private static void undoMomentIsNoMore() {
        heading("6 which is no more");
        Probe x = behind("A 1;");
        dueRun(x, "A 2;", 1);
        due("undo", x.undo(), 1);
        due("one left", x.told(2), 1);
        due("not the same again", x.undo(), 1);
        due("none left", x.told(2), 0);
        due("not there and back", x.undo(), -1);
        due("the root alone", x.told(1), 1);
    }

    private static void undoHowMany() {
        heading("6 how many are UNLIKE those before this call");
        Probe x = new Probe();
        dueRun(x, "", 0);
        due("none", x.undo(), 0);
        dueRun(x, allObjects() + "S a 1;", 40);
        due("all 40", x.undo(), 40);
        due("the last", x.changed(39), 39);
        Probe y = behind("A 1;A 2;A 3;S a #1;S b #2;S c #3;");
        due("join", y.join(), 2);
        due("those that went, and the root", y.undo(), 3);
    }

    private static void undoNone() {
        heading("6 NONE when there is none");
        Probe x = new Probe();
        due("at first", x.undo(), -1);
        dueRun(x, "A 1;", 1);
        due("one", x.undo(), 1);
        due("none", x.undo(), -1);
        due("none again", x.undo(), -1);
        due("moments", x.told(2), 0);
        dueRun(x, "A", -2);
        due("none behind a fault", x.undo(), -1);
        dueRun(x, "A 1;S a 7;", 2);
        Script before = y -> {
            for (int i = 0; i < 17; i++) {
                dueRun(y, "S a " + i + ";", 1);
            }
            for (int i = 0; i < 16; i++) {
                due("undo", y.undo(), 1);
            }
            tell(y, "A 1;");
        };
        dueSame("objects stay", objects(y -> {
            before.on(y);
            due("undo", y.undo(), -1);
        }), objects(before));
    }

    private static void undoLeavesTheRest() {
        heading("6 Objects are as at the latest MOMENT, and nothing else");
        Probe x = behind("A 1;");
        dueRun(x, "S a 1;C a 2 2;", 1);
        tell(x, "A 2;");
        due("undo", x.undo(), 1);
        due("the text", x.told(0), 4);
        due("passed", x.told(3), 1);
        due("lines", x.told(4), 2);
        due("the text is done", x.run(false), 1);
    }

    // Promise 7

    private static void dropNotReached() {
        heading("7 All objects that are not REACHED go");
        dueSame("one that is, one that is not", objects(x -> {
            dueRun(x, "A 1;A 2;A 3;S a #1;S ab 5;S c #2;S cc #3;S cd #2;S ce #1;G 2;", 4);
            dueRun(x, "D c;", 1);
            due("drop", x.drop(), 2);
        }), objects(x -> dueRun(x, "A 1;S a #1;S ab 5;", 2)));
        Probe x = behind("A 38;A 39;S a #39;");
        due("the one before the last", x.drop(), 1);
        due("38", x.object(38, 0), 0);
        due("39", x.object(39, 0), 1);
        due("the root never goes", new Probe().drop(), 0);
        Probe signed = behind("A 1;G 1;G 0;");
        due("a signed one, by a signed root", signed.drop(), 1);
        due("not signed then", signed.object(1, 1), 0);
        Probe gone = behind("A 1;A 2;S a #1;S ab #2;R 1;");
        due("behind one that is not there", gone.drop(), 1);
        due("the root's reference stays", gone.kind(0, 0), 2);
        Probe numbers = behind("A 1;S a 1;");
        due("a number does not hold it", numbers.drop(), 1);
    }

    private static void dropHowMany() {
        heading("7 how many");
        Probe none = new Probe();
        due("none", none.drop(), 0);
        due("a moment", none.told(2), 1);
        Probe all = behind(allObjects());
        due("all but the root", all.drop(), 39);
        due("the root alone", all.told(1), 1);
        due("changed", all.changed(38), 39);
        due("none again", all.drop(), 0);
        Probe some = behind(allObjects());
        dueRun(some, referTo(1, 26, ""), 1);
        due("those without a key to them", some.drop(), 13);
        due("27 are left", some.told(1), 27);
        Probe reached = behind(allObjects());
        dueRun(reached, referTo(1, 26, ""), 1);
        dueRun(reached, referTo(27, 39, "a"), 1);
        due("none where all are reached", reached.drop(), 0);
        due("40 are left", reached.told(1), 40);
    }

    /** Keys a, b, .. of the object to which the path leads refer to these objects. */
    private static String referTo(int first, int last, String path) {
        StringBuilder text = new StringBuilder();
        for (int n = first; n <= last; n++) {
            text.append("S ").append(path).append((char) ('a' + n - first)).append(" #").append(n).append(';');
        }
        return text.toString();
    }

    // Promise 8

    private static void joinNeitherRootNorSigned() {
        heading("8 two objects, neither the ROOT nor SIGNED");
        due("the root and one alike", behind("A 1;").join(), 0);
        due("with keys", behind("A 1;S a 5;S b #1;S ba 5;S bb #1;").join(), 0);
        due("two alike", behind("A 1;A 2;").join(), 1);
        due("the lesser signed", behind("A 1;A 2;G 1;").join(), 0);
        due("the greater signed", behind("A 1;A 2;G 2;").join(), 0);
        due("both signed", behind("A 1;A 2;G 1;G 2;").join(), 0);
        Probe three = behind("A 1;A 2;A 3;G 1;");
        due("the two others", three.join(), 1);
        due("2 stays", three.object(2, 0), 1);
        due("3 went", three.object(3, 0), 0);
        Probe middle = behind("A 1;A 2;A 3;G 2;S a #3;");
        due("past the signed one", middle.join(), 1);
        due("to 1", middle.value(0, 0), 1);
        due("a signed root is none either", behind("A 1;A 2;G 0;").join(), 1);
        due("one alone", behind("A 39;").join(), 0);
    }

    private static void joinSameKeysAndValues() {
        heading("8 ALIKE (the same keys with the same VALUES ..");
        String start = "A 1;A 2;S a #1;S b #2;";
        due("no keys", behind(start).join(), 1);
        due("the same", behind(start + "S ak 5;S bk 5;").join(), 1);
        due("-0 and 0", behind(start + "S ak -0;S bk 0;").join(), 1);
        due("first and last key", behind(start + "S aa 1;S ba 1;S az 2;S bz 2;").join(), 1);
        due("a key more in the lesser", behind(start + "S ak 5;").join(), 0);
        due("a key more in the greater", behind(start + "S bk 5;").join(), 0);
        due("another key", behind(start + "S ak 5;S bl 5;").join(), 0);
        due("another first key", behind(start + "S aa 5;S bb 5;").join(), 0);
        due("another last key", behind(start + "S az 5;S by 5;").join(), 0);
        due("another number", behind(start + "S ak 5;S bk 6;").join(), 0);
        due("another first number", behind(start + "S aa 5;S ba 6;").join(), 0);
        due("another last number", behind(start + "S az 5;S bz 6;").join(), 0);
        due("the number less 0", behind(start + "S ak 5;S bk -5;").join(), 0);
        due("a number and a reference", behind(start + "S ak 5;S bk #5;").join(), 0);
        due("the number 0 and no key", behind(start + "S ak 0;").join(), 0);
        due("the number 0 and the root", behind(start + "S ak 0;S bk #0;").join(), 0);
        due("the same reference", behind(start + "S ak #0;S bk #0;").join(), 1);
        due("the same to one not there", behind(start + "S ak #9;S bk #9;").join(), 1);
        due("another to one not there", behind(start + "S ak #9;S bk #8;").join(), 0);
    }

    private static void joinItself() {
        heading("8 .. where a REFERENCE to itself is the same as one to itself)");
        String start = "A 1;A 2;S a #1;S b #2;";
        Probe x = behind(start + "S ak #1;S bk #2;");
        due("each to itself", x.join(), 1);
        due("still to itself", x.value(1, 10), 1);
        due("each to the other", behind(start + "S ak #2;S bk #1;").join(), 0);
        due("both to the lesser", behind(start + "S ak #1;S bk #1;").join(), 1);
        Probe y = behind(start + "S ak #2;S bk #2;");
        due("both to the greater", y.join(), 1);
        due("which is the lesser then", y.value(1, 10), 1);
        due("itself and a number", behind(start + "S ak #1;S bk 2;").join(), 0);
        due("numbers that look like it", behind(start + "S ak 1;S bk 2;").join(), 0);
        due("itself and the root", behind(start + "S ak #1;S bk #0;").join(), 0);
        due("itself at one key, not at the other", behind(start + "S ak #1;S bk #2;S al #1;S bl #0;").join(), 0);
        due("itself at both", behind(start + "S ak #1;S bk #2;S al #1;S bl #2;").join(), 1);
    }

    private static void joinGreaterGoes() {
        heading("8 the first such pair by the lesser, then by the greater number: the greater one goes");
        Probe x = behind("A 1;A 2;A 3;A 4;S a #1;S b #2;S c #3;S d #4;S ak 1;S ck 1;S bk 2;S dk 2;");
        due("two pairs", x.join(), 2);
        due("1 and 2 stay", x.object(1, 0) + x.object(2, 0), 2);
        due("3 and 4 went", x.object(3, 0) + x.object(4, 0), 0);
        due("c to 1", x.value(0, 2), 1);
        due("d to 2", x.value(0, 3), 2);
        Probe last = behind("A 39;A 38;S a #39;S ak 5;S b #38;S bk 5;");
        due("the last pair", last.join(), 1);
        due("38 stays", last.object(38, 0), 1);
        due("with its keys", last.value(38, 10), 5);
        due("39 went", last.object(39, 0), 0);
        due("with its keys", last.object(39, 2), 0);
        Probe three = behind("A 5;A 9;A 7;S a #9;S b #7;S c #5;");
        due("three alike", three.join(), 2);
        due("all to the least", three.object(5, 3), 3);
    }

    private static void joinReferences() {
        heading("8 and each REFERENCE to it becomes one to the lesser");
        Probe x = behind("A 1;A 2;A 3;A 4;S a #3;S ak #2;S az #2;S al #1;S b #4;S bk #2;S bm 1;G 4;D b;S c #2;S z #2;S d 2;G 0;");
        due("join", x.join(), 1);
        due("of the root", x.value(0, 2), 1);
        due("of its last key", x.value(0, 25), 1);
        due("of another", x.value(3, 10), 1);
        due("of its last key", x.value(3, 25), 1);
        due("of one that is signed and not reached", x.value(4, 10), 1);
        due("to the lesser as before", x.value(3, 11), 1);
        due("a number stays", x.value(0, 3), 2);
        due("and its kind", x.kind(0, 3), 1);
        due("another reference stays", x.value(0, 0), 3);
        due("none to the one that went", x.object(2, 3), 0);
        due("all to the lesser", x.object(1, 3), 6);
        dueChanged(x, 0, 2, 3, 4);
        Probe last = behind("A 1;A 2;A 39;S a #39;S aa #2;S az #2;");
        due("join", last.join(), 1);
        due("of the last object", last.value(39, 0), 1);
        due("of its last key", last.value(39, 25), 1);
        Probe none = behind("A 1;A 2;S a #1;S ak 1;S b #9;");
        due("none joined", none.join(), 0);
        due("all references stay", none.value(0, 1), 9);
    }

    private static void joinAsLongAs() {
        heading("8 As long as there are two objects ..");
        Probe chain = behind("A 1;A 2;A 3;A 4;A 5;A 6;S a #1;S b #2;S ak #3;S bk #4;S akk #5;S bkk #6;S akkz 1;S bkkz 1;");
        due("the last pair makes the one before it alike, and so on", chain.join(), 3);
        due("1 is left", chain.value(0, 1), 1);
        due("and is alike none", chain.join(), 0);
        Probe other = behind("A 1;A 2;A 3;A 4;S a #1;S b #2;S ak #3;S bk #4;S akz 1;S bkz 2;");
        due("not where the last pair is not alike", other.join(), 0);
        Probe self = behind("A 1;A 2;A 3;S a #1;S b #2;S c #3;S ak #3;S bk #2;S ck #2;");
        due("2 and 3, then 1 and 2", self.join(), 2);
        due("to itself", self.value(1, 10), 1);
    }

    private static void joinHowMany() {
        heading("8 How many went");
        Probe none = new Probe();
        due("none", none.join(), 0);
        due("a moment", none.told(2), 1);
        Probe all = behind(allObjects() + "S a #39;");
        due("all but one", all.join(), 38);
        due("two are left", all.told(1), 2);
        due("the root's reference", all.value(0, 0), 1);
        due("changed", all.changed(0), 0);
        due("changed", all.changed(1), 2);
        due("changed", all.changed(38), 39);
        dueThrow("no more", () -> all.changed(39));
        due("none again", all.join(), 0);
    }

    // Promises 9 to 11

    private static void reachedEnds() {
        heading("9 Whether an object is REACHED. IndexOutOfBoundsException");
        Probe x = behind("A 1;A 39;S z #39;");
        dueThrow("-1", () -> x.reached(-1));
        dueThat("0", x.reached(0), true);
        dueThat("1", x.reached(1), false);
        dueThat("38", x.reached(38), false);
        dueThat("39", x.reached(39), true);
        dueThrow("40", () -> x.reached(40));
        dueThrow("least", () -> x.reached(Integer.MIN_VALUE));
        dueThrow("greatest", () -> x.reached(Integer.MAX_VALUE));
    }

    private static void kindOfEach() {
        heading("10 0 nothing, 1 a NUMBER, 2 a REFERENCE. IndexOutOfBoundsException");
        Probe x = behind("A 39;S a #39;S z 0;S az #0;S aa -0;");
        due("a reference", x.kind(0, 0), 2);
        due("nothing", x.kind(0, 1), 0);
        due("the number 0", x.kind(0, 25), 1);
        due("the number -0", x.kind(39, 0), 1);
        due("the reference to 0", x.kind(39, 25), 2);
        due("of one that is not there", x.kind(38, 25), 0);
        dueRun(x, "D z;R 39;", 2);
        due("nothing again", x.kind(0, 25), 0);
        due("of one that went", x.kind(39, 25), 0);
        dueThrow("-1, 0", () -> x.kind(-1, 0));
        dueThrow("40, 0", () -> x.kind(40, 0));
        dueThrow("0, -1", () -> x.kind(0, -1));
        dueThrow("0, 26", () -> x.kind(0, 26));
        dueThrow("39, 26", () -> x.kind(39, 26));
        dueThrow("1, -1: a place of object 0's in a row of all", () -> x.kind(1, -1));
        dueThrow("-1, 26: as well", () -> x.kind(-1, 26));
    }

    private static void valueOrObject() {
        heading("11 That NUMBER, or object; 0 without. IndexOutOfBoundsException");
        Probe x = behind("A 39;S a #39;S z 99999;S y -99999;S az #0;S aa -0;");
        due("an object", x.value(0, 0), 39);
        due("without", x.value(0, 1), 0);
        due("a number", x.value(0, 25), 99999);
        due("below 0", x.value(0, 24), -99999);
        due("the number -0", x.value(39, 0), 0);
        due("the object 0", x.value(39, 25), 0);
        due("of one that is not there", x.value(38, 25), 0);
        dueRun(x, "D z;", 1);
        due("without again", x.value(0, 25), 0);
        dueThrow("-1, 0", () -> x.value(-1, 0));
        dueThrow("40, 0", () -> x.value(40, 0));
        dueThrow("0, -1", () -> x.value(0, -1));
        dueThrow("0, 26", () -> x.value(0, 26));
        dueThrow("39, 26", () -> x.value(39, 26));
        dueThrow("1, -1: a place of object 0's in a row of all", () -> x.value(1, -1));
        dueThrow("-1, 26: as well", () -> x.value(-1, 26));
    }

    // Promise 12

    private static void objectThere() {
        heading("12 whether it is there (what = 0)");
        Probe x = behind("A 39;");
        due("0", x.object(0, 0), 1);
        due("1", x.object(1, 0), 0);
        due("38", x.object(38, 0), 0);
        due("39", x.object(39, 0), 1);
        dueRun(x, "R 39;", 1);
        due("39 gone", x.object(39, 0), 0);
    }

    private static void objectSigned() {
        heading("12 SIGNED (1)");
        Probe x = behind("A 39;G 39;");
        due("0", x.object(0, 1), 0);
        due("1, not there", x.object(1, 1), 0);
        due("39", x.object(39, 1), 1);
        due("and there", x.object(39, 0), 1);
        dueForced(x, "R 39;G 0;", 2);
        due("39 gone", x.object(39, 1), 0);
        due("0", x.object(0, 1), 1);
    }

    private static void objectKeys() {
        heading("12 how many keys it has (2)");
        Probe x = behind("A 39;S a #39;");
        due("none", x.object(39, 2), 0);
        due("not there", x.object(38, 2), 0);
        StringBuilder all = new StringBuilder();
        for (char key = 'a'; key <= 'z'; key++) {
            all.append("S a").append(key).append(" 1;");
        }
        dueRun(x, all.toString(), 1);
        due("26", x.object(39, 2), 26);
        dueRun(x, "S aa 2;S az #2;C am 1 1;C am 2 2;M ab ab;", 1);
        due("26 still", x.object(39, 2), 26);
        dueRun(x, "M ab ac;", 1);
        due("one over another", x.object(39, 2), 25);
        dueRun(x, "D az;", 1);
        due("one less", x.object(39, 2), 24);
        dueRun(x, "R 39;", 1);
        due("gone", x.object(39, 2), 0);
        due("undo", x.undo(), 1);
        due("there again", x.object(39, 2), 24);
    }

    private static void objectReferences() {
        heading("12 how many REFERENCES to it objects have (3)");
        Probe x = behind("A 1;A 2;S a #1;S b #1;S z #39;S ac #1;S ad #2;S ae 1;S c #2;S cc #39;S cz #39;S d 39;S e #0;");
        due("to the root", x.object(0, 3), 1);
        due("two of the root's and its own", x.object(1, 3), 3);
        due("of two objects", x.object(2, 3), 2);
        due("none", x.object(38, 3), 0);
        due("to one that is not there", x.object(39, 3), 3);
        dueRun(x, "D c;", 1);
        due("of one that is not reached, too", x.object(39, 3), 3);
        dueRun(x, "R 2;", 1);
        due("none of one that went", x.object(39, 3), 1);
        due("to one that went", x.object(2, 3), 1);
        dueRun(x, "S z 39;", 1);
        due("a number is none", x.object(39, 3), 0);
    }

    private static void objectWhat() {
        heading("12 IndexOutOfBoundsException, also for what");
        Probe x = behind("A 39;");
        for (int n : new int[] {0, 1, 39}) {
            dueThrow("-1", () -> x.object(n, -1));
            dueThrow("4", () -> x.object(n, 4));
            dueThrow("5", () -> x.object(n, 5));
            dueThrow("least", () -> x.object(n, Integer.MIN_VALUE));
            dueThrow("greatest", () -> x.object(n, Integer.MAX_VALUE));
            due("0", x.object(n, 0), n == 1 ? 0 : 1);
            due("3", x.object(n, 3), 0);
        }
        for (int what = -1; what <= 4; what++) {
            int asked = what;
            dueThrow("object -1", () -> x.object(-1, asked));
            dueThrow("object 40", () -> x.object(40, asked));
        }
    }

    // Promise 13

    private static void toldSigns() {
        heading("13 Signs of the text (what = 0)");
        Probe x = new Probe();
        due("none", x.told(0), 0);
        for (int i = 1; i <= 150; i++) {
            x.sign(' ');
            due("signs", x.told(0), i);
        }
        tell(x, " ".repeat(150));
        due("all", x.told(0), 300);
        x.sign(' ');
        due("no more", x.told(0), 300);
        x.run(false);
        due("none again", x.told(0), 0);
    }

    private static void toldObjects() {
        heading("13 objects that are there (1)");
        Probe x = new Probe();
        due("the root", x.told(1), 1);
        dueRun(x, allObjects(), 39);
        due("all", x.told(1), 40);
        dueRun(x, "R 39;", 1);
        due("one less", x.told(1), 39);
        due("join", x.join(), 37);
        due("two", x.told(1), 2);
        due("drop", x.drop(), 1);
        due("one", x.told(1), 1);
        due("undo", x.undo(), 1);
        due("two again", x.told(1), 2);
        due("undo", x.undo(), 37);
        due("39 again", x.told(1), 39);
    }

    private static void toldMoments() {
        heading("13 MOMENTS (2)");
        Probe x = new Probe();
        for (int i = 0; i <= 20; i++) {
            due("moments", x.told(2), Math.min(i, 16));
            due("run, drop, join", i % 3 == 0 ? x.run(false) : i % 3 == 1 ? x.drop() : x.join(), 0);
        }
        for (int i = 16; i > 0; i--) {
            due("moments", x.told(2), i);
            due("undo", x.undo(), 0);
        }
        due("none", x.told(2), 0);
        due("undo", x.undo(), -1);
        due("none still", x.told(2), 0);
    }

    private static void toldPassedAndLines() {
        heading("13 lines that were PASSED in the latest run() without a FAULT (3), lines that it had (4)");
        Probe x = new Probe();
        dueTold(x, 0, 0);
        dueRun(x, "S a 1; C a 2 3; C a 1 4; C a 1 5;   ", 1);
        dueTold(x, 2, 4);
        dueRun(x, "C a 9 9;C a 9 9;C a 9 9;D b;", -36);
        dueTold(x, 2, 4);
        dueRun(x, "?", -2);
        dueTold(x, 2, 4);
        tell(x, "C a 9 9;");
        due("dry", x.dry(false), 0);
        dueTold(x, 2, 4);
        x.undo();
        x.undo();
        x.drop();
        x.join();
        dueTold(x, 2, 4);
        due("run behind", x.run(false), -6);
        dueTold(x, 2, 4);
        dueRun(x, "  ", 0);
        dueTold(x, 0, 0);
        dueRun(x, "S a 5;", 1);
        dueTold(x, 0, 1);
        dueRun(x, "C a 6 6;", 0);
        dueTold(x, 1, 1);
        dueRun(x, "", 0);
        dueTold(x, 0, 0);
        Probe most = behind("S a 1;");
        dueRun(most, "C a 2 2;".repeat(37) + "G 0;", 1);
        dueTold(most, 37, 38);
        Probe lines = new Probe();
        dueRun(lines, "G 0;".repeat(75), 1);
        dueTold(lines, 0, 75);
    }

    private static void dueTold(Probe x, int passed, int lines) {
        due("passed", x.told(3), passed);
        due("lines", x.told(4), lines);
    }

    private static void toldOthers() {
        heading("13 NONE for others");
        Probe x = behind("S a 1;C a 2 2;");
        tell(x, "A");
        for (int what : new int[] {Integer.MIN_VALUE, -2, -1, 5, 6, Integer.MAX_VALUE}) {
            due("told " + what, x.told(what), -1);
        }
        int[] told = {1, 1, 1, 1, 2};
        for (int what = 0; what < told.length; what++) {
            due("told " + what, x.told(what), told[what]);
        }
    }

    private static String allObjects() {
        StringBuilder text = new StringBuilder();
        for (int n = 1; n < 40; n++) {
            text.append("A ").append(n).append(';');
        }
        return text.toString();
    }
}
