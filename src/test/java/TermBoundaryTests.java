import java.lang.reflect.Constructor;
import java.lang.reflect.Field;
import java.lang.reflect.Method;
import java.lang.reflect.Modifier;
import java.util.TreeSet;
import java.util.regex.Pattern;

/**
 * Each sentence of "What it is", "The public face" and "Terms" that names a boundary: a test of its own, on both
 * sides of the boundary where there are two. The headings are the document's words.
 */
public final class TermBoundaryTests extends Checks {
    /** Lines as short as they can be, each without a FAULT behind LINES_START. */
    private static final String[] LINES = {"A 2;", "R 1;", "G 1;", "S a 5;", "D b;", "M b c;", "C b 1 2;"};
    private static final String LINES_START = "A 1;S b 1;";

    private static final String VALUE = "(-?[0-9]{1,5}|#[0-9]{1,2})";
    private static final Pattern FORM = Pattern.compile("[ARG] [0-9]{1,2};|S [a-z]{1,8} " + VALUE + ";|D [a-z]{1,8};"
        + "|M [a-z]{1,8} [a-z]{1,8};|C [a-z]{1,8} " + VALUE + " " + VALUE + ";");

    private TermBoundaryTests() {
    }

    public static void main(String[] args) {
        callsOfOneObject();
        publicFace();
        objectNumbers();
        rootIsAlwaysThere();
        othersNotAtFirst();
        keyLetters();
        keysNoneAtFirst();
        allKeysAtOnce();
        numberEnds();
        referenceEnds();
        referenceToOneNotThere();
        signedNotAtFirst();
        reachedRoot();
        reachedThatAreThere();
        reachedFromReached();
        reachedByManyReferences();
        pathLengths();
        pathBeginsAtRoot();
        pathGoesOn();
        pathLeads();
        textRoom();
        textSigns();
        lineNumbers();
        spacesBeforeLine();
        spacesAtEnd();
        noLines();
        justSo();
        oneSpace();
        semicolon();
        objectDigits();
        numberDigits();
        referenceDigits();
        lineMakes();
        lineTakesAway();
        lineSigns();
        lineSets();
        lineDeletes();
        lineMoves();
        lineMovesPathsFirst();
        lineChanges();
        lineChangesByWhatItIs();
        fault1();
        fault2();
        fault3();
        fault4();
        fault5();
        fault6();
        fault6OfMove();
        fault6WhereAllStays();
        fault6Forced();
        fault6IsOfTheObjectChanged();
        faultOrder();
        faultOfTheFirstLine();
        faultLeavesObjects();
        faultLeavesNothingForTheNextText();
        unlikeThereOrNot();
        unlikeKeysOrValues();
        unlikeSigned();
        unlikeBeforeAndBehindAlone();
        momentsOfEachCall();
        momentsOfNoOtherCall();
        momentsLatest16();
        momentsGoRound();
        throwChangesNothing();
        throwForObjects();
        throwForKeys();
        throwForPlaces();
        end();
    }

    // What it is

    private static void callsOfOneObject() {
        heading("An object is used for at most 512 calls");
        Probe undone = new Probe();
        for (int i = 0; i < 255; i++) {
            due("run", undone.run(false), 0);
            due("undo", undone.undo(), 0);
        }
        due("call 511", undone.told(2), 0);
        due("call 512", undone.undo(), -1);

        Probe kept = new Probe();
        for (int i = 0; i < 85; i++) {
            dueRun(kept, "A " + i % 10 + ";", i > 0 && i < 10 ? 1 : -4);
        }
        due("call 511", kept.told(1), 10);
        due("call 512", kept.drop(), 9);

        Probe full = new Probe();
        for (int i = 0; i < 511; i++) {
            dueThat("sign", full.sign('a'), i < 300);
        }
        due("call 512", full.run(false), -2);

        Probe joined = new Probe();
        for (int i = 0; i < 511; i++) {
            due("drop, join", i % 2 == 0 ? joined.drop() : joined.join(), 0);
        }
        due("call 512", joined.told(2), 16);
        due("no call is left", joined.callsLeft(), 0);
    }

    // The public face

    private static void publicFace() {
        heading("The public face");
        due("NONE", EditLists2.NONE, -1);
        int modifiers = EditLists2.class.getModifiers();
        dueThat("public final", Modifier.isPublic(modifiers) && Modifier.isFinal(modifiers), true);
        TreeSet<String> face = new TreeSet<>();
        for (Constructor<?> made : EditLists2.class.getDeclaredConstructors()) {
            addToFace(face, made.getModifiers(), made.toString());
        }
        for (Method method : EditLists2.class.getDeclaredMethods()) {
            addToFace(face, method.getModifiers(), method.toString());
        }
        for (Field field : EditLists2.class.getDeclaredFields()) {
            addToFace(face, field.getModifiers(), field.toString());
        }
        String wrongIndex = " throws java.lang.IndexOutOfBoundsException";
        TreeSet<String> want = new TreeSet<>();
        want.add("public static final int EditLists2.NONE");
        want.add("public EditLists2()");
        want.add("public boolean EditLists2.sign(int)");
        want.add("public int EditLists2.run(boolean)");
        want.add("public int EditLists2.dry(boolean)");
        want.add("public int EditLists2.changed(int)" + wrongIndex);
        want.add("public int EditLists2.undo()");
        want.add("public int EditLists2.drop()");
        want.add("public int EditLists2.join()");
        want.add("public boolean EditLists2.reached(int)" + wrongIndex);
        want.add("public int EditLists2.kind(int,int)" + wrongIndex);
        want.add("public int EditLists2.value(int,int)" + wrongIndex);
        want.add("public int EditLists2.object(int,int)" + wrongIndex);
        want.add("public int EditLists2.told(int)");
        dueSame("the face", String.join("\n", face), String.join("\n", want));
    }

    private static void addToFace(TreeSet<String> face, int modifiers, String words) {
        if (!Modifier.isPrivate(modifiers)) {
            face.add(words);
        }
    }

    // Terms: objects

    private static void objectNumbers() {
        heading("OBJECTS 0 .. 39 are there or not");
        due("1", dueDone("", "A 1;", 1).object(1, 0), 1);
        due("39", dueDone("", "A 39;", 1).object(39, 0), 1);
        dueFault("", "A 40;", 2);
        dueFault("", "A 99;", 2);
        Probe all = behind(makeObjects(1, 39));
        due("all 40 at once", all.told(1), 40);
        dueRun(all, "A 39;", -4);
        due("all 40 still", all.told(1), 40);
    }

    private static void rootIsAlwaysThere() {
        heading("0, THE ROOT, always");
        Probe x = new Probe();
        due("at first", x.object(0, 0), 1);
        dueRun(x, "A 0;", -4);
        dueRun(x, "R 0;", -3);
        dueForced(x, "R 0;", -3);
        due("drop", x.drop(), 0);
        due("there behind drop", x.object(0, 0), 1);
        dueRun(x, "A 1;", 1);
        due("join", x.join(), 0);
        due("there behind join", x.object(0, 0), 1);
        due("undo", x.undo(), 0);
        due("undo", x.undo(), 1);
        due("undo", x.undo(), 0);
        due("there behind undo", x.object(0, 0), 1);
        due("and alone", x.told(1), 1);
    }

    private static void othersNotAtFirst() {
        heading("the others not at first");
        Probe x = new Probe();
        for (int n = 1; n < 40; n++) {
            due("object " + n, x.object(n, 0), 0);
        }
        due("objects", x.told(1), 1);
    }

    private static void keyLetters() {
        heading("KEYS a .. z");
        String start = "A 1;S a #1;S z #1;S aa 1;S az 1;";
        for (String letter : new String[] {"a", "z"}) {
            dueDone(start, "S " + letter + " 7;", 1);
            dueDone(start, "S " + letter + "a 7;", 1);
            dueDone(start, "S a" + letter + " 7;", 1);
            dueDone(start, "D " + letter + ";", 1);
            dueDone(start, "M a" + letter + " " + letter + ";", 2);
            dueDone(start, "C a" + letter + " 1 2;", 1);
        }
        for (String sign : new String[] {"`", "{", "A", "Z", "0", "@", "["}) {
            dueFault(start, "S " + sign + " 7;", 1);
            dueFault(start, "S " + sign + "a 7;", 1);
            dueFault(start, "S a" + sign + " 7;", 1);
            dueFault(start, "D " + sign + ";", 1);
            dueFault(start, "M " + sign + " b;", 1);
            dueFault(start, "M a " + sign + ";", 1);
            dueFault(start, "C a" + sign + " 1 2;", 1);
        }
        Probe x = behind("S a 3;S z 4;");
        due("key a is key 0", x.value(0, 0), 3);
        due("key z is key 25", x.value(0, 25), 4);
    }

    private static void keysNoneAtFirst() {
        heading("One that is there has KEYS .., none at first");
        due("of the root", new Probe().object(0, 2), 0);
        Probe x = behind("A 1;A 39;");
        due("of 1", x.object(1, 2), 0);
        due("of 39", x.object(39, 2), 0);
        for (int key = 0; key < 26; key++) {
            due("key " + key, x.kind(39, key), 0);
        }
        Probe again = dueDone("A 39;S a #39;S aa 1;S az 2;", "R 39;A 39;", 1);
        due("of one that is there again", again.object(39, 2), 0);
        due("its a", again.kind(39, 0), 0);
        due("its z", again.kind(39, 25), 0);
    }

    private static void allKeysAtOnce() {
        heading("KEYS a .. z, .. each with a VALUE");
        StringBuilder text = new StringBuilder("A 39;S m #39;");
        for (char key = 'a'; key <= 'z'; key++) {
            text.append("S m").append(key).append(' ').append(key - 'a').append(';');
        }
        Probe x = behind(text.toString());
        due("26 keys", x.object(39, 2), 26);
        for (int key = 0; key < 26; key++) {
            due("kind at " + key, x.kind(39, key), 1);
            due("value at " + key, x.value(39, key), key);
        }
        due("the object before has none of them", x.object(38, 2), 0);
        due("the root has one", x.object(0, 2), 1);
    }

    private static void numberEnds() {
        heading("a NUMBER -99999 .. 99999");
        due("greatest", dueDone("", "S a 99999;", 1).value(0, 0), 99999);
        due("least", dueDone("", "S a -99999;", 1).value(0, 0), -99999);
        due("w greatest", dueDone("S a -99999;", "C a -99999 99999;", 1).value(0, 0), 99999);
        due("w least", dueDone("S a 99999;", "C a 99999 -99999;", 1).value(0, 0), -99999);
        for (String above : new String[] {"100000", "-100000"}) {
            dueFault("", "S a " + above + ";", 1);
            dueFault("S a 1;", "C a 1 " + above + ";", 1);
            dueFault("S a 1;", "C a " + above + " 1;", 1);
        }
    }

    private static void referenceEnds() {
        heading("a REFERENCE to an object 0 .. 39");
        due("least", dueDone("", "S a #0;", 1).value(0, 0), 0);
        due("greatest", dueDone("", "S a #39;", 1).value(0, 0), 39);
        due("w least", dueDone("S a #39;", "C a #39 #0;", 1).value(0, 0), 0);
        due("w greatest", dueDone("S a #0;", "C a #0 #39;", 1).value(0, 0), 39);
        for (String above : new String[] {"#40", "#99"}) {
            dueFault("", "S a " + above + ";", 2);
            dueFault("S a 1;", "C a 1 " + above + ";", 2);
            dueFault("S a 1;", "C a " + above + " 1;", 2);
        }
    }

    private static void referenceToOneNotThere() {
        heading("(also to one that is not there)");
        Probe x = dueDone("", "S a #5;", 1);
        due("kind", x.kind(0, 0), 2);
        due("object", x.value(0, 0), 5);
        due("not there", x.object(5, 0), 0);
        due("referred to", x.object(5, 3), 1);
        dueRun(x, "A 5;S ab 1;", 1);
        dueRun(x, "R 5;", 1);
        due("the reference stays when the object goes", x.value(0, 0), 5);
        due("and its kind", x.kind(0, 0), 2);
        due("and is counted", x.object(5, 3), 1);
    }

    private static void signedNotAtFirst() {
        heading("and it is SIGNED or not (not at first)");
        due("root", new Probe().object(0, 1), 0);
        due("made", behind("A 1;").object(1, 1), 0);
        due("signed", behind("A 1;G 1;").object(1, 1), 1);
        due("made anew", dueAnswer("A 1;G 1;", "R 1;A 1;", true, 1).object(1, 1), 0);
        due("gone", dueAnswer("A 1;G 1;", "R 1;", true, 1).object(1, 1), 0);
    }

    private static void reachedRoot() {
        heading("REACHED are the ROOT ..");
        dueThat("without a reference", new Probe().reached(0), true);
        dueThat("with one", behind("S a #0;").reached(0), true);
    }

    private static void reachedThatAreThere() {
        heading(".. and all that are there ..");
        dueThat("there", behind("A 39;S a #39;").reached(39), true);
        Probe x = behind("A 2;A 1;S a #1;S ab #2;R 1;");
        dueThat("not there", x.reached(1), false);
        dueThat("behind one that is not there", x.reached(2), false);
        dueThat("never there", behind("S a #39;").reached(39), false);
    }

    private static void reachedFromReached() {
        heading(".. to which an object that is REACHED has a REFERENCE");
        dueThat("no reference", behind("A 1;").reached(1), false);
        dueThat("a number", behind("A 1;S a 1;").reached(1), false);
        dueThat("of the root's first key", behind("A 1;S a #1;").reached(1), true);
        dueThat("of the root's last key", behind("A 1;S z #1;").reached(1), true);
        Probe loose = behind("A 1;A 2;S a #1;S aa #2;S aab #1;S aac #2;D a;");
        dueThat("of one that is not reached", loose.reached(1), false);
        dueThat("of itself", loose.reached(2), false);
        dueRun(loose, "S q #2;", 1);
        dueThat("a circle that is reached", loose.reached(1), true);
        dueRun(loose, "D q;", 1);
        dueThat("and is no more", loose.reached(1) || loose.reached(2), false);
        Probe last = behind("A 39;S a #39;");
        dueThat("the last one", last.reached(39), true);
        dueRun(last, "D a;", 1);
        dueThat("the last one is no more", last.reached(39), false);
        // Each object refers to the next one, so that the last one is 20 references away from the root.
        Probe chain = behind("A 20;S a #20;");
        for (int n = 19; n > 0; n--) {
            dueRun(chain, "A " + n + ";S a #" + n + ";S ab #" + (n + 1) + ";", 2);
        }
        dueThat("the last of a chain", chain.reached(20), true);
        dueThat("one that is not there", chain.reached(21), false);
        due("all of the chain", chain.drop(), 0);
        dueRun(chain, "D a;", 1);
        dueThat("without its first reference", chain.reached(20), false);
        due("none of the chain", chain.drop(), 20);
    }

    private static void reachedByManyReferences() {
        heading("REACHED .. however many REFERENCES there are to one");
        Probe x = behind("A 1;A 2;A 3;S y #2;S ya #3;" + referToOne("", 'a', 'x') + "S y #2;");
        dueRun(x, referToOne("a", 'a', 'z'), 1);
        due("26 of its own and 24 of the root", x.object(1, 3), 50);
        dueThat("itself", x.reached(1), true);
        dueThat("the next one", x.reached(2), true);
        dueThat("the one behind that", x.reached(3), true);
        due("all", x.drop(), 0);
    }

    private static String referToOne(String path, char first, char last) {
        StringBuilder text = new StringBuilder();
        for (char key = first; key <= last; key++) {
            text.append("S ").append(path).append(key).append(" #1;");
        }
        return text.toString();
    }

    // Terms: paths

    private static void pathLengths() {
        heading("A PATH is 1 to 8 letters a .. z");
        String start = "S a #0;S b 1;";
        String seven = "aaaaaaa";
        dueDone(start, "S b 2;", 1);
        dueDone(start, "S " + seven + "b 2;", 1);
        dueFault(start, "S " + seven + "ab 2;", 1);
        dueFault(start, "S  2;", 1);
        dueDone(start, "D b;", 1);
        dueDone(start, "D " + seven + "b;", 1);
        dueFault(start, "D " + seven + "ab;", 1);
        dueFault(start, "D ;", 1);
        dueDone(start, "M b c;", 1);
        dueDone(start, "M " + seven + "b c;", 1);
        dueDone(start, "M b " + seven + "c;", 1);
        dueDone(start, "M " + seven + "b " + seven + "c;", 1);
        dueFault(start, "M " + seven + "ab c;", 1);
        dueFault(start, "M b " + seven + "ac;", 1);
        dueFault(start, "M  c;", 1);
        dueFault(start, "M b ;", 1);
        dueDone(start, "C b 1 2;", 1);
        dueDone(start, "C " + seven + "b 1 2;", 1);
        dueFault(start, "C " + seven + "ab 1 2;", 1);
        dueFault(start, "C  1 2;", 1);
    }

    private static void pathBeginsAtRoot() {
        heading("It begins at the ROOT");
        Probe x = dueDone("A 1;S a #1;", "S ab 5;S b 6;M ab c;S ab 7;", 2);
        due("the root's b", x.value(0, 1), 6);
        due("the root's c", x.value(0, 2), 5);
        due("the other's b", x.value(1, 1), 7);
        dueFault("A 1;S a #1;S ab #1;", "S bb 1;", 4);
    }

    private static void pathGoesOn() {
        heading("each letter but the last one must be a key with a REFERENCE to an object that is there");
        // a leads back to the root; n is a number, g refers to an object that is not there, x is no key.
        String start = "S a #0;S n 5;S g #9;";
        String sevens = "aaaaaaa";
        for (char bad : new char[] {'n', 'g', 'x'}) {
            for (int at = 0; at < 7; at++) {
                String path = sevens.substring(0, at) + bad + sevens.substring(at + 1) + "n";
                dueFault(start, "S " + path + " 1;", 4);
                dueFault(start, "D " + path + ";", 4);
                dueFault(start, "M " + path + " k;", 4);
                dueFault(start, "M n " + path + ";", 4);
                dueFault(start, "C " + path + " 1 1;", 4);
            }
            dueDone(start, "S " + sevens + bad + " 1;", 1);
            dueDone(start, "M n " + sevens + bad + ";", bad == 'n' ? 0 : 1);
        }
        dueDone(start, "D " + sevens + "n;", 1);
        dueDone(start, "D " + sevens + "g;", 1);
        dueFault("S n 0;", "S nk 1;", 4);
        dueDone("S g #9;A 9;", "S gk 1;", 1);
        dueFault("S g #9;A 9;R 9;", "S gk 1;", 4);
    }

    private static void pathLeads() {
        heading("It LEADS to the object at which it is then, and to the last letter as its KEY there");
        Probe x = dueDone("A 1;A 39;S a #1;S ab #39;", "S abc 5;", 1);
        dueChanged(x, 39);
        due("its c", x.value(39, 2), 5);
        due("no other key", x.object(39, 2), 1);
        due("not of the one before", x.object(1, 2), 1);
        due("not of the root", x.object(0, 2), 1);
        Probe last = dueDone("A 1;S a #1;", "S a 5;", 1);
        due("the last letter is not followed", last.value(0, 0), 5);
    }

    // Terms: the text

    private static void textRoom() {
        heading("THE TEXT has at most 300 signs");
        Probe x = new Probe();
        tell(x, " ".repeat(298));
        dueThat("sign 299", x.sign('G'), true);
        dueThat("sign 300", x.sign('G'), true);
        dueThat("sign 301", x.sign('G'), false);
        dueThat("once more", x.sign(' '), false);
        due("signs", x.told(0), 300);
        due("the last sign is in it, and none behind it", x.run(false), -2);
        Probe full = dueDone("", " ".repeat(296) + "A 1;", 1);
        due("a line up to sign 300", full.object(1, 0), 1);
        Probe over = new Probe();
        tell(over, " ".repeat(297) + "A 1");
        dueThat("a ; too many", over.sign(';'), false);
        due("the line has no end", over.run(false), -2);
    }

    private static void textSigns() {
        heading("signs 32 .. 126");
        Probe x = new Probe();
        dueThat("31", x.sign(31), false);
        dueThat("32", x.sign(32), true);
        dueThat("126", x.sign(126), true);
        dueThat("127", x.sign(127), false);
        due("signs", x.told(0), 2);
        int[] far = {Integer.MIN_VALUE, -33, -1, 0, 9, 10, 13, 160, 255, 256 + 32, 65536 + 32, Integer.MIN_VALUE + 32,
            Integer.MAX_VALUE};
        for (int c : far) {
            dueThat("sign " + c, x.sign(c), false);
        }
        due("signs still", x.told(0), 2);
    }

    private static void lineNumbers() {
        heading("It is done LINE by line, numbered 0, 1, ..");
        for (int line : new int[] {0, 1, 2, 9, 10, 11, 73, 74}) {
            dueFaultAt("", "G 0;".repeat(line) + "D a;", line, 5);
            dueFaultAt("", "G 0;".repeat(line) + "A 0;", line, 3);
        }
        due("75 lines, as many as there is room for", dueDone("", "A 1;R 1;".repeat(37) + "A 1;", 1).told(4), 75);
        dueFaultAt("", "   G 0;      G 0;   D a;", 2, 5);
        dueFaultAt("S a 1;", "C a 2 3;C a 4 5;D b;", 2, 5);
        Probe x = dueDone("", "S a 1;S a 2;C a 2 3;", 1);
        due("one behind the other", x.value(0, 0), 3);
    }

    private static void spacesBeforeLine() {
        heading("spaces before a line .. are passed over");
        for (String line : LINES) {
            int answer = behindLinesStart(line);
            dueDone(LINES_START, " " + line, answer);
            dueDone(LINES_START, "     " + line, answer);
            dueDone(LINES_START, "G 0;" + line, answerWithRootSigned(line));
            dueDone(LINES_START, " ".repeat(300 - line.length()) + line, answer);
        }
        due("between lines", dueDone("", "A 1;A 2; A 3;   A 4;", 4).told(4), 4);
        dueFaultAt("", "A 1;  ;", 1, 1);
    }

    private static int behindLinesStart(String line) {
        Probe x = behind(LINES_START);
        tell(x, line);
        return x.run(false);
    }

    private static int answerWithRootSigned(String line) {
        return "SDMC".indexOf(line.charAt(0)) >= 0 ? -17 : 2;
    }

    private static void spacesAtEnd() {
        heading("spaces .. at the text's end, are passed over");
        for (String line : LINES) {
            int answer = behindLinesStart(line);
            due("a space", dueDone(LINES_START, line + " ", answer).told(4), 1);
            due("many", dueDone(LINES_START, line + " ".repeat(300 - line.length()), answer).told(4), 1);
        }
        dueFault("", "A 1 ", 1);
        dueFaultAt("", "A 1; A ", 1, 1);
    }

    private static void noLines() {
        heading("a text without a line");
        due("no sign", dueDone("", "", 0).told(4), 0);
        due("a space", dueDone("", " ", 0).told(4), 0);
        due("spaces alone", dueDone("", " ".repeat(300), 0).told(4), 0);
        dueFault("", ";", 1);
        dueFault("", " ;", 1);
        dueFault("", "A", 1);
    }

    private static void justSo() {
        heading("it is one of these, just so");
        for (String line : LINES) {
            dueThat("no fault in " + line, behindLinesStart(line) >= 0, true);
            for (int at = 0; at < line.length(); at++) {
                dueFault(LINES_START, line.substring(0, at) + line.substring(at + 1), 1);
                for (char sign = 32; sign <= 126; sign++) {
                    dueForm(line.substring(0, at) + sign + line.substring(at + 1));
                    dueForm(line.substring(0, at) + sign + line.substring(at));
                }
            }
        }
    }

    /** FAULT 1 of line 0 just where it has not the form; what else a text of the form answers is not asked here. */
    private static void dueForm(String text) {
        Probe x = behind(LINES_START);
        tell(x, text);
        String line = text.substring(0, text.indexOf(';') + 1).replaceFirst("^ +", "");
        dueThat("fault 1 of [" + text + "]", x.run(false) == -2, !FORM.matcher(line).matches());
    }

    private static void oneSpace() {
        heading("with one space where one is shown");
        for (String line : LINES) {
            for (int at = line.indexOf(' '); at >= 0; at = line.indexOf(' ', at + 1)) {
                dueFault(LINES_START, line.substring(0, at) + line.substring(at + 1), 1);
                dueFault(LINES_START, line.substring(0, at) + " " + line.substring(at), 1);
                dueFault(LINES_START, line.substring(0, at) + "   " + line.substring(at), 1);
            }
            dueFault(LINES_START, line.replace(";", " ;"), 1);
        }
        String[] parted = {"A 1 2;", "S a # 1;", "S a - 1;", "S a 1 2;", "S a b 1;", "D a b;", "C b # 1 2;", "C b 1 - 2;", "C b 1 # 2;"};
        for (String line : parted) {
            dueFault(LINES_START, line, 1);
        }
    }

    private static void semicolon() {
        heading("and a ; behind it");
        for (String line : LINES) {
            for (int length = 1; length < line.length(); length++) {
                dueFault(LINES_START, line.substring(0, length), 1);
                dueFaultAt(LINES_START, "A 9;" + line.substring(0, length), 1, 1);
            }
            dueFaultAt("A 1;S b 1;", line + ";", 1, 1);
            dueFault(LINES_START, line.replace(';', ':'), 1);
            dueFault(LINES_START, line.replace(';', ','), 1);
            dueFault(LINES_START, ";" + line, 1);
        }
    }

    private static void objectDigits() {
        heading("n is one or two digits");
        for (String verb : new String[] {"A ", "R ", "G "}) {
            String start = verb.equals("A ") ? "" : "A 7;A 17;";
            due("one digit", dueDone(start, verb + "7;", 1).told(4), 1);
            due("two digits", dueDone(start, verb + "17;", 1).told(4), 1);
            due("two with a 0 before", dueDone(start, verb + "07;", 1).told(4), 1);
            dueFault(start, verb + ";", 1);
            dueFault(start, verb + "007;", 1);
            dueFault(start, verb + "017;", 1);
            dueFault(start, verb + "100;", 1);
            dueFault(start, verb + "-7;", 1);
            dueFault(start, verb + "-0;", 1);
            dueFault(start, verb + "#7;", 1);
            dueFault(start, verb + "+7;", 1);
            dueFault(start, verb + "7a;", 1);
            dueFault(start, verb + "/;", 1);
            dueFault(start, verb + ":;", 1);
            dueFault(start, verb + "1/;", 1);
            dueFault(start, verb + "1:;", 1);
        }
        due("07 is 7", dueDone("", "A 07;", 1).object(7, 0), 1);
        due("17 is 17", dueDone("", "A 17;", 1).object(17, 0), 1);
        dueFault("", "A 00;", 3);
    }

    private static void numberDigits() {
        heading("VALUES: perhaps a -, and one to five digits");
        String[] texts = {"0", "9", "10", "123", "1234", "12345", "00001", "00000", "-1", "-12345", "-00001", "-0", "-00000"};
        int[] numbers = {0, 9, 10, 123, 1234, 12345, 1, 0, -1, -12345, -1, 0, 0};
        for (int i = 0; i < texts.length; i++) {
            Probe x = dueDone("", "S a " + texts[i] + ";", 1);
            due("kind of " + texts[i], x.kind(0, 0), 1);
            due("number of " + texts[i], x.value(0, 0), numbers[i]);
            Probe y = dueDone("S a 7;", "C a 7 " + texts[i] + ";", 1);
            due("w " + texts[i], y.value(0, 0), numbers[i]);
            Probe z = dueDone("S a " + numbers[i] + ";", "C a " + texts[i] + " 7;", 1);
            due("v " + texts[i], z.value(0, 0), 7);
        }
        String[] bad = {"", "-", "000001", "123456", "-000001", "-123456", "000000", "--1", "+1", "1-", "-+1", "1.0", "/", ":", "1/",
            "1:", "a", "1a", "-a"};
        for (String text : bad) {
            dueBadValue(text);
        }
    }

    private static void referenceDigits() {
        heading("or # and one or two digits, a REFERENCE");
        String[] texts = {"#0", "#7", "#07", "#10", "#39", "#00"};
        int[] numbers = {0, 7, 7, 10, 39, 0};
        for (int i = 0; i < texts.length; i++) {
            Probe x = dueDone("", "S a " + texts[i] + ";", 1);
            due("kind of " + texts[i], x.kind(0, 0), 2);
            due("object of " + texts[i], x.value(0, 0), numbers[i]);
            Probe y = dueDone("S a 7;", "C a 7 " + texts[i] + ";", 1);
            due("w " + texts[i], y.kind(0, 0) * 100 + y.value(0, 0), 200 + numbers[i]);
            Probe z = dueDone("S a #" + numbers[i] + ";", "C a " + texts[i] + " 70;", 1);
            due("v " + texts[i], z.value(0, 0), 70);
        }
        String[] bad = {"#", "#001", "#100", "#039", "#-1", "#-0", "-#1", "##1", "1#", "#1#", "#a", "#/", "#:", "#1:", "#+1"};
        for (String text : bad) {
            dueBadValue(text);
        }
    }

    private static void dueBadValue(String text) {
        dueFault("S a 1;", "S a " + text + ";", 1);
        dueFault("S a 1;", "C a 1 " + text + ";", 1);
        dueFault("S a 1;", "C a " + text + " 1;", 1);
        dueFault("S a 1;", "C a 2 " + text + ";", 1);
    }

    // Terms: the lines

    private static void lineMakes() {
        heading("A n: object n, which is not there, is there");
        Probe x = dueDone("", "A 5;", 1);
        dueChanged(x, 5);
        due("there", x.object(5, 0), 1);
        due("not signed", x.object(5, 1), 0);
        due("no keys", x.object(5, 2), 0);
        dueFault("A 5;", "A 5;", 3);
        dueFaultAt("", "A 5;A 5;", 1, 3);
        dueDone("A 5;", "R 5;A 5;", 0);
    }

    private static void lineTakesAway() {
        heading("R n: object n, which is there and not the ROOT, goes, with its keys");
        Probe x = dueDone("A 5;S a #5;S ab 1;S ac #0;", "R 5;", 1);
        dueChanged(x, 5);
        due("there", x.object(5, 0), 0);
        due("keys", x.object(5, 2), 0);
        due("b", x.kind(5, 1), 0);
        due("references that it had", x.object(0, 3), 0);
        due("references to it stay", x.object(5, 3), 1);
        due("objects", x.told(1), 1);
        due("without its keys when it is there again", dueDone("A 5;S a #5;S ab 1;R 5;", "A 5;", 1).object(5, 2), 0);
        dueFault("", "R 5;", 3);
        dueFaultAt("A 5;", "R 5;R 5;", 1, 3);
        dueFault("", "R 0;", 2);
        dueDone("A 1;", "R 1;", 1);
        dueDone("A 39;", "R 39;", 1);
    }

    private static void lineSigns() {
        heading("G n: object n, which is there, is SIGNED");
        Probe x = dueDone("A 39;", "G 39;", 1);
        dueChanged(x, 39);
        due("signed", x.object(39, 1), 1);
        due("no other", x.object(38, 1), 0);
        due("the root may be", dueDone("", "G 0;", 1).object(0, 1), 1);
        dueFault("", "G 39;", 3);
        dueFaultAt("A 39;", "R 39;G 39;", 1, 3);
    }

    private static void lineSets() {
        heading("S p v: the KEY gets the VALUE");
        Probe x = dueDone("", "S a 5;", 1);
        due("a key that was not there", x.value(0, 0), 5);
        due("keys", x.object(0, 2), 1);
        dueRun(x, "S a #6;", 1);
        due("a key that was there", x.value(0, 0), 6);
        due("another kind", x.kind(0, 0), 2);
        due("keys still", x.object(0, 2), 1);
        dueRun(x, "S a #6;", 0);
    }

    private static void lineDeletes() {
        heading("D p: the KEY, which is there, goes");
        Probe x = dueDone("S a 0;S b 1;", "D a;", 1);
        due("gone", x.kind(0, 0), 0);
        due("the other stays", x.kind(0, 1), 1);
        due("keys", x.object(0, 2), 1);
        dueRun(x, "D a;", -6);
        dueRun(x, "D b;", 1);
        due("no keys", x.object(0, 2), 0);
        dueFaultAt("S a 1;", "D a;D a;", 1, 5);
        dueDone("S a #0;", "D a;", 1);
    }

    private static void lineMoves() {
        heading("M p q: the KEY of q gets the VALUE of the KEY of p, which is there and goes before");
        Probe x = dueDone("A 1;S a #1;S b 7;", "M b ac;", 2);
        due("gone", x.kind(0, 1), 0);
        due("got", x.value(1, 2), 7);
        Probe over = dueDone("S a 1;S b #2;", "M a b;", 1);
        due("over another", over.kind(0, 1) * 100 + over.value(0, 1), 101);
        due("one key", over.object(0, 2), 1);
        Probe self = dueDone("S a 1;", "M a a;", 0);
        due("to itself, it is there behind", self.value(0, 0), 1);
        due("and is one key", self.object(0, 2), 1);
        Probe reference = dueDone("S a #9;", "M a b;", 1);
        due("a reference", reference.kind(0, 1) * 100 + reference.value(0, 1), 209);
        due("the number 0", dueDone("S a 0;", "M a b;", 1).kind(0, 1), 1);
        dueFault("", "M a b;", 5);
        dueFault("S b 1;", "M a b;", 5);
        dueFault("", "M a a;", 5);
    }

    private static void lineMovesPathsFirst() {
        heading("(both PATHS are followed first)");
        Probe x = dueDone("A 1;S a #1;", "M a ab;", 2);
        due("into the object to which it led", x.value(1, 1), 1);
        due("and gone at the root", x.kind(0, 0), 0);
        Probe y = dueDone("A 1;A 2;S a #1;S ab #2;", "M ab a;", 2);
        due("over the reference that led to it", y.value(0, 0), 2);
        due("gone there", y.object(1, 2), 0);
        dueFault("S a #1;S c #0;A 1;", "M c xb;", 4);
        // Only behind the move would x lead on.
        dueFault("A 1;S a #1;", "M a ba;", 4);
    }

    private static void lineChanges() {
        heading("C p v w: the KEY, which is there, gets w, if its VALUE is v; else the line is PASSED and changes nothing");
        Probe x = dueDone("S a 5;", "C a 5 6;", 1);
        due("gets w", x.value(0, 0), 6);
        due("not passed", x.told(3), 0);
        dueRun(x, "C a 5 7;", 0);
        due("stays", x.value(0, 0), 6);
        due("passed", x.told(3), 1);
        dueThrow("nothing is unlike", () -> x.changed(0));
        dueFault("", "C a 5 6;", 5);
        dueFault("", "C a 0 6;", 5);
        due("w as it is, not passed", dueDone("S a 5;", "C a 5 5;", 0).told(3), 0);
        Probe reference = dueDone("S a #5;", "C a #5 #6;", 1);
        due("a reference", reference.value(0, 0), 6);
        due("another reference", dueDone("S a #5;", "C a #6 #7;", 0).told(3), 1);
        due("passed and done", dueDone("S a 5;", "C a 4 1;C a 5 2;C a 5 3;C a 2 4;", 1).told(3), 2);
        for (String line : LINES) {
            Probe none = behind(LINES_START);
            tell(none, line);
            dueThat("no fault in " + line, none.run(false) > 0, true);
            due("no other line is passed: " + line, none.told(3), 0);
        }
    }

    private static void lineChangesByWhatItIs() {
        heading("(a number by what it is: -0 is 0)");
        String[][] fits = {{"0", "-0"}, {"-0", "0"}, {"-0", "-00000"}, {"5", "00005"}, {"-5", "-05"}, {"#5", "#05"}, {"#00", "#0"}};
        for (String[] pair : fits) {
            Probe x = dueDone("S a " + pair[0] + ";", "C a " + pair[1] + " 77;", 1);
            due("not passed", x.told(3), 0);
            due("gets w", x.value(0, 0), 77);
            dueDone("S a " + pair[0] + ";", "S a " + pair[1] + ";", 0);
        }
        String[][] others = {{"0", "#0"}, {"#0", "0"}, {"#0", "-0"}, {"5", "-5"}, {"-5", "5"}, {"5", "#5"}, {"#5", "5"}, {"5", "50"},
            {"99999", "-99999"}, {"1", "00000"}};
        for (String[] pair : others) {
            Probe x = dueDone("S a " + pair[0] + ";", "C a " + pair[1] + " 77;", 0);
            due("passed", x.told(3), 1);
            dueDone("S a " + pair[0] + ";", "S a " + pair[1] + ";", 1);
        }
    }

    // Terms: the FAULTS

    private static void fault1() {
        heading("FAULT 1 it is none of these (also where the text ends before its ;)");
        dueFault("", "B 1;", 1);
        dueFault("", "a 1;", 1);
        dueFault("", "A1;", 1);
        dueFault("", "A 1", 1);
        dueDone("", "A 1;", 1);
        dueFaultAt("", "A 1;A 2", 1, 1);
        dueDone("", "A 1;A 2;", 2);
        dueFaultAt("", "A 1;A 2;A", 2, 1);
    }

    private static void fault2() {
        heading("FAULT 2 a number of an object is above 39; R 0");
        dueDone("", "A 39;", 1);
        dueFault("", "A 40;", 2);
        dueDone("A 39;", "R 39;", 1);
        dueFault("A 39;", "R 40;", 2);
        dueDone("A 39;", "G 39;", 1);
        dueFault("A 39;", "G 40;", 2);
        dueDone("", "S a #39;", 1);
        dueFault("", "S a #40;", 2);
        dueDone("S a #39;", "C a #39 1;", 1);
        dueFault("S a #39;", "C a #40 1;", 2);
        dueDone("S a 1;", "C a 1 #39;", 1);
        dueFault("S a 1;", "C a 1 #40;", 2);
        dueFault("", "R 0;", 2);
        dueFault("", "R 00;", 2);
        dueDone("A 1;", "R 1;", 1);
        dueFault("", "A 0;", 3);
        dueDone("", "G 0;", 1);
        dueDone("", "S a #0;", 1);
        dueDone("S a 1;", "S b 40;C a 40 40;C a 1 40;S c -40;", 1);
    }

    private static void fault3() {
        heading("FAULT 3 A of an object that is there; R, G of one that is not");
        dueFault("A 1;", "A 1;", 3);
        dueDone("A 1;", "A 2;", 1);
        dueFault("A 1;", "R 2;", 3);
        dueDone("A 1;", "R 1;", 1);
        dueFault("A 1;", "G 2;", 3);
        dueDone("A 1;", "G 1;", 1);
        dueFault("", "A 0;", 3);
        dueFault("S a #2;", "R 2;", 3);
        dueFault("S a #2;", "G 2;", 3);
        dueDone("S a #2;", "A 2;", 1);
    }

    private static void fault4() {
        heading("FAULT 4 a PATH (p before q) that can't go on");
        String start = "A 1;S a #1;S b 1;S ab 1;";
        dueFault(start, "S xb 1;", 4);
        dueDone(start, "S ab 2;", 1);
        dueFault(start, "D xb;", 4);
        dueDone(start, "D ab;", 1);
        dueFault(start, "M xb c;", 4);
        dueFault(start, "M b xc;", 4);
        dueFault(start, "M xb xc;", 4);
        dueDone(start, "M ab c;", 2);
        dueDone(start, "M b ac;", 2);
        dueFault(start, "C xb 1 2;", 4);
        dueDone(start, "C ab 1 2;", 1);
    }

    private static void fault5() {
        heading("FAULT 5 a KEY that must be there is not");
        String start = "A 1;S a #1;S b 1;";
        dueFault(start, "D c;", 5);
        dueFault(start, "D ab;", 5);
        dueDone(start, "D b;", 1);
        dueFault(start, "M c b;", 5);
        dueFault(start, "M ab b;", 5);
        dueDone(start, "M b c;", 1);
        dueFault(start, "C c 1 2;", 5);
        dueFault(start, "C ab 1 2;", 5);
        dueDone(start, "C b 1 2;", 1);
        dueDone(start, "S c 1;", 1);
        dueFaultAt(start, "D b;C b 1 2;", 1, 5);
    }

    private static void fault6() {
        heading("FAULT 6 it changes an object that is SIGNED (R, S, D, M of both, C where it is not PASSED)");
        String start = "A 1;S a #1;S ab 1;";
        String[] changes = {"R 1;", "S ab 2;", "S ac 2;", "D ab;", "M ab c;", "M ab ac;", "C ab 1 2;"};
        for (String line : changes) {
            dueThat("no fault where it is not signed: " + line, dueDoneSomehow(start, line), true);
            dueFault(start + "G 1;", line, 6);
            dueFaultAt(start, "G 1;" + line, 1, 6);
        }
        Probe passed = dueDone(start + "G 1;", "C ab 2 3;", 0);
        due("passed", passed.told(3), 1);
        dueDone(start + "G 1;", "C ab #1 3;", 0);
        heading("G is never one");
        dueDone(start + "G 1;", "G 1;", 0);
        dueDone("G 0;", "G 0;", 0);
        dueDone("A 1;G 0;", "G 1;A 2;", 2);
    }

    private static boolean dueDoneSomehow(String start, String text) {
        Probe x = behind(start);
        tell(x, text);
        return x.run(false) >= 0;
    }

    private static void fault6OfMove() {
        heading("FAULT 6 .. M of both");
        String start = "A 1;A 2;S a #1;S b #2;S ak 1;S bk 2;";
        dueDone(start, "M ak bk;", 2);
        dueFault(start + "G 1;", "M ak bk;", 6);
        dueFault(start + "G 2;", "M ak bk;", 6);
        dueFault(start + "G 1;G 2;", "M ak bk;", 6);
        dueDone(start + "G 0;", "M ak bk;", 2);
        dueFault(start + "G 1;", "M ak al;", 6);
        dueDone(start + "G 1;", "M bk bl;", 1);
        dueFault(start + "G 0;", "M ak l;", 6);
        dueFault(start + "G 0;", "M a bl;", 6);
    }

    private static void fault6WhereAllStays() {
        heading("FAULT 6 .. also where all stays as it is");
        String start = "A 1;S a #1;S ab 1;";
        String[] stays = {"S ab 1;", "M ab ab;", "C ab 1 1;", "C ab 1 00001;"};
        for (String line : stays) {
            dueDone(start, line, 0);
            dueFault(start + "G 1;", line, 6);
            dueAnswer(start + "G 1;", line, true, 0);
        }
        dueFault("A 1;G 1;", "R 1;A 1;", 6);
    }

    private static void fault6Forced() {
        heading("FAULT 6 .. unless it is FORCED");
        String start = "A 1;A 2;S a #1;S b #2;S ak 1;S bk 2;G 0;G 1;G 2;";
        String[] lines = {"R 1;", "S ak 2;", "S c 1;", "D ak;", "M ak al;", "C ak 1 2;"};
        for (String line : lines) {
            dueFault(start, line, 6);
            dueAnswer(start, line, true, 1);
        }
        dueFault(start, "M ak bk;", 6);
        Probe x = dueAnswer(start, "M ak bk;", true, 2);
        due("moved", x.value(2, 10), 1);
        due("signed still", x.object(1, 1) + x.object(2, 1), 2);
        dueRun(x, "S bk 3;", -7);
    }

    private static void fault6IsOfTheObjectChanged() {
        heading("FAULT 6 it changes an object that is SIGNED");
        String start = "A 1;A 2;S a #1;S ab #2;";
        dueDone(start + "G 1;G 0;", "S abc 1;", 1);
        dueDone(start + "G 1;G 0;", "R 2;", 1);
        dueDone(start + "G 1;G 0;", "A 3;", 1);
        dueDone(start + "G 1;G 0;", "S abc #1;D abc;S abc 5;C abc 5 6;M abc abd;", 1);
        dueDone(start + "G 1;", "S c #1;", 1);
        dueDone(start + "G 1;", "D a;", 1);
        dueDone(start + "G 2;", "D ab;", 1);
        dueFault(start + "G 2;", "S abc 1;", 6);
    }

    private static void faultOrder() {
        heading("FAULTS of a line, the first one that is so");
        // Each row mends the fault of the row before it and nothing else.
        String start = "A 1;S n 5;G 0;G 1;";
        Object[][] rows = {
            {"A 40", 1}, {"A 40;", 2}, {"A 1", 1}, {"A 1;", 3},
            {"R 40", 1}, {"R 40;", 2}, {"R 39", 1}, {"R 39;", 3}, {"R 1", 1}, {"R 1;", 6}, {"R 0", 1}, {"R 0;", 2},
            {"G 40", 1}, {"G 40;", 2}, {"G 39", 1}, {"G 39;", 3},
            {"S xy #40", 1}, {"S xy #40;", 2}, {"S xy #4;", 4}, {"S x #4;", 6}, {"S x #40;", 2}, {"S x #4", 1},
            {"D xy", 1}, {"D xy;", 4}, {"D x;", 5}, {"D n;", 6}, {"D x", 1}, {"D n", 1},
            {"M xy xz", 1}, {"M xy xz;", 4}, {"M x xz;", 4}, {"M xy z;", 4}, {"M x z;", 5}, {"M n xz;", 4}, {"M n z;", 6}, {"M n z", 1},
            {"C xy #40 #40", 1}, {"C xy #40 #40;", 2}, {"C xy #4 #40;", 2}, {"C xy #40 #4;", 2}, {"C xy #4 #4;", 4}, {"C x #4 #40;", 2},
            {"C x #4 #4;", 5}, {"C n 5 #40;", 2}, {"C n 4 #40;", 2}, {"C n #40 4;", 2}, {"C n 5 #4;", 6}, {"C n 5 #4", 1}, {"C n 4 1", 1},
        };
        for (Object[] row : rows) {
            dueFault(start, (String) row[0], (Integer) row[1]);
        }
        dueDone(start, "C n 4 #4;", 0);
        dueDone(start, "G 1;", 0);
    }

    private static void faultOfTheFirstLine() {
        heading("-1 less ten times the line: the first line that has a FAULT");
        dueFaultAt("", "D a;?", 0, 5);
        dueFaultAt("", "A 1;D a;A 40;", 1, 5);
        dueFaultAt("", "A 1;A 40;D a;", 1, 2);
        dueFaultAt("", "A 1;A 2;A 3;A 1;B;", 3, 3);
    }

    private static void faultLeavesObjects() {
        heading("With a FAULT all objects are as they were before the text");
        String start = "A 1;A 2;A 3;S a #1;S b #2;S ab 5;S bb #3;S bc 7;G 3;";
        String good = "A 4;S ab 6;S bd #4;D bb;M bc c;C c 7 8;C c 9 9;R 1;A 1;G 1;G 2;G 0;";
        Object[][] rows = {{"x", 1}, {"A 5", 1}, {"A 40;", 2}, {"R 0;", 2}, {"A 0;", 3}, {"R 9;", 3}, {"G 9;", 3}, {"S qq 1;", 4},
            {"M c qq;", 4}, {"D q;", 5}, {"M q r;", 5}, {"C q 1 1;", 5}, {"R 3;", 6}, {"S z 1;", 6}, {"D c;", 6}, {"M c a;", 6},
            {"C c 8 8;", 6}};
        String before = objects(x -> dueRun(x, start, 4));
        for (Object[] row : rows) {
            int answer = -1 - (120 + (Integer) row[1]);
            dueSame("behind " + row[0], objects(x -> {
                dueRun(x, start, 4);
                dueRun(x, good + row[0], answer);
            }), before);
            if (answer != -1 - 126) {
                dueSame("forced, behind " + row[0], objects(x -> {
                    dueRun(x, start, 4);
                    dueForced(x, good + row[0], answer);
                }), before);
            }
        }
        dueThat("and without a fault they are not", before.equals(objects(x -> {
            dueRun(x, start, 4);
            dueRun(x, good, 4);
        })), false);
    }

    private static void faultLeavesNothingForTheNextText() {
        heading("With a FAULT .. the text is empty then, and nothing of it is left for the next one");
        String[] faulty = {"?", "A", "A 40;", "R 0;", "R 40;", "G 40;", "A 0;", "R 9;", "G 9;", "S b #40;", "S xx 1;", "D xx;", "D x;",
            "M xx y;", "M b yy;", "M x y;", "C b #40 1;", "C b 1 #40;", "C xx 1 1;", "C x 1 1;", "C b 2 2;C b 2 2;D x;"};
        for (String text : faulty) {
            for (String line : LINES) {
                Probe x = behind(LINES_START);
                tell(x, text);
                dueThat("a fault in " + text, x.run(false) < 0, true);
                dueRun(x, line, behindLinesStart(line));
                due("lines", x.told(4), 1);
                due("passed", x.told(3), 0);
            }
        }
    }

    // Terms: UNLIKE

    private static void unlikeThereOrNot() {
        heading("UNLIKE is an object that is there now and was not, or the other way round");
        dueChanged(dueDone("", "A 39;", 1), 39);
        dueChanged(dueDone("A 39;", "R 39;", 1), 39);
        dueChanged(dueDone("", "A 39;R 39;", 0));
        dueChanged(dueDone("A 39;", "R 39;A 39;", 0));
        dueChanged(dueDone("S a #39;", "A 39;", 1), 39);
    }

    private static void unlikeKeysOrValues() {
        heading("UNLIKE is an object that .. has other keys or VALUES");
        String start = "A 1;S a #1;S ab 1;S ac 2;";
        dueChanged(dueDone(start, "S ad 1;", 1), 1);
        dueChanged(dueDone(start, "D ab;", 1), 1);
        dueChanged(dueDone(start, "M ab ad;", 1), 1);
        dueChanged(dueDone(start, "D ab;S aa 1;", 1), 1);
        dueChanged(dueDone(start, "S ab 2;", 1), 1);
        dueChanged(dueDone(start, "S ab -1;", 1), 1);
        dueChanged(dueDone(start, "S ab #1;", 1), 1);
        dueChanged(dueDone(start, "M ab ax;M ac ab;M ax ac;", 1), 1);
        dueChanged(dueDone(start, "S a #0;", 1), 0);
        dueChanged(dueDone(start, "S z 1;", 1), 0);
        dueChanged(dueDone(start, "M ab b;", 2), 0, 1);
        dueChanged(dueDone(start, "R 1;A 1;", 1), 1);
        dueChanged(dueDone(start, "R 1;A 1;S ab 1;S ac 2;", 0));
        dueChanged(dueDone(start, "S ab 1;", 0));
        dueChanged(dueDone(start, "S ab 3;S ab 00001;", 0));
        dueChanged(dueDone(start, "D ab;S ab 1;", 0));
    }

    private static void unlikeSigned() {
        heading("UNLIKE is an object that .. is SIGNED and was not, or the other way round");
        Probe x = dueDone("A 1;", "G 1;", 1);
        dueChanged(x, 1);
        due("undo", x.undo(), 1);
        dueChanged(x, 1);
        dueChanged(dueAnswer("A 1;G 1;", "R 1;A 1;", true, 1), 1);
        dueChanged(dueAnswer("A 1;G 1;", "R 1;A 1;G 1;", true, 0));
        dueChanged(dueDone("A 1;G 1;", "G 1;", 0));
        dueChanged(dueDone("", "G 0;", 1), 0);
    }

    private static void unlikeBeforeAndBehindAlone() {
        heading("UNLIKE those before");
        String start = "A 1;A 2;S a #1;S ab #2;";
        // What an object refers to is not a part of it.
        dueChanged(dueDone(start, "S abc 1;", 1), 2);
        dueChanged(dueDone(start, "R 2;", 1), 2);
        dueChanged(dueDone(start, "G 2;", 1), 2);
    }

    // Terms: MOMENTS

    private static void momentsOfEachCall() {
        heading("MOMENTS: before each run() without a FAULT, drop() and join()");
        Probe x = new Probe();
        dueRun(x, "A 1;", 1);
        due("a run", x.told(2), 1);
        dueRun(x, "", 0);
        due("a run of no text", x.told(2), 2);
        dueRun(x, "S a 1;C a 2 3;D a;", 0);
        due("a run that changes nothing", x.told(2), 3);
        due("drop", x.drop(), 1);
        due("a drop", x.told(2), 4);
        due("drop", x.drop(), 0);
        due("a drop of none", x.told(2), 5);
        due("join", x.join(), 0);
        due("a join of none", x.told(2), 6);
        int[] answers = {0, 0, 1, 0, 0, 1};
        for (int i = 0; i < answers.length; i++) {
            due("undo", x.undo(), answers[i]);
            due("moments", x.told(2), 5 - i);
        }
    }

    private static void momentsOfNoOtherCall() {
        heading("MOMENTS .. of no other call");
        Probe x = new Probe();
        dueRun(x, "A 1;G 1;", 1);
        dueRun(x, "A 1;", -4);
        due("a run with a fault", x.told(2), 1);
        dueRun(x, "R 1;", -7);
        dueRun(x, "R", -2);
        due("runs with faults", x.told(2), 1);
        tell(x, "A 2;");
        due("dry", x.dry(false), 1);
        due("a dry run", x.told(2), 1);
        x.changed(0);
        x.reached(0);
        x.kind(0, 0);
        x.value(0, 0);
        x.object(0, 0);
        due("questions", x.told(2), 1);
        due("undo", x.undo(), 1);
        due("an undo takes one", x.told(2), 0);
        due("and keeps none", x.undo(), -1);
        due("none", x.told(2), 0);
    }

    private static void momentsLatest16() {
        heading("MOMENTS: .. what objects are is kept, the latest 16 times");
        for (int times : new int[] {1, 15, 16, 17, 18, 31, 32, 33, 48, 49}) {
            Probe x = new Probe();
            for (int i = 1; i <= times; i++) {
                dueRun(x, "S a " + i + ";", 1);
            }
            int kept = Math.min(times, 16);
            due("moments behind " + times, x.told(2), kept);
            for (int i = 1; i <= kept; i++) {
                due("undo " + i + " behind " + times, x.undo(), 1);
                due("back to", x.value(0, 0), times - i);
            }
            due("no more behind " + times, x.undo(), -1);
            due("stays", x.value(0, 0), times - kept);
            due("moments", x.told(2), 0);
        }
        Probe mixed = behind("A 1;");
        for (int i = 0; i < 15; i++) {
            due("drop, join", i % 2 == 0 ? mixed.join() : mixed.run(false), 0);
        }
        due("16 of all calls", mixed.told(2), 16);
        due("drop is the seventeenth", mixed.drop(), 1);
        due("16 still", mixed.told(2), 16);
        due("undo of drop", mixed.undo(), 1);
        for (int i = 0; i < 15; i++) {
            due("undo", mixed.undo(), 0);
        }
        due("the first one is no more", mixed.undo(), -1);
        due("so the object is there", mixed.object(1, 0), 1);
    }

    private static void momentsGoRound() {
        heading("MOMENTS: the latest 16 times, with undo() between");
        for (int undone : new int[] {1, 5, 15, 16}) {
            Probe x = new Probe();
            for (int i = 1; i <= 20; i++) {
                dueRun(x, "S a " + i + ";", 1);
            }
            for (int i = 0; i < undone; i++) {
                due("undo", x.undo(), 1);
            }
            due("left", x.told(2), 16 - undone);
            for (int i = 1; i <= 3; i++) {
                dueRun(x, "S a 5" + i + ";", 1);
            }
            int kept = Math.min(16, 16 - undone + 3);
            due("moments", x.told(2), kept);
            int[] back = {52, 51, 20 - undone};
            for (int i = 0; i < kept; i++) {
                due("undo", x.undo(), 1);
                due("back to", x.value(0, 0), i < 3 ? back[i] : 20 - undone - (i - 2));
            }
            due("none", x.undo(), -1);
        }
    }

    // Terms: exceptions

    private static void throwChangesNothing() {
        heading("A call that throws changes nothing");
        Script before = x -> {
            dueRun(x, "A 1;A 2;S a #1;S b 5;C b 6 7;", 3);
            dueRun(x, "S ab #2;A 3;C b 5 5;G 1;", 2);
            due("join", x.join(), 1);
            due("drop", x.drop(), 0);
            dueRun(x, "C b 1 2;S c 1;S abc 3;", 2);
            tell(x, "S d 9;");
        };
        String whole = whole(before);
        int[] wrongs = {-1, 40, Integer.MIN_VALUE, Integer.MAX_VALUE};
        for (int wrong : wrongs) {
            dueSame("the whole", whole(x -> {
                before.on(x);
                dueThrow("changed", () -> x.changed(wrong));
                dueThrow("reached", () -> x.reached(wrong));
                dueThrow("kind", () -> x.kind(wrong, 0));
                dueThrow("kind", () -> x.kind(0, wrong));
                dueThrow("value", () -> x.value(wrong, 0));
                dueThrow("value", () -> x.value(0, wrong));
                dueThrow("object", () -> x.object(wrong, 0));
                dueThrow("object", () -> x.object(0, wrong));
            }), whole);
        }
    }

    private static void throwForObjects() {
        heading("IndexOutOfBoundsException: there is no such object (0 .. 39)");
        Probe x = behind("A 39;S a #39;S az 5;");
        dueThat("reached 0", x.reached(0), true);
        dueThat("reached 39", x.reached(39), true);
        due("kind 0", x.kind(0, 0), 2);
        due("kind 39", x.kind(39, 25), 1);
        due("value 0", x.value(0, 0), 39);
        due("value 39", x.value(39, 25), 5);
        due("object 0", x.object(0, 0), 1);
        due("object 39", x.object(39, 0), 1);
        for (int n : new int[] {-1, 40, 41, 26 * 40, Integer.MIN_VALUE, Integer.MAX_VALUE}) {
            dueThrow("reached " + n, () -> x.reached(n));
            dueThrow("kind " + n, () -> x.kind(n, 0));
            dueThrow("value " + n, () -> x.value(n, 0));
            dueThrow("kind and key " + n, () -> x.kind(n, n));
            dueThrow("value and key " + n, () -> x.value(n, n));
            for (int what = -1; what <= 4; what++) {
                int asked = what;
                dueThrow("object " + n + " " + what, () -> x.object(n, asked));
            }
        }
        for (int n = 0; n < 40; n++) {
            dueThat("one that is not there does not throw: " + n, x.reached(n), n == 0 || n == 39);
            due("kind of " + n, x.kind(n, 12), 0);
            due("value of " + n, x.value(n, 12), 0);
        }
    }

    private static void throwForKeys() {
        heading("IndexOutOfBoundsException: there is no such .. key (0 .. 25)");
        Probe x = behind("A 39;S a #39;S aa 1;S az 2;S z 3;");
        due("key 0", x.kind(39, 0), 1);
        due("key 25", x.kind(39, 25), 1);
        due("key 0", x.value(39, 0), 1);
        due("key 25", x.value(39, 25), 2);
        for (int key : new int[] {-1, 26, 27, 'a', 'z', Integer.MIN_VALUE, Integer.MAX_VALUE}) {
            for (int n : new int[] {0, 1, 38, 39}) {
                dueThrow("kind at " + key, () -> x.kind(n, key));
                dueThrow("value at " + key, () -> x.value(n, key));
            }
        }
    }

    private static void throwForPlaces() {
        heading("IndexOutOfBoundsException: there is no such .. place");
        Probe none = new Probe();
        dueThrow("place 0 of a new object", () -> none.changed(0));
        Probe two = behind("A 7;A 3;");
        due("place 0", two.changed(0), 3);
        due("place 1", two.changed(1), 7);
        for (int place : new int[] {-1, 2, 3, 39, 40, Integer.MIN_VALUE, Integer.MAX_VALUE}) {
            dueThrow("place " + place, () -> two.changed(place));
        }
    }

    private static String makeObjects(int first, int last) {
        StringBuilder text = new StringBuilder();
        for (int n = first; n <= last; n++) {
            text.append("A ").append(n).append(';');
        }
        return text.toString();
    }
}
