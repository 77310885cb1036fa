/** For each promise of the document: ordinary inputs, the edges that it names, and wrong inputs. */
public final class PromiseTests extends Checks {
    private PromiseTests() {
    }

    public static void main(String[] args) {
        newObject();
        sign();
        runLines();
        runForms();
        runFaultOrder();
        runSigned();
        runAllOrNone();
        dry();
        changed();
        undo();
        moments();
        drop();
        join();
        joinItself();
        reached();
        kindAndValue();
        object();
        told();
        wrongIndexesChangeNothing();
        readme();
        end();
    }

    private static void newObject() {
        heading("promise 1");
        Probe x = new Probe();
        due("NONE", EditLists2.NONE, -1);
        for (int n = 0; n < 40; n++) {
            due("there " + n, x.object(n, 0), n == 0 ? 1 : 0);
            due("signed " + n, x.object(n, 1), 0);
            due("keys of " + n, x.object(n, 2), 0);
            due("references to " + n, x.object(n, 3), 0);
        }
        due("signs", x.told(0), 0);
        due("objects", x.told(1), 1);
        due("moments", x.told(2), 0);
        due("passed", x.told(3), 0);
        due("lines", x.told(4), 0);
        due("undo", x.undo(), -1);
        dueThrow("changed(0)", () -> x.changed(0));
        tell(x, "S a 1;");
        x.run(false);
        due("another object has its own state", new Probe().kind(0, 0), 0);
    }

    private static void sign() {
        heading("promise 2");
        Probe x = new Probe();
        int[] refused = {Integer.MIN_VALUE, -1, 0, 9, 10, 31, 127, 128, 32 + 256, 32 + 65536, Integer.MAX_VALUE};
        for (int c : refused) {
            dueThat("sign " + c, x.sign(c), false);
        }
        due("signs refused", x.told(0), 0);
        for (int c = 32; c <= 126; c++) {
            dueThat("sign " + c, x.sign(c), true);
        }
        due("signs taken", x.told(0), 95);
        for (int i = 95; i < 300; i++) {
            dueThat("sign number " + i, x.sign(' '), true);
        }
        dueThat("sign number 300", x.sign(' '), false);
        dueThat("no sign and no room", x.sign(127), false);
        due("signs", x.told(0), 300);
        x.run(false);
        dueThat("room behind run", x.sign('A'), true);

        Probe full = new Probe();
        tell(full, "A 1;" + " ".repeat(292) + "G 1;");
        due("a text of 300", full.told(0), 300);
        due("is done to its end", full.run(false), 1);
        due("both lines", full.object(1, 1), 1);
    }

    private static void runLines() {
        heading("promise 3");
        Probe x = new Probe();
        dueRun(x, "", 0);
        dueRun(x, "    ", 0);
        dueRun(x, "A 1;A 02;A 39;", 3);
        due("object 39", x.object(39, 0), 1);
        dueRun(x, "  S a #1;   S ab #02;S abz -99999;S c 00012;  ", 3);
        due("reference", x.value(1, 1), 2);
        due("least number", x.value(2, 25), -99999);
        due("number with noughts", x.value(0, 2), 12);
        dueRun(x, "S c 12;", 0);
        dueRun(x, "S c #12;", 1);
        due("number becomes reference", x.kind(0, 2), 2);
        dueRun(x, "D abz;", 1);
        due("a key that went", x.kind(2, 25), 0);
        dueRun(x, "D c;S c #12;", 0);
        dueRun(x, "R 39;A 39;", 0);
        dueRun(x, "R 2;A 2;", 0);
        dueRun(x, "S abx 4;", 1);
        dueRun(x, "R 2;A 2;", 1);
        due("keys go with their object", x.object(2, 2), 0);
        due("references to it stay", x.object(2, 3), 1);

        dueRun(x, "S d 7;M d abd;", 1);
        due("moved to", x.value(2, 3), 7);
        due("moved from", x.kind(0, 3), 0);
        dueRun(x, "M a abk;", 2);
        due("both paths are followed before", x.value(2, 10), 1);
        due("and the key is gone", x.kind(0, 0), 0);
        dueRun(x, "M c c;", 0);
        due("moved to itself", x.value(0, 2), 12);
        dueRun(x, "S e 1;S f 2;M e f;", 1);
        due("moved over another", x.value(0, 5), 1);

        dueRun(x, "S g 5;C g 00005 6;C g 5 7;", 1);
        due("changed where it fits", x.value(0, 6), 6);
        due("passed", x.told(3), 1);
        dueRun(x, "S g #6;C g 6 1;C g #06 0;C g -0 -00;C g 0 2;C g -2 3;", 1);
        due("a reference is no number", x.told(3), 2);
        due("-0 is 0", x.value(0, 6), 2);
        dueRun(x, "G 0;G 1;", 2);
        dueRun(x, "G 0;", 0);
        dueRun(x, "S a #0;S aaaaaaab 3;", -1 - 6);
    }

    private static void runForms() {
        heading("promise 3 (forms)");
        String[] bad = {
            ";", "A", "A ", "A 1", "A 1 ;", "A  1;", "A1;", "a 1;", "A 123;", "A 001;", "A -1;", "A #1;", "A a;", "A ;",
            "A 1;;", "B 1;", "R", "R 00 ;", "R  1;", "G a;", "S a;", "S a ;", "S  a 1;", "S a  1;", "S a 1  ;", "S A 1;",
            "S a1 1;", "S a 100000;", "S a 000001;", "S a -;", "S a --1;", "S a +1;", "S a #;", "S a #-1;", "S a #001;",
            "S a -#1;", "S a 1 2;", "S  1;", "S aaaaaaaaa 1;", "S a 1", "D;", "D ;", "D a ;", "D a b;", "D aaaaaaaaa;",
            "M a;", "M a ;", "M a  b;", "M a b c;", "M a 1;", "M a aaaaaaaaa;", "M aaaaaaaaa a;", "C a 1;", "C a 1 ;",
            "C a 1  2;", "C a  1 2;", "C a 1 2 ;", "C a 1 2 3;", "C a 1 #;", "C a # 1;", "C a b 1;", "C a 1 b;",
            "C a 1 2", "{", "S ` 1;", "S { 1;", "S a :;", "S a /;", "A :;", "A /;", "A 1,", "; A 1;"
        };
        for (String text : bad) {
            Probe x = new Probe();
            int line = text.startsWith("A 1;") ? 1 : 0;
            dueRun(x, text, -1 - 10 * line - 1);
            due("nothing of " + text, x.told(1), 1);
        }
        dueRun(new Probe(), "S a #0;S aaaaaaaa 1;", 1);
        dueRun(new Probe(), "S a 99999;S z -99999;S m -0;", 1);
        dueRun(new Probe(), "A 1;R 1;".repeat(37) + "?", -1 - 741);
        Probe last = new Probe();
        dueRun(last, "A 1;R 1;".repeat(37) + "A 1;", 1);
        due("lines", last.told(4), 75);
    }

    private static void runFaultOrder() {
        heading("promise 3 (faults)");
        String[] texts = {"A 40;", "A 99;", "R 40;", "G 40;", "R 0;", "R 00;", "S a #40;", "S xy #40;", "C xy #40 1;", "C xy 1 #40;",
            "C b 2 #99;"};
        for (String text : texts) {
            dueFault("", text, 2);
        }
        dueFault("", "A 0;", 3);
        dueFault("A 1;", "A 1;", 3);
        dueFault("", "R 1;", 3);
        dueFault("", "G 39;", 3);
        dueFault("", "S ab 1;", 4);
        dueFault("S a 1;", "S ab 1;", 4);
        dueFault("S a #1;", "S ab 1;", 4);
        dueFault("S a #1;A 1;", "S abc 1;", 4);
        dueFault("", "D ab;", 4);
        dueFault("", "M ab c;", 4);
        dueFault("", "M c ab;", 4);
        dueFault("S c 1;", "M c ab;", 4);
        dueFault("S c 1;G 0;", "M c ab;", 4);
        dueFault("", "C ab 1 2;", 4);
        dueFault("", "D a;", 5);
        dueFault("", "M a b;", 5);
        dueFault("G 0;", "M a b;", 5);
        dueFault("G 0;", "D a;", 5);
        dueFault("", "C a 1 1;", 5);
        dueFault("G 0;", "C a 1 1;", 5);
        dueFault("A 1;G 1;", "R 1;", 6);
        dueFault("G 0;", "S a 1;", 6);
        Probe x = new Probe();
        dueRun(x, "S a 1; S b 2;  D a; D a; nonsense", -1 - 35);
        due("line 3 alone is told, and all is as before", x.object(0, 2), 0);
        dueRun(x, "nonsense; D a;", -2);
    }

    private static void runSigned() {
        heading("promise 3 (signed)");
        String start = "A 1;A 2;S a #1;S ab 1;S c #2;S cd 2;G 1;";
        String[] refused = {"R 1;", "S ab 1;", "S ax 2;", "D ab;", "M ab ab;", "M ab cb;", "M cd ad;", "M ab x;", "C ab 1 1;", "C ab 1 2;"};
        for (String text : refused) {
            Probe x = new Probe();
            dueRun(x, start, 3);
            dueRun(x, text, -7);
            tell(x, text);
            due("forced " + text, x.run(true) >= 0 ? 1 : 0, 1);
        }
        Probe x = new Probe();
        dueRun(x, start, 3);
        dueRun(x, "C ab 2 3;", 0);
        due("passed is no change of a signed one", x.told(3), 1);
        dueRun(x, "G 1;M a q;S r #1;", 1);
        due("signed stays", x.object(1, 1), 1);
        tell(x, "S qb 9;");
        due("forced", x.run(true), 1);
        due("forced value", x.value(1, 1), 9);
        due("still signed", x.object(1, 1), 1);
        dueRun(x, "S qb 9;", -7);
        tell(x, "R 1;A 1;");
        due("forced away and made anew", x.run(true), 1);
        due("not signed then", x.object(1, 1), 0);
        tell(x, "A 1;");
        due("other faults stay with force", x.run(true), -4);
        tell(x, "D zz;");
        due("paths too", x.run(true), -5);
    }

    private static void runAllOrNone() {
        heading("promise 3 (all or none)");
        Probe x = new Probe();
        dueRun(x, "A 1;A 2;S a #1;S ab 5;G 2;", 3);
        dueRun(x, "C ab 6 7;", 0);
        dueRun(x, "A 3;S ac 1;D ab;R 1;M a z;G 0;R 2;", -1 - 66);
        due("object 3", x.object(3, 0), 0);
        due("object 1", x.object(1, 0), 1);
        due("its keys", x.object(1, 2), 1);
        due("its value", x.value(1, 1), 5);
        due("root is not signed", x.object(0, 1), 0);
        due("root's key", x.value(0, 0), 1);
        due("objects", x.told(1), 3);
        due("moments", x.told(2), 2);
        due("passed of the run before", x.told(3), 1);
        due("lines of the run before", x.told(4), 1);
        due("the text is empty", x.told(0), 0);
        dueThrow("changed is of the run before", () -> x.changed(0));
    }

    private static void dry() {
        heading("promise 4");
        Probe x = new Probe();
        dueRun(x, "A 1;S a #1;C a #1 #1;C a 1 1;", 2);
        tell(x, "A 2;S ab 5;G 2;C ab 4 4;C ab 4 4;");
        due("dry", x.dry(false), 2);
        due("dry again", x.dry(true), 2);
        due("text stays", x.told(0), 33);
        due("objects", x.told(1), 2);
        due("moments", x.told(2), 1);
        due("passed", x.told(3), 1);
        due("lines", x.told(4), 4);
        due("keys", x.object(1, 2), 0);
        due("changed 0", x.changed(0), 0);
        due("changed 1", x.changed(1), 1);
        due("run behind dry", x.run(false), 2);
        due("done now", x.object(2, 1), 1);
        tell(x, "A 3;R 2;");
        due("dry with a fault", x.dry(false), -1 - 16);
        due("nothing made", x.object(3, 0), 0);
        due("text stays", x.told(0), 8);
        due("dry forced", x.dry(true), 2);
        due("nothing gone", x.object(2, 0), 1);
        tell(x, "G 0;");
        due("more text", x.dry(true), 3);
        due("run forced", x.run(true), 3);
        due("dry of no text", x.dry(false), 0);
    }

    private static void changed() {
        heading("promise 5");
        Probe x = new Probe();
        dueRun(x, "A 39;A 7;S a #7;", 3);
        dueChanged(x, 0, 7, 39);
        dueRun(x, "A 7;", -4);
        dueChanged(x, 0, 7, 39);
        dueRun(x, "S ab 1;S ab 2;G 39;", 2);
        dueChanged(x, 7, 39);
        due("undo", x.undo(), 2);
        dueChanged(x, 7, 39);
        due("drop", x.drop(), 1);
        dueChanged(x, 39);
        dueRun(x, "A 8;", 1);
        dueChanged(x, 8);
        dueRun(x, "S b #8;", 1);
        due("join", x.join(), 1);
        dueChanged(x, 0, 8);
        due("join again", x.join(), 0);
        dueChanged(x);
        dueThrow("changed(40)", () -> x.changed(40));
        dueThrow("changed(-1)", () -> x.changed(-1));
        dueThrow("changed(least)", () -> x.changed(Integer.MIN_VALUE));
        Probe y = new Probe();
        dueRun(y, "A 1;", 1);
        due("undo", y.undo(), 1);
        dueChanged(y, 1);
        due("undo of nothing", y.undo(), -1);
        dueChanged(y);
    }

    private static void undo() {
        heading("promise 6");
        Probe x = new Probe();
        due("nothing", x.undo(), -1);
        dueRun(x, "A 1;S a #1;S ab 5;G 1;C a 1 1;", 2);
        tell(x, "S ab 6;");
        due("forced", x.run(true), 1);
        tell(x, "S ab 7;");
        due("undo", x.undo(), 1);
        due("value as before", x.value(1, 1), 5);
        due("text stays", x.told(0), 7);
        due("lines are of the latest run", x.told(4), 1);
        due("run goes on from there", x.run(true), 1);
        due("undo", x.undo(), 1);
        due("undo", x.undo(), 2);
        due("root alone", x.told(1), 1);
        due("signed no more", x.object(1, 1), 0);
        due("no key", x.kind(0, 0), 0);
        due("none", x.undo(), -1);
        dueRun(x, "A 1;", 1);
        due("drop", x.drop(), 1);
        due("undo drop", x.undo(), 1);
        due("there again", x.object(1, 0), 1);
        due("the moment of the run is left", x.told(2), 1);
    }

    private static void moments() {
        heading("promise 6 (moments)");
        Probe x = new Probe();
        for (int i = 1; i <= 18; i++) {
            dueRun(x, "", 0);
            due("moments", x.told(2), Math.min(i, 16));
            dueRun(x, "D b;", -6);
            tell(x, "S a 7;");
            due("dry", x.dry(false), 1);
            due("neither faults nor dry runs", x.told(2), Math.min(i, 16));
            due("run", x.run(false), 1);
            due("undo", x.undo(), 1);
            // The moment that had to give way for this run does not come back.
            due("moments behind undo", x.told(2), Math.min(i, 15));
        }
        for (int i = 0; i < 15; i++) {
            due("undo", x.undo(), 0);
        }
        due("no more than 16", x.undo(), -1);

        Probe y = new Probe();
        for (int i = 1; i <= 20; i++) {
            dueRun(y, "S a " + i + ";", 1);
        }
        for (int i = 19; i >= 4; i--) {
            due("undo to " + i, y.undo(), 1);
            due("value", y.value(0, 0), i);
        }
        due("none", y.undo(), -1);
        due("value stays", y.value(0, 0), 4);
    }

    private static void drop() {
        heading("promise 7");
        Probe x = new Probe();
        dueRun(x, "A 1;A 2;A 3;A 4;A 5;S a #1;S ab #2;S c #3;S cc #4;S cd #3;G 5;G 4;", 6);
        due("drop", x.drop(), 1);
        due("a signed one goes", x.object(5, 0), 0);
        due("and is signed no more", x.object(5, 1), 0);
        dueRun(x, "D c;", 1);
        due("a circle and what it holds", x.drop(), 2);
        due("objects", x.told(1), 3);
        due("drop again", x.drop(), 0);
        due("each drop is a moment", x.told(2), 5);
        dueRun(x, "R 1;", 1);
        due("behind one that is not there", x.drop(), 1);
        due("the root's reference stays", x.value(0, 0), 1);
        dueRun(x, "A 39;S z #39;S zz #0;", 2);
        due("root and the last", x.drop(), 0);
    }

    private static void join() {
        heading("promise 8");
        Probe x = new Probe();
        due("nothing to join", x.join(), 0);
        due("each join is a moment", x.told(2), 1);
        dueRun(x, "A 5;A 9;A 12;S a #9;S b #12;S c #5;S d #12;G 0;", 4);
        due("empty ones", x.join(), 2);
        due("a", x.value(0, 0), 5);
        due("b", x.value(0, 1), 5);
        due("references of the signed root too", x.object(5, 3), 4);
        due("undo", x.undo(), 3);
        due("b as before", x.value(0, 1), 12);
        dueRun(x, "G 5;", 1);
        due("not the signed one", x.join(), 1);
        due("c", x.value(0, 2), 5);
        due("b", x.value(0, 1), 9);

        Probe y = new Probe();
        dueRun(y, "A 1;A 2;A 3;A 4;S a #1;S b #2;S c #3;S d #4;S ax 1;S bx #1;S cx 1;S cy 1;S dy 1;", 5);
        due("other kinds, other keys", y.join(), 0);
        dueRun(y, "S bx 1;", 1);
        due("the same", y.join(), 1);
        due("the greater went", y.object(2, 0), 0);

        Probe z = new Probe();
        dueRun(z, "A 1;A 2;A 3;A 4;S a #1;S b #2;S ak #3;S bk #4;S akz 1;S bkz 1;", 5);
        due("one join makes the next one", z.join(), 2);
        due("b", z.value(0, 1), 1);
        due("k", z.value(1, 10), 3);
        due("the root is never joined", z.object(0, 0), 1);
        Probe r = new Probe();
        dueRun(r, "A 1;", 1);
        due("nor is one like the root", r.join(), 0);
    }

    private static void joinItself() {
        heading("promise 8 (itself)");
        Probe x = new Probe();
        dueRun(x, "A 1;A 2;S a #1;S b #2;S as #1;S bs #2;", 3);
        due("each to itself", x.join(), 1);
        due("b", x.value(0, 1), 1);
        due("the lesser still to itself", x.value(1, 18), 1);
        Probe y = new Probe();
        dueRun(y, "A 1;A 2;S a #1;S b #2;S as #2;S bs #1;", 3);
        due("each to the other is not alike", y.join(), 0);
        Probe z = new Probe();
        dueRun(z, "A 1;A 2;S a #1;S b #2;S as #2;S bs #2;", 3);
        due("both to the greater", z.join(), 1);
        due("becomes itself", z.value(1, 18), 1);
        Probe u = new Probe();
        dueRun(u, "A 1;A 2;A 3;S a #1;S b #2;S c #3;S as #3;S bs #2;S cs #2;", 4);
        due("2 and 3 first, which makes 1 and 2 alike", u.join(), 2);
        due("a", u.value(0, 0), 1);
        due("s", u.value(1, 18), 1);
        due("c", u.value(0, 2), 1);
        Probe v = new Probe();
        dueRun(v, "A 1;A 2;A 3;S a #2;S ax 1;S b #3;S bx 1;S c #1;S cx #3;", 4);
        due("references inside others", v.join(), 1);
        due("x", v.value(1, 23), 2);
    }

    private static void reached() {
        heading("promise 9");
        Probe x = new Probe();
        dueThat("root", x.reached(0), true);
        dueRun(x, "A 1;A 2;A 3;A 4;S a #1;S ab #2;S abc #39;S d #3;S dd #3;S de #4;M de abe;D d;G 3;", 5);
        dueThat("1", x.reached(1), true);
        dueThat("2", x.reached(2), true);
        dueThat("a reference to itself", x.reached(3), false);
        dueThat("4", x.reached(4), true);
        dueThat("not there", x.reached(39), false);
        dueRun(x, "R 1;", 1);
        dueThat("gone", x.reached(1), false);
        dueThat("behind it", x.reached(2), false);
        dueRun(x, "A 1;", 1);
        dueThat("there again", x.reached(1), true);
        dueThat("but without its keys", x.reached(2), false);
        dueRun(x, "S a #3;", 1);
        dueThat("3", x.reached(3), true);
        dueRun(x, "S a 1;S b 3;", 1);
        dueThat("a number is no reference", x.reached(1) || x.reached(3), false);
        dueThrow("reached(-1)", () -> x.reached(-1));
        dueThrow("reached(40)", () -> x.reached(40));
        Probe chain = new Probe();
        for (int n = 39; n > 19; n--) {
            dueRun(chain, "A " + n + ";S a #" + n + ";" + (n < 39 ? "S ab #" + (n + 1) + ";" : ""), 2);
        }
        dueThat("the end of a chain of 20", chain.reached(39), true);
        due("nothing to drop", chain.drop(), 0);
    }

    private static void kindAndValue() {
        heading("promise 10, 11");
        Probe x = new Probe();
        dueRun(x, "A 39;S a -5;S z #39;S zz 99999;S zy #0;S zx 0;", 2);
        due("kind number", x.kind(0, 0), 1);
        due("value number", x.value(0, 0), -5);
        due("kind reference", x.kind(0, 25), 2);
        due("value reference", x.value(0, 25), 39);
        due("kind nothing", x.kind(0, 1), 0);
        due("value nothing", x.value(0, 1), 0);
        due("last object", x.value(39, 25), 99999);
        due("reference to root", x.kind(39, 24), 2);
        due("its value", x.value(39, 24), 0);
        due("number 0", x.kind(39, 23), 1);
        due("its value", x.value(39, 23), 0);
        due("kind of one not there", x.kind(1, 0), 0);
        due("value of one not there", x.value(1, 0), 0);
        int[][] bad = {{-1, 0}, {40, 0}, {0, -1}, {0, 26}, {40, 26}, {Integer.MAX_VALUE, 0}, {0, Integer.MIN_VALUE}, {1, 26}, {1, -1}};
        for (int[] pair : bad) {
            dueThrow("kind", () -> x.kind(pair[0], pair[1]));
            dueThrow("value", () -> x.value(pair[0], pair[1]));
        }
    }

    private static void object() {
        heading("promise 12");
        Probe x = new Probe();
        dueRun(x, "A 1;A 2;S a #1;S b #1;S ac #1;S ad #5;S ae 1;G 1;", 3);
        due("there", x.object(1, 0), 1);
        due("signed", x.object(1, 1), 1);
        due("keys", x.object(1, 2), 3);
        due("references, its own too", x.object(1, 3), 3);
        due("to one that is not there", x.object(5, 3), 1);
        due("not there", x.object(5, 0), 0);
        due("not signed", x.object(2, 1), 0);
        due("no keys", x.object(5, 2), 0);
        dueRun(x, "M b c;D c;", 1);
        due("references", x.object(1, 3), 2);
        dueRun(x, "D a;", 1);
        due("also of one that is not reached", x.object(1, 3), 1);
        int[][] bad = {{-1, 0}, {40, 0}, {0, -1}, {0, 4}, {40, 4}, {5, 4}, {Integer.MIN_VALUE, 3}, {0, Integer.MAX_VALUE}};
        for (int[] pair : bad) {
            dueThrow("object", () -> x.object(pair[0], pair[1]));
        }
    }

    private static void told() {
        heading("promise 13");
        Probe x = new Probe();
        dueRun(x, " A 1; S a 1; C a 2 3; C a 1 2; C a 1 3; ", 2);
        due("objects", x.told(1), 2);
        due("moments", x.told(2), 1);
        due("passed", x.told(3), 2);
        due("lines", x.told(4), 5);
        dueRun(x, "C a 3 3;x", -12);
        due("passed stays", x.told(3), 2);
        due("lines stay", x.told(4), 5);
        x.drop();
        x.join();
        x.undo();
        due("moments", x.told(2), 2);
        due("passed stays", x.told(3), 2);
        due("lines stay", x.told(4), 5);
        tell(x, "  ");
        due("signs", x.told(0), 2);
        due("run", x.run(false), 0);
        due("passed of no line", x.told(3), 0);
        due("no line", x.told(4), 0);
        int[] others = {-1, 5, 6, Integer.MIN_VALUE, Integer.MAX_VALUE};
        for (int what : others) {
            due("told " + what, x.told(what), -1);
        }
    }

    private static void wrongIndexesChangeNothing() {
        heading("promise 5, 9 to 12 (a call that throws)");
        Probe x = new Probe();
        dueRun(x, "A 1;S a #1;C a 0 0;", 2);
        tell(x, "G 1;");
        dueThrow("changed", () -> x.changed(2));
        dueThrow("reached", () -> x.reached(40));
        dueThrow("kind", () -> x.kind(0, 26));
        dueThrow("value", () -> x.value(40, 0));
        dueThrow("object", () -> x.object(0, 4));
        due("signs", x.told(0), 4);
        due("objects", x.told(1), 2);
        due("moments", x.told(2), 1);
        due("passed", x.told(3), 1);
        due("lines", x.told(4), 3);
        dueChanged(x, 0, 1);
        due("text is done", x.run(false), 1);
    }

    private static void readme() {
        heading("README.md's example");
        Probe lists = new Probe();
        tell(lists, "A 1; S a #1; S ab 5;");
        due("dry", lists.dry(false), 2);
        due("run", lists.run(false), 2);
        due("changed", lists.changed(1), 1);
        due("value", lists.value(1, 1), 5);
        tell(lists, "D a; D c;");
        due("run with a fault", lists.run(false), -16);
        due("kind", lists.kind(0, 0), 2);
        tell(lists, "D a;");
        due("run", lists.run(false), 1);
        due("drop", lists.drop(), 1);
        due("told", lists.told(1), 1);
        due("undo", lists.undo(), 1);
        due("undo", lists.undo(), 1);
        due("value behind undo", lists.value(0, 0), 1);
    }
}
