/** An EditLists2 whose calls are counted, since the document promises nothing behind the 512th. */
final class Probe {
    static final int CALLS = 512;

    private final EditLists2 lists = new EditLists2();
    private int calls;

    boolean sign(int c) {
        count();
        return lists.sign(c);
    }

    int run(boolean forced) {
        count();
        return lists.run(forced);
    }

    int dry(boolean forced) {
        count();
        return lists.dry(forced);
    }

    int changed(int i) {
        count();
        return lists.changed(i);
    }

    int undo() {
        count();
        return lists.undo();
    }

    int drop() {
        count();
        return lists.drop();
    }

    int join() {
        count();
        return lists.join();
    }

    boolean reached(int n) {
        count();
        return lists.reached(n);
    }

    int kind(int n, int key) {
        count();
        return lists.kind(n, key);
    }

    int value(int n, int key) {
        count();
        return lists.value(n, key);
    }

    int object(int n, int what) {
        count();
        return lists.object(n, what);
    }

    int told(int what) {
        count();
        return lists.told(what);
    }

    int callsLeft() {
        return CALLS - calls;
    }

    private void count() {
        calls++;
        if (calls > CALLS) {
            throw new IllegalStateException("a test that goes on behind the 512th call tests nothing that is promised");
        }
    }
}
