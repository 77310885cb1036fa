/** An EditLists2 whose calls are counted, since the document promises nothing behind the 512th. */
final class Probe implements Face {
    static final int CALLS = 512;

    private final EditLists2 lists = new EditLists2();
    private int calls;

    @Override
    public boolean sign(int c) {
        count();
        return lists.sign(c);
    }

    @Override
    public int run(boolean forced) {
        count();
        return lists.run(forced);
    }

    @Override
    public int dry(boolean forced) {
        count();
        return lists.dry(forced);
    }

    @Override
    public int changed(int i) {
        count();
        return lists.changed(i);
    }

    @Override
    public int undo() {
        count();
        return lists.undo();
    }

    @Override
    public int drop() {
        count();
        return lists.drop();
    }

    @Override
    public int join() {
        count();
        return lists.join();
    }

    @Override
    public boolean reached(int n) {
        count();
        return lists.reached(n);
    }

    @Override
    public int kind(int n, int key) {
        count();
        return lists.kind(n, key);
    }

    @Override
    public int value(int n, int key) {
        count();
        return lists.value(n, key);
    }

    @Override
    public int object(int n, int what) {
        count();
        return lists.object(n, what);
    }

    @Override
    public int told(int what) {
        count();
        return lists.told(what);
    }

    int callsLeft() {
        return CALLS - calls;
    }

    private void count() {
        calls++;
        if (calls > CALLS) {
            throw new IllegalStateException("a test that goes on behind the 512th call tests nothing that is promised");
        }
    }
}
