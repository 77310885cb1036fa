/** The document's public face, so that a test can make the same calls on the class and on a model of it. */
interface Face {
    boolean sign(int c);

    int run(boolean forced);

    int dry(boolean forced);

    int changed(int i);

    int undo();

    int drop();

    int join();

    boolean reached(int n);

    int kind(int n, int key);

    int value(int n, int key);

    int object(int n, int what);

    int told(int what);
}
