/** The methods of the document's face: tests make them of an object, or of the model. */
interface Face {
    int ask(int asker, int key, int change, long argument);

    int give(int asker);

    void plan(int asker, int which, int set, int enough);

    int take(int i);

    int run(int n);

    int lose(int i);

    int twice(int i);

    boolean down(int keeper, boolean is);

    int copy(int to, int from);

    int messages();

    int message(int i, int what);

    int keeper(int keeper, int key, int what);

    long kept(int keeper, int key);

    int asker(int asker, int what);

    int request(int r, int what);

    long result(int r);
}
