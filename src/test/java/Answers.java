/** The calls of the face that change nothing, so that a kernel and the model of the tests can be read alike. */
interface Answers {
    int seen(int t, int w);

    int held(int m, int w);

    int event(int k, int w);

    int response(int t);

    double load();

    int look(int which);
}
