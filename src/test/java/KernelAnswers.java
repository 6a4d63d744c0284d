/** A kernel, read as Answers. */
record KernelAnswers(TaskKernel kernel) implements Answers {
    @Override
    public int seen(int t, int w) {
        return kernel.seen(t, w);
    }

    @Override
    public int held(int m, int w) {
        return kernel.held(m, w);
    }

    @Override
    public int event(int k, int w) {
        return kernel.event(k, w);
    }

    @Override
    public int response(int t) {
        return kernel.response(t);
    }

    @Override
    public double load() {
        return kernel.load();
    }

    @Override
    public int look(int which) {
        return kernel.look(which);
    }
}
