/** Makes of each method one call on an object, a boolean being 1 or 0; which object, those below say. */
abstract class Calls implements Face {
    interface Call {
        long on(SharedRegisters x);
    }

    abstract long make(Call call);

    @Override
    public int ask(int asker, int key, int change, long argument) {
        return (int) make(x -> x.ask(asker, key, change, argument));
    }

    @Override
    public int give(int asker) {
        return (int) make(x -> x.give(asker));
    }

    @Override
    public void plan(int asker, int which, int set, int enough) {
        make(x -> {
            x.plan(asker, which, set, enough);
            return 0;
        });
    }

    @Override
    public int take(int i) {
        return (int) make(x -> x.take(i));
    }

    @Override
    public int run(int n) {
        return (int) make(x -> x.run(n));
    }

    @Override
    public int lose(int i) {
        return (int) make(x -> x.lose(i));
    }

    @Override
    public int twice(int i) {
        return (int) make(x -> x.twice(i));
    }

    @Override
    public boolean down(int keeper, boolean is) {
        return make(x -> x.down(keeper, is) ? 1 : 0) == 1;
    }

    @Override
    public int copy(int to, int from) {
        return (int) make(x -> x.copy(to, from));
    }

    @Override
    public int messages() {
        return (int) make(x -> x.messages());
    }

    @Override
    public int message(int i, int what) {
        return (int) make(x -> x.message(i, what));
    }

    @Override
    public int keeper(int keeper, int key, int what) {
        return (int) make(x -> x.keeper(keeper, key, what));
    }

    @Override
    public long kept(int keeper, int key) {
        return make(x -> x.kept(keeper, key));
    }

    @Override
    public int asker(int asker, int what) {
        return (int) make(x -> x.asker(asker, what));
    }

    @Override
    public int request(int r, int what) {
        return (int) make(x -> x.request(r, what));
    }

    @Override
    public long result(int r) {
        return make(x -> x.result(r));
    }
}
