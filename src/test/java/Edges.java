/** Checks about edges: what is taken, and what is refused and has changed nothing then. */
final class Edges {
    static final Class<IndexOutOfBoundsException> INDEX = IndexOutOfBoundsException.class;
    static final Class<IllegalArgumentException> ARGUMENT = IllegalArgumentException.class;
    static final Class<IllegalStateException> STATE = IllegalStateException.class;

    interface Call {
        long answer(Covenanter x);
    }

    interface CallWith {
        long answer(Covenanter x, int number);
    }

    private final Checks checks;

    Edges(String name) {
        checks = new Checks(name);
    }

    void about(String what) {
        checks.about(what);
    }

    void end() {
        checks.end();
    }

    void due(long want, Checks.Call call) {
        checks.due(want, call);
    }

    void dueText(Covenanter x, int term, int quarter, String want) {
        checks.dueText(x, term, quarter, want);
    }

    void taken(long want, Scenes.Scene scene, Call call) {
        Covenanter x = Scenes.made(scene);
        checks.due(want, () -> call.answer(x));
    }

    /** The call throws, where it is checked elsewhere that it changes nothing. */
    void throwsOnly(Class<? extends RuntimeException> want, Scenes.Scene scene, Call call) {
        Covenanter x = Scenes.made(scene);
        checks.due(want, () -> call.answer(x));
    }

    /** The call throws, and whatever is asked then is answered as if it had never been made. */
    void refused(Class<? extends RuntimeException> want, Scenes.Scene scene, Call call) {
        for (Trace.Part part : Trace.PARTS) {
            Covenanter x = Scenes.made(scene);
            checks.due(want, () -> call.answer(x));
            checks.due(Trace.of(Scenes.made(scene), part), Trace.of(x, part));
        }
    }

    /** Refused in a new checker, in one with some of everything, and in one with all places full. */
    void refusedAlways(Class<? extends RuntimeException> want, Call call) {
        refused(want, Scenes.NOTHING, call);
        refused(want, Scenes::some, call);
        refused(want, Scenes::full, call);
    }

    /** The least and the greatest number are taken, those beyond them refused. */
    void range(int least, int most, Class<? extends RuntimeException> want, Scenes.Scene scene, CallWith call) {
        takenWithout(scene, call, least);
        takenWithout(scene, call, most);
        refusedBeyond(least, most, want, scene, call);
    }

    void refusedBeyond(int least, int most, Class<? extends RuntimeException> want, Scenes.Scene scene,
            CallWith call) {
        for (int number : new int[] {Integer.MIN_VALUE, least - 1, most + 1, Integer.MAX_VALUE}) {
            refused(want, scene, x -> call.answer(x, number));
        }
    }

    private void takenWithout(Scenes.Scene scene, CallWith call, int number) {
        Covenanter x = Scenes.made(scene);
        String told = Checks.told(() -> call.answer(x, number));
        checks.due("taken", Checks.isAnswer(told) ? "taken" : told + " at " + number);
    }
}
