/** The calls of the face that can be refused, so that a test can name one together with its arguments. */
enum Call {
    SET_GROUND("setGround", (w, a) -> w.setGround(a[0], a[1], a[2])),
    LAY("lay", (w, a) -> w.lay(a[0], a[1], a[2])),
    SET_RIVER("setRiver", (w, a) -> w.setRiver(a[0], a[1])),
    ADD_PUMP("addPump", (w, a) -> w.addPump(a[0], a[1], a[2], a[3])),
    RUN("run", (w, a) -> w.run(a[0]) ? 1 : 0),
    ADD_GAUGE("addGauge", (w, a) -> w.addGauge(a[0], a[1], a[2])),
    ADD_REFUGE("addRefuge", (w, a) -> w.addRefuge(a[0], a[1], a[2])),
    SETTLE("settle", (w, a) -> w.settle(a[0], a[1], a[2])),
    ADD_CALLER("addCaller", (w, a) -> w.addCaller(a[0], a[1])),
    CELL("cell", (w, a) -> w.cell(a[0], a[1], a[2])),
    PUMP("pump", (w, a) -> w.pump(a[0], a[1])),
    GAUGE("gauge", (w, a) -> w.gauge(a[0], a[1])),
    REFUGE("refuge", (w, a) -> w.refuge(a[0], a[1])),
    HOUSEHOLD("household", (w, a) -> w.household(a[0], a[1])),
    CALLER("caller", (w, a) -> w.caller(a[0], a[1])),
    COUNT("count", (w, a) -> w.count(a[0])),
    PASS("pass", (w, a) -> w.pass(a[0])),
    FORESEE("foresee", (w, a) -> w.foresee(a[0], a[1])),
    RINGS("rings", (w, a) -> w.rings(a[0])),
    ADVISE("advise", (w, a) -> w.advise(a[0]));

    private interface Made {
        long answer(FloodWardens w, int[] arguments);
    }

    private final String title;
    private final Made made;

    Call(String title, Made made) {
        this.title = title;
        this.made = made;
    }

    /** The answer, or the name of the exception that the call throws. */
    String on(FloodWardens w, int... arguments) {
        try {
            return Long.toString(made.answer(w, arguments));
        } catch (RuntimeException thrown) {
            return thrown.getClass().getSimpleName();
        }
    }

    String told(int... arguments) {
        StringBuilder text = new StringBuilder(title).append('(');
        for (int number = 0; number < arguments.length; number++) {
            text.append(number == 0 ? "" : ", ").append(arguments[number]);
        }
        return text.append(')').toString();
    }
}
