/** Calls that are to be refused, with nothing changed by them, and calls that are to be taken. */
final class Calls {
    interface Begin {
        Sleevehall hall();
    }

    interface Call {
        long on(Sleevehall x);
    }

    interface CallWith {
        long on(Sleevehall x, int number);
    }

    private Calls() {
    }

    /** The call throws what is due, also when it is called again, and leaves the hall as one that was never called so. */
    static void refused(String what, String due, Begin begin, Call call) {
        Sleevehall x = begin.hall();
        Due.same(what, due, Due.told(() -> call.on(x)));
        Due.same(what + ", called again", due, Due.told(() -> call.on(x)));
        Due.same("what stands after " + what, Probe.of(begin.hall()), Probe.of(x));
    }

    static void taken(String what, Begin begin, Call call) {
        String told = Due.told(() -> call.on(begin.hall()));
        Due.same(what, "taken", told.endsWith("Exception") ? told : "taken");
    }

    /** A number of a range: its ends are taken, the next numbers on both sides are refused, and the farthest ones. */
    static void range(String what, String due, int least, int greatest, Begin begin, CallWith call) {
        for (int right : new int[] {least, greatest}) {
            taken(what + " " + right, begin, x -> call.on(x, right));
        }
        for (int wrong : new int[] {least - 1, greatest + 1, Integer.MIN_VALUE, Integer.MAX_VALUE}) {
            refused(what + " " + wrong, due, begin, x -> call.on(x, wrong));
        }
    }

    static void players(String what, Begin begin, CallWith call) {
        range(what, Due.INDEX, 0, Halls.PLAYERS - 1, begin, call);
    }

    /** The begin is to have the six kinds. */
    static void kinds(String what, Begin begin, CallWith call) {
        range(what, Due.INDEX, 0, Halls.EFFECTS.length - 1, begin, call);
    }
}
