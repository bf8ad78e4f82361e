import java.util.Arrays;

/** A call of the face as data, so that the same one can be made on several objects. */
record FaceCall(String name, int... args) {
    /** Makes the call; a boolean counts 1 or 0, and begin answers 0. */
    long on(ClauseGlass x) {
        switch (name) {
            case "sort": return x.sort();
            case "con": return x.con(args[0], args[1], args[2], args[3]);
            case "any": return x.any(args[0]);
            case "number": return x.number(args[0]);
            case "made": return x.made(args[0], args[1], args[2]);
            case "begin": x.begin(args[0]); return 0;
            case "clause": return x.clause(args[0]) ? 1 : 0;
            case "takes": return x.takes(args[0]) ? 1 : 0;
            case "open": return x.open() ? 1 : 0;
            case "covers": return x.covers(args[0], args[1]) ? 1 : 0;
            case "meets": return x.meets(args[0], args[1]) ? 1 : 0;
            case "lives": return x.lives(args[0]) ? 1 : 0;
            case "count": return x.count(args[0]);
            // An error, so that no test takes it for an exception of the class.
            default: throw new AssertionError("no such call: " + name);
        }
    }

    /** Makes the call; a thrown exception is told behind "throws.". */
    String answerOf(ClauseGlass x) {
        return Check.answer(() -> on(x));
    }

    @Override
    public String toString() {
        return name + Arrays.toString(args).replace('[', '(').replace(']', ')');
    }
}
