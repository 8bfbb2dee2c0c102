/** Promises 27 to 30: kind, as, ask, trace. */
public final class AskTest {
    private static final int KIND = -1000013;
    private static final String FIVE = "law 9 9;person plain 1 4;person driver 2 3;person stranger 3 2;person sick 4 1;person child 5 6;";

    public static void main(String[] args) {
        kinds();
        takenAs();
        asks();
        wrongAsks();
        Due.end();
    }

    private static void kinds() {
        HomeDrives x = Due.at(FIVE);
        for (int p = 0; p < 5; p++) {
            Due.due("kind(" + p + ")", x.kind(p), p + 1);
        }
        Due.due("kind(5)", x.kind(5), HomeDrives.BAD);
        Due.due("kind(-1)", x.kind(-1), HomeDrives.BAD);
    }

    private static void takenAs() {
        HomeDrives x = Due.at(FIVE);
        String[] fits = {"01", "012", "013", "04", "045"};
        for (int p = 0; p < 5; p++) {
            for (int kind = 0; kind < 6; kind++) {
                boolean fit = fits[p].indexOf('0' + kind) >= 0;
                Due.due("as(" + p + ", " + kind + ")", x.as(p, kind), fit ? p : KIND);
                Due.due("status", x.status(), fit ? 0 : 3);
            }
        }
        Due.due("as(5, 0)", x.as(5, 0), HomeDrives.BAD);
        Due.due("as(-1, 0)", x.as(-1, 0), HomeDrives.BAD);
        Due.due("as(0, 6)", x.as(0, 6), HomeDrives.BAD);
        Due.due("as(0, -1)", x.as(0, -1), HomeDrives.BAD);
    }

    private static void dueAsk(HomeDrives x, int person, int what, int answer, int... trace) {
        String call = "ask(" + person + ", " + what + ")";
        Due.due(call, x.ask(person, what), answer);
        for (int i = 0; i < trace.length; i++) {
            Due.due("trace(" + i + ") of " + call, x.trace(i), trace[i]);
        }
        Due.due("the end of the trace of " + call, x.trace(trace.length), HomeDrives.NONE);
    }

    private static void asks() {
        HomeDrives x = Due.at(FIVE);
        dueAsk(x, 0, 0, 4 + 10, 11, 10, 21, 20);
        dueAsk(x, 0, 1, 10, 21, 20);
        dueAsk(x, 1, 0, 3 + 21 - 1000, 11, 10, 22, 21, 20);
        dueAsk(x, 1, 1, 21 - 1000, 22, 21, 20);
        dueAsk(x, 2, 0, -(2 + 64), 12, 11, 10, 24, 21, 20);
        dueAsk(x, 2, 1, 64, 24, 21, 20);
        dueAsk(x, 3, 0, 1 - 100, 13, 10);
        dueAsk(x, 3, 1, 3 + 99, 23, 20, 13, 10);
        dueAsk(x, 4, 0, 2 * (6 - 100), 14, 13, 10);
        dueAsk(x, 4, 1, 4 + 188, 23, 20, 14, 13, 10);
        x.drink(3, 9);
        dueAsk(x, 3, 0, 10 - 100, 13, 10);
    }

    private static void wrongAsks() {
        HomeDrives x = Due.at(FIVE);
        Due.due("trace of none", x.trace(0), HomeDrives.NONE);
        x.ask(3, 0);
        Due.due("ask(5, 0)", x.ask(5, 0), HomeDrives.BAD);
        Due.due("ask(-1, 0)", x.ask(-1, 0), HomeDrives.BAD);
        Due.due("ask(0, 2)", x.ask(0, 2), HomeDrives.BAD);
        Due.due("ask(0, -1)", x.ask(0, -1), HomeDrives.BAD);
        Due.due("the trace stays", x.trace(1), 10);
        Due.due("trace(-1)", x.trace(-1), HomeDrives.NONE);
        Due.due("trace(16)", x.trace(16), HomeDrives.NONE);
        Due.due("trace(max)", x.trace(Integer.MAX_VALUE), HomeDrives.NONE);
        Due.due("trace(min)", x.trace(Integer.MIN_VALUE), HomeDrives.NONE);
    }
}
