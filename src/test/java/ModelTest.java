import java.util.ArrayList;
import java.util.List;
import java.util.Random;

/** Long runs of calls by chance (always the same ones), each answer beside the model's. */
public final class ModelTest {
    private static final int RUNS = 1500, CALLS = 512;
    private static final int[] ODD = {-1, -2, 8, 9, 40, 41, 99, 601, 1000, Integer.MAX_VALUE, Integer.MIN_VALUE};
    private static final String[] SORTS = {"plain", "sick", "child", "driver", "stranger"};
    private static final String[] WORDS = {"law", "way", "hill", "person", "car", "quarrel", "plain", "dog", "0", "7", "0000", ";", "\n", "!", "100", "A"};

    private final Random dice;
    private final HomeDrives x = new HomeDrives();
    private final Model model = new Model();
    private final List<String> log = new ArrayList<>();
    private boolean wrong = false;

    private ModelTest(long seed) {
        dice = new Random(seed);
    }

    public static void main(String[] args) {
        for (int run = 0; run < RUNS; run++) {
            ModelTest one = new ModelTest(run);
            one.play();
            if (one.wrong) {
                for (String call : one.log) {
                    System.out.println(call);
                }
                Due.due("run " + run, 1, 0);
                break;
            }
        }
        Due.end();
    }

    private void play() {
        while (log.size() < CALLS && !wrong) {
            if (dice.nextInt(40) == 0 || log.isEmpty()) {
                feed(dice.nextInt(4) == 0 ? spoil(text()) : text());
            } else {
                call();
            }
        }
    }

    private void same(String call, int got, int want) {
        log.add(call + " answered " + got + ", due is " + want);
        wrong |= got != want;
    }

    private int below(int n) {
        return dice.nextInt(n);
    }

    /** Mostly within 0 to n - 1. */
    private int about(int n) {
        return below(25) == 0 ? ODD[below(ODD.length)] : below(25) == 0 ? n : below(n);
    }

    private int minute() {
        return below(30) == 0 ? ODD[below(ODD.length)] : below(3) == 0 ? 60 * below(11) : below(601);
    }

    private void feed(String text) {
        for (int from = 0; from < text.length(); from += 8) {
            int n = Math.min(8, text.length() - from);
            long w = dice.nextLong();
            for (int i = 0; i < n; i++) {
                w = w << 8 | text.charAt(from + i);
            }
            same("feed(" + w + ", " + n + ")", x.feed(w, n), model.feed(w, n));
        }
        same("evening() of " + text, x.evening(), model.evening());
        same("fault()", x.fault(), model.fault());
    }

    private String text() {
        StringBuilder b = new StringBuilder("law " + below(51) + " " + (1 + below(20)) + ";");
        int ways = below(17);
        for (int i = 0; i < ways; i++) {
            int a = below(8);
            b.append("way ").append(a).append(' ').append((a + 1 + below(7)) % 8).append(' ').append(1 + below(below(2) == 0 ? 6 : 99)).append(';');
        }
        for (int i = below(4); i > 0; i--) {
            b.append("hill ").append(1 + below(7)).append(';');
        }
        int people = below(5) == 0 ? below(8) : 4 + below(4);
        for (int i = 0; i < people; i++) {
            int most = below(2) == 0 ? 1 : 10;
            b.append("person ").append(SORTS[below(3) == 0 ? below(5) : 3 * below(2)]).append(' ');
            b.append(1 + below(7)).append(' ').append(below(most)).append(";");
        }
        int first = below(7);
        for (int i = Math.min(people, below(4)); i > 0; i--) {
            b.append("car ").append((first + i) % people).append(' ').append(1 + below(4)).append(' ').append(below(2)).append(";");
        }
        for (int i = people < 2 ? 0 : below(4); i > 0; i--) {
            int a = below(people);
            b.append("quarrel ").append(a).append(' ').append((a + 1 + below(people - 1)) % people).append(";");
        }
        return b.length() <= 500 ? b.toString() : "law 5 5;";
    }

    private String spoil(String text) {
        StringBuilder b = new StringBuilder(text);
        int at = below(b.length());
        switch (below(5)) {
            case 0:
                b.setLength(at);
                break;
            case 1:
                b.insert(at, WORDS[below(WORDS.length)]);
                break;
            case 2:
                b.deleteCharAt(at);
                break;
            case 3:
                b.setCharAt(at, (char) below(256));
                break;
            default:
                int end = b.indexOf(";", at);
                b.insert(end < 0 ? b.length() : end + 1, WORDS[below(6)] + " 1 2 1;");
                break;
        }
        return b.length() <= 500 ? b.toString() : text;
    }

    private void call() {
        int a = about(7), b = about(7), what = about(4), minute = minute();
        switch (below(12)) {
            case 0:
            case 1:
                rowCall();
                break;
            case 2:
                int n = 1 + about(9);
                same("drink(" + a + ", " + n + ")", x.drink(a, n), model.drink(a, n));
                break;
            case 3:
                same("undo()", x.undo(), model.undo());
                break;
            case 4:
                same("person(" + a + ", " + what + ")", x.person(a, what), model.person(a, what));
                same("car(" + what + ", " + b + ")", x.car(what, b), model.car(what, b));
                same("far(" + a + ", " + b + ")", x.far(a, b), model.far(a, b));
                break;
            case 5:
                mayCall(a, minute);
                break;
            case 6:
            case 7:
                int k = about(6) - 1;
                same("home(" + minute + ", " + b + ")", x.home(minute, b), model.home(minute, b));
                same("order(" + minute + ", " + what + ", " + k + ")", x.order(minute, what, k), model.order(minute, what, k));
                break;
            case 8:
                same("detour(" + minute + ", " + a + ")", x.detour(minute, a), model.detour(minute, a));
                same("fetch(" + minute + ")", x.fetch(minute), model.fetch(minute));
                same("house(" + what + ")", x.house(what), model.house(what));
                break;
            case 9:
                imageCall(about(2));
                break;
            case 10:
                same("as(" + a + ", " + b + ")", x.as(a, b), model.as(a, b));
                same("ask(" + a + ", " + what + ")", x.ask(a, what), model.ask(a, what));
                same("kind(" + a + ")", x.kind(a), model.kind(a));
                break;
            default:
                same("trace(" + a + ")", x.trace(a), model.trace(a));
                same("count(" + b + ")", x.count(b), model.count(b));
                same("status()", x.status(), model.status());
                break;
        }
    }

    private void mayCall(int a, int minute) {
        int n = about(10), what = about(2);
        same("may(" + a + ", " + minute + ", " + what + ")", x.may(a, minute, what), model.may(a, minute, what));
        same("soon(" + a + ")", x.soon(a), model.soon(a));
        same("odds(" + a + ", " + minute + ", " + n + ", " + what + ")", x.odds(a, minute, n, what), model.odds(a, minute, n, what));
        same("goes(" + minute + ")", x.goes(minute), model.goes(minute));
    }

    private void imageCall(int k) {
        if (below(2) == 0) {
            same("image(" + k + ")", x.image(k), model.image(k));
        } else if (below(3) == 0) {
            same("restore(" + k + ")", x.restore(k), model.restore(k));
        }
    }

    private void rowCall() {
        // Few rows, so that they meet often.
        int row = about(3), other = about(3), i = about(8), j = about(8), n = below(8) == 0 ? about(41) : about(6);
        switch (below(9)) {
            case 0:
                int lane = about(3);
                same("row(" + row + ", " + lane + ", " + n + ")", x.row(row, lane, n), model.row(row, lane, n));
                break;
            case 1:
            case 2:
            case 3:
                int v = below(5) == 0 ? dice.nextInt() : below(6) == 0 ? below(128) : below(4);
                same("set(" + row + ", " + i + ", " + v + ")", x.set(row, i, v), model.set(row, i, v));
                break;
            case 4:
                String call = "copy(" + row + ", " + i + ", " + other + ", " + j + ", " + n + ")";
                same(call, x.copy(row, i, other, j, n), model.copy(row, i, other, j, n));
                break;
            case 5:
                if (below(4) == 0) {
                    same("drop(" + row + ")", x.drop(row), model.drop(row));
                }
                break;
            case 6:
                int w = about(3);
                same("turn(" + row + ", " + n + ", " + w + ")", x.turn(row, n, w), model.turn(row, n, w));
                break;
            default:
                int most = about(2);
                same("gloves(" + row + ", " + n + ", " + most + ")", x.gloves(row, n, most), model.gloves(row, n, most));
                break;
        }
        same("status()", x.status(), model.status());
    }
}
