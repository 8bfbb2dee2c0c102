import java.util.ArrayList;
import java.util.List;
import java.util.function.ToIntFunction;

/** "What is refused, or found, changes nothing but status()": each refusal on an object of its own, all looked at behind it. */
final class EdgeRefusals {
    private static final int MIN = Integer.MIN_VALUE, MAX = Integer.MAX_VALUE;
    private static final String EVENING = "law 10 5;way 0 1 8;way 1 2 6;hill 2;person plain 1 1;person sick 2 1;person driver 1 0;"
        + "car 0 2 1;car 2 1 0;quarrel 1 2;";

    private EdgeRefusals() {
    }

    static void run() {
        Sentences.says(Sentences.TERMS, "What is refused, or found, changes nothing but status().");
        List<Integer> untouched = look(rich());
        dueUnchanged("a row", untouched, EdgeRefusals::refusedRows);
        dueUnchanged("an evening", untouched, EdgeRefusals::refusedEvenings);
        dueUnchanged("who may, and home", untouched, EdgeRefusals::refusedHomes);
        dueUnchanged("a book", untouched, EdgeRefusals::refusedBooks);
        dueUnchanged("asked", untouched, EdgeRefusals::refusedAsks);
    }

    private interface Refused {
        void addTo(List<ToIntFunction<HomeDrives>> calls);
    }

    private static void dueUnchanged(String name, List<Integer> untouched, Refused refused) {
        List<ToIntFunction<HomeDrives>> calls = new ArrayList<>();
        refused.addTo(calls);
        for (int i = 0; i < calls.size(); i++) {
            HomeDrives x = rich();
            int answer = calls.get(i).applyAsInt(x);
            boolean isRefusal = answer < HomeDrives.NONE && answer >= -1000015;
            Due.due(name + ", refusal " + i + " (it answers " + answer + ")", isRefusal ? 1 : 0, 1);
            List<Integer> now = look(x);
            Due.due(name + ", refusal " + i + ": " + now + " instead of " + untouched, now.equals(untouched) ? 1 : 0, 1);
        }
    }

    private static HomeDrives rich() {
        HomeDrives x = Due.at("law 0 1;person child 3 7;");
        x.image(0);
        Due.read(x, EVENING);
        for (int i = 0; i < 10; i++) {
            x.drink(1, 9);
        }
        x.image(1);
        x.drink(1, 5);
        x.drink(0, 2);
        for (int lane = 0; lane < 3; lane++) {
            x.row(lane, lane, 3);
            for (int i = 0; i < 3; i++) {
                x.set(lane, i, 1 + lane + i);
            }
        }
        x.ask(1, 1);
        Due.read(x, "law 0 0;");
        for (int i = 0; i < 55; i++) {
            x.feed(0x2020202020202020L, 8);
        }
        Due.feed(x, EVENING.substring(0, 50));
        x.feed(' ', 1);
        x.feed(' ', 1);
        x.feed(' ', 1);
        return x;
    }

    /** All that can be seen but status(); what is looked at last changes the object. */
    private static List<Integer> look(HomeDrives x) {
        List<Integer> seen = new ArrayList<>();
        for (int what = 0; what <= 6; what++) {
            seen.add(x.count(what));
        }
        seen.add(x.fault());
        for (int i = 0; i < 8; i++) {
            seen.add(x.trace(i));
        }
        lookAtEvening(x, seen);
        for (int row = 0; row < 8; row++) {
            lookAtRow(x, row, seen);
        }
        for (int i = 0; i < 25; i++) {
            seen.add(x.undo());
            seen.add(x.person(0, 1));
            seen.add(x.person(1, 1));
        }
        for (int k = 0; k < 2; k++) {
            seen.add(x.restore(k));
            lookAtEvening(x, seen);
        }
        seen.add(x.evening());
        return seen;
    }

    private static void lookAtEvening(HomeDrives x, List<Integer> seen) {
        for (int p = 0; p < 4; p++) {
            for (int what = 0; what <= 3; what++) {
                seen.add(x.person(p, what));
            }
            seen.add(x.kind(p));
            seen.add(x.soon(p));
            seen.add(x.may(p, 60, 0));
        }
        for (int car = 0; car < 3; car++) {
            for (int what = 0; what <= 2; what++) {
                seen.add(x.car(car, what));
            }
        }
        for (int site = 0; site < 4; site++) {
            seen.add(x.far(0, site));
        }
        for (int minute = 0; minute <= 600; minute += 300) {
            seen.add(x.goes(minute));
            seen.add(x.home(minute, 2));
            seen.add(x.order(minute, 0, -1));
        }
    }

    private static void lookAtRow(HomeDrives x, int row, List<Integer> seen) {
        for (int i = 0; i < 3; i++) {
            // Of a row with sets of people the items so far tell the next one, beside what all had.
            seen.add(x.gloves(row, i + 1, 0));
            seen.add(x.gloves(row, i + 1, 1));
        }
        seen.add(x.drop(row));
    }

    private static void refusedRows(List<ToIntFunction<HomeDrives>> calls) {
        for (int row : new int[] {-1, 8, MIN, MAX}) {
            calls.add(x -> x.row(row, 0, 1));
            calls.add(x -> x.set(row, 0, 1));
            calls.add(x -> x.copy(row, 0, 0, 0, 1));
            calls.add(x -> x.copy(0, 0, row, 0, 1));
            calls.add(x -> x.drop(row));
        }
        for (int lane : new int[] {-1, 3, MIN, MAX}) {
            calls.add(x -> x.row(0, lane, 1));
        }
        for (int n : new int[] {-1, 41, MIN, MAX}) {
            calls.add(x -> x.row(0, 0, n));
            calls.add(x -> x.copy(0, 0, 0, 1, n));
            calls.add(x -> x.copy(0, n, 0, 1, 1));
            calls.add(x -> x.copy(0, 1, 0, n, 1));
            calls.add(x -> x.set(0, n, 9));
        }
        calls.add(x -> x.set(0, 3, 9));
        calls.add(x -> x.set(4, 0, 9));
        calls.add(x -> x.copy(0, 0, 0, 1, 3));
        calls.add(x -> x.copy(0, 0, 1, 0, 2));
        calls.add(x -> x.copy(4, 0, 0, 0, 1));
        calls.add(x -> x.copy(0, 0, 4, 0, 1));
        calls.add(x -> x.drop(4));
    }

    private static void refusedEvenings(List<ToIntFunction<HomeDrives>> calls) {
        for (int n : new int[] {-1, 0, 9, 64, MIN, MAX}) {
            calls.add(x -> x.feed(-1L, n));
        }
        calls.add(x -> x.feed(-1L, 8));
        for (int n : new int[] {-1, 0, 10, MIN, MAX}) {
            calls.add(x -> x.drink(0, n));
        }
        for (int person : new int[] {-1, 3, MIN, MAX}) {
            calls.add(x -> x.drink(person, 1));
            calls.add(x -> x.person(person, 0));
            calls.add(x -> x.car(person, 0));
        }
        calls.add(x -> x.drink(1, 9));
        calls.add(x -> x.person(0, 4));
        calls.add(x -> x.car(0, 3));
        calls.add(x -> x.far(8, 0));
        calls.add(x -> x.far(0, -1));
    }

    private static void refusedHomes(List<ToIntFunction<HomeDrives>> calls) {
        for (int minute : new int[] {-1, 601, MIN, MAX}) {
            calls.add(x -> x.may(0, minute, 0));
            calls.add(x -> x.odds(0, minute, 0, 0));
            calls.add(x -> x.goes(minute));
            calls.add(x -> x.home(minute, 0));
            calls.add(x -> x.order(minute, 0, 0));
            calls.add(x -> x.detour(minute, 0));
            calls.add(x -> x.fetch(minute));
        }
        calls.add(x -> x.soon(3));
        calls.add(x -> x.odds(0, 0, 10, 0));
        calls.add(x -> x.home(0, 5));
        calls.add(x -> x.order(0, 2, 0));
        calls.add(x -> x.order(0, 0, -2));
        calls.add(x -> x.detour(0, 3));
        calls.add(x -> x.house(2));
    }

    private static void refusedBooks(List<ToIntFunction<HomeDrives>> calls) {
        for (int n : new int[] {-1, 4, 40, 41, MIN, MAX}) {
            calls.add(x -> x.turn(0, n, 0));
            calls.add(x -> x.gloves(0, n, 0));
        }
        calls.add(x -> x.gloves(0, 0, 0));
        for (int row : new int[] {-1, 4, 8, MIN, MAX}) {
            calls.add(x -> x.turn(row, 1, 0));
            calls.add(x -> x.gloves(row, 1, 0));
        }
        // Row 2 has 3, 4 and 5: nobody is number 3.
        calls.add(x -> x.turn(2, 1, 0));
        for (int what : new int[] {-1, 3, MIN, MAX}) {
            calls.add(x -> x.turn(0, 1, what));
            calls.add(x -> x.gloves(0, 1, what));
        }
    }

    private static void refusedAsks(List<ToIntFunction<HomeDrives>> calls) {
        for (int k : new int[] {-1, 2, MIN, MAX}) {
            calls.add(x -> x.image(k));
            calls.add(x -> x.restore(k));
            calls.add(x -> x.ask(0, k));
        }
        for (int person : new int[] {-1, 3, MIN, MAX}) {
            calls.add(x -> x.kind(person));
            calls.add(x -> x.as(person, 0));
            calls.add(x -> x.ask(person, 0));
        }
        for (int kind : new int[] {-1, 2, 3, 4, 5, 6, MIN, MAX}) {
            calls.add(x -> x.as(0, kind));
        }
        calls.add(x -> x.count(-1));
        calls.add(x -> x.count(7));
    }
}
