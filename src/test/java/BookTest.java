/** Promises 23 and 24: turn, gloves. */
public final class BookTest {
    private static final int NULL = -1000011, PLACE = -1000012;
    private static final String THREE = "law 9 9;person plain 1 0;person child 1 0;person sick 1 0;";

    public static void main(String[] args) {
        turns();
        wrongTurns();
        gloves();
        wrongGloves();
        Due.end();
    }

    private static void put(HomeDrives x, int row, int lane, int... items) {
        x.row(row, lane, items.length);
        for (int i = 0; i < items.length; i++) {
            x.set(row, i, items[i]);
        }
    }

    private static void dueTurn(HomeDrives x, int n, int whose, int often, int more) {
        Due.due("turn(0, " + n + ", 0)", x.turn(0, n, 0), whose);
        Due.due("turn(0, " + n + ", 1)", x.turn(0, n, 1), often);
        Due.due("turn(0, " + n + ", 2)", x.turn(0, n, 2), more);
    }

    private static void turns() {
        HomeDrives x = Due.at(THREE);
        put(x, 0, 1, 0, 2, 0, 1, 1, 1, 2, 9);
        dueTurn(x, 0, 0, 0, 0);
        dueTurn(x, 1, 1, 0, 2);
        dueTurn(x, 2, 1, 0, 1);
        dueTurn(x, 3, 1, 0, 3);
        dueTurn(x, 4, 1, 1, 2);
        dueTurn(x, 5, 2, 1, 1);
        dueTurn(x, 7, 0, 2, 2);
        HomeDrives one = Due.at("law 9 9;person plain 1 0;");
        one.row(0, 2, 40);
        dueTurn(one, 40, 0, 40, 0);
        HomeDrives seven = Due.at("law 9 9;" + "person plain 1 0;".repeat(7));
        seven.row(0, 2, 40);
        dueTurn(seven, 40, 1, 0, 240);
    }

    private static void wrongTurns() {
        HomeDrives x = Due.at(THREE);
        put(x, 0, 0, 2, 3, 0, -1);
        Due.due("turn(8, 0, 0)", x.turn(8, 0, 0), HomeDrives.BAD);
        Due.due("turn(-1, 0, 0)", x.turn(-1, 0, 0), HomeDrives.BAD);
        Due.due("turn(0, -1, 0)", x.turn(0, -1, 0), HomeDrives.BAD);
        Due.due("turn(0, 41, 0)", x.turn(0, 41, 0), HomeDrives.BAD);
        Due.due("turn(0, 0, 3)", x.turn(0, 0, 3), HomeDrives.BAD);
        Due.due("turn(0, 0, -1)", x.turn(0, 0, -1), HomeDrives.BAD);
        Due.due("turn(1, 41, 0)", x.turn(1, 41, 0), HomeDrives.BAD);
        Due.due("turn(1, 0, 0)", x.turn(1, 0, 0), NULL);
        Due.due("turn(0, 5, 0): the place ahead of an item", x.turn(0, 5, 0), PLACE);
        Due.due("turn(0, 1, 0)", x.turn(0, 1, 0), 0);
        Due.due("turn(0, 2, 0): 3 is nobody", x.turn(0, 2, 0), HomeDrives.BAD);
        x.set(0, 1, 0);
        Due.due("turn(0, 3, 2)", x.turn(0, 3, 2), 3);
        Due.due("turn(0, 4, 0): -1 is nobody", x.turn(0, 4, 0), HomeDrives.BAD);
        HomeDrives y = Due.at("law 9 9;");
        Due.due("no people", y.turn(8, 0, 0), HomeDrives.STATE);
        Due.due("no people: gloves", y.gloves(8, 0, 0), HomeDrives.STATE);
    }

    private static void dueGloves(HomeDrives x, int n, int all, int most) {
        Due.due("gloves(0, " + n + ", 0)", x.gloves(0, n, 0), all);
        Due.due("gloves(0, " + n + ", 1)", x.gloves(0, n, 1), most);
    }

    private static void gloves() {
        HomeDrives x = Due.at(THREE);
        put(x, 0, 0, 6, 7, 4, 0, 2, 2);
        dueGloves(x, 1, 6, 1);
        dueGloves(x, 2, 6, 1);
        dueGloves(x, 3, 4, 2);
        dueGloves(x, 4, 0, 2);
        dueGloves(x, 5, 0, 1);
        dueGloves(x, 6, 0, 1);
        put(x, 0, 2, 0);
        dueGloves(x, 1, 0, 0);
        HomeDrives seven = Due.at("law 9 9;" + "person plain 1 0;".repeat(7));
        put(seven, 0, 0, 127, 64);
        dueGloves(seven, 1, 127, 0);
        dueGloves(seven, 2, 64, 6);
        seven.row(0, 1, 40);
        dueGloves(seven, 40, 0, 0);
    }

    private static void wrongGloves() {
        HomeDrives x = Due.at(THREE);
        put(x, 0, 2, 7, 8, -1, 0x40000000);
        Due.due("gloves(8, 1, 0)", x.gloves(8, 1, 0), HomeDrives.BAD);
        Due.due("gloves(-1, 1, 0)", x.gloves(-1, 1, 0), HomeDrives.BAD);
        Due.due("gloves(0, 0, 0)", x.gloves(0, 0, 0), HomeDrives.BAD);
        Due.due("gloves(0, 41, 0)", x.gloves(0, 41, 0), HomeDrives.BAD);
        Due.due("gloves(0, 1, 2)", x.gloves(0, 1, 2), HomeDrives.BAD);
        Due.due("gloves(0, 1, -1)", x.gloves(0, 1, -1), HomeDrives.BAD);
        Due.due("gloves(1, 1, 0)", x.gloves(1, 1, 0), NULL);
        Due.due("gloves(0, 5, 0)", x.gloves(0, 5, 0), PLACE);
        Due.due("gloves(0, 1, 0)", x.gloves(0, 1, 0), 7);
        Due.due("8 is no set", x.gloves(0, 2, 0), HomeDrives.BAD);
        x.set(0, 1, 0);
        Due.due("-1 is no set", x.gloves(0, 3, 1), HomeDrives.BAD);
        x.set(0, 2, 0);
        Due.due("a high bit is no set", x.gloves(0, 4, 1), HomeDrives.BAD);
        x.row(3, 0, 0);
        Due.due("a row of none", x.gloves(3, 1, 0), PLACE);
    }
}
