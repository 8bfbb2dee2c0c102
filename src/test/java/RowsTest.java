/** Promises 2 to 5: row, set, copy, drop; with status, promise 32. */
public final class RowsTest {
    private static final int NULL = -1000011, PLACE = -1000012, SIZE = -1000014, STORE = -1000015;

    public static void main(String[] args) {
        makes();
        sets();
        copies();
        drops();
        tellsStatus();
        Due.end();
    }

    private static void makes() {
        HomeDrives x = new HomeDrives();
        Due.due("row(0, 0, 0)", x.row(0, 0, 0), 0);
        Due.due("row(7, 2, 40)", x.row(7, 2, 40), 40);
        Due.due("count(0)", x.count(0), 2);
        Due.due("row(8, 0, 1)", x.row(8, 0, 1), HomeDrives.BAD);
        Due.due("row(-1, 0, 1)", x.row(-1, 0, 1), HomeDrives.BAD);
        Due.due("row(0, 3, 1)", x.row(0, 3, 1), HomeDrives.BAD);
        Due.due("row(0, -1, 1)", x.row(0, -1, 1), HomeDrives.BAD);
        Due.due("row(0, 0, 41)", x.row(0, 0, 41), HomeDrives.BAD);
        Due.due("row(0, 0, max)", x.row(0, 0, Integer.MAX_VALUE), HomeDrives.BAD);
        Due.due("row(0, 0, -1)", x.row(0, 0, -1), SIZE);
        Due.due("row(0, 0, min)", x.row(0, 0, Integer.MIN_VALUE), SIZE);
        Due.due("row(8, 0, -1)", x.row(8, 0, -1), HomeDrives.BAD);
        Due.due("row(0, 3, -1)", x.row(0, 3, -1), HomeDrives.BAD);
        x.set(7, 39, 5);
        Due.due("a row that is refused stays", x.row(7, 2, -1), SIZE);
        Due.due("copy(7, 39, 7, 0, 1)", x.copy(7, 39, 7, 0, 1), 1);
        Due.due("set after it", x.set(7, 39, 6), 6);
        Due.due("row(7, 0, 2) anew", x.row(7, 0, 2), 2);
        Due.due("it has no item 2", x.set(7, 2, 0), PLACE);
        Due.due("drop(7)", x.drop(7), 2);
    }

    private static void sets() {
        HomeDrives x = new HomeDrives();
        x.row(0, 0, 1);
        x.row(1, 1, 1);
        x.row(2, 2, 1);
        Due.due("byte 127", x.set(0, 0, 127), 127);
        Due.due("byte 128", x.set(0, 0, 128), -128);
        Due.due("byte 256", x.set(0, 0, 256), 0);
        Due.due("byte -129", x.set(0, 0, -129), 127);
        Due.due("short 32767", x.set(1, 0, 32767), 32767);
        Due.due("short 32768", x.set(1, 0, 32768), -32768);
        Due.due("short 65535", x.set(1, 0, 65535), -1);
        Due.due("int min", x.set(2, 0, Integer.MIN_VALUE), Integer.MIN_VALUE);
        Due.due("int max", x.set(2, 0, Integer.MAX_VALUE), Integer.MAX_VALUE);
        Due.due("set(8, 0, 0)", x.set(8, 0, 0), HomeDrives.BAD);
        Due.due("set(-1, 0, 0)", x.set(-1, 0, 0), HomeDrives.BAD);
        Due.due("set(3, -1, 0)", x.set(3, -1, 0), NULL);
        Due.due("set(0, 1, 0)", x.set(0, 1, 0), PLACE);
        Due.due("set(0, -1, 0)", x.set(0, -1, 0), PLACE);
        Due.due("set(0, max, 0)", x.set(0, Integer.MAX_VALUE, 0), PLACE);
        Due.due("set(0, min, 0)", x.set(0, Integer.MIN_VALUE, 0), PLACE);
    }

    private static void copies() {
        HomeDrives x = Due.at("law 0 1;" + "person plain 1 0;".repeat(7));
        x.row(0, 0, 5);
        x.row(1, 0, 3);
        x.row(2, 1, 3);
        for (int i = 0; i < 5; i++) {
            x.set(0, i, 10 + i);
        }
        Due.due("overlap to the right", x.copy(0, 0, 0, 1, 3), 3);
        dueItems(x, 0, 10, 10, 11, 12, 14);
        Due.due("overlap to the left", x.copy(0, 1, 0, 0, 4), 4);
        dueItems(x, 0, 10, 11, 12, 14, 14);
        Due.due("none of none", x.copy(0, 5, 1, 3, 0), 0);
        Due.due("to another", x.copy(0, 2, 1, 1, 2), 2);
        dueItems(x, 1, 0, 12, 14);
        dueItems(x, 0, 10, 11, 12, 14, 14);
        Due.due("copy(8, ..)", x.copy(8, 0, 0, 0, 0), HomeDrives.BAD);
        Due.due("copy(.., 8, ..)", x.copy(3, 0, 8, 0, 0), HomeDrives.BAD);
        Due.due("copy(.., -1, ..)", x.copy(3, 0, -1, 0, 0), HomeDrives.BAD);
        Due.due("from a missing one", x.copy(3, -1, 0, 0, 0), NULL);
        Due.due("to a missing one", x.copy(2, 9, 3, 9, 9), NULL);
        Due.due("two lanes", x.copy(0, -1, 2, 0, 0), STORE);
        Due.due("two lanes, nothing", x.copy(0, 0, 2, 0, 0), STORE);
        Due.due("i below", x.copy(0, -1, 1, 0, 1), PLACE);
        Due.due("j below", x.copy(0, 0, 1, -1, 1), PLACE);
        Due.due("n below", x.copy(0, 0, 1, 0, -1), PLACE);
        Due.due("beyond a", x.copy(1, 1, 0, 0, 3), PLACE);
        Due.due("beyond b", x.copy(0, 0, 1, 1, 3), PLACE);
        Due.due("beyond a, none", x.copy(1, 4, 0, 0, 0), PLACE);
        Due.due("n max", x.copy(0, 1, 1, 1, Integer.MAX_VALUE), PLACE);
        Due.due("i max", x.copy(0, Integer.MAX_VALUE, 1, 1, 1), PLACE);
        Due.due("j max, n max", x.copy(0, 0, 1, Integer.MAX_VALUE, Integer.MAX_VALUE), PLACE);
        dueItems(x, 1, 0, 12, 14);
    }

    /** Items are told by gloves of one evening: who was there in all of it. */
    private static void dueItems(HomeDrives x, int row, int... want) {
        for (int i = 0; i < want.length; i++) {
            x.row(7, 0, 1);
            x.copy(row, i, 7, 0, 1);
            Due.due("item " + i + " of row " + row, x.gloves(7, 1, 0), want[i]);
        }
    }

    private static void drops() {
        HomeDrives x = new HomeDrives();
        x.row(4, 1, 17);
        Due.due("drop(4)", x.drop(4), 17);
        Due.due("drop(4) again", x.drop(4), NULL);
        Due.due("count(0)", x.count(0), 0);
        Due.due("drop(8)", x.drop(8), HomeDrives.BAD);
        Due.due("drop(-1)", x.drop(-1), HomeDrives.BAD);
        HomeDrives y = Due.at("law 0 1;person plain 1 0;");
        y.row(4, 0, 2);
        y.set(4, 1, 9);
        y.drop(4);
        y.row(4, 0, 2);
        Due.due("a new row is all 0", y.turn(4, 2, 1), 2);
    }

    private static void statusIsClearedByEach() {
        HomeDrives x = Due.at("law 0 1;person plain 1 0;");
        for (int call = 0; call < 9; call++) {
            x.row(0, 0, 1);
            x.drop(1);
            Due.due("status before call " + call, x.status(), 1);
            switch (call) {
                case 0 -> x.row(0, 0, 1);
                case 1 -> x.set(0, 0, 0);
                case 2 -> x.copy(0, 0, 0, 0, 1);
                case 3 -> x.drop(0);
                case 4 -> x.turn(0, 1, 0);
                case 5 -> x.turn(0, 1, 2);
                case 6 -> x.gloves(0, 1, 0);
                case 7 -> x.gloves(0, 1, 1);
                default -> x.as(0, 0);
            }
            Due.due("status after call " + call, x.status(), 0);
        }
    }

    private static void tellsStatus() {
        HomeDrives x = Due.at("law 0 1;person plain 1 0;");
        Due.due("status at first", x.status(), 0);
        x.set(0, 0, 0);
        Due.due("status of NULL", x.status(), 1);
        x.row(0, 0, 2);
        Due.due("status of a call without one", x.status(), 0);
        x.set(0, 2, 0);
        Due.due("status of PLACE", x.status(), 2);
        x.row(9, 0, 0);
        Due.due("BAD leaves it", x.status(), 2);
        x.drink(0, 1);
        x.evening();
        Due.due("others leave it", x.status(), 2);
        x.as(0, 2);
        Due.due("status of KIND", x.status(), 3);
        x.as(0, 6);
        Due.due("BAD as() leaves it", x.status(), 3);
        x.as(0, 1);
        Due.due("as() that fits", x.status(), 0);
        x.row(1, 1, -1);
        Due.due("status of SIZE", x.status(), 4);
        x.row(1, 1, 1);
        x.copy(0, 0, 1, 0, 1);
        Due.due("status of STORE", x.status(), 5);
        x.set(0, 0, 1);
        x.copy(0, 0, 1, 0, 1);
        Due.due("turn with a wrong item", x.turn(0, 1, 0), HomeDrives.BAD);
        Due.due("it leaves it", x.status(), 5);
        x.turn(0, 3, 0);
        Due.due("turn: PLACE", x.status(), 2);
        x.gloves(0, 1, 0);
        Due.due("gloves: none", x.status(), 0);
        x.gloves(5, 1, 0);
        Due.due("gloves: NULL", x.status(), 1);
        x.drop(0);
        Due.due("drop: none", x.status(), 0);
        statusIsClearedByEach();
        HomeDrives y = new HomeDrives();
        y.drop(0);
        y.turn(0, 0, 0);
        Due.due("STATE leaves it", y.status(), 1);
    }
}
