/** ROWS of "Terms"; promises 2 to 5, and 32. */
final class EdgeRows {
    private static final int BAD = HomeDrives.BAD, MIN = Integer.MIN_VALUE, MAX = Integer.MAX_VALUE;
    private static final int NULL = -1000011, PLACE = -1000012, SIZE = -1000014, STORE = -1000015;
    private static final int[] NO_ROWS = {-1, 8, MIN, MAX};
    private static final String SEVEN = "law 0 1;" + "person plain 1 0;".repeat(7);

    private EdgeRows() {
    }

    static void run() {
        rows();
        makes();
        sets();
        copies();
        refusedCopies();
        drops();
        tellsStatus();
        leavesStatus();
    }

    /** Items are told by gloves of one evening; row 7 is kept for that. */
    private static void dueItems(HomeDrives x, int row, int lane, int... want) {
        x.row(7, lane, 1);
        for (int i = 0; i < want.length; i++) {
            x.copy(row, i, 7, 0, 1);
            Due.due("item " + i + " of row " + row, x.gloves(7, 1, 0), want[i]);
        }
    }

    private static void fill(HomeDrives x, int row, int lane, int... items) {
        x.row(row, lane, items.length);
        for (int i = 0; i < items.length; i++) {
            x.set(row, i, items[i]);
        }
    }

    private static void rows() {
        Sentences.says(Sentences.TERMS, "ROWS 0 .. 7 are missing (at first),");
        HomeDrives x = new HomeDrives();
        for (int row = 0; row <= 7; row++) {
            Due.due("set(" + row + ", 0, 0)", x.set(row, 0, 0), NULL);
        }
        Due.due("set(8, 0, 0)", x.set(8, 0, 0), BAD);
        Due.due("set(-1, 0, 0)", x.set(-1, 0, 0), BAD);
        for (int row = 0; row <= 7; row++) {
            Due.due("row(" + row + ", 0, 1)", x.row(row, 0, 1), 1);
            Due.due("count(0)", x.count(0), row + 1);
        }
        Sentences.says(Sentences.TERMS, "or have a LANE (0 bytes, 1 shorts, 2 ints) and 0 to 40 ITEMS, 0 at first.");
        HomeDrives y = Due.at(SEVEN);
        int[] highest = {Byte.MAX_VALUE, Short.MAX_VALUE, MAX};
        int[] lowest = {Byte.MIN_VALUE, Short.MIN_VALUE, MIN};
        for (int lane = 0; lane <= 2; lane++) {
            Due.due("row(0, " + lane + ", 0)", y.row(0, lane, 0), 0);
            Due.due("a row of none is no missing one", y.set(0, 0, 0), PLACE);
            Due.due("row(0, " + lane + ", 40)", y.row(0, lane, 40), 40);
            Due.due("all are 0", y.turn(0, 40, 1), 0);
            Due.due("person 0 is in all of them", y.turn(0, 40, 2), 240);
            Due.due("its highest", y.set(0, 39, highest[lane]), highest[lane]);
            Due.due("one more", y.set(0, 39, highest[lane] + 1), lowest[lane]);
        }
        Due.due("row(0, 0, 41)", y.row(0, 0, 41), BAD);
        Due.due("row(0, -1, 0)", y.row(0, -1, 0), BAD);
        Due.due("row(0, 3, 0)", y.row(0, 3, 0), BAD);
    }

    private static void makes() {
        Sentences.says(2, "A ROW of a LANE with n ITEMS, in place of what is there: n.");
        HomeDrives x = Due.at(SEVEN);
        fill(x, 3, 2, 1, 2, 4);
        Due.due("row(3, 2, 3)", x.row(3, 2, 3), 3);
        dueItems(x, 3, 2, 0, 0, 0);
        fill(x, 3, 2, 1, 2, 4);
        Due.due("row(3, 2, 40): a longer one", x.row(3, 2, 40), 40);
        Due.due("all are 0", x.turn(3, 40, 2), 240);
        x.set(3, 39, 1);
        Due.due("row(3, 2, 0): one of none", x.row(3, 2, 0), 0);
        Due.due("set(3, 0, 0)", x.set(3, 0, 0), PLACE);
        x.row(3, 2, 40);
        Due.due("nothing of the one before comes again", x.turn(3, 40, 2), 240);
        Due.due("row(3, 0, 1): of another lane", x.row(3, 0, 1), 1);
        Due.due("its lane", x.set(3, 0, 128), -128);
        Due.due("the others are missing yet", x.count(0), 2);
        Sentences.says(2, "BAD: ROW, LANE, n above 40;");
        fill(x, 3, 0, 1, 2);
        for (int row : NO_ROWS) {
            Due.due("row(" + row + ", 0, 1)", x.row(row, 0, 1), BAD);
        }
        for (int lane : new int[] {-1, 3, MIN, MAX}) {
            Due.due("row(3, " + lane + ", 1)", x.row(3, lane, 1), BAD);
        }
        Due.due("row(3, 0, 41)", x.row(3, 0, 41), BAD);
        Due.due("row(3, 0, max)", x.row(3, 0, MAX), BAD);
        dueItems(x, 3, 0, 1, 2);
        Sentences.says(2, "SIZE.");
        Due.due("row(3, 0, -1)", x.row(3, 0, -1), SIZE);
        Due.due("row(3, 0, min)", x.row(3, 0, MIN), SIZE);
        dueItems(x, 3, 0, 1, 2);
        Due.due("row(5, 0, -1)", x.row(5, 0, -1), SIZE);
        Due.due("it is missing yet", x.drop(5), NULL);
    }

    private static void sets() {
        Sentences.says(3, "ITEM i becomes v, its lowest bits, as many as the LANE has (read with their sign): what it is then.");
        HomeDrives x = Due.at(SEVEN);
        int[][] wanted = {
            {0, 0, 0, 0}, {127, 127, 127, 127}, {128, -128, 128, 128}, {255, -1, 255, 255}, {256, 0, 256, 256}, {-129, 127, -129, -129},
            {32767, -1, 32767, 32767}, {32768, 0, -32768, 32768}, {65535, -1, -1, 65535}, {65536, 0, 0, 65536}, {-32769, -1, 32767, -32769},
            {MAX, -1, -1, MAX}, {MIN, 0, 0, MIN}, {-1, -1, -1, -1}};
        for (int lane = 0; lane <= 2; lane++) {
            x.row(lane, lane, 2);
            for (int[] one : wanted) {
                Due.due("lane " + lane + ": set(.., " + one[0] + ")", x.set(lane, 1, one[0]), one[1 + lane]);
            }
        }
        fill(x, 3, 0, 1, 2, 4);
        Due.due("the first", x.set(3, 0, 256 + 8), 8);
        Due.due("the last", x.set(3, 2, 16), 16);
        dueItems(x, 3, 0, 8, 2, 16);
        Sentences.says(3, "BAD: ROW;");
        for (int row : NO_ROWS) {
            Due.due("set(" + row + ", 0, 0)", x.set(row, 0, 0), BAD);
        }
        Sentences.says(3, "NULL;");
        Due.due("set(4, 0, 0)", x.set(4, 0, 0), NULL);
        Due.due("set(4, -1, 0)", x.set(4, -1, 0), NULL);
        Sentences.says(3, "PLACE.");
        for (int i : new int[] {-1, 3, 40, MIN, MAX}) {
            Due.due("set(3, " + i + ", 1)", x.set(3, i, 1), PLACE);
        }
        dueItems(x, 3, 0, 8, 2, 16);
        x.row(3, 0, 0);
        Due.due("of a row of none", x.set(3, 0, 1), PLACE);
    }

    private static void copies() {
        Sentences.says(4, "n ITEMS of a from i on come to b from j on, as they were ahead: n.");
        for (int lane = 0; lane <= 2; lane++) {
            HomeDrives x = Due.at(SEVEN);
            fill(x, 0, lane, 1, 2, 4, 8, 16);
            Due.due("over itself, to the right", x.copy(0, 0, 0, 1, 4), 4);
            dueItems(x, 0, lane, 1, 1, 2, 4, 8);
            fill(x, 0, lane, 1, 2, 4, 8, 16);
            Due.due("over itself, to the left", x.copy(0, 1, 0, 0, 4), 4);
            dueItems(x, 0, lane, 2, 4, 8, 16, 16);
            Due.due("onto itself", x.copy(0, 0, 0, 0, 5), 5);
            dueItems(x, 0, lane, 2, 4, 8, 16, 16);
            fill(x, 1, lane, 32, 64, 96);
            Due.due("to another", x.copy(0, 1, 1, 1, 2), 2);
            dueItems(x, 1, lane, 32, 4, 8);
            dueItems(x, 0, lane, 2, 4, 8, 16, 16);
            Due.due("none, from the beginning", x.copy(0, 0, 1, 0, 0), 0);
            Due.due("none, from the ends", x.copy(0, 5, 1, 3, 0), 0);
            x.row(2, lane, 0);
            Due.due("none of none", x.copy(2, 0, 2, 0, 0), 0);
            dueItems(x, 1, lane, 32, 4, 8);
        }
        HomeDrives y = Due.at(SEVEN);
        y.row(0, 1, 40);
        y.row(1, 1, 40);
        y.set(0, 0, 1);
        y.set(0, 39, 2);
        Due.due("all 40", y.copy(0, 0, 1, 0, 40), 40);
        y.row(7, 1, 1);
        y.copy(1, 39, 7, 0, 1);
        Due.due("the last", y.gloves(7, 1, 0), 2);
        y.copy(1, 0, 7, 0, 1);
        Due.due("the first", y.gloves(7, 1, 0), 1);
    }

    private static void refusedCopies() {
        HomeDrives x = Due.at(SEVEN);
        fill(x, 0, 0, 1, 2, 4);
        fill(x, 1, 0, 8, 16);
        x.row(2, 1, 3);
        x.row(3, 2, 3);
        Sentences.says(4, "BAD: ROWS;");
        for (int row : NO_ROWS) {
            Due.due("copy(" + row + ", 0, 0, 0, 1)", x.copy(row, 0, 0, 0, 1), BAD);
            Due.due("copy(0, 0, " + row + ", 0, 1)", x.copy(0, 0, row, 0, 1), BAD);
            Due.due("copy(4, 0, " + row + ", 0, 1)", x.copy(4, 0, row, 0, 1), BAD);
        }
        Sentences.says(4, "NULL;");
        Due.due("from a missing one", x.copy(4, 0, 0, 0, 0), NULL);
        Due.due("to a missing one", x.copy(0, 0, 4, 0, 0), NULL);
        Due.due("both", x.copy(4, 0, 5, 0, 0), NULL);
        Due.due("ahead of places", x.copy(0, -1, 4, -1, -1), NULL);
        Sentences.says(4, "STORE;");
        for (int a = 1; a <= 3; a++) {
            for (int b = 1; b <= 3; b++) {
                Due.due("copy(" + a + ", 0, " + b + ", 0, 0)", x.copy(a, 0, b, 0, 0), a == b ? 0 : STORE);
            }
        }
        Due.due("ahead of places", x.copy(0, -1, 2, -1, -1), STORE);
        Sentences.says(4, "PLACE (i, j, n below 0, or beyond an end).");
        int[][] wrong = {{-1, 0, 1}, {0, -1, 1}, {0, 0, -1}, {MIN, 0, 1}, {0, MIN, 1}, {0, 0, MIN}, {-1, 0, 0}, {0, -1, 0}, {2, 0, 2}, {0, 1, 2},
            {0, 0, 3}, {3, 0, 1}, {0, 2, 1}, {4, 0, 0}, {0, 3, 0}, {0, 0, MAX}, {MAX, 0, 1}, {0, MAX, 1}, {MAX, 0, MAX}, {0, MAX, MAX}, {1, 1, MAX}};
        for (int[] one : wrong) {
            Due.due("copy(0, " + one[0] + ", 1, " + one[1] + ", " + one[2] + ")", x.copy(0, one[0], 1, one[1], one[2]), PLACE);
        }
        Due.due("over its own end", x.copy(0, 0, 0, 1, 3), PLACE);
        dueItems(x, 0, 0, 1, 2, 4);
        dueItems(x, 1, 0, 8, 16);
    }

    private static void drops() {
        Sentences.says(5, "A ROW is missing from now on: how many ITEMS it had.");
        HomeDrives x = new HomeDrives();
        int[] sizes = {0, 1, 39, 40};
        for (int n : sizes) {
            x.row(7, 1, n);
            Due.due("drop of " + n, x.drop(7), n);
            Due.due("it is missing", x.set(7, 0, 0), NULL);
            Due.due("count(0)", x.count(0), 0);
        }
        x.row(0, 0, 3);
        x.row(1, 0, 4);
        Due.due("drop(0)", x.drop(0), 3);
        Due.due("row 1 stays", x.drop(1), 4);
        Sentences.says(5, "BAD;");
        for (int row : NO_ROWS) {
            Due.due("drop(" + row + ")", x.drop(row), BAD);
        }
        Sentences.says(5, "NULL.");
        Due.due("drop of a dropped one", x.drop(0), NULL);
        Due.due("drop of one that never was", x.drop(6), NULL);
    }

    private static void tellsStatus() {
        Sentences.says(32, "Of the latest call with a ROW, or as(), that was not BAD, STATE, FULL: the number of its FINDING;");
        HomeDrives x = Due.at("law 0 1;person plain 1 0;");
        fill(x, 0, 0, 0);
        x.row(1, 1, 1);
        dueStatus(x, "row: SIZE", x.row(0, 0, -1), 4);
        dueStatus(x, "set: NULL", x.set(2, 0, 0), 1);
        dueStatus(x, "set: PLACE", x.set(0, 1, 0), 2);
        dueStatus(x, "copy: NULL", x.copy(0, 0, 2, 0, 0), 1);
        dueStatus(x, "copy: STORE", x.copy(0, 0, 1, 0, 0), 5);
        dueStatus(x, "copy: PLACE", x.copy(0, 0, 0, 0, 2), 2);
        dueStatus(x, "drop: NULL", x.drop(2), 1);
        dueStatus(x, "as: KIND", x.as(0, 5), 3);
        dueStatus(x, "turn: NULL", x.turn(2, 0, 0), 1);
        dueStatus(x, "turn: PLACE", x.turn(0, 2, 0), 2);
        dueStatus(x, "gloves: NULL", x.gloves(2, 1, 0), 1);
        dueStatus(x, "gloves: PLACE", x.gloves(0, 2, 0), 2);
    }

    private static void dueStatus(HomeDrives x, String call, int answer, int number) {
        Due.due(call, answer, -1000010 - number);
        Due.due("status() behind " + call, x.status(), number);
        Due.due("status() again", x.status(), number);
    }

    private static void leavesStatus() {
        HomeDrives x = Due.at("law 0 1;person plain 1 0;");
        fill(x, 0, 0, 5);
        x.copy(0, 0, 0, 0, 2);
        int[] refused = {x.row(8, 0, 0), x.row(0, 3, 0), x.row(0, 0, 41), x.set(8, 0, 0), x.copy(8, 0, 0, 0, 0), x.drop(8), x.as(1, 0), x.as(0, 6),
            x.turn(8, 0, 0), x.turn(0, -1, 0), x.turn(0, 0, 3), x.gloves(8, 1, 0), x.gloves(0, 0, 0), x.gloves(0, 1, 2)};
        for (int answer : refused) {
            Due.due("a refusal", answer, BAD);
        }
        Due.due("what is BAD leaves it", x.status(), 2);
        Due.due("turn with an item that is nobody", x.turn(0, 1, 0), BAD);
        Due.due("it leaves it, too", x.status(), 2);
        Due.due("gloves with an item that is no set", x.gloves(0, 1, 0), BAD);
        Due.due("it leaves it, too", x.status(), 2);
        x.drink(0, 1);
        x.undo();
        x.undo();
        x.image(0);
        x.restore(0);
        x.ask(0, 0);
        x.kind(0);
        x.person(0, 0);
        x.home(0, 0);
        Due.due("other calls leave it", x.status(), 2);
        Due.read(x, "law 0 1;");
        Due.due("another evening leaves it", x.status(), 2);
        Due.due("turn without people", x.turn(0, 0, 0), HomeDrives.STATE);
        Due.due("gloves without people", x.gloves(0, 1, 0), HomeDrives.STATE);
        Due.due("STATE leaves it", x.status(), 2);
        x.drop(1);
        for (int i = 0; i < 63; i++) {
            x.feed(0, 8);
        }
        Due.due("FULL leaves it", x.status(), 1);
        statusOfNone();
    }

    private static void statusOfNone() {
        Sentences.says(32, "0: it had none, or there was none.");
        Due.due("there was none", new HomeDrives().status(), 0);
        for (int call = 0; call < 11; call++) {
            HomeDrives x = Due.at("law 0 1;person plain 1 0;");
            fill(x, 0, 0, 0);
            x.drop(1);
            Due.due("status() ahead of call " + call, x.status(), 1);
            int answer = switch (call) {
                case 0 -> x.row(0, 0, 0);
                case 1 -> x.set(0, 0, 0);
                case 2 -> x.copy(0, 0, 0, 0, 0);
                case 3 -> x.drop(0) - 1;
                case 4 -> x.turn(0, 0, 0);
                case 5 -> x.turn(0, 0, 1);
                case 6 -> x.turn(0, 0, 2);
                case 7 -> x.gloves(0, 1, 0);
                case 8 -> x.gloves(0, 1, 1);
                case 9 -> x.as(0, 0);
                default -> x.as(0, 1);
            };
            Due.due("call " + call, answer, 0);
            Due.due("status() behind call " + call, x.status(), 0);
        }
    }
}
