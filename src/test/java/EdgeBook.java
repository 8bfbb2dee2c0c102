/** TURNS and GLOVES of "Terms"; promises 23 and 24. */
final class EdgeBook {
    private static final int BAD = HomeDrives.BAD, STATE = HomeDrives.STATE, MIN = Integer.MIN_VALUE, MAX = Integer.MAX_VALUE;
    private static final int NULL = -1000011, PLACE = -1000012;
    private static final String LAW = "law 9 9;", THREE = LAW + "person plain 1 0;person child 1 0;person sick 1 0;";
    private static final String ONE = LAW + "person plain 1 0;", SEVEN = LAW + "person plain 1 0;".repeat(7);

    private EdgeBook() {
    }

    static void run() {
        turns();
        evenings();
        wrongTurns();
        gloves();
        wrongGloves();
    }

    private static void put(HomeDrives x, int row, int lane, int... items) {
        x.row(row, lane, items.length);
        for (int i = 0; i < items.length; i++) {
            x.set(row, i, items[i]);
        }
    }

    private static void dueTurn(HomeDrives x, int n, int whose, int often, int more) {
        Due.due("turn(0, " + n + ", 0)", x.turn(0, n, 0), whose);
        Due.due("turn(0, " + n + ", 1)", x.turn(0, n, 1), often);
        Due.due("turn(0, " + n + ", 2)", x.turn(0, n, 2), more);
    }

    private static void turns() {
        Sentences.says(Sentences.TERMS, "TURNS by a book, a row of who drove: whose turn it is: who drove least often, of several the first; how often he did;"
            + " how many evenings more, each by whose turn it is, till all drove alike often.");
        for (int lane = 0; lane <= 2; lane++) {
            HomeDrives x = Due.at(THREE);
            put(x, 0, lane, 0, 2, 0, 1, 1, 1, 2, 2, 0);
            dueTurn(x, 0, 0, 0, 0);
            dueTurn(x, 1, 1, 0, 2);
            dueTurn(x, 2, 1, 0, 1);
            dueTurn(x, 3, 1, 0, 3);
            dueTurn(x, 4, 1, 1, 2);
            dueTurn(x, 5, 2, 1, 1);
            dueTurn(x, 6, 2, 1, 3);
            dueTurn(x, 7, 0, 2, 2);
            dueTurn(x, 8, 0, 2, 1);
            dueTurn(x, 9, 0, 3, 0);
        }
        HomeDrives one = Due.at(ONE);
        one.row(0, 0, 40);
        dueTurn(one, 0, 0, 0, 0);
        dueTurn(one, 40, 0, 40, 0);
        HomeDrives seven = Due.at(SEVEN);
        seven.row(0, 0, 40);
        dueTurn(seven, 40, 1, 0, 6 * 40);
        put(seven, 0, 0, 6, 5, 4, 3, 2, 1);
        dueTurn(seven, 6, 0, 0, 1);
    }

    /** How many evenings more, played one by one. */
    private static void evenings() {
        HomeDrives x = Due.at(THREE);
        x.row(0, 0, 40);
        x.set(0, 0, 1);
        x.set(0, 1, 1);
        x.set(0, 2, 2);
        int more = x.turn(0, 3, 2);
        Due.due("by the book of 1, 1, 2", more, 3);
        for (int n = 3; n < 3 + 3; n++) {
            x.set(0, n, x.turn(0, n, 0));
            Due.due("one less behind evening " + n, x.turn(0, n + 1, 2), 3 - (n - 2));
        }
        Due.due("all drove twice", x.turn(0, 6, 1), 2);
    }

    private static void wrongTurns() {
        HomeDrives x = Due.at(THREE);
        Sentences.says(23, "TURNS, n ITEMS (0 to 40) of a ROW from its beginning on: whose (what = 0), how often (1), how many more evenings (2).");
        put(x, 0, 0, 0, 1, 2, 3, -1);
        dueTurn(x, 0, 0, 0, 0);
        dueTurn(x, 3, 0, 1, 0);
        x.row(1, 2, 40);
        Due.due("turn(1, 40, 2)", x.turn(1, 40, 2), 80);
        Sentences.says(23, "BAD: ROW, n, what;");
        for (int row : new int[] {-1, 8, MIN, MAX}) {
            Due.due("turn(" + row + ", 0, 0)", x.turn(row, 0, 0), BAD);
        }
        for (int n : new int[] {-1, 41, MIN, MAX}) {
            Due.due("turn(1, " + n + ", 0)", x.turn(1, n, 0), BAD);
            Due.due("turn(4, " + n + ", 0), of a missing row", x.turn(4, n, 0), BAD);
        }
        for (int what : new int[] {-1, 3, MIN, MAX}) {
            Due.due("turn(1, 0, " + what + ")", x.turn(1, 0, what), BAD);
            Due.due("turn(4, 0, " + what + "), of a missing row", x.turn(4, 0, what), BAD);
        }
        Sentences.says(23, "STATE: no PEOPLE (ahead of BAD);");
        HomeDrives none = new HomeDrives(), empty = Due.at(LAW);
        Due.due("no evening", none.turn(0, 0, 0), STATE);
        Due.due("no evening, ahead of BAD", none.turn(8, -1, 3), STATE);
        Due.due("an evening of nobody", empty.turn(0, 0, 0), STATE);
        Due.due("an evening of nobody, ahead of BAD", empty.turn(8, 41, -1), STATE);
        Sentences.says(23, "NULL;");
        Due.due("turn(4, 0, 0)", x.turn(4, 0, 0), NULL);
        Due.due("turn(4, 40, 2)", x.turn(4, 40, 2), NULL);
        Sentences.says(23, "PLACE;");
        Due.due("6 of 5", x.turn(0, 6, 0), PLACE);
        Due.due("40 of 5", x.turn(0, 40, 0), PLACE);
        x.row(2, 0, 0);
        Due.due("1 of none", x.turn(2, 1, 0), PLACE);
        Due.due("none of none", x.turn(2, 0, 0), 0);
        Sentences.says(23, "then BAD: an ITEM.");
        for (int what = 0; what <= 2; what++) {
            Due.due("3 is nobody", x.turn(0, 4, what), BAD);
            put(x, 3, 2, 0, -1);
            Due.due("-1 is nobody", x.turn(3, 2, what), BAD);
            Due.due("behind n it is not looked at", x.turn(3, 1, what), new int[] {1, 0, 2}[what]);
            put(x, 3, 2, MAX, MIN);
            Due.due("nor is max", x.turn(3, 1, what), BAD);
            x.set(3, 0, 256);
            Due.due("nor is 256", x.turn(3, 1, what), BAD);
        }
    }

    private static void dueGloves(HomeDrives x, int n, int all, int most) {
        Due.due("gloves(0, " + n + ", 0)", x.gloves(0, n, 0), all);
        Due.due("gloves(0, " + n + ", 1)", x.gloves(0, n, 1), most);
    }

    private static void gloves() {
        Sentences.says(Sentences.TERMS, "GLOVES: a row of sets of PEOPLE who sat in a CAR, evening by evening: whose they can be: who was there in all of them;"
            + " who was in most of them (of several the first).");
        for (int lane = 0; lane <= 2; lane++) {
            HomeDrives x = Due.at(THREE);
            put(x, 0, lane, 6, 7, 4, 0, 2, 2);
            dueGloves(x, 1, 6, 1);
            dueGloves(x, 2, 6, 1);
            dueGloves(x, 3, 4, 2);
            dueGloves(x, 4, 0, 2);
            dueGloves(x, 5, 0, 1);
            dueGloves(x, 6, 0, 1);
            put(x, 0, lane, 7);
            dueGloves(x, 1, 7, 0);
        }
        HomeDrives seven = Due.at(SEVEN);
        put(seven, 0, 0, 127, 64, 64 + 1, 64 + 32);
        dueGloves(seven, 1, 127, 0);
        dueGloves(seven, 4, 64, 6);
        HomeDrives one = Due.at(ONE);
        put(one, 0, 0, 1, 0);
        dueGloves(one, 1, 1, 0);
        dueGloves(one, 2, 0, 0);
        Sentences.says(24, "GLOVES, n ITEMS (1 to 40) of a ROW from its beginning on: who was there in all (what = 0, bits), in most (1).");
        seven.row(0, 2, 40);
        for (int i = 0; i < 40; i++) {
            seven.set(0, i, i == 39 ? 4 : 6);
        }
        dueGloves(seven, 1, 6, 1);
        dueGloves(seven, 39, 6, 1);
        dueGloves(seven, 40, 4, 2);
    }

    private static void wrongGloves() {
        HomeDrives x = Due.at(THREE);
        put(x, 0, 0, 7, 8, -1);
        Sentences.says(24, "BAD: ROW, n, what;");
        for (int row : new int[] {-1, 8, MIN, MAX}) {
            Due.due("gloves(" + row + ", 1, 0)", x.gloves(row, 1, 0), BAD);
        }
        for (int n : new int[] {0, 41, -1, MIN, MAX}) {
            Due.due("gloves(0, " + n + ", 0)", x.gloves(0, n, 0), BAD);
            Due.due("gloves(4, " + n + ", 0), of a missing row", x.gloves(4, n, 0), BAD);
        }
        for (int what : new int[] {-1, 2, MIN, MAX}) {
            Due.due("gloves(0, 1, " + what + ")", x.gloves(0, 1, what), BAD);
            Due.due("gloves(4, 1, " + what + "), of a missing row", x.gloves(4, 1, what), BAD);
        }
        Sentences.says(24, "STATE: no PEOPLE (ahead of BAD);");
        HomeDrives none = new HomeDrives(), empty = Due.at(LAW);
        Due.due("no evening", none.gloves(0, 1, 0), STATE);
        Due.due("no evening, ahead of BAD", none.gloves(8, 0, 2), STATE);
        Due.due("an evening of nobody", empty.gloves(0, 1, 0), STATE);
        Due.due("an evening of nobody, ahead of BAD", empty.gloves(-1, 41, -1), STATE);
        Sentences.says(24, "NULL;");
        Due.due("gloves(4, 1, 0)", x.gloves(4, 1, 0), NULL);
        Due.due("gloves(4, 40, 1)", x.gloves(4, 40, 1), NULL);
        Sentences.says(24, "PLACE;");
        Due.due("4 of 3", x.gloves(0, 4, 0), PLACE);
        Due.due("40 of 3", x.gloves(0, 40, 1), PLACE);
        x.row(2, 0, 0);
        Due.due("1 of none", x.gloves(2, 1, 0), PLACE);
        Sentences.says(24, "then BAD: an ITEM that is no set of PEOPLE.");
        int[] noSets = {8, 15, -1, -8, 64, 128, 0x40000000, MIN, MAX};
        for (int what = 0; what <= 1; what++) {
            Due.due("7 is one, and 8 is not looked at", x.gloves(0, 1, what), what == 0 ? 7 : 0);
            Due.due("8 is none", x.gloves(0, 2, what), BAD);
            for (int item : noSets) {
                put(x, 3, 2, 0, item);
                Due.due(item + " is none", x.gloves(3, 2, what), BAD);
                Due.due("the empty set is one", x.gloves(3, 1, what), 0);
            }
        }
        HomeDrives seven = Due.at(SEVEN);
        put(seven, 0, 1, 127, 128);
        Due.due("all seven", seven.gloves(0, 1, 0), 127);
        Due.due("an eighth", seven.gloves(0, 2, 0), BAD);
    }
}
