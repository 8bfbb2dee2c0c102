/** The first part of "Terms": numbers, fractions, sets, refusals and findings; and promise 1. */
final class EdgeTerms {
    private static final int NONE = HomeDrives.NONE, BAD = HomeDrives.BAD, STATE = HomeDrives.STATE, FULL = HomeDrives.FULL;
    private static final int NULL = -1000011, PLACE = -1000012, KIND = -1000013, SIZE = -1000014, STORE = -1000015;
    private static final String ONE = "law 10 7;way 0 1 1;person plain 1 0;car 0 1 0;";

    private EdgeTerms() {
    }

    static void run() {
        lastCall();
        newObject();
        numbersGoFromNought();
        divisions();
        setsAreBits();
        refusalsInTheirOrder();
        findings();
    }

    private static void lastCall() {
        Due.under("What it is, \"An object is used for at most 512 calls after it has been made\": ");
        HomeDrives x = new HomeDrives();
        int calls = (ONE.length() + 7) / 8 + 1;
        Due.due("the evening", Due.read(x, ONE), 1);
        for (; calls < 511; calls++) {
            Due.due("row(0, 0, 40)", x.row(0, 0, 40), 40);
        }
        Due.due("the 512th call", x.home(0, 1), 1);
    }

    private static void newObject() {
        Sentences.says(1, "No EVENING.");
        HomeDrives x = new HomeDrives();
        Due.due("far(0, 0)", x.far(0, 0), STATE);
        Due.due("goes(0)", x.goes(0), STATE);
        Due.due("home(0, 0)", x.home(0, 0), STATE);
        Due.due("fetch(0)", x.fetch(0), STATE);
        Due.due("house(0)", x.house(0), STATE);
        Due.due("turn(0, 0, 0)", x.turn(0, 0, 0), STATE);
        Due.due("gloves(0, 1, 0)", x.gloves(0, 1, 0), STATE);
        Due.due("image(0)", x.image(0), STATE);
        Due.due("restore(0)", x.restore(0), STATE);
        Due.due("restore(1)", x.restore(1), STATE);
        Due.due("undo()", x.undo(), STATE);
        Due.due("person(0, 0)", x.person(0, 0), BAD);
        Due.due("car(0, 0)", x.car(0, 0), BAD);
        Due.due("drink(0, 1)", x.drink(0, 1), BAD);
        Due.due("may(0, 0, 0)", x.may(0, 0, 0), BAD);
        Due.due("soon(0)", x.soon(0), BAD);
        Due.due("odds(0, 0, 0, 0)", x.odds(0, 0, 0, 0), BAD);
        Due.due("order(0, 0, -1)", x.order(0, 0, -1), BAD);
        Due.due("detour(0, 0)", x.detour(0, 0), BAD);
        Due.due("kind(0)", x.kind(0), BAD);
        Due.due("as(0, 0)", x.as(0, 0), BAD);
        Due.due("ask(0, 0)", x.ask(0, 0), BAD);
        for (int what = 0; what <= 6; what++) {
            Due.due("count(" + what + ")", x.count(what), 0);
        }
    }

    private static void numbersGoFromNought() {
        Sentences.says(Sentences.TERMS, "Numbers go from 0 on.");
        HomeDrives x = Due.at(ONE);
        Due.due("the first of the people", x.person(0, 0), 1);
        Due.due("none ahead of him", x.person(-1, 0), BAD);
        Due.due("none behind him", x.person(1, 0), BAD);
        Due.due("the first car", x.car(0, 0), 0);
        Due.due("none ahead of it", x.car(-1, 0), BAD);
        Due.due("none behind it", x.car(1, 0), BAD);
        Due.due("the first site", x.far(0, 1), 1);
        Due.due("none ahead of it", x.far(-1, 1), BAD);
        Due.due("the first row", x.row(0, 0, 1), 1);
        Due.due("none ahead of it", x.row(-1, 0, 1), BAD);
        Due.due("the first item", x.set(0, 0, 5), 5);
        Due.due("none ahead of it", x.set(0, -1, 5), PLACE);
        Due.due("none behind it", x.set(0, 1, 5), PLACE);
        Due.due("the first minute", x.goes(0), 1);
        Due.due("none ahead of it", x.goes(-1), BAD);
        Due.due("the first image", x.image(0), 1);
        Due.due("none ahead of it", x.image(-1), BAD);
        x.ask(0, 1);
        Due.due("the first of the trace", x.trace(0), 21);
        Due.due("none ahead of it", x.trace(-1), NONE);
    }

    private static void divisions() {
        Sentences.says(Sentences.TERMS, "All that is divided is cut towards 0,");
        HomeDrives x = Due.at("law 10 7;person plain 1 9;");
        int[][] hours = {{0, 0}, {1, 0}, {59, 0}, {60, 1}, {119, 1}, {120, 2}, {539, 8}, {540, 9}, {599, 9}, {600, 10}};
        for (int[] one : hours) {
            Due.due("may(0, " + one[0] + ", 0)", x.may(0, one[0], 0), 90 - 7 * one[1]);
        }
        Sentences.says(Sentences.TERMS, "but fractions, told as two numbers in lowest terms (0 is 0 by 1).");
        HomeDrives y = Due.at("law 50 1;person plain 1 0;person sick 1 0;person plain 1 6;");
        // He may with up to 5 glasses: 6 of n + 1.
        int[][] lowest = {{1, 1}, {1, 1}, {1, 1}, {1, 1}, {1, 1}, {1, 1}, {6, 7}, {3, 4}, {2, 3}, {3, 5}};
        for (int n = 0; n <= 9; n++) {
            dueFraction(y, 0, n, lowest[n][0], lowest[n][1]);
            dueFraction(y, 1, n, 0, 1);
            dueFraction(y, 2, n, 0, 1);
        }
    }

    private static void dueFraction(HomeDrives x, int person, int n, int above, int below) {
        Due.due("odds(" + person + ", 0, " + n + ", 0)", x.odds(person, 0, n, 0), above);
        Due.due("odds(" + person + ", 0, " + n + ", 1)", x.odds(person, 0, n, 1), below);
    }

    private static void setsAreBits() {
        Sentences.says(Sentences.TERMS, "Sets are bits.");
        HomeDrives x = Due.at("law 0 1;" + "person plain 1 0;".repeat(7) + "quarrel 0 6;quarrel 0 1;");
        Due.due("the last and the second", x.person(0, 3), 64 + 2);
        Due.due("the first", x.person(6, 3), 1);
        Due.due("nobody", x.person(3, 3), 0);
        Due.due("all stay", x.home(0, 2), 127);
        HomeDrives y = Due.at("law 0 1;way 0 1 1;" + "person plain 1 0;".repeat(3) + "car 0 1 0;car 1 1 0;car 2 1 0;");
        Due.due("all cars", y.goes(0), 7);
    }

    private static void refusalsInTheirOrder() {
        Sentences.says(Sentences.TERMS, "Refusals are answers, the first of these that fits, but as told: BAD (a number is not as told;"
            + " there is no such thing), STATE (as told), FULL (as told), then FINDINGS, of several the first in time:");
        HomeDrives none = new HomeDrives();
        Due.due("BAD ahead of STATE: image(2)", none.image(2), BAD);
        Due.due("BAD ahead of STATE: restore(2)", none.restore(2), BAD);
        Due.due("STATE ahead of BAD, as told: far(8, -1)", none.far(8, -1), STATE);
        Due.due("STATE ahead of a finding: turn of a missing row", none.turn(0, 0, 0), STATE);
        HomeDrives x = Due.at("law 0 1;person plain 1 0;person sick 1 0;");
        for (int i = 0; i < 11; i++) {
            x.drink(0, 9);
        }
        Due.due("FULL: drink(0, 1)", x.drink(0, 1), FULL);
        Due.due("BAD ahead of FULL: drink(0, 10)", x.drink(0, 10), BAD);
        for (int i = 0; i < 62; i++) {
            x.feed(0, 8);
        }
        Due.due("FULL: feed(0, 5)", x.feed(0, 5), FULL);
        Due.due("BAD ahead of FULL: feed(0, 9)", x.feed(0, 9), BAD);
        Due.due("BAD ahead of SIZE: the row", x.row(8, 0, -1), BAD);
        Due.due("BAD ahead of SIZE: the lane", x.row(0, 3, -1), BAD);
        Due.due("BAD ahead of NULL: copy", x.copy(0, 0, 8, 0, 0), BAD);
        Due.due("BAD ahead of NULL: turn", x.turn(0, 41, 0), BAD);
        Due.due("BAD ahead of NULL: gloves", x.gloves(0, 1, 2), BAD);
        Due.due("BAD ahead of KIND: as(2, 5)", x.as(2, 5), BAD);
        x.row(0, 0, 1);
        x.row(1, 1, 1);
        x.set(0, 0, 2);
        Due.due("NULL ahead of PLACE: set", x.set(2, 9, 0), NULL);
        Due.due("NULL ahead of PLACE: copy to a missing row", x.copy(0, 9, 2, 0, 1), NULL);
        Due.due("NULL ahead of PLACE: turn", x.turn(2, 40, 0), NULL);
        Due.due("STORE ahead of PLACE: copy", x.copy(0, 9, 1, 0, 1), STORE);
        Due.due("PLACE ahead of an item: turn", x.turn(0, 2, 0), PLACE);
        x.set(0, 0, 4);
        Due.due("PLACE ahead of an item: gloves", x.gloves(0, 2, 0), PLACE);
    }

    private static void findings() {
        Sentences.says(Sentences.TERMS, "-1000010 less 1 NULL (a ROW that is missing), 2 PLACE (no such place of a ROW),"
            + " 3 KIND (a PERSON that is not that), 4 SIZE (fewer than none), 5 STORE (ROWS of two LANES).");
        HomeDrives x = Due.at(ONE);
        dueFinding(x, "NULL", x.drop(0), NULL, 1);
        x.row(0, 0, 1);
        dueFinding(x, "PLACE", x.set(0, 1, 0), PLACE, 2);
        dueFinding(x, "KIND", x.as(0, 2), KIND, 3);
        dueFinding(x, "SIZE", x.row(0, 0, -1), SIZE, 4);
        x.row(1, 1, 1);
        dueFinding(x, "STORE", x.copy(0, 0, 1, 0, 1), STORE, 5);
    }

    private static void dueFinding(HomeDrives x, String name, int got, int want, int number) {
        Due.due(name, got, want);
        Due.due("status of " + name, x.status(), number);
    }
}
