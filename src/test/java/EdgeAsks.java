/** KINDS and ASKS of "Terms"; promises 25 to 31. */
final class EdgeAsks {
    private static final int NONE = HomeDrives.NONE, BAD = HomeDrives.BAD, STATE = HomeDrives.STATE;
    private static final int MIN = Integer.MIN_VALUE, MAX = Integer.MAX_VALUE, KIND = -1000013;
    private static final String FIVE = "law 9 9;person plain 1 4;person driver 2 3;person stranger 3 2;person sick 4 1;person child 5 6;";
    private static final int[] NO_PEOPLE = {-1, 5, 7, MIN, MAX};

    private EdgeAsks() {
    }

    static void run() {
        images();
        restores();
        kinds();
        takenAs();
        sizes();
        marks();
        anew();
        refusedAsks();
        traces();
        counts();
    }

    private static void images() {
        Sentences.says(25, "An IMAGE (0, 1) is kept of the EVENING: 1.");
        HomeDrives x = Due.at(FIVE);
        Due.due("image(0)", x.image(0), 1);
        x.drink(0, 5);
        Due.due("image(1)", x.image(1), 1);
        Due.due("drinks can be undone yet", x.undo(), 0);
        x.drink(0, 1);
        Due.due("restore(1)", x.restore(1), 1);
        Due.due("as it was then", x.person(0, 1), 9);
        x.restore(0);
        Due.due("as it was first", x.person(0, 1), 4);
        Due.due("an evening of nobody", Due.read(x, "law 0 1;"), 0);
        Due.due("is kept, in place of the other", x.image(0), 1);
        x.restore(1);
        Due.due("restore(0)", x.restore(0), 1);
        Due.due("nobody", x.count(1), 0);
        Due.due("but an evening", x.far(0, 0), 0);
        Sentences.says(25, "BAD;");
        for (int k : new int[] {-1, 2, MIN, MAX}) {
            Due.due("image(" + k + ")", x.image(k), BAD);
            Due.due("image(" + k + ") without an evening", new HomeDrives().image(k), BAD);
        }
        Sentences.says(25, "STATE: no EVENING.");
        HomeDrives none = new HomeDrives();
        Due.due("image(0)", none.image(0), STATE);
        Due.due("image(1)", none.image(1), STATE);
        none.evening();
        Due.due("image(0) behind a fault", none.image(0), STATE);
        Due.due("none was kept", none.restore(0), STATE);
    }

    private static void restores() {
        Sentences.says(26, "The EVENING is as an IMAGE kept it (no GLASS can be undone then): 1.");
        HomeDrives x = Due.at("law 10 5;way 0 1 8;way 1 2 6;hill 2;person plain 1 0;person sick 2 1;person plain 1 0;car 0 2 1;quarrel 1 2;");
        x.drink(0, 1);
        x.image(1);
        x.drink(0, 9);
        Due.read(x, "law 0 1;way 0 1 3;person child 1 9;person plain 1 0;car 1 4 0;");
        Due.due("home of the other", x.home(0, 3), 1);
        for (int round = 0; round < 2; round++) {
            x.drink(0, 2);
            Due.due("restore(1)", x.restore(1), 1);
            Due.due("undo()", x.undo(), STATE);
            Due.due("count(4)", x.count(4), 0);
            Due.due("people", x.count(1), 3);
            Due.due("cars", x.count(2), 1);
            Due.due("quarrels", x.count(3), 1);
            Due.due("glasses", x.count(5), 2);
            Due.due("kind(1)", x.kind(1), 4);
            Due.due("far(0, 2)", x.far(0, 2), 14);
            Due.due("limit and rate", x.soon(0), 0);
            Due.due("rate", x.may(0, 60, 0), 5);
            Due.due("home", x.home(0, 2), 2);
            Due.due("minutes", x.home(0, 1), 8);
            Due.due("a glass behind it", x.drink(1, 3), 4);
            Due.due("can be undone", x.undo(), 0);
        }
        restoresAll();
        Sentences.says(26, "BAD;");
        for (int k : new int[] {-1, 2, MIN, MAX}) {
            Due.due("restore(" + k + ")", x.restore(k), BAD);
            Due.due("restore(" + k + ") where none was kept", new HomeDrives().restore(k), BAD);
        }
        Sentences.says(26, "STATE: none was kept.");
        x.drink(0, 1);
        Due.due("restore(0)", x.restore(0), STATE);
        Due.due("the drink can be undone yet", x.count(4), 1);
        Due.due("no image at all", new HomeDrives().restore(1), STATE);
    }

    /** Two evenings that are unlike in all, restored over one another. */
    private static void restoresAll() {
        HomeDrives x = Due.at("law 10 5;way 0 1 8;way 0 2 1;hill 2;hill 3;person plain 1 1;person sick 1 0;person stranger 2 0;car 0 2 0;car 2 1 1;");
        x.image(0);
        Due.read(x, "law 0 20;way 0 2 3;way 0 1 3;hill 1;person sick 2 0;person plain 2 0;person driver 1 0;person plain 2 0;car 1 4 0;quarrel 0 3;");
        x.image(1);
        int[][] goes = {{3}, {1}}, cars = {{0, 2, 0, 2, 1, 1}, {1, 4, 0, BAD, BAD, BAD}}, home = {{0, 9, 0, 2, 0}, {2, 3, 12, 1, BAD}};
        int[][] people = {{1, 4, 3, BAD}, {4, 1, 2, 1}}, quarrels = {{0, 0, 0, BAD}, {8, 0, 0, 1}}, far = {{0, 8, 1, NONE}, {0, 3, 3, NONE}};
        for (int round = 0; round < 4; round++) {
            int k = round % 2;
            Due.due("restore(" + k + ")", x.restore(k), 1);
            Due.due("goes(0)", x.goes(0), goes[k][0]);
            for (int i = 0; i < 6; i++) {
                Due.due("car(" + i / 3 + ", " + i % 3 + ") of " + k, x.car(i / 3, i % 3), cars[k][i]);
            }
            for (int what = 0; what < 5; what++) {
                Due.due("home(0, " + what + ") of " + k, x.home(0, what), home[k][what]);
            }
            for (int i = 0; i < 4; i++) {
                Due.due("kind(" + i + ") of " + k, x.kind(i), people[k][i]);
                Due.due("person(" + i + ", 3) of " + k, x.person(i, 3), quarrels[k][i]);
                Due.due("far(0, " + i + ") of " + k, x.far(0, i), far[k][i]);
            }
        }
    }

    private static void kinds() {
        Sentences.says(27, "The KIND of a PERSON, as told (1 to 5).");
        HomeDrives x = Due.at(FIVE);
        for (int p = 0; p < 5; p++) {
            Due.due("kind(" + p + ")", x.kind(p), p + 1);
        }
        Sentences.says(27, "BAD.");
        for (int person : NO_PEOPLE) {
            Due.due("kind(" + person + ")", x.kind(person), BAD);
        }
    }

    private static void takenAs() {
        Sentences.says(Sentences.TERMS, "KINDS of PEOPLE: 0 PERSON; 1 PLAIN, a PERSON; 2 DRIVER, a PLAIN one; 3 STRANGER, a PLAIN one; 4 SICK, a PERSON;"
            + " 5 CHILD, a SICK one. By this it is asked.");
        HomeDrives x = Due.at(FIVE);
        String[] fits = {"01", "012", "013", "04", "045"};
        for (int p = 0; p < 5; p++) {
            for (int kind = 0; kind < 6; kind++) {
                Due.due("as(" + p + ", " + kind + ")", x.as(p, kind), fits[p].indexOf('0' + kind) >= 0 ? p : KIND);
            }
        }
        Sentences.says(28, "A PERSON is taken as one of a KIND (0 .. 5): the PERSON's number.");
        Due.due("the first as any", x.as(0, 0), 0);
        Due.due("the last as what he is", x.as(4, 5), 4);
        Due.due("he is of that kind yet", x.kind(4), 5);
        x.as(4, 0);
        Due.due("though he was taken as another", x.kind(4), 5);
        Sentences.says(28, "BAD;");
        for (int person : NO_PEOPLE) {
            Due.due("as(" + person + ", 0)", x.as(person, 0), BAD);
        }
        for (int kind : new int[] {-1, 6, MIN, MAX}) {
            Due.due("as(0, " + kind + ")", x.as(0, kind), BAD);
        }
        Sentences.says(28, "KIND: he is no such one.");
        Due.due("as(0, 5)", x.as(0, 5), KIND);
        Due.due("status()", x.status(), 3);
        Due.due("a sick one is no child", x.as(3, 5), KIND);
        Due.due("a driver is no stranger", x.as(1, 3), KIND);
    }

    private static void dueAsk(HomeDrives x, int person, int what, int answer, int... trace) {
        String call = "ask(" + person + ", " + what + ")";
        Due.due(call, x.ask(person, what), answer);
        for (int i = 0; i < trace.length; i++) {
            Due.due("trace(" + i + ") of " + call, x.trace(i), trace[i]);
        }
        for (int i = trace.length; i <= 16; i++) {
            Due.due("trace(" + i + ") of " + call, x.trace(i), NONE);
        }
    }

    private static void sizes() {
        Sentences.says(Sentences.TERMS, "ASKS of PEOPLE, by BODIES, each of which leaves its number in THE TRACE as it begins (the first 16):"
            + " 0 SIZE: 10 lent to all PEOPLE: GLASSES. 11 of PLAIN ones: what 10 gives, and MARK. 12 of STRANGERS: 0 less what 11 gives."
            + " 13 of SICK ones: what 10 gives, less 100. 14 of CHILDREN: twice what 13 gives (asked once).");
        HomeDrives x = Due.at(FIVE);
        dueAsk(x, 0, 0, 4 + 10, 11, 10, 21, 20);
        dueAsk(x, 1, 0, 3 + (1 + 20 - 1000), 11, 10, 22, 21, 20);
        dueAsk(x, 2, 0, -(2 + 2 * (2 + 30)), 12, 11, 10, 24, 21, 20);
        dueAsk(x, 3, 0, 1 - 100, 13, 10);
        dueAsk(x, 4, 0, 2 * (6 - 100), 14, 13, 10);
        HomeDrives y = Due.at("law 9 9;person sick 1 0;person child 7 9;");
        dueAsk(y, 0, 0, -100, 13, 10);
        dueAsk(y, 1, 0, -182, 14, 13, 10);
        for (int i = 0; i < 10; i++) {
            y.drink(1, 9);
        }
        dueAsk(y, 1, 0, -2, 14, 13, 10);
    }

    private static void marks() {
        Sentences.says(Sentences.TERMS, "1 MARK: 20 lent to all PEOPLE: his number. 21 of PLAIN ones: what 20 gives, and 10 times his HOME."
            + " 22 of DRIVERS: what 21 gives, less 1000. 23 of SICK ones: what 20 gives, less SIZE. 24 of STRANGERS: twice what 21 gives (asked once).");
        HomeDrives x = Due.at(FIVE);
        dueAsk(x, 0, 1, 10, 21, 20);
        dueAsk(x, 1, 1, 1 + 20 - 1000, 22, 21, 20);
        dueAsk(x, 2, 1, 2 * (2 + 30), 24, 21, 20);
        dueAsk(x, 3, 1, 3 - (1 - 100), 23, 20, 13, 10);
        dueAsk(x, 4, 1, 4 - 2 * (6 - 100), 23, 20, 14, 13, 10);
    }

    private static void anew() {
        Sentences.says(Sentences.TERMS, "(Of an ask the BODY told for the KIND begins, else that of the nearest KIND that it is, too, else the one that is lent;"
            + " SIZE, MARK within others are asked of the same PERSON anew.)");
        HomeDrives x = Due.at("law 9 9;" + "person plain 1 0;".repeat(5) + "person driver 7 9;person child 7 9;");
        // A driver has no body for SIZE: that of PLAIN begins, and asks him for his MARK as a driver.
        dueAsk(x, 5, 0, 9 + (5 + 70 - 1000), 11, 10, 22, 21, 20);
        // A child has none for MARK: that of SICK begins, and asks for the SIZE of a child.
        dueAsk(x, 6, 1, 6 - 2 * (9 - 100), 23, 20, 14, 13, 10);
        dueAsk(x, 4, 0, 0 + 4 + 10, 11, 10, 21, 20);
        Sentences.says(29, "An ASK (0, 1) of a PERSON.");
        Due.due("ask(0, 0)", x.ask(0, 0), 10);
        Due.due("ask(0, 1)", x.ask(0, 1), 10);
        x.drink(0, 3);
        Due.due("ask(0, 0) with glasses", x.ask(0, 0), 13);
        Due.due("ask(0, 1) with glasses", x.ask(0, 1), 10);
    }

    private static void refusedAsks() {
        HomeDrives x = Due.at(FIVE);
        Sentences.says(29, "BAD.");
        for (int person : NO_PEOPLE) {
            Due.due("ask(" + person + ", 0)", x.ask(person, 0), BAD);
        }
        for (int what : new int[] {-1, 2, MIN, MAX}) {
            Due.due("ask(0, " + what + ")", x.ask(0, what), BAD);
        }
        Due.due("no trace of these", x.trace(0), NONE);
        Sentences.says(29, "THE TRACE is empty ahead of it (where that is refused it stays).");
        x.ask(2, 0);
        Due.due("the sixth", x.trace(5), 20);
        x.ask(2, 2);
        x.ask(5, 0);
        Due.due("the first stays", x.trace(0), 12);
        Due.due("the sixth stays", x.trace(5), 20);
        dueAsk(x, 3, 0, -99, 13, 10);
        dueAsk(x, 3, 0, -99, 13, 10);
    }

    private static void traces() {
        Sentences.says(30, "Number i of THE TRACE; NONE.");
        HomeDrives x = Due.at(FIVE);
        Due.due("none at first", x.trace(0), NONE);
        x.ask(4, 1);
        int[] want = {23, 20, 14, 13, 10, NONE};
        for (int i = 0; i < want.length; i++) {
            Due.due("trace(" + i + ")", x.trace(i), want[i]);
        }
        for (int i : new int[] {-1, 15, 16, 17, MIN, MAX}) {
            Due.due("trace(" + i + ")", x.trace(i), NONE);
        }
    }

    private static void counts() {
        Sentences.says(31, "How many: 0 ROWS, 1 PEOPLE, 2 CARS, 3 QUARRELS told, 4 drinks that can be undone, 5 GLASSES in all, 6 bytes on the tape.");
        HomeDrives x = new HomeDrives();
        dueCounts(x, 0, 0, 0, 0, 0, 0, 0);
        Due.read(x, FIVE + "car 4 1 0;car 3 1 0;car 2 1 0;quarrel 0 1;quarrel 1 0;quarrel 0 1;");
        dueCounts(x, 0, 5, 3, 3, 0, 16, 0);
        for (int row = 0; row < 8; row++) {
            x.row(row, 0, 0);
        }
        x.row(7, 2, 40);
        for (int i = 0; i < 25; i++) {
            x.drink(0, 1);
        }
        x.feed(0, 8);
        dueCounts(x, 8, 5, 3, 3, 24, 41, 8);
        x.drop(0);
        x.undo();
        x.evening();
        dueCounts(x, 7, 5, 3, 3, 23, 40, 0);
        Sentences.says(31, "BAD.");
        for (int what : new int[] {-1, 7, MIN, MAX}) {
            Due.due("count(" + what + ")", x.count(what), BAD);
        }
    }

    private static void dueCounts(HomeDrives x, int... want) {
        for (int what = 0; what < want.length; what++) {
            Due.due("count(" + what + ")", x.count(what), want[what]);
        }
    }
}
