/** FAR, DRUNK, MAY, SOON and ODDS of "Terms"; promises 9 to 16. */
final class EdgePeople {
    private static final int NONE = HomeDrives.NONE, BAD = HomeDrives.BAD, FULL = HomeDrives.FULL, STATE = HomeDrives.STATE;
    private static final int MIN = Integer.MIN_VALUE, MAX = Integer.MAX_VALUE;
    private static final String THREE = "law 10 7;way 0 1 5;person plain 1 2;person driver 2 0;person child 7 9;car 1 3 1;car 0 2 0;"
        + "quarrel 2 0;quarrel 2 1;quarrel 0 2;";
    private static final int[] NO_PEOPLE = {-1, 3, 7, MIN, MAX}, NO_MINUTES = {-1, 601, MIN, MAX};

    private EdgePeople() {
    }

    static void run() {
        far();
        drunk();
        mayDrive();
        soon();
        odds();
        drinks();
        undoes();
        tellsPeople();
        tellsCars();
    }

    private static void far() {
        String text = "FAR from SITE to SITE: fewest MINUTES by WAYS, either way round; NONE.";
        Sentences.says(Sentences.TERMS, text);
        HomeDrives x = Due.at("law 0 1;way 7 6 99;way 5 6 99;way 5 4 99;way 3 4 99;way 3 2 99;way 1 2 99;way 1 0 99;");
        for (int a = 0; a < 8; a++) {
            for (int b = 0; b < 8; b++) {
                Due.due("far(" + a + ", " + b + ")", x.far(a, b), 99 * Math.abs(a - b));
            }
        }
        HomeDrives y = Due.at("law 0 1;way 0 1 9;way 0 2 4;way 2 1 4;way 3 4 1;");
        Due.due("round about", y.far(0, 1), 8);
        Due.due("round about, back", y.far(1, 0), 8);
        Due.due("straight", Due.at("law 0 1;way 0 1 8;way 0 2 4;way 2 1 5;").far(1, 0), 8);
        Due.due("no way", y.far(0, 3), NONE);
        Due.due("no way back", y.far(4, 2), NONE);
        Sentences.says(13, "FAR; NONE.");
        Due.due("apart from 0", y.far(4, 3), 1);
        Due.due("no way at all", y.far(7, 0), NONE);
        for (int site = 0; site < 8; site++) {
            Due.due("from a site to itself", Due.at("law 0 1;").far(site, site), 0);
        }
        Sentences.says(13, "BAD: SITES 0 to 7;");
        for (int site : new int[] {-1, 8, MIN, MAX}) {
            Due.due("far(" + site + ", 0)", y.far(site, 0), BAD);
            Due.due("far(0, " + site + ")", y.far(0, site), BAD);
            Due.due("far(" + site + ", " + site + ")", y.far(site, site), BAD);
        }
        Sentences.says(13, "STATE: no EVENING (ahead of BAD).");
        HomeDrives none = new HomeDrives();
        Due.due("far(0, 0)", none.far(0, 0), STATE);
        Due.due("far(8, -1)", none.far(8, -1), STATE);
        Due.read(none, "law 0 0;");
        Due.due("behind a fault", none.far(0, 0), STATE);
    }

    private static void drunk() {
        Sentences.says(Sentences.TERMS, "DRUNK of one at a MINUTE (0 to 600, from half past one on): 10 times his GLASSES,"
            + " less RATE for each whole hour (60 MINUTES) that is over then, 0 at least.");
        HomeDrives x = Due.at("law 0 20;person plain 1 3;person sick 1 9;person child 1 0;");
        int[][] want = {{0, 30}, {59, 30}, {60, 10}, {119, 10}, {120, 0}, {599, 0}, {600, 0}};
        for (int[] one : want) {
            Due.due("may(0, " + one[0] + ", 0)", x.may(0, one[0], 0), one[1]);
        }
        Due.due("0 stays 0", x.may(2, 600, 0), 0);
        Due.due("9 glasses of a sick one", x.may(1, 240, 0), 10);
        for (int i = 0; i < 10; i++) {
            x.drink(1, 9);
        }
        Due.due("99 glasses", x.may(1, 0, 0), 990);
        Due.due("99 glasses at last", x.may(1, 600, 0), 790);
        HomeDrives y = Due.at("law 0 1;person plain 1 1;");
        Due.due("1 is left", y.may(0, 599, 0), 1);
        Due.due("just 0", y.may(0, 600, 0), 0);
    }

    private static void mayDrive() {
        Sentences.says(Sentences.TERMS, "He MAY drive, if that is no more than LIMIT, and he is no child, not sick;"
            + " one who is a driver only if he had no GLASSES at all.");
        HomeDrives x = Due.at("law 10 1;person plain 1 1;person plain 1 2;person stranger 1 1;person driver 1 0;person driver 1 1;"
            + "person sick 1 0;person child 1 0;");
        int[] atFirst = {1, 0, 1, 1, 0, 0, 0};
        int[] atLast = {1, 1, 1, 1, 0, 0, 0};
        for (int p = 0; p < 7; p++) {
            Due.due("may(" + p + ", 0, 1)", x.may(p, 0, 1), atFirst[p]);
            Due.due("may(" + p + ", 599, 1)", x.may(p, 599, 1), atFirst[p]);
            Due.due("may(" + p + ", 600, 1)", x.may(p, 600, 1), atLast[p]);
        }
        x.drink(3, 1);
        Due.due("a driver who drank since", x.may(3, 600, 1), 0);
        x.undo();
        Due.due("and did not", x.may(3, 0, 1), 1);
        Due.due("just above the limit", Due.at("law 9 1;person plain 1 1;").may(0, 0, 1), 0);
        Sentences.says(14, "DRUNK (what = 0), whether he MAY drive (1: 1, 0).");
        HomeDrives y = Due.at(THREE);
        Due.due("may(0, 0, 0)", y.may(0, 0, 0), 20);
        Due.due("may(0, 0, 1)", y.may(0, 0, 1), 0);
        Due.due("may(0, 119, 1)", y.may(0, 119, 1), 0);
        Due.due("may(0, 120, 1)", y.may(0, 120, 1), 1);
        Sentences.says(14, "BAD.");
        for (int person : NO_PEOPLE) {
            Due.due("may(" + person + ", 0, 0)", y.may(person, 0, 0), BAD);
        }
        for (int minute : NO_MINUTES) {
            Due.due("may(0, " + minute + ", 0)", y.may(0, minute, 0), BAD);
        }
        for (int what : new int[] {-1, 2, MIN, MAX}) {
            Due.due("may(0, 0, " + what + ")", y.may(0, 0, what), BAD);
        }
    }

    private static void soon() {
        Sentences.says(Sentences.TERMS, "SOON: the first MINUTE at which he MAY; NONE.");
        HomeDrives x = Due.at("law 5 10;person plain 1 0;person stranger 1 1;person plain 1 9;person driver 1 0;person driver 1 1;"
            + "person sick 1 0;person child 1 0;");
        int[] want = {0, 60, 540, 0, NONE, NONE, NONE};
        for (int p = 0; p < 7; p++) {
            Due.due("soon(" + p + ")", x.soon(p), want[p]);
        }
        Sentences.says(15, "SOON; NONE.");
        x.drink(2, 1);
        Due.due("the last minute", x.soon(2), 600);
        x.drink(2, 1);
        Due.due("not within 600", x.soon(2), NONE);
        Due.due("at the limit", Due.at("law 10 1;person plain 1 1;").soon(0), 0);
        Due.due("one above the limit", Due.at("law 9 1;person plain 1 1;").soon(0), 60);
        Sentences.says(15, "BAD.");
        for (int person : new int[] {-1, 7, MIN, MAX}) {
            Due.due("soon(" + person + ")", x.soon(person), BAD);
        }
    }

    private static void dueOdds(HomeDrives x, int person, int minute, int n, int above, int below) {
        String call = "odds(" + person + ", " + minute + ", " + n + ", ";
        Due.due(call + "0)", x.odds(person, minute, n, 0), above);
        Due.due(call + "1)", x.odds(person, minute, n, 1), below);
    }

    private static void odds() {
        Sentences.says(Sentences.TERMS, "ODDS that one MAY drive at a MINUTE, who had 0 to n (0 to 9) GLASSES more than he says, each alike: a fraction.");
        HomeDrives x = Due.at("law 10 5;person plain 1 0;person driver 1 0;person driver 1 1;person sick 1 0;person child 1 0;person plain 1 9;");
        dueOdds(x, 0, 0, 0, 1, 1);
        dueOdds(x, 0, 0, 1, 1, 1);
        dueOdds(x, 0, 0, 2, 2, 3);
        dueOdds(x, 0, 0, 9, 1, 5);
        dueOdds(x, 0, 119, 2, 2, 3);
        dueOdds(x, 0, 120, 2, 1, 1);
        dueOdds(x, 0, 600, 9, 7, 10);
        dueOdds(x, 1, 600, 0, 1, 1);
        dueOdds(x, 1, 600, 1, 1, 2);
        dueOdds(x, 1, 600, 9, 1, 10);
        dueOdds(x, 2, 600, 9, 0, 1);
        dueOdds(x, 3, 600, 9, 0, 1);
        dueOdds(x, 4, 600, 0, 0, 1);
        dueOdds(x, 5, 600, 9, 0, 1);
        Sentences.says(16, "ODDS: above (what = 0), below (1).");
        dueOdds(x, 0, 0, 5, 1, 3);
        x.drink(0, 1);
        dueOdds(x, 0, 0, 5, 1, 6);
        Due.due("glasses are what he says yet", x.person(0, 1), 1);
        Sentences.says(16, "BAD.");
        for (int person : new int[] {-1, 6, MIN, MAX}) {
            Due.due("odds(" + person + ", 0, 0, 0)", x.odds(person, 0, 0, 0), BAD);
        }
        for (int minute : NO_MINUTES) {
            Due.due("odds(0, " + minute + ", 0, 0)", x.odds(0, minute, 0, 0), BAD);
        }
        for (int n : new int[] {-1, 10, MIN, MAX}) {
            Due.due("odds(0, 0, " + n + ", 0)", x.odds(0, 0, n, 0), BAD);
        }
        for (int what : new int[] {-1, 2, MIN, MAX}) {
            Due.due("odds(0, 0, 0, " + what + ")", x.odds(0, 0, 0, what), BAD);
        }
    }

    private static void drinks() {
        Sentences.says(9, "n GLASSES (1 to 9) more: how many he has had then.");
        HomeDrives x = Due.at(THREE);
        Due.due("drink(0, 1)", x.drink(0, 1), 3);
        Due.due("drink(2, 9)", x.drink(2, 9), 18);
        Due.due("person(2, 1)", x.person(2, 1), 18);
        Due.due("the others have had what they had", x.count(5), 21);
        Sentences.says(9, "BAD;");
        for (int n : new int[] {0, 10, -1, MIN, MAX}) {
            Due.due("drink(0, " + n + ")", x.drink(0, n), BAD);
        }
        for (int person : NO_PEOPLE) {
            Due.due("drink(" + person + ", 1)", x.drink(person, 1), BAD);
        }
        Due.due("glasses", x.count(5), 21);
        Due.due("drinks", x.count(4), 2);
        Sentences.says(9, "FULL: it would be above 99.");
        for (int i = 0; i < 10; i++) {
            x.drink(0, 9);
        }
        Due.due("93 and 7", x.drink(0, 7), FULL);
        Due.due("93 and 9", x.drink(0, 9), FULL);
        Due.due("93 stay", x.person(0, 1), 93);
        Due.due("93 and 6", x.drink(0, 6), 99);
        Due.due("99 and 1", x.drink(0, 1), FULL);
        Due.due("drinks", x.count(4), 13);
        Due.due("another may yet", x.drink(1, 9), 9);
    }

    private static void undoes() {
        Sentences.says(10, "The latest drink() is undone (24 at most are kept, the latest ones): how many can be undone yet.");
        HomeDrives x = Due.at(THREE);
        for (int i = 0; i < 26; i++) {
            x.drink(i % 2, 1 + i % 3);
            Due.due("count(4)", x.count(4), Math.min(24, i + 1));
        }
        for (int left = 23; left >= 0; left--) {
            Due.due("undo()", x.undo(), left);
        }
        Due.due("the first drink of 0 stays", x.person(0, 1), 2 + 1);
        Due.due("the first drink of 1 stays", x.person(1, 1), 2);
        undoesBackwards();
        HomeDrives y = Due.at(THREE);
        for (int i = 0; i < 24; i++) {
            y.drink(1, 1);
        }
        Due.due("24 drinks, count(4)", y.count(4), 24);
        Due.due("undo()", y.undo(), 23);
        y.drink(0, 9);
        Due.due("in place of the one undone", y.count(4), 24);
        Due.due("undo()", y.undo(), 23);
        Due.due("that was the latest", y.person(0, 1), 2);
        Due.due("and not this", y.person(1, 1), 23);
        y.drink(0, 10);
        y.undo();
        Due.due("what was refused is not undone", y.person(1, 1), 22);
        Sentences.says(10, "STATE: none.");
        Due.due("behind all", x.undo(), STATE);
        Due.due("at first", Due.at(THREE).undo(), STATE);
        Due.due("without an evening", new HomeDrives().undo(), STATE);
        Due.due("nothing changed", x.count(5), 3 + 2 + 9);
    }

    /** Drinks of all in turn, one more than are kept, each undone as it was. */
    private static void undoesBackwards() {
        HomeDrives x = Due.at(THREE);
        int[] had = {2, 0, 9};
        for (int i = 0; i < 25; i++) {
            had[i % 3] += 1 + i % 4;
            Due.due("drink(" + i % 3 + ", " + (1 + i % 4) + ")", x.drink(i % 3, 1 + i % 4), had[i % 3]);
        }
        for (int i = 24; i >= 1; i--) {
            had[i % 3] -= 1 + i % 4;
            Due.due("undo()", x.undo(), i - 1);
            for (int p = 0; p < 3; p++) {
                Due.due("person(" + p + ", 1) behind it", x.person(p, 1), had[p]);
            }
        }
    }

    private static void tellsPeople() {
        Sentences.says(11, "Of one: 0 HOME, 1 GLASSES, 2 his CAR (NONE), 3 with whom he QUARRELS (bits).");
        HomeDrives x = Due.at(THREE);
        int[][] want = {{1, 2, 1, 4}, {2, 0, 0, 4}, {7, 9, NONE, 3}};
        for (int p = 0; p < 3; p++) {
            for (int what = 0; what < 4; what++) {
                Due.due("person(" + p + ", " + what + ")", x.person(p, what), want[p][what]);
            }
        }
        Sentences.says(11, "BAD.");
        for (int what : new int[] {-1, 4, MIN, MAX}) {
            Due.due("person(0, " + what + ")", x.person(0, what), BAD);
        }
        for (int person : NO_PEOPLE) {
            Due.due("person(" + person + ", 0)", x.person(person, 0), BAD);
        }
    }

    private static void tellsCars() {
        Sentences.says(12, "Of a CAR: 0 OWNER, 1 SEATS, 2 SNOW.");
        HomeDrives x = Due.at(THREE);
        int[][] want = {{1, 3, 1}, {0, 2, 0}};
        for (int c = 0; c < 2; c++) {
            for (int what = 0; what < 3; what++) {
                Due.due("car(" + c + ", " + what + ")", x.car(c, what), want[c][what]);
            }
        }
        Sentences.says(12, "BAD.");
        for (int what : new int[] {-1, 3, MIN, MAX}) {
            Due.due("car(0, " + what + ")", x.car(0, what), BAD);
        }
        for (int car : new int[] {-1, 2, 3, MIN, MAX}) {
            Due.due("car(" + car + ", 0)", x.car(car, 0), BAD);
        }
    }
}
