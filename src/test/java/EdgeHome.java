/** GOES, RIDERS, HOME, DETOUR, FETCH and HOUSE of "Terms"; promises 17 to 22. */
final class EdgeHome {
    private static final int NONE = HomeDrives.NONE, BAD = HomeDrives.BAD, STATE = HomeDrives.STATE;
    private static final int MIN = Integer.MIN_VALUE, MAX = Integer.MAX_VALUE;
    private static final int[] NO_MINUTES = {-1, 601, MIN, MAX};
    private static final String LAW = "law 10 5;", AT_1 = "person plain 1 0;", AT_2 = "person plain 2 0;";
    /** Sites 0 to 5 in a line, a minute apart. */
    private static final String LINE = LAW + "way 0 1 1;way 1 2 1;way 2 3 1;way 3 4 1;way 4 5 1;";

    private EdgeHome() {
    }

    static void run() {
        goes();
        wrongGoes();
        riders();
        seats();
        quarrels();
        hillsAndWays();
        order();
        fewestStay();
        leastMinutes();
        firstRow();
        tellsHome();
        tellsOrder();
        detour();
        fetch();
        wrongFetch();
        house();
    }

    /** How many stay, all minutes, who stays, and who is in each car; behind the last car there is none. */
    private static void dueHome(HomeDrives x, int minute, int... want) {
        for (int what = 0; what < want.length; what++) {
            Due.due("home(" + minute + ", " + what + ")", x.home(minute, what), want[what]);
        }
        Due.due("home(" + minute + ", " + want.length + ")", x.home(minute, want.length), BAD);
    }

    /** The minutes, and who is set down, one after the other; nobody behind the last. */
    private static void dueOrder(HomeDrives x, int car, int... want) {
        for (int k = -1; k < want.length - 1; k++) {
            Due.due("order(0, " + car + ", " + k + ")", x.order(0, car, k), want[k + 1]);
        }
        Due.due("order(0, " + car + ", " + (want.length - 1) + ")", x.order(0, car, want.length - 1), NONE);
    }

    private static void goes() {
        Sentences.says(Sentences.TERMS, "A CAR GOES at a MINUTE, if its OWNER MAY drive, his home can be come to,"
            + " and it is on no HILL, or the CAR has SNOW.");
        HomeDrives x = Due.at(LAW + "way 0 1 1;person plain 1 1;person plain 1 2;person plain 1 6;car 0 1 0;car 1 1 0;car 2 1 0;");
        int[][] want = {{0, 1}, {119, 1}, {120, 3}, {599, 3}, {600, 7}};
        for (int[] one : want) {
            Due.due("goes(" + one[0] + ")", x.goes(one[0]), one[1]);
        }
        String kinds = "person sick 1 0;person child 1 0;person driver 1 1;car 0 1 0;car 1 1 0;car 2 1 0;";
        Due.due("who never may", Due.at(LAW + "way 0 1 1;" + kinds).goes(600), 0);
        Due.due("a driver without glasses", Due.at(LAW + "way 0 1 1;person driver 1 0;car 0 1 0;").goes(0), 1);
        String far = LAW + "way 0 1 1;way 1 2 1;way 3 4 1;person plain 2 0;person plain 3 0;person plain 7 0;car 0 1 1;car 1 1 1;car 2 1 1;";
        Due.due("homes by two ways, by none, by none at all", Due.at(far).goes(0), 1);
        String apart = LAW + "way 0 2 1;way 1 3 1;person plain 2 0;person plain 3 0;person plain 1 0;car 0 1 1;car 1 1 1;car 2 1 1;";
        Due.due("come to from 0, and not from 0", Due.at(apart).goes(0), 1);
        String hill = LAW + "way 0 1 1;way 1 2 1;hill 1;person plain 1 0;person plain 1 0;person plain 2 0;car 0 1 0;car 1 1 1;car 2 1 0;";
        Due.due("on a hill, there with snow, and beyond it", Due.at(hill).goes(0), 6);
        Sentences.says(17, "CARS that GO (bits).");
        Due.due("no car", Due.at(LAW).goes(0), 0);
        x.drink(0, 9);
        Due.due("one less", x.goes(600), 6);
        x.undo();
        Due.due("one more", x.goes(600), 7);
    }

    private static void wrongGoes() {
        Sentences.says(17, "BAD;");
        HomeDrives x = Due.at(LAW);
        for (int minute : NO_MINUTES) {
            Due.due("goes(" + minute + ")", x.goes(minute), BAD);
        }
        Sentences.says(17, "STATE: no EVENING (ahead of BAD).");
        HomeDrives none = new HomeDrives();
        Due.due("goes(0)", none.goes(0), STATE);
        Due.due("goes(601)", none.goes(601), STATE);
    }

    private static void riders() {
        Sentences.says(Sentences.TERMS, "All others are RIDERS: each in a CAR that GOES, or on the couch.");
        // 0 drives; 1 drank and 2 is sick, so their cars stay, and they ride; 3 has no car.
        HomeDrives x = Due.at(LAW + "way 0 1 1;person plain 1 0;person plain 1 9;person sick 1 0;person plain 1 0;car 1 4 0;car 2 4 0;car 0 4 0;");
        dueHome(x, 0, 0, 1, 0, 0, 0, 14);
        x.drink(0, 9);
        dueHome(x, 0, 4, 0, 15, 0, 0, 0);
        dueHome(Due.at(LAW), 0, 0, 0, 0);
        dueHome(Due.at(LAW + "way 0 1 1;" + AT_1 + "car 0 4 0;"), 0, 0, 1, 0, 0);
    }

    private static void seats() {
        Sentences.says(Sentences.TERMS, "In a CAR: no more than SEATS;");
        int[] aboard = {0, 2, 6, 14, 30};
        for (int seats = 1; seats <= 4; seats++) {
            HomeDrives x = Due.at(LAW + "way 0 1 1;" + AT_1.repeat(7) + "car 0 " + seats + " 0;");
            dueHome(x, 0, 6 - seats, 1, 126 - aboard[seats], aboard[seats]);
        }
        HomeDrives all = Due.at(LAW + "way 0 1 1;" + AT_1.repeat(7) + "car 0 2 0;car 1 1 0;car 2 1 0;");
        dueHome(all, 0, 0, 3, 0, 8 + 16, 32, 64);
    }

    private static void quarrels() {
        Sentences.says(Sentences.TERMS, "no two who QUARREL (the OWNER, too);");
        String four = LAW + "way 0 1 1;" + AT_1.repeat(4) + "car 0 4 0;";
        dueHome(Due.at(four), 0, 0, 1, 0, 14);
        dueHome(Due.at(four + "quarrel 1 2;"), 0, 1, 1, 4, 10);
        dueHome(Due.at(four + "quarrel 2 1;"), 0, 1, 1, 4, 10);
        dueHome(Due.at(four + "quarrel 0 1;"), 0, 1, 1, 2, 12);
        dueHome(Due.at(four + "quarrel 1 0;"), 0, 1, 1, 2, 12);
        dueHome(Due.at(four + "quarrel 1 2;quarrel 2 3;quarrel 3 1;"), 0, 2, 1, 12, 2);
        dueHome(Due.at(four + "quarrel 1 2;quarrel 1 3;"), 0, 1, 1, 2, 12);
        String two = LAW + "way 0 1 1;" + AT_1.repeat(4) + "car 0 4 0;car 1 4 0;";
        dueHome(Due.at(two + "quarrel 2 3;"), 0, 0, 2, 0, 4, 8);
        dueHome(Due.at(two + "quarrel 0 1;"), 0, 0, 2, 0, 12, 0);
        dueHome(Due.at(two + "quarrel 0 2;quarrel 1 2;"), 0, 1, 2, 4, 8, 0);
    }

    private static void hillsAndWays() {
        Sentences.says(Sentences.TERMS, "a home on a HILL only, if it has SNOW;");
        String hill = LAW + "way 0 1 1;way 1 2 1;way 2 3 1;hill 2;" + AT_1 + AT_2 + "person plain 3 0;car 0 4 ";
        dueHome(Due.at(hill + "0;"), 0, 1, 5, 2, 4);
        dueHome(Due.at(hill + "1;"), 0, 0, 5, 0, 6);
        Sentences.says(Sentences.TERMS, "all homes can be come to.");
        String apart = LAW + "way 0 1 1;way 2 3 1;" + AT_1 + AT_2 + "person plain 7 0;" + AT_1 + "car 0 4 1;";
        dueHome(Due.at(apart), 0, 2, 1, 6, 8);
        // An owner who cannot come home is on the couch, too, even if his car has room.
        dueHome(Due.at(LAW + "way 0 1 1;" + AT_2 + AT_1 + "car 0 4 1;"), 0, 2, 0, 3, 0);
    }

    private static void order() {
        Sentences.says(Sentences.TERMS, "It sets its RIDERS down in that order, sick ones (children, too) ahead of all others,"
            + " by which it is least MINUTES under way from SITE 0 to its OWNER's home (of several the first order by numbers).");
        dueOrder(Due.at(LINE + "person plain 3 0;person plain 2 0;" + AT_1 + "person plain 3 0;car 0 3 0;"), 0, 3, 2, 1, 3);
        // The owner lives at 1: 3 and 2 must be come to ahead of that, in either order; the first by numbers counts.
        dueOrder(Due.at(LINE + AT_1 + "person plain 3 0;" + AT_2 + "car 0 3 0;"), 0, 5, 1, 2);
        dueOrder(Due.at(LINE + AT_1 + AT_2 + "person plain 3 0;car 0 3 0;"), 0, 5, 1, 2);
        dueOrder(Due.at(LINE + AT_2 + AT_1 + "person sick 3 0;car 0 3 0;"), 0, 6, 2, 1);
        sickOnes();
        // All at one home: by numbers.
        dueOrder(Due.at(LINE + AT_1.repeat(5) + "car 2 4 0;"), 0, 1, 0, 1, 3, 4);
        // Out and back again: a rider at 0's other side.
        String fork = LAW + "way 0 1 3;way 0 2 4;";
        dueOrder(Due.at(fork + AT_1 + AT_2 + AT_1 + "car 0 2 0;"), 0, 11, 1, 2);
        dueOrder(Due.at(fork + AT_2 + AT_1 + AT_2 + "car 2 2 0;"), 0, 10, 1, 0);
        // From 0 it is nearer to 2, from the owner's home and from all others it is not.
        dueOrder(Due.at(LAW + "way 0 2 1;way 0 3 5;way 2 3 5;way 2 4 5;way 3 4 5;way 1 3 1;person plain 4 0;person plain 3 0;" + AT_2
            + "car 0 2 0;"), 0, 11, 2, 1);
    }

    private static void sickOnes() {
        String home4 = "person plain 4 0;";
        // Not sick: 1, 2, 3 on the way. Sick at 3: there first, then back.
        dueOrder(Due.at(LINE + home4 + "person plain 3 0;" + AT_2 + AT_1 + "car 0 3 0;"), 0, 4, 3, 2, 1);
        dueOrder(Due.at(LINE + home4 + "person sick 3 0;" + AT_2 + AT_1 + "car 0 3 0;"), 0, 8, 1, 2, 3);
        dueOrder(Due.at(LINE + home4 + "person child 3 0;" + AT_2 + AT_1 + "car 0 3 0;"), 0, 8, 1, 2, 3);
        // Sick ones and children among one another are like all others.
        dueOrder(Due.at(LINE + home4 + "person sick 3 0;person child 2 0;person plain 4 0;car 0 3 0;"), 0, 4, 2, 1, 3);
        dueOrder(Due.at(LINE + home4 + "person child 3 0;person sick 2 0;person child 1 0;car 0 3 0;"), 0, 4, 3, 2, 1);
        dueOrder(Due.at(LINE + home4 + AT_1 + "person stranger 1 0;person driver 1 2;person child 1 0;car 0 4 0;"), 0, 4, 4, 1, 2, 3);
    }

    private static void fewestStay() {
        Sentences.says(Sentences.TERMS, "HOME at a MINUTE: who is in which CAR, so that fewest stay on the couch;");
        // 2 fits only into car 0, which has one seat: so 3 goes by car 1, though that takes longer.
        String text = LAW + "way 0 1 1;way 0 2 99;hill 2;" + AT_1 + AT_1 + AT_2 + AT_1 + "car 0 1 1;car 1 1 0;";
        dueHome(Due.at(text), 0, 0, 1 + 198 + 1, 0, 4, 8);
        // One who quarrels with two others stays, and not the two.
        String three = LAW + "way 0 1 1;" + AT_1.repeat(4) + "car 3 2 0;quarrel 0 1;quarrel 0 2;";
        dueHome(Due.at(three), 0, 1, 1, 1, 6);
        // Nobody stays, however long it takes.
        dueHome(Due.at(LAW + "way 0 1 1;way 0 2 99;" + AT_1 + AT_2 + "car 0 1 0;"), 0, 0, 199, 0, 2);
    }

    private static void leastMinutes() {
        Sentences.says(Sentences.TERMS, "of like ones all CARS that GO are least MINUTES under way, added;");
        // By number 2 would be in car 0; by minutes he goes with 1, who lives where he does.
        dueHome(Due.at(LAW + "way 0 1 3;way 0 2 4;" + AT_1 + AT_2 + AT_2 + "car 0 4 0;car 1 4 0;"), 0, 0, 7, 0, 0, 4);
        // One seat: he who lives nearer the way home, though he comes later by number.
        dueHome(Due.at(LAW + "way 0 1 3;way 0 2 4;" + AT_1 + AT_2 + AT_1 + "car 0 1 0;"), 0, 1, 3, 2, 4);
        // A car that goes with nobody in it is under way, too.
        dueHome(Due.at(LAW + "way 0 1 3;way 0 2 4;" + AT_1 + AT_2 + "car 0 4 0;car 1 4 0;"), 0, 0, 7, 0, 0, 0);
        // One that does not go is not.
        HomeDrives x = Due.at(LAW + "way 0 1 3;way 0 2 4;" + AT_1 + "person plain 2 9;car 0 4 0;car 1 4 0;");
        dueHome(x, 0, 0, 11, 0, 2, 0);
    }

    private static void firstRow() {
        Sentences.says(Sentences.TERMS, "of like ones the first row (RIDER by RIDER the lesser CAR; the couch last).");
        String one = LAW + "way 0 1 1;";
        dueHome(Due.at(one + AT_1.repeat(4) + "car 0 4 0;car 1 4 0;"), 0, 0, 2, 0, 12, 0);
        dueHome(Due.at(one + AT_1.repeat(4) + "car 1 4 0;car 0 4 0;"), 0, 0, 2, 0, 12, 0);
        dueHome(Due.at(one + AT_1.repeat(4) + "car 0 1 0;car 1 1 0;"), 0, 0, 2, 0, 4, 8);
        dueHome(Due.at(one + AT_1.repeat(5) + "car 0 1 0;car 1 1 0;"), 0, 1, 2, 16, 4, 8);
        dueHome(Due.at(one + AT_1.repeat(6) + "car 5 1 0;car 4 2 0;"), 0, 1, 2, 8, 1, 6);
        // The first of the riders is looked at first: 0 in the lesser car, though then 1 must take the other.
        dueHome(Due.at(one + AT_1.repeat(4) + "car 2 4 0;car 3 4 0;quarrel 0 1;"), 0, 0, 2, 0, 1, 2);
        // 0 takes the last seat of car 0, so that 1 and 2 cannot both ride in it, but one of them must stay either way.
        dueHome(Due.at(one + AT_1.repeat(4) + "car 3 2 0;"), 0, 1, 1, 4, 3);
        dueHome(Due.at(one + AT_1.repeat(3) + "car 2 4 0;quarrel 0 1;"), 0, 1, 1, 2, 1);
    }

    private static void tellsHome() {
        String text = LINE + "person plain 2 0;person plain 1 9;person sick 1 0;person plain 7 0;car 0 3 0;car 1 4 1;";
        Sentences.says(18, "HOME: how many stay (what = 0), MINUTES of all CARS (1), who stays (2, bits), who is in a CAR"
            + " (3 and that, bits; 0 where it does not GO).");
        HomeDrives x = Due.at(text);
        dueHome(x, 0, 1, 2, 8, 6, 0);
        dueHome(x, 600, 1, 2, 8, 6, 0);
        x.drink(0, 2);
        dueHome(x, 0, 4, 0, 15, 0, 0);
        dueHome(x, 119, 4, 0, 15, 0, 0);
        dueHome(x, 120, 1, 2, 8, 6, 0);
        Sentences.says(18, "BAD;");
        for (int minute : NO_MINUTES) {
            Due.due("home(" + minute + ", 0)", x.home(minute, 0), BAD);
        }
        for (int what : new int[] {-1, 5, 6, MIN, MAX}) {
            Due.due("home(0, " + what + ")", x.home(0, what), BAD);
        }
        Sentences.says(18, "STATE: no EVENING (ahead of BAD).");
        HomeDrives none = new HomeDrives();
        Due.due("home(0, 0)", none.home(0, 0), STATE);
        Due.due("home(601, -1)", none.home(601, -1), STATE);
    }

    private static void tellsOrder() {
        Sentences.says(19, "By HOME: MINUTES of a CAR (k = -1), who is set down as the k-th;");
        HomeDrives x = Due.at(LINE + "person plain 5 0;person plain 1 9;person plain 4 0;person plain 3 0;person plain 2 0;car 0 4 0;car 1 1 0;");
        dueOrder(x, 0, 5, 1, 4, 3, 2);
        Due.due("order(600, 0, 3)", x.order(600, 0, 3), 2);
        // Two cars asked in turn, first for who is set down.
        HomeDrives y = Due.at(LINE + "way 0 6 9;way 6 7 9;person plain 3 0;person plain 2 0;person plain 1 0;person plain 7 0;person plain 7 0;"
            + "person plain 6 0;car 0 2 0;car 3 2 0;");
        int[][] want = {{2, 1, NONE, 3}, {5, 4, NONE, 18}};
        for (int i = 0; i < 4; i++) {
            int k = i < 3 ? i : -1;
            Due.due("order(0, 0, " + k + ") in turn", y.order(0, 0, k), want[0][i]);
            Due.due("order(0, 1, " + k + ") in turn", y.order(0, 1, k), want[1][i]);
        }
        dueOrder(Due.at(LINE + AT_2 + "car 0 4 0;"), 0, 2);
        Sentences.says(19, "NONE: not so many, it does not GO.");
        for (int k : new int[] {4, 5, 7, 40, MAX}) {
            Due.due("order(0, 0, " + k + ")", x.order(0, 0, k), NONE);
        }
        for (int k = -1; k <= 4; k++) {
            Due.due("order(0, 1, " + k + ")", x.order(0, 1, k), NONE);
        }
        Sentences.says(19, "BAD.");
        for (int minute : NO_MINUTES) {
            Due.due("order(" + minute + ", 0, 0)", x.order(minute, 0, 0), BAD);
        }
        for (int car : new int[] {-1, 2, 3, MIN, MAX}) {
            Due.due("order(0, " + car + ", -1)", x.order(0, car, -1), BAD);
        }
        for (int car = 0; car < 2; car++) {
            Due.due("order(0, " + car + ", -2)", x.order(0, car, -2), BAD);
            Due.due("order(0, " + car + ", min)", x.order(0, car, MIN), BAD);
        }
    }

    private static void detour() {
        Sentences.says(Sentences.TERMS, "DETOUR of a RIDER in a CAR by it: by how many MINUTES less that CAR would be under way without him.");
        HomeDrives x = Due.at(LAW + "way 0 1 4;way 0 2 6;way 2 3 5;" + AT_1 + "person plain 3 0;" + AT_2 + AT_1 + "car 0 4 0;");
        Due.due("minutes", x.order(0, 0, -1), 26);
        Due.due("who lives farthest", x.detour(0, 1), 10);
        Due.due("who lives on the way", x.detour(0, 2), 0);
        Due.due("who lives where the owner does", x.detour(0, 3), 0);
        // Without the sick one the others come in another order.
        HomeDrives y = Due.at(LINE + "person plain 3 0;person sick 2 0;" + AT_1 + "car 0 4 0;");
        Due.due("minutes", y.order(0, 0, -1), 5);
        Due.due("the sick one", y.detour(0, 1), 2);
        Due.due("the other", y.detour(0, 2), 2);
        Sentences.says(20, "DETOUR; NONE: he is in no CAR, or drives.");
        HomeDrives z = Due.at(LINE + AT_1 + "person plain 2 9;person plain 7 0;car 0 4 0;car 1 4 0;");
        Due.due("he drives", z.detour(0, 0), NONE);
        Due.due("his car does not go: he rides", z.detour(0, 1), 2);
        Due.due("he is on the couch", z.detour(0, 2), NONE);
        z.drink(0, 9);
        Due.due("no car goes", z.detour(0, 1), NONE);
        Due.due("nor does he drive", z.detour(0, 0), NONE);
        HomeDrives three = Due.at(LINE + AT_1.repeat(3) + "person plain 7 0;car 0 4 0;car 1 4 0;car 2 4 0;");
        for (int person = 0; person < 4; person++) {
            Due.due("who drives one of three cars, or is in none of them", three.detour(0, person), NONE);
        }
        Sentences.says(20, "BAD.");
        for (int minute : NO_MINUTES) {
            Due.due("detour(" + minute + ", 0)", z.detour(minute, 0), BAD);
        }
        for (int person : new int[] {-1, 3, MIN, MAX}) {
            Due.due("detour(0, " + person + ")", z.detour(0, person), BAD);
        }
    }

    private static void fetch() {
        String one = LAW + "way 0 1 1;", drank = "person plain 1 9;", child = "person child 1 0;";
        Sentences.says(Sentences.TERMS, "FETCH: CARS that do not GO are left at SITE 0, and all may drive on Sunday, but children:"
            + " the fewest trips of one CAR that GOES (the one with most SEATS), with as many who drive as it has SEATS"
            + " (and there are, beside its OWNER), each of whom brings one of those that are left;");
        Due.due("two left, one seat", Due.at(one + AT_1 + drank + drank + "car 0 1 0;car 1 4 0;car 2 4 0;").fetch(0), 2);
        Due.due("two left, two seats", Due.at(one + AT_1 + drank + drank + "car 0 2 0;car 1 1 0;car 2 1 0;").fetch(0), 1);
        Due.due("two left, four seats", Due.at(one + AT_1 + drank + drank + "car 0 4 0;car 1 1 0;car 2 1 0;").fetch(0), 1);
        Due.due("one left, one seat", Due.at(one + AT_1 + drank + "car 0 1 0;car 1 1 0;").fetch(0), 1);
        Due.due("one left, two go", Due.at(one + AT_1 + drank + AT_1 + "car 0 1 0;car 1 4 0;car 2 3 0;").fetch(0), 1);
        String two = "car 0 4 0;car 1 4 0;car 2 4 0;";
        Due.due("a child's cars, one who drives", Due.at(one + AT_1 + child + child + AT_1 + two).fetch(0), 2);
        Due.due("two who drive", Due.at(one + AT_1 + child + child + AT_1 + AT_1 + two).fetch(0), 1);
        Due.due("sick ones drive on Sunday", Due.at(one + AT_1 + child + child + "person sick 1 0;" + two).fetch(0), 2);
        Due.due("drivers who drank do", Due.at(one + AT_1 + "person driver 1 9;" + child + "car 0 4 0;car 1 4 0;car 2 4 0;").fetch(0), 2);
        Sentences.says(Sentences.TERMS, "0: none is left;");
        Due.due("all go", Due.at(one + AT_1 + AT_1 + "car 0 1 0;car 1 1 0;").fetch(0), 0);
        Due.due("there is none", Due.at(one + AT_1).fetch(0), 0);
        Due.due("nobody is there", Due.at(LAW).fetch(600), 0);
        Due.due("nobody but the owner drives, but none is left", Due.at(one + AT_1 + child + "car 0 1 0;").fetch(0), 0);
        Sentences.says(Sentences.TERMS, "NONE: no CAR GOES, or nobody but its OWNER drives.");
        Due.due("none goes", Due.at(one + drank + AT_1 + "car 0 1 0;").fetch(0), NONE);
        Due.due("none of three", Due.at(one + drank + drank + drank + two).fetch(0), NONE);
        Due.due("children beside the owner", Due.at(one + AT_1 + child + child + two).fetch(0), NONE);
    }

    private static void wrongFetch() {
        Sentences.says(21, "FETCH; NONE.");
        HomeDrives x = Due.at(LAW + "way 0 1 1;person plain 1 2;person plain 1 9;car 0 1 0;car 1 1 0;");
        Due.due("fetch(0)", x.fetch(0), NONE);
        Due.due("fetch(119)", x.fetch(119), NONE);
        Due.due("fetch(120)", x.fetch(120), 1);
        Due.due("fetch(600)", x.fetch(600), 1);
        Sentences.says(21, "BAD;");
        for (int minute : NO_MINUTES) {
            Due.due("fetch(" + minute + ")", x.fetch(minute), BAD);
        }
        Sentences.says(21, "STATE: no EVENING (ahead of BAD).");
        HomeDrives none = new HomeDrives();
        Due.due("fetch(0)", none.fetch(0), STATE);
        Due.due("fetch(-1)", none.fetch(-1), STATE);
    }

    private static void house() {
        Sentences.says(Sentences.TERMS, "HOUSE: the home of one of the PEOPLE from which all homes are least FAR, added (each can be come to);"
            + " of several the first; NONE.");
        dueHouse(LINE + "person plain 1 0;person sick 4 0;person child 3 0;", 2, 3);
        dueHouse(LINE + "person plain 1 0;person plain 5 0;", 0, 4);
        dueHouse(LINE + "person plain 5 0;person plain 1 0;person plain 2 0;person plain 2 0;", 2, 4);
        dueHouse(LAW + "way 3 4 9;person plain 4 0;person plain 3 0;person plain 3 0;", 1, 9);
        dueHouse(LAW + "person plain 7 0;", 0, 0);
        dueHouse(LAW + AT_1.repeat(7), 0, 0);
        dueHouse(LAW + "way 1 2 1;" + AT_1 + AT_1 + AT_2 + "person plain 3 0;", NONE, NONE);
        dueHouse(LINE, NONE, NONE);
        Sentences.says(22, "HOUSE: whose (what = 0), how FAR all are (1); NONE.");
        String ends = "way 7 6 99;way 5 6 99;way 5 4 99;way 3 4 99;way 3 2 99;way 1 2 99;";
        dueHouse(LAW + ends + "person plain 1 0;" + "person plain 7 0;".repeat(3), 1, 594);
        Sentences.says(22, "BAD;");
        HomeDrives x = Due.at(LINE + AT_1);
        for (int what : new int[] {-1, 2, MIN, MAX}) {
            Due.due("house(" + what + ")", x.house(what), BAD);
            Due.due("ahead of NONE: house(" + what + ")", Due.at(LINE).house(what), BAD);
        }
        Sentences.says(22, "STATE: no EVENING (ahead of BAD).");
        HomeDrives none = new HomeDrives();
        Due.due("house(0)", none.house(0), STATE);
        Due.due("house(2)", none.house(2), STATE);
    }

    private static void dueHouse(String text, int whose, int far) {
        HomeDrives x = Due.at(text);
        Due.due("whose, of \"" + text + "\"", x.house(0), whose);
        Due.due("how far, of \"" + text + "\"", x.house(1), far);
    }
}
