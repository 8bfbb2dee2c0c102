/** Promises 18 to 22: home, order, detour, fetch, house. */
public final class HomeTest {
    private static final int NONE = HomeDrives.NONE;

    public static void main(String[] args) {
        fewestStay();
        leastMinutes();
        firstRow();
        ridersFit();
        setsDown();
        detours();
        wrongNumbers();
        fetches();
        bestHouse();
        Due.end();
    }

    private static void dueHome(HomeDrives x, int minute, int... want) {
        for (int what = 0; what < want.length; what++) {
            Due.due("home(" + minute + ", " + what + ")", x.home(minute, what), want[what]);
        }
        Due.due("home(" + minute + ", " + want.length + ")", x.home(minute, want.length), HomeDrives.BAD);
    }

    private static void fewestStay() {
        // 2 fits only into car 0, 3 into both: car 0 has one seat, so 3 goes by car 1, though that is far.
        HomeDrives x = Due.at("law 9 9;way 0 1 1;way 0 2 99;hill 2;person plain 1 0;person plain 1 0;"
            + "person plain 2 0;person plain 2 0;car 0 1 1;car 1 4 0;");
        dueHome(x, 0, 1, 200, 8, 4, 0);
        HomeDrives y = Due.at("law 9 9;way 0 1 1;way 0 2 99;hill 2;person plain 1 0;person plain 1 0;"
            + "person plain 2 0;person plain 1 0;car 0 1 1;car 1 4 0;");
        dueHome(y, 0, 0, 200, 0, 4, 8);
        dueHome(Due.at("law 9 9;"), 600, 0, 0, 0);
        dueHome(Due.at("law 9 9;way 0 1 1;person plain 1 0;"), 600, 1, 0, 1);
    }

    private static void leastMinutes() {
        HomeDrives x = Due.at("law 9 9;way 0 1 10;way 1 2 3;way 0 3 10;way 3 4 3;person plain 2 0;person plain 4 0;"
            + "person plain 3 0;person plain 1 0;car 0 4 0;car 1 4 0;");
        dueHome(x, 0, 0, 26, 0, 8, 4);
        // Who may not drive yet is a rider, and his car stays.
        x.drink(0, 2);
        dueHome(x, 0, 0, 39, 0, 0, 13);
        dueHome(x, 119, 0, 39, 0, 0, 13);
        dueHome(x, 120, 0, 26, 0, 8, 4);
        x.undo();
        dueHome(x, 0, 0, 26, 0, 8, 4);
    }

    private static void firstRow() {
        String two = "law 9 9;way 0 1 5;person plain 1 0;person plain 1 0;person plain 1 0;person plain 1 0;";
        dueHome(Due.at(two + "car 0 4 0;car 1 4 0;"), 0, 0, 10, 0, 12, 0);
        dueHome(Due.at(two + "car 0 1 0;car 1 4 0;"), 0, 0, 10, 0, 4, 8);
        dueHome(Due.at(two + "car 3 1 0;"), 0, 2, 5, 6, 1);
        dueHome(Due.at(two + "car 3 1 0;car 2 1 0;quarrel 0 3;"), 0, 0, 10, 0, 2, 1);
    }

    private static void ridersFit() {
        String four = "law 9 9;way 0 1 5;way 0 2 5;hill 2;person plain 1 0;person plain 1 0;person plain 1 0;person plain 2 0;"
            + "person plain 7 0;car 0 4 ";
        dueHome(Due.at(four + "0;"), 0, 2, 5, 24, 6);
        dueHome(Due.at(four + "1;"), 0, 1, 15, 16, 14);
        dueHome(Due.at(four + "1;quarrel 1 0;"), 0, 2, 15, 18, 12);
        dueHome(Due.at(four + "1;quarrel 0 1;"), 0, 2, 15, 18, 12);
        dueHome(Due.at(four + "1;quarrel 1 2;"), 0, 2, 15, 20, 10);
        dueHome(Due.at(four + "1;quarrel 1 3;"), 0, 2, 5, 24, 6);
    }

    private static void dueOrder(HomeDrives x, int car, int... want) {
        for (int k = -1; k < want.length - 1; k++) {
            Due.due("order(0, " + car + ", " + k + ")", x.order(0, car, k), want[k + 1]);
        }
        Due.due("one beyond", x.order(0, car, want.length - 1), NONE);
        Due.due("far beyond", x.order(0, car, Integer.MAX_VALUE), NONE);
    }

    private static void setsDown() {
        String line = "law 9 9;way 0 1 1;way 1 2 1;way 2 3 1;way 3 4 1;";
        // The owner lives last, and all are on the way.
        dueOrder(Due.at(line + "person plain 4 0;person plain 3 0;person plain 2 0;person plain 1 0;car 0 3 0;"), 0, 4, 3, 2, 1);
        // The sick one ahead of those who live nearer.
        dueOrder(Due.at(line + "person plain 4 0;person sick 3 0;person plain 2 0;person plain 1 0;car 0 3 0;"), 0, 8, 1, 2, 3);
        dueOrder(Due.at(line + "person plain 4 0;person child 3 0;person plain 1 0;person sick 2 0;car 0 3 0;"), 0, 8, 1, 3, 2);
        // Of several orders the first by numbers.
        dueOrder(Due.at(line + "person plain 1 0;person plain 1 0;person plain 1 0;person plain 1 0;car 2 3 0;"), 0, 1, 0, 1, 3);
        dueOrder(Due.at(line + "person plain 1 0;person plain 2 0;person sick 1 0;person child 1 0;car 0 4 0;"), 0, 3, 2, 3, 1);
        dueOrder(Due.at(line + "person plain 1 0;person plain 2 0;person plain 4 0;car 0 4 0;car 1 2 0;"), 1, 6, 2);
        dueOrder(Due.at(line + "person plain 3 0;car 0 4 0;"), 0, 3);
        asksInTurn(line);
        HomeDrives x = Due.at(line + "person plain 3 9;car 0 4 0;");
        Due.due("it does not go", x.order(0, 0, -1), NONE);
        Due.due("nobody is set down", x.order(0, 0, 0), NONE);
        Due.due("order(0, 0, -2)", x.order(0, 0, -2), HomeDrives.BAD);
        Due.due("order(0, 0, min)", x.order(0, 0, Integer.MIN_VALUE), HomeDrives.BAD);
        Due.due("order(0, 1, 0)", x.order(0, 1, 0), HomeDrives.BAD);
        Due.due("order(0, -1, 0)", x.order(0, -1, 0), HomeDrives.BAD);
        Due.due("order(601, 0, 0)", x.order(601, 0, 0), HomeDrives.BAD);
        Due.due("order(-1, 0, 0)", x.order(-1, 0, 0), HomeDrives.BAD);
    }

    /** Two cars asked one after the other, so that nothing of the one is taken for the other's. */
    private static void asksInTurn(String line) {
        HomeDrives x = Due.at(line + "way 0 5 1;way 5 6 1;person plain 4 0;person plain 3 0;person plain 2 0;"
            + "person plain 6 0;person plain 5 0;person plain 6 0;car 0 2 0;car 3 2 0;");
        int[][] want = {{4, 2, 1, NONE}, {2, 4, 5, NONE}};
        for (int k = -1; k < 3; k++) {
            for (int car = 0; car < 2; car++) {
                Due.due("order(0, " + car + ", " + k + ") in turn", x.order(0, car, k), want[car][k + 1]);
                Due.due("detour in turn", x.detour(0, 1), 0);
            }
        }
    }

    private static void detours() {
        HomeDrives x = Due.at("law 9 9;way 0 1 4;way 0 2 6;way 2 3 5;way 0 4 50;person plain 1 0;person sick 3 0;"
            + "person plain 2 0;person plain 2 5;person plain 7 0;car 0 4 0;car 3 4 0;");
        dueHome(x, 0, 1, 26, 16, 14, 0);
        Due.due("the owner", x.detour(0, 0), NONE);
        Due.due("the farthest", x.detour(0, 1), 10);
        Due.due("on the way", x.detour(0, 2), 0);
        Due.due("who does not drive his car", x.detour(0, 3), 0);
        Due.due("on the couch", x.detour(0, 4), NONE);
        Due.due("he drives later", x.detour(600, 3), NONE);
        Due.due("detour(0, 5)", x.detour(0, 5), HomeDrives.BAD);
        Due.due("detour(0, -1)", x.detour(0, -1), HomeDrives.BAD);
        Due.due("detour(601, 0)", x.detour(601, 0), HomeDrives.BAD);
        Due.due("detour(-1, 0)", x.detour(-1, 0), HomeDrives.BAD);
        // Without the sick one the other is set down on the way: the order changes.
        HomeDrives y = Due.at("law 9 9;way 0 1 1;way 1 2 1;way 2 3 1;person plain 3 0;person sick 2 0;person plain 1 0;car 0 4 0;");
        Due.due("minutes", y.order(0, 0, -1), 5);
        Due.due("without the sick one", y.detour(0, 1), 2);
        Due.due("without the other", y.detour(0, 2), 2);
    }

    private static void wrongNumbers() {
        HomeDrives x = Due.at("law 9 9;way 0 1 4;person plain 1 0;car 0 1 0;");
        Due.due("home(-1, 0)", x.home(-1, 0), HomeDrives.BAD);
        Due.due("home(601, 0)", x.home(601, 0), HomeDrives.BAD);
        Due.due("home(0, -1)", x.home(0, -1), HomeDrives.BAD);
        Due.due("home(0, max)", x.home(0, Integer.MAX_VALUE), HomeDrives.BAD);
        Due.due("home(0, min)", x.home(0, Integer.MIN_VALUE), HomeDrives.BAD);
        Due.due("fetch(-1)", x.fetch(-1), HomeDrives.BAD);
        Due.due("fetch(601)", x.fetch(601), HomeDrives.BAD);
        Due.due("house(-1)", x.house(-1), HomeDrives.BAD);
        Due.due("house(2)", x.house(2), HomeDrives.BAD);
    }

    private static void fetches() {
        String way = "law 9 9;way 0 1 4;";
        Due.due("no cars", Due.at(way + "person plain 1 0;").fetch(0), 0);
        Due.due("none is left", Due.at(way + "person plain 1 0;car 0 1 0;").fetch(0), 0);
        Due.due("none goes", Due.at(way + "person plain 1 9;person plain 1 0;car 0 1 0;").fetch(0), NONE);
        String two = way + "person plain 1 0;person plain 1 9;person plain 1 9;car 1 4 0;car 2 4 0;car 0 ";
        Due.due("one seat", Due.at(two + "1 0;").fetch(0), 2);
        Due.due("two seats", Due.at(two + "2 0;").fetch(0), 1);
        Due.due("two of three go", Due.at(way + "person plain 1 0;person plain 1 0;person plain 1 9;car 1 1 0;car 2 4 0;car 0 1 0;").fetch(0), 1);
        String children = way + "person plain 1 0;person child 1 0;person child 1 0;car 0 4 0;car 1 1 0;car 2 1 0;";
        Due.due("children do not drive", Due.at(children).fetch(0), NONE);
        Due.due("one of the others does", Due.at(children.replaceFirst("child", "sick")).fetch(0), 2);
        Due.due("a car that cannot come home", Due.at(way + "person plain 1 0;person plain 7 0;car 0 1 0;car 1 1 0;").fetch(0), 1);
        HomeDrives x = Due.at(two + "2 0;");
        x.drink(0, 1);
        Due.due("not yet", x.fetch(59), NONE);
        Due.due("then", x.fetch(60), 1);
        // Of the cars that go the one with most seats: 1 of 3 is left.
        HomeDrives y = Due.at(way + "person plain 1 0;person plain 1 0;person plain 1 9;car 0 1 0;car 1 4 0;car 2 1 0;");
        Due.due("one is left", y.fetch(0), 1);
    }

    private static void bestHouse() {
        String ways = "law 9 9;way 0 1 4;way 1 2 4;way 2 3 4;way 5 6 1;";
        HomeDrives x = Due.at(ways + "person plain 1 0;person sick 3 0;person child 2 0;person plain 2 0;");
        Due.due("whose", x.house(0), 2);
        Due.due("how far", x.house(1), 8);
        HomeDrives y = Due.at(ways + "person plain 5 0;person plain 6 0;");
        Due.due("of several the first", y.house(0), 0);
        Due.due("though none can be come to from 0", y.house(1), 1);
        HomeDrives z = Due.at(ways + "person plain 1 0;person plain 1 0;person plain 6 0;");
        Due.due("one cannot be come to", z.house(0), NONE);
        Due.due("so there is no house", z.house(1), NONE);
        HomeDrives none = Due.at(ways);
        Due.due("no people: whose", none.house(0), NONE);
        Due.due("no people: how far", none.house(1), NONE);
    }
}
