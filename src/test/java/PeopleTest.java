/** Promises 9 to 13: drink, undo, person, car, far. */
public final class PeopleTest {
    private static final String TEXT = "law 5 4;way 0 1 5;way 1 2 7;way 0 2 20;way 5 6 9;hill 2;"
        + "person plain 1 2;person driver 2 0;person child 5 9;car 1 3 1;car 0 2 0;quarrel 2 0;quarrel 2 1;quarrel 0 2;";

    public static void main(String[] args) {
        drinks();
        undoes();
        tellsPeople();
        tellsCars();
        tellsFar();
        Due.end();
    }

    private static void drinks() {
        HomeDrives x = Due.at(TEXT);
        Due.due("drink(0, 9)", x.drink(0, 9), 11);
        Due.due("drink(0, 1)", x.drink(0, 1), 12);
        Due.due("drink(0, 0)", x.drink(0, 0), HomeDrives.BAD);
        Due.due("drink(0, 10)", x.drink(0, 10), HomeDrives.BAD);
        Due.due("drink(0, min)", x.drink(0, Integer.MIN_VALUE), HomeDrives.BAD);
        Due.due("drink(3, 1)", x.drink(3, 1), HomeDrives.BAD);
        Due.due("drink(-1, 1)", x.drink(-1, 1), HomeDrives.BAD);
        for (int i = 1; i <= 9; i++) {
            Due.due("drink(0, 9)", x.drink(0, 9), 12 + 9 * i);
        }
        Due.due("above 99", x.drink(0, 7), HomeDrives.FULL);
        Due.due("BAD ahead of FULL", x.drink(0, 10), HomeDrives.BAD);
        Due.due("up to 99", x.drink(0, 6), 99);
        Due.due("above 99 by one", x.drink(0, 1), HomeDrives.FULL);
        Due.due("glasses", x.person(0, 1), 99);
        Due.due("count(4)", x.count(4), 12);
        Due.due("count(5)", x.count(5), 108);
    }

    private static void undoes() {
        HomeDrives x = Due.at(TEXT);
        Due.due("undo of none", x.undo(), HomeDrives.STATE);
        x.drink(0, 3);
        x.drink(2, 4);
        x.drink(9, 4);
        Due.due("undo", x.undo(), 1);
        Due.due("glasses of 2", x.person(2, 1), 9);
        Due.due("glasses of 0", x.person(0, 1), 5);
        Due.due("undo", x.undo(), 0);
        Due.due("glasses of 0", x.person(0, 1), 2);
        Due.due("undo of none", x.undo(), HomeDrives.STATE);
        x.drink(0, 5);
        x.drink(0, 7);
        for (int i = 0; i < 24; i++) {
            x.drink(1, 1 + i % 3);
        }
        Due.due("24 are kept", x.count(4), 24);
        for (int i = 23; i >= 0; i--) {
            Due.due("undo", x.undo(), i);
        }
        Due.due("undo of none", x.undo(), HomeDrives.STATE);
        Due.due("glasses of 1", x.person(1, 1), 0);
        Due.due("the first two stay", x.person(0, 1), 14);
        HomeDrives y = Due.at(TEXT);
        for (int i = 0; i < 30; i++) {
            y.drink(i % 3, 1 + i % 2);
        }
        for (int i = 0; i < 24; i++) {
            y.undo();
        }
        Due.due("six stay, of 0", y.person(0, 1), 2 + 3);
        Due.due("six stay, of 1", y.person(1, 1), 3);
        Due.due("six stay, of 2", y.person(2, 1), 9 + 3);
    }

    private static void tellsPeople() {
        HomeDrives x = Due.at(TEXT);
        int[][] want = {{1, 2, 1, 4}, {2, 0, 0, 4}, {5, 9, HomeDrives.NONE, 3}};
        for (int p = 0; p < 3; p++) {
            for (int what = 0; what < 4; what++) {
                Due.due("person(" + p + ", " + what + ")", x.person(p, what), want[p][what]);
            }
        }
        Due.due("person(0, 4)", x.person(0, 4), HomeDrives.BAD);
        Due.due("person(0, -1)", x.person(0, -1), HomeDrives.BAD);
        Due.due("person(3, 0)", x.person(3, 0), HomeDrives.BAD);
        Due.due("person(-1, 0)", x.person(-1, 0), HomeDrives.BAD);
    }

    private static void tellsCars() {
        HomeDrives x = Due.at(TEXT);
        int[][] want = {{1, 3, 1}, {0, 2, 0}};
        for (int c = 0; c < 2; c++) {
            for (int what = 0; what < 3; what++) {
                Due.due("car(" + c + ", " + what + ")", x.car(c, what), want[c][what]);
            }
        }
        Due.due("car(0, 3)", x.car(0, 3), HomeDrives.BAD);
        Due.due("car(0, -1)", x.car(0, -1), HomeDrives.BAD);
        Due.due("car(2, 0)", x.car(2, 0), HomeDrives.BAD);
        Due.due("car(-1, 0)", x.car(-1, 0), HomeDrives.BAD);
    }

    private static void tellsFar() {
        HomeDrives x = Due.at(TEXT);
        Due.due("far(0, 2)", x.far(0, 2), 12);
        Due.due("far(2, 0)", x.far(2, 0), 12);
        Due.due("far(6, 5)", x.far(6, 5), 9);
        Due.due("far(7, 7)", x.far(7, 7), 0);
        Due.due("far(0, 5)", x.far(0, 5), HomeDrives.NONE);
        Due.due("far(8, 0)", x.far(8, 0), HomeDrives.BAD);
        Due.due("far(0, 8)", x.far(0, 8), HomeDrives.BAD);
        Due.due("far(-1, 0)", x.far(-1, 0), HomeDrives.BAD);
        Due.due("far(0, -1)", x.far(0, -1), HomeDrives.BAD);
        HomeDrives y = Due.at("law 0 1;way 7 6 99;way 5 6 99;way 5 4 99;way 3 4 99;way 3 2 99;way 1 2 99;way 1 0 99;");
        Due.due("the longest", y.far(0, 7), 693);
        HomeDrives z = Due.at("law 0 1;");
        for (int site = 0; site < 8; site++) {
            Due.due("from a site to itself", z.far(site, site), 0);
        }
    }
}
