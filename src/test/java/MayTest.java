/** Promises 14 to 17: may, soon, odds, goes. */
public final class MayTest {
    private static final String TEXT = "law 10 7;way 0 1 5;way 1 2 5;hill 2;person plain 1 3;person stranger 2 1;"
        + "person driver 1 0;person sick 1 0;person child 1 0;person stranger 7 0;";

    public static void main(String[] args) {
        mayDrive();
        mayDriveSoon();
        tellsOdds();
        carsGo();
        Due.end();
    }

    private static void mayDrive() {
        HomeDrives x = Due.at(TEXT);
        Due.due("drunk at 0", x.may(0, 0, 0), 30);
        Due.due("drunk at 59", x.may(0, 59, 0), 30);
        Due.due("drunk at 60", x.may(0, 60, 0), 23);
        Due.due("drunk at 299", x.may(0, 299, 0), 2);
        Due.due("drunk at 300", x.may(0, 300, 0), 0);
        Due.due("may at 119", x.may(0, 119, 1), 0);
        Due.due("may at 179", x.may(0, 179, 1), 0);
        Due.due("may at 180", x.may(0, 180, 1), 1);
        Due.due("may at the limit", x.may(1, 0, 1), 1);
        Due.due("a driver with none", x.may(2, 0, 1), 1);
        Due.due("a sick one", x.may(3, 600, 1), 0);
        Due.due("a child", x.may(4, 600, 1), 0);
        x.drink(2, 1);
        Due.due("a driver with one is at the limit", x.may(2, 0, 0), 10);
        Due.due("but may not", x.may(2, 0, 1), 0);
        Due.due("nor ever", x.may(2, 600, 1), 0);
        Due.due("drunk at 600", x.may(0, 600, 0), 0);
        Due.due("may(0, 601, 0)", x.may(0, 601, 0), HomeDrives.BAD);
        Due.due("may(0, -1, 0)", x.may(0, -1, 0), HomeDrives.BAD);
        Due.due("may(6, 0, 0)", x.may(6, 0, 0), HomeDrives.BAD);
        Due.due("may(-1, 0, 0)", x.may(-1, 0, 0), HomeDrives.BAD);
        Due.due("may(0, 0, 2)", x.may(0, 0, 2), HomeDrives.BAD);
        Due.due("may(0, 0, -1)", x.may(0, 0, -1), HomeDrives.BAD);
    }

    private static void mayDriveSoon() {
        HomeDrives x = Due.at(TEXT);
        Due.due("soon(0)", x.soon(0), 180);
        Due.due("soon(1)", x.soon(1), 0);
        Due.due("soon(2)", x.soon(2), 0);
        Due.due("soon(3)", x.soon(3), HomeDrives.NONE);
        Due.due("soon(4)", x.soon(4), HomeDrives.NONE);
        x.drink(0, 5);
        // 80 less 70 is the limit.
        Due.due("soon at last", x.soon(0), 600);
        x.drink(0, 1);
        Due.due("never", x.soon(0), HomeDrives.NONE);
        x.drink(2, 1);
        Due.due("a driver who drank", x.soon(2), HomeDrives.NONE);
        Due.due("soon(6)", x.soon(6), HomeDrives.BAD);
        Due.due("soon(-1)", x.soon(-1), HomeDrives.BAD);
    }

    private static void dueOdds(HomeDrives x, int person, int minute, int n, int above, int below) {
        String call = "odds(" + person + ", " + minute + ", " + n + ", ";
        Due.due(call + "0)", x.odds(person, minute, n, 0), above);
        Due.due(call + "1)", x.odds(person, minute, n, 1), below);
    }

    private static void tellsOdds() {
        HomeDrives x = Due.at(TEXT);
        dueOdds(x, 1, 0, 0, 1, 1);
        dueOdds(x, 1, 0, 3, 1, 4);
        dueOdds(x, 5, 0, 3, 1, 2);
        dueOdds(x, 5, 0, 9, 1, 5);
        dueOdds(x, 5, 600, 9, 9, 10);
        dueOdds(x, 5, 600, 8, 1, 1);
        dueOdds(x, 2, 600, 9, 1, 10);
        dueOdds(x, 3, 600, 9, 0, 1);
        dueOdds(x, 0, 0, 9, 0, 1);
        for (int i = 0; i < 10; i++) {
            x.drink(5, 9);
        }
        x.drink(5, 9);
        dueOdds(x, 5, 600, 9, 0, 1);
        Due.due("odds(6, ..)", x.odds(6, 0, 0, 0), HomeDrives.BAD);
        Due.due("odds(0, 601, ..)", x.odds(0, 601, 0, 0), HomeDrives.BAD);
        Due.due("odds(0, -1, ..)", x.odds(0, -1, 0, 0), HomeDrives.BAD);
        Due.due("odds(0, 0, -1, 0)", x.odds(0, 0, -1, 0), HomeDrives.BAD);
        Due.due("odds(0, 0, 10, 0)", x.odds(0, 0, 10, 0), HomeDrives.BAD);
        Due.due("odds(0, 0, 0, 2)", x.odds(0, 0, 0, 2), HomeDrives.BAD);
        Due.due("odds(0, 0, 0, -1)", x.odds(0, 0, 0, -1), HomeDrives.BAD);
    }

    private static void carsGo() {
        HomeDrives x = Due.at(TEXT + "car 0 1 0;car 1 1 0;car 2 1 0;");
        Due.due("goes(0): one drank, one lives on a hill", x.goes(0), 4);
        Due.due("goes(180)", x.goes(180), 5);
        HomeDrives y = Due.at(TEXT + "car 5 1 1;car 1 1 1;car 3 1 1;");
        Due.due("no way, a hill with snow, a sick one", y.goes(600), 2);
        Due.due("goes(601)", y.goes(601), HomeDrives.BAD);
        Due.due("goes(-1)", y.goes(-1), HomeDrives.BAD);
        y.drink(1, 1);
        Due.due("goes(119)", y.goes(119), 0);
        Due.due("goes(120)", y.goes(120), 2);
        Due.due("no cars", Due.at(TEXT).goes(0), 0);
        String far = "law 0 1;way 1 2 1;person plain 1 0;person plain 2 0;car 0 1 1;car 1 1 1;";
        Due.due("no way from 0", Due.at(far).goes(0), 0);
        Due.due("a way from 0", Due.at(far.replace("way 1 2", "way 1 0")).goes(0), 1);
    }
}
