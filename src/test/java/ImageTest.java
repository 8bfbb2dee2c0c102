/** Promises 25 and 26: image, restore; and 31: count. */
public final class ImageTest {
    private static final String FIRST = "law 10 5;way 0 1 8;way 1 2 6;hill 2;person plain 1 0;person sick 2 1;"
        + "person plain 1 0;car 0 2 1;quarrel 1 2;";
    private static final String OTHER = "law 50 1;way 0 1 3;person plain 1 2;person child 1 3;car 0 1 0;";

    public static void main(String[] args) {
        keepsImages();
        restoresAll();
        wrongImages();
        counts();
        Due.end();
    }

    private static void dueFirst(HomeDrives x, int glasses) {
        Due.due("people", x.count(1), 3);
        Due.due("cars", x.count(2), 1);
        Due.due("quarrels", x.count(3), 1);
        Due.due("glasses", x.count(5), 1 + glasses);
        Due.due("quarrels of 1", x.person(1, 3), 4);
        Due.due("kind(1)", x.kind(1), 4);
        Due.due("far(0, 2)", x.far(0, 2), 14);
        Due.due("seats", x.car(0, 1), 2);
        Due.due("snow", x.car(0, 2), 1);
        Due.due("drunk", x.may(0, 60, 0), Math.max(0, 10 * glasses - 5));
        Due.due("goes(600)", x.goes(600), 1);
        Due.due("who stays", x.home(600, 2), 2);
        Due.due("minutes", x.home(600, 1), 8);
        Due.due("who rides", x.home(600, 3), 4);
        Due.due("undo", x.undo(), HomeDrives.STATE);
    }

    private static void keepsImages() {
        HomeDrives x = Due.at(FIRST);
        Due.due("image(0)", x.image(0), 1);
        x.drink(0, 2);
        Due.due("home with two glasses", x.home(600, 1), 8);
        Due.due("image(1)", x.image(1), 1);
        Due.due("drinks can be undone yet", x.count(4), 1);
        Due.due("another evening", Due.read(x, OTHER), 2);
        Due.due("its minutes", x.home(0, 1), 3);
        x.row(3, 0, 1);
        x.drink(0, 1);
        Due.due("restore(0)", x.restore(0), 1);
        dueFirst(x, 0);
        Due.due("rows stay", x.count(0), 1);
        x.drink(0, 9);
        Due.due("restore(1)", x.restore(1), 1);
        dueFirst(x, 2);
        x.drink(0, 1);
        Due.due("restore(1) again", x.restore(1), 1);
        dueFirst(x, 2);
        Due.read(x, OTHER);
        Due.due("image(0) of the other", x.image(0), 1);
        x.restore(1);
        x.restore(0);
        Due.due("people of the other", x.count(1), 2);
        Due.due("minutes of the other", x.home(0, 1), 3);
        Due.due("who stays of the other", x.home(0, 2), 0);
    }

    /** Two evenings that are unlike in all, restored in turn over one another. */
    private static void restoresAll() {
        HomeDrives x = Due.at("law 10 5;way 0 1 8;hill 2;person plain 1 1;person sick 1 0;person stranger 2 0;car 0 2 0;car 2 1 1;");
        x.image(0);
        Due.read(x, "law 0 20;way 0 2 3;way 0 1 3;hill 1;person sick 2 0;person plain 2 0;person driver 1 0;person plain 2 0;car 1 4 0;quarrel 0 3;");
        x.image(1);
        for (int round = 0; round < 3; round++) {
            Due.due("restore(0)", x.restore(0), 1);
            Due.due("0: goes(0)", x.goes(0), 1);
            Due.due("0: cars", x.count(2), 2);
            Due.due("0: owner", x.car(1, 0), 2);
            Due.due("0: limit", x.may(0, 0, 1), 1);
            Due.due("0: who rides", x.home(0, 3), 2);
            Due.due("0: who stays", x.home(0, 2), 4);
            Due.due("0: soon(1)", x.soon(1), HomeDrives.NONE);
            Due.due("restore(1)", x.restore(1), 1);
            Due.due("1: goes(0)", x.goes(0), 1);
            Due.due("1: cars", x.count(2), 1);
            Due.due("1: owner", x.car(0, 0), 1);
            Due.due("1: who rides", x.home(0, 3), 1);
            Due.due("1: who stays", x.home(0, 2), 12);
            Due.due("1: soon(1)", x.soon(1), 0);
            x.drink(1, 1);
            Due.due("1: limit", x.may(1, 0, 1), 0);
        }
    }

    private static void wrongImages() {
        HomeDrives x = Due.at(FIRST);
        Due.due("image(2)", x.image(2), HomeDrives.BAD);
        Due.due("image(-1)", x.image(-1), HomeDrives.BAD);
        Due.due("restore(2)", x.restore(2), HomeDrives.BAD);
        Due.due("restore(-1)", x.restore(-1), HomeDrives.BAD);
        x.drink(0, 1);
        x.image(1);
        Due.due("restore(0)", x.restore(0), HomeDrives.STATE);
        Due.due("what is refused leaves drinks", x.count(4), 1);
    }

    private static void counts() {
        HomeDrives x = Due.at(FIRST);
        x.row(0, 0, 0);
        x.row(1, 0, 9);
        x.drink(0, 4);
        x.drink(2, 1);
        x.feed(0, 7);
        int[] want = {2, 3, 1, 1, 2, 6, 7, HomeDrives.BAD};
        for (int what = 0; what < want.length; what++) {
            Due.due("count(" + what + ")", x.count(what), want[what]);
        }
        Due.due("count(-1)", x.count(-1), HomeDrives.BAD);
    }
}
