/** Promises 6 to 8: feed, evening, fault. */
public final class TextTest {
    private static final String LAW = "law 5 4;", GUEST = "person plain 1 0;";

    public static void main(String[] args) {
        feeds();
        readsTokens();
        unfitTokens();
        wrongNumbers();
        tooMany();
        staysAtFault();
        nothingOfEarlierOnes();
        Due.end();
    }

    private static void feeds() {
        HomeDrives x = new HomeDrives();
        Due.due("feed(0, 0)", x.feed(0, 0), HomeDrives.BAD);
        Due.due("feed(0, 9)", x.feed(0, 9), HomeDrives.BAD);
        Due.due("feed(0, -1)", x.feed(0, -1), HomeDrives.BAD);
        Due.due("feed one", x.feed(' ', 1), 1);
        // Only the lowest bytes count, the highest of them first.
        Due.due("feed of more", x.feed(0x7f7f7f6c6177L, 3), 4);
        Due.due("feed eight", x.feed(0x2035203420203b0aL, 8), 12);
        Due.due("count(6)", x.count(6), 12);
        Due.due("it is read", x.evening(), 0);
        Due.due("count(6) then", x.count(6), 0);
        for (int i = 1; i <= 62; i++) {
            x.feed(-1L, 8);
        }
        Due.due("496 bytes", x.count(6), 496);
        Due.due("feed(.., 5)", x.feed(-1L, 5), HomeDrives.FULL);
        Due.due("none came", x.count(6), 496);
        Due.due("BAD ahead of FULL", x.feed(-1L, 9), HomeDrives.BAD);
        Due.due("feed(.., 4)", x.feed(-1L, 4), 500);
        Due.due("feed(.., 1)", x.feed(-1L, 1), HomeDrives.FULL);
        Due.due("bytes of 255", x.evening(), -1000100);
    }

    private static void readsTokens() {
        HomeDrives x = new HomeDrives();
        Due.due("gaps nowhere they can miss", Due.read(x, "law50 20;way0 1 99;hill7;person driver7 9;car0 4 1;"), 1);
        Due.due("fault() before one", x.fault(), 0);
        Due.due("gaps everywhere", Due.read(x, " \n law\n5\n\n4 ;\n person \n plain 001 \n 009 ; \n"), 1);
        Due.due("glasses", x.person(0, 1), 9);
        Due.due("figures with 0 ahead", Due.read(x, "law 000 020;person sick 007 000;"), 1);
        Due.due("home", x.person(0, 0), 7);
        Due.due("quarrels without cars", Due.read(x, LAW + GUEST + GUEST + "quarrel 1 0;"), 2);
        Due.due("of two ways the least", Due.read(x, LAW + "way 0 1 9;way 1 0 4;way 0 1 7;"), 0);
        Due.due("far(0, 1)", x.far(0, 1), 4);
        Due.due("the highest sites", Due.read(x, LAW + "way 6 7 99;way 7 0 1;hill 7;"), 0);
        Due.due("far(6, 0)", x.far(6, 0), 100);
        String full = LAW + " ".repeat(492);
        Due.due("500 bytes", Due.read(x, full), 0);
    }

    private static void dueFault(String text, int place, int number) {
        HomeDrives x = new HomeDrives();
        Due.due("place in \"" + text + "\"", Due.read(x, text), -1000100 - place);
        Due.due("fault of \"" + text + "\"", x.fault(), number);
        Due.due("bytes left of \"" + text + "\"", x.count(6), 0);
    }

    /** The fault is at the sign ^, which is taken out. */
    private static void dueFaultAt(String text, int number) {
        int place = text.indexOf('^');
        dueFault(text.replace("^", ""), place, number);
    }

    private static void unfitTokens() {
        dueFault("", 0, 1);
        dueFault("  \n", 3, 1);
        dueFaultAt("^lax 5 4;", 1);
        dueFaultAt("^laws 5 4;", 1);
        dueFaultAt("^Law 5 4;", 1);
        dueFaultAt("^lawz 5 4;", 1);
        dueFaultAt("^caw 5 4;", 1);
        dueFaultAt("^alaw 5 4;", 1);
        dueFaultAt("law^`5 4;", 1);
        dueFaultAt("law^{5 4;", 1);
        dueFaultAt("law 5^:4;", 1);
        dueFaultAt("law 5^/4;", 1);
        dueFaultAt(" ^5 law;", 1);
        dueFaultAt("law ^;", 1);
        dueFaultAt("law^", 1);
        dueFaultAt("law ^x 4;", 1);
        dueFaultAt("law 5 4 ^4;", 1);
        dueFaultAt("law 5 4  \n^", 1);
        dueFaultAt("law 5 4;^;", 1);
        dueFaultAt("law 5 4;^law 5 4;", 1);
        dueFaultAt("law ^0005 4;", 1);
        dueFaultAt("law ^00000000000000000005 4;", 1);
        dueFaultAt("law 5^\t4;", 1);
        dueFaultAt("law 5 ^-4;", 1);
        dueFaultAt("law 5 4;^9;", 1);
        dueFaultAt("law 5 4;^ways 0 1 2;", 1);
        dueFaultAt("law 5 4;way 0 1^;", 1);
        dueFaultAt("law 5 4;way 0 1 2^way 0 1 2;", 1);
        dueFaultAt("law 5 4;hill 1;^way 0 1 2;", 1);
        dueFaultAt(LAW + GUEST + "^hill 1;", 1);
        dueFaultAt(LAW + GUEST + "^way 0 1 1;", 1);
        dueFaultAt(LAW + GUEST + "car 0 1 0;^person plain 1 0;", 1);
        dueFaultAt(LAW + GUEST + GUEST + "quarrel 0 1;^car 0 1 0;", 1);
        dueFaultAt(LAW + "person ^1 0;", 1);
        dueFaultAt(LAW + "person ^person 1 0;", 1);
        dueFaultAt(LAW + "person ^plainer 1 0;", 1);
        dueFaultAt(LAW + "person plain ^plain 0;", 1);
        dueFaultAt(LAW + "person plain 1 0 ^0;", 1);
        dueFaultAt(LAW + GUEST + "car 0 1^", 1);
        dueFaultAt(LAW + "way 0 1 2;^" + (char) 200, 1);
    }

    private static void wrongNumbers() {
        dueFaultAt("law ^51 1;", 2);
        dueFaultAt("law ^999 x", 2);
        dueFaultAt("law 50 ^0;", 2);
        dueFaultAt("law 50 ^21;", 2);
        dueFaultAt(LAW + "way ^8 0 1;", 2);
        dueFaultAt(LAW + "way 7 ^8 1;", 2);
        dueFaultAt(LAW + "way 7 ^7 0;", 2);
        dueFaultAt(LAW + "way 7 6 ^0;", 2);
        dueFaultAt(LAW + "way 7 6 ^100;", 2);
        dueFaultAt(LAW + "hill ^0;", 2);
        dueFaultAt(LAW + "hill ^8;", 2);
        dueFaultAt(LAW + "person plain ^0 0;", 2);
        dueFaultAt(LAW + "person plain ^8 0;", 2);
        dueFaultAt(LAW + "person plain 7 ^10;", 2);
        dueFaultAt(LAW + "car ^0 1 0;", 2);
        dueFaultAt(LAW + GUEST + "car ^1 1 0;", 2);
        dueFaultAt(LAW + GUEST + "car 0 ^0 0;", 2);
        dueFaultAt(LAW + GUEST + "car 0 ^5 0;", 2);
        dueFaultAt(LAW + GUEST + "car 0 1 ^2;", 2);
        dueFaultAt(LAW + GUEST + GUEST + "car 1 1 0;car ^1 1 0;", 2);
        dueFaultAt(LAW + "quarrel ^0 1;", 2);
        dueFaultAt(LAW + GUEST + GUEST + "quarrel ^2 1;", 2);
        dueFaultAt(LAW + GUEST + GUEST + "quarrel 1 ^2;", 2);
        dueFaultAt(LAW + GUEST + GUEST + "quarrel 1 ^1;", 2);
    }

    private static void tooMany() {
        HomeDrives x = new HomeDrives();
        Due.due("16 ways", Due.read(x, LAW + "way 0 1 1;".repeat(16)), 0);
        dueFaultAt(LAW + "way 0 1 1;".repeat(16) + "^way 0 1 1;", 3);
        dueFaultAt(LAW + "way 0 1 1;".repeat(16) + "hill 1;^way 0 1 1;", 1);
        Due.due("7 hills", Due.read(x, LAW + "hill 3;".repeat(7)), 0);
        dueFaultAt(LAW + "hill 3;".repeat(7) + "^hill x", 3);
        Due.due("7 people", Due.read(x, LAW + GUEST.repeat(7)), 7);
        dueFaultAt(LAW + GUEST.repeat(7) + "^person", 3);
        Due.due("3 cars", Due.read(x, LAW + GUEST.repeat(4) + "car 0 1 0;car 2 1 0;car 1 1 0;"), 4);
        dueFaultAt(LAW + GUEST.repeat(4) + "car 0 1 0;car 2 1 0;car 1 1 0;^car 1 1 0;", 3);
        Due.due("6 quarrels", Due.read(x, LAW + GUEST.repeat(2) + "quarrel 0 1;".repeat(6)), 2);
        Due.due("count(3)", x.count(3), 6);
        dueFaultAt(LAW + GUEST.repeat(2) + "quarrel 0 1;".repeat(6) + "^quarrel 0 0;", 3);
    }

    private static void staysAtFault() {
        HomeDrives x = Due.at(LAW + "way 0 1 7;" + GUEST + "car 0 2 1;");
        x.drink(0, 3);
        x.row(0, 0, 4);
        Due.due("a fault", Due.read(x, "law 1 1;way 0 1 2;person sick 2 9;person sick 2 9;!"), -1000150);
        Due.due("fault()", x.fault(), 1);
        Due.due("people stay", x.count(1), 1);
        Due.due("cars stay", x.count(2), 1);
        Due.due("drinks stay", x.count(4), 1);
        Due.due("glasses stay", x.count(5), 3);
        Due.due("ways stay", x.far(0, 1), 7);
        Due.due("home stays", x.home(600, 1), 7);
        Due.due("undo", x.undo(), 0);
        x.drink(0, 3);
        Due.due("another evening", Due.read(x, "law 0 1;"), 0);
        Due.due("fault() stays", x.fault(), 1);
        Due.due("no drink can be undone", x.undo(), HomeDrives.STATE);
        Due.due("no people", x.count(1), 0);
        Due.due("no cars", x.count(2), 0);
        Due.due("no ways", x.far(0, 1), HomeDrives.NONE);
        Due.due("rows stay", x.count(0), 1);
        Due.due("another fault", Due.read(x, "law 0 0;"), -1000106);
        Due.due("fault() then", x.fault(), 2);
    }

    /** Evenings in a row, of which none has anything of those before it. */
    private static void nothingOfEarlierOnes() {
        HomeDrives x = new HomeDrives();
        Due.due("a longer text", Due.read(x, "law 5 44;"), -1000106);
        Due.due("its end", Due.read(x, "law 5 4"), -1000107);
        Due.due("a longer word", Due.read(x, "lawlaw"), -1000100);
        Due.due("its end", Due.read(x, "law"), -1000103);
        String full = LAW + "way 1 2 1;".repeat(16) + "hill 1;hill 2;hill 3;hill 4;hill 5;hill 6;hill 7;"
            + "person sick 1 0;".repeat(2) + "person plain 1 0;".repeat(2) + "car 2 1 1;car 1 1 1;car 0 1 1;" + "quarrel 0 1;".repeat(6);
        String bare = LAW + "way 0 1 3;person plain 1 0;person plain 1 0;car 0 1 0;";
        for (int round = 0; round < 3; round++) {
            Due.due("full", Due.read(x, full), 4);
            Due.due("quarrels", x.count(3), 6);
            Due.due("full again", Due.read(x, full), 4);
            Due.due("none goes", x.goes(0), 0);
            Due.due("bare", Due.read(x, bare), 2);
            Due.due("no quarrels", x.count(3), 0);
            Due.due("no quarrel", x.person(1, 3), 0);
            Due.due("no hill, nobody sick", x.goes(0), 1);
            Due.due("nobody stays", x.home(0, 2), 0);
            Due.due("no way but one", x.far(1, 2), HomeDrives.NONE);
            Due.due("bare again", Due.read(x, bare), 2);
            Due.due("nobody stays again", x.home(0, 2), 0);
            Due.due("a fault", Due.read(x, full + "!"), -1000100 - full.length());
        }
    }
}
