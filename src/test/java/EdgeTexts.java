/** TEXTS and FAULTS of "Terms"; promises 6 to 8. */
final class EdgeTexts {
    private static final int BAD = HomeDrives.BAD, FULL = HomeDrives.FULL, STATE = HomeDrives.STATE, NONE = HomeDrives.NONE;
    private static final String LAW = "law 5 4;", GUEST = "person plain 1 0;", TWO = LAW + GUEST + GUEST;

    private EdgeTexts() {
    }

    static void run() {
        feeds();
        tape();
        tokens();
        gaps();
        order();
        law();
        ways();
        hills();
        people();
        cars();
        quarrels();
        standsInPlace();
        firstFault();
        unfit();
        wrongNumbers();
        noRoom();
        reads();
        tellsFault();
    }

    private static void dueRead(String text, int people) {
        HomeDrives x = new HomeDrives();
        Due.due("\"" + text + "\"", Due.read(x, text), people);
        Due.due("fault() of \"" + text + "\"", x.fault(), 0);
    }

    /** The fault is at the sign ^, which is taken out. */
    private static void dueFault(String text, int number) {
        HomeDrives x = new HomeDrives();
        int place = text.indexOf('^');
        Due.due("\"" + text + "\"", Due.read(x, text.replace("^", "")), -1000100 - place);
        Due.due("fault() of \"" + text + "\"", x.fault(), number);
    }

    private static void feeds() {
        Sentences.says(6, "The lowest n bytes of w (1 to 8), the highest of them first, come behind the tape: how many it has.");
        HomeDrives x = new HomeDrives();
        Due.due("one of many", x.feed(0x7f7f7f7f7f7f7f6cL, 1), 1);
        Due.due("two of many", x.feed(-1L << 16 | 0x6177, 2), 3);
        Due.due("eight", x.feed(0x20352034203b2020L, 8), 11);
        Due.due("seven of many", x.feed(0xff68696c6c20313bL, 7), 18);
        Due.due("count(6)", x.count(6), 18);
        Due.due("it is \"law 5 4 ;  hill 1;\"", x.evening(), 0);
        Due.due("count(6) then", x.count(6), 0);
        // The law ends at bytes 1 to 8 of a word in turn.
        for (int n = 1; n <= 8; n++) {
            HomeDrives y = new HomeDrives();
            for (int from = 0; from < 8; from += n) {
                int some = Math.min(n, 8 - from);
                long w = 0;
                for (int i = 0; i < some; i++) {
                    w = w << 8 | LAW.charAt(from + i);
                }
                Due.due("feed(.., " + some + ")", y.feed(w, some), from + some);
            }
            Due.due("the law by " + n, y.evening(), 0);
        }
        Sentences.says(6, "BAD: n;");
        HomeDrives z = new HomeDrives();
        for (int n : new int[] {0, 9, -1, 16, Integer.MIN_VALUE, Integer.MAX_VALUE}) {
            Due.due("feed(0, " + n + ")", z.feed(0, n), BAD);
        }
        Due.due("none came", z.count(6), 0);
        Sentences.says(6, "FULL: none comes.");
        for (int i = 0; i < 62; i++) {
            z.feed(0, 8);
        }
        z.feed(0, 1);
        for (int n = 4; n <= 8; n++) {
            Due.due("497 and " + n, z.feed(0, n), FULL);
            Due.due("none came", z.count(6), 497);
        }
        Due.due("497 and 3", z.feed(0, 3), 500);
        Due.due("500 and 1", z.feed(0, 1), FULL);
        Due.due("500 and 8", z.feed(0, 8), FULL);
        Due.due("none came", z.count(6), 500);
    }

    private static void tape() {
        Sentences.says(Sentences.TERMS, "TEXTS: THE TAPE has at most 500 bytes;");
        HomeDrives x = new HomeDrives();
        String text = LAW + " ".repeat(500 - 8 - 17) + GUEST;
        Due.feed(x, text);
        Due.due("count(6)", x.count(6), 500);
        Due.due("one more", x.feed(' ', 1), FULL);
        Due.due("500 bytes are read", x.evening(), 1);
        Due.feed(x, text);
        Due.due("and anew", x.evening(), 1);
        Due.feed(x, (LAW + " ".repeat(500 - 8 - 16) + GUEST).substring(0, 500));
        Due.due("500 without the last sign", x.evening(), -1000600);
        Due.feed(x, " ".repeat(497) + "law");
        Due.due("500 that end in letters", x.evening(), -1000600);
        Due.feed(x, "law" + " ".repeat(494) + "123");
        Due.due("500 that end in figures", x.evening(), -1000597);
        Due.due("their fault()", x.fault(), 2);
        Due.feed(x, "law 5" + " ".repeat(491) + "1234");
        Due.due("500 that end in four figures", x.evening(), -1000596);
        Due.due("their fault()", x.fault(), 1);
    }

    private static void tokens() {
        Sentences.says(Sentences.TERMS, "TOKENS: NAMES (letters a to z), NUMBERS (figures, 3 at most), SIGNS ;");
        for (int b = 0; b < 256; b++) {
            HomeDrives x = new HomeDrives();
            boolean isGap = b == 32 || b == 10;
            boolean isFigure = b >= '0' && b <= '9';
            boolean isLetter = b >= 'a' && b <= 'z';
            Due.due("byte " + b + " ahead", Due.read(x, (char) b + LAW), isGap ? 0 : -1000100);
            // A figure makes 05 to 95 of the limit, a letter another name of the word.
            int between = isGap || b >= '0' && b <= '4' ? 0 : isLetter ? -1000100 : -1000103;
            Due.due("byte " + b + " between", Due.read(x, "law" + (char) b + "5 4;"), between);
            // Figures make 40 to 49 of the rate.
            Due.due("byte " + b + " in place of the sign", Due.read(x, "law 5 4" + (char) b), b == ';' ? 0
                : isFigure ? -1000106 : isGap ? -1000108 : -1000107);
            Due.due("byte " + b + " behind", Due.read(x, LAW + (char) b), isGap ? 0 : -1000108);
        }
        dueRead("law 5 4;way 0 1 9;", 0);
        dueRead("law 05 04;way 00 01 09;", 0);
        dueRead("law 005 004;way 000 001 009;", 0);
        dueFault("law 005 ^0004;", 1);
        dueFault("law 5 4;way 0 1 ^0009;", 1);
        dueFault("^LAW 5 4;", 1);
        dueFault("^naw 5 4;", 1);
        dueFault("^lew 5 4;", 1);
        dueFault("^lax 5 4;", 1);
        dueFault("^la w 5 4;", 1);
        dueFault("law 5 4;way 0 1 9^,", 1);
    }

    private static void gaps() {
        Sentences.says(Sentences.TERMS, "bytes 32 and 10 ahead of, between, behind these, as many as wanted (none is needed where one ends without).");
        dueRead("law5 4;way0 1 9;hill1;person plain1 0;person sick2 9;car0 1 0;quarrel0 1;", 2);
        String many = " \n\n  \n ";
        dueRead(many + ("law,5,4,;,way,0,1,9,;,hill,1,;,person,plain,1,0,;,person,sick,2,9,;,car,0,1,0,;,quarrel,0,1,;").replace(",", many), 2);
        dueRead("law\n5\n4\n;\n", 0);
        dueRead(" ".repeat(246) + "law 5 4;" + "\n".repeat(246), 0);
        dueFault("law 5 4;^personplain 1 0;", 1);
        // 5 and 4 without a gap are one number.
        dueFault("law ^54;", 2);
        dueFault("law 45^;", 1);
    }

    private static void order() {
        Sentences.says(Sentences.TERMS, "evening: law { way } { hill } { person } { car } { quarrel }.");
        String[] parts = {"way 0 1 1;", "hill 1;", GUEST, "car 0 1 0;", "quarrel 0 1;"};
        for (int i = 0; i < 5; i++) {
            // Those of the cars' and quarrels' own people are told ahead of them; so they cannot come behind.
            String ahead = i < 2 ? LAW : TWO;
            int people = i < 2 ? 0 : i == 2 ? 3 : 2;
            dueRead(ahead + parts[i], people);
            for (int j = 0; j < i; j++) {
                dueFault(ahead + parts[i] + "^" + parts[j], 1);
            }
            dueFault(ahead + parts[i] + "^" + LAW, 1);
        }
        dueRead(LAW + "way 0 1 1;way 1 2 1;hill 1;hill 2;" + GUEST + GUEST + "car 0 1 0;car 1 1 0;quarrel 0 1;quarrel 1 0;", 2);
        dueRead(LAW, 0);
        dueRead(LAW + GUEST, 1);
        dueRead(TWO + "quarrel 0 1;", 2);
        dueRead(LAW + "way 0 1 1;" + GUEST + "car 0 1 0;", 1);
        dueFault("^way 0 1 1;", 1);
        dueFault("^", 1);
        dueFault("^" + GUEST, 1);
    }

    private static void law() {
        Sentences.says(Sentences.TERMS, "law: 'law' LIMIT RATE ';' (0 to 50; 1 to 20).");
        dueRead("law 0 1;", 0);
        dueRead("law 50 20;", 0);
        dueFault("law ^51 20;", 2);
        dueFault("law ^999 20;", 2);
        dueFault("law 50 ^0;", 2);
        dueFault("law 50 ^21;", 2);
        dueFault("law 50 20 ^20;", 1);
        HomeDrives x = Due.at("law 50 20;person plain 1 7;");
        Due.due("above the limit", x.may(0, 59, 1), 0);
        Due.due("at the limit by the rate", x.may(0, 60, 1), 1);
        Due.due("the rate", x.may(0, 60, 0), 50);
        HomeDrives y = Due.at("law 0 1;person plain 1 0;person plain 1 1;");
        Due.due("at a limit of 0", y.may(0, 0, 1), 1);
        Due.due("above it yet", y.may(1, 599, 1), 0);
        Due.due("a rate of 1", y.may(1, 599, 0), 1);
        Due.due("at it at last", y.may(1, 600, 1), 1);
    }

    private static void ways() {
        Sentences.says(Sentences.TERMS, "way: 'way' A B MINUTES ';' (unlike SITES 0 to 7; 1 to 99; 16 at most; of one pair the least counts).");
        dueRead(LAW + "way 0 7 1;way 7 0 99;", 0);
        for (int site = 0; site <= 7; site++) {
            dueFault(LAW + "way " + site + " ^" + site + " 1;", 2);
        }
        dueFault(LAW + "way ^8 0 1;", 2);
        dueFault(LAW + "way 0 ^8 1;", 2);
        dueFault(LAW + "way 0 7 ^0;", 2);
        dueFault(LAW + "way 0 7 ^100;", 2);
        dueRead(LAW + "way 0 1 1;".repeat(16), 0);
        dueFault(LAW + "way 0 1 1;".repeat(16) + "^way 0 1 1;", 3);
        HomeDrives x = Due.at(LAW + "way 0 1 9;way 0 1 3;way 1 0 4;way 2 3 5;way 3 2 2;");
        Due.due("the least, told between others", x.far(0, 1), 3);
        Due.due("the least, told the other way round", x.far(2, 3), 2);
    }

    private static void hills() {
        Sentences.says(Sentences.TERMS, "hill: 'hill' SITE ';' (1 to 7; 7 at most).");
        dueRead(LAW + "hill 1;hill 7;", 0);
        dueFault(LAW + "hill ^0;", 2);
        dueFault(LAW + "hill ^8;", 2);
        dueRead(LAW + "hill 1;hill 2;hill 3;hill 4;hill 5;hill 6;hill 7;", 0);
        dueRead(LAW + "hill 1;".repeat(7), 0);
        dueFault(LAW + "hill 1;".repeat(7) + "^hill 1;", 3);
        for (int site = 1; site <= 7; site++) {
            HomeDrives x = Due.at(LAW + "way 0 " + site + " 1;hill " + site + ";hill " + site + ";person plain " + site + " 0;car 0 1 0;");
            Due.due("on hill " + site, x.goes(0), 0);
        }
        String two = "way 0 1 1;way 0 2 1;way 0 3 1;hill 1;hill 3;person plain 1 0;person plain 2 0;person plain 3 0;car 0 1 0;car 1 1 0;car 2 1 0;";
        Due.due("on one hill, on none, on another", Due.at(LAW + two).goes(0), 2);
    }

    private static void people() {
        Sentences.says(Sentences.TERMS, "person: 'person' SORT HOME GLASSES ';' (SORT: 'plain' | 'sick' | 'child' | 'driver' | 'stranger';"
            + " SITE 1 to 7; 0 to 9; PEOPLE 0 .. 6, 7 at most).");
        String[] sorts = {"plain", "driver", "stranger", "sick", "child"};
        for (int i = 0; i < 5; i++) {
            HomeDrives x = Due.at(LAW + "person " + sorts[i] + " 1 0;person " + sorts[i] + " 7 9;");
            Due.due("kind of a " + sorts[i], x.kind(0), i + 1);
            Due.due("home", x.person(0, 0), 1);
            Due.due("glasses", x.person(0, 1), 0);
            Due.due("home", x.person(1, 0), 7);
            Due.due("glasses", x.person(1, 1), 9);
            dueFault(LAW + "person ^" + sorts[i] + "s 1 0;", 1);
            dueFault(LAW + "person ^" + sorts[i].substring(1) + " 1 0;", 1);
        }
        dueFault(LAW + "person ^person 1 0;", 1);
        dueFault(LAW + "person plain ^0 0;", 2);
        dueFault(LAW + "person plain ^8 0;", 2);
        dueFault(LAW + "person plain 7 ^10;", 2);
        HomeDrives y = new HomeDrives();
        Due.due("seven", Due.read(y, LAW + GUEST.repeat(7)), 7);
        Due.due("the last of them", y.person(6, 0), 1);
        Due.due("none behind him", y.person(7, 0), BAD);
        dueFault(LAW + GUEST.repeat(7) + "^" + GUEST, 3);
    }

    private static void cars() {
        Sentences.says(Sentences.TERMS, "car: 'car' OWNER SEATS SNOW ';' (one of the PEOPLE, each of one CAR at most;"
            + " 1 to 4, beside the OWNER's; 0 or 1; CARS 0 .. 2, 3 at most).");
        HomeDrives x = Due.at(LAW + GUEST.repeat(7) + "car 6 1 0;car 0 4 1;");
        Due.due("the last of the people", x.car(0, 0), 6);
        Due.due("fewest seats", x.car(0, 1), 1);
        Due.due("no snow", x.car(0, 2), 0);
        Due.due("the first of them", x.car(1, 0), 0);
        Due.due("most seats", x.car(1, 1), 4);
        Due.due("snow", x.car(1, 2), 1);
        dueFault(LAW + GUEST.repeat(7) + "car ^7 1 0;", 2);
        dueFault(LAW + GUEST + "car ^1 1 0;", 2);
        dueFault(LAW + "car ^0 1 0;", 2);
        dueFault(LAW + GUEST + "car 0 1 0;car ^0 1 0;", 2);
        dueFault(TWO + "car 0 1 0;car 1 1 0;car ^0 1 0;", 2);
        dueFault(LAW + GUEST + "car 0 ^0 0;", 2);
        dueFault(LAW + GUEST + "car 0 ^5 0;", 2);
        dueFault(LAW + GUEST + "car 0 4 ^2;", 2);
        String three = LAW + GUEST.repeat(4) + "car 3 1 0;car 2 1 0;car 1 1 0;";
        HomeDrives y = Due.at(three);
        Due.due("the last car", y.car(2, 0), 1);
        Due.due("none behind it", y.car(3, 0), BAD);
        dueFault(three + "^car 0 1 0;", 3);
        HomeDrives z = Due.at(LAW + "way 0 1 1;" + GUEST.repeat(7) + "car 0 4 0;");
        Due.due("four beside the owner: two stay", z.home(0, 0), 2);
    }

    private static void quarrels() {
        Sentences.says(Sentences.TERMS, "quarrel: 'quarrel' A B ';' (unlike PEOPLE; 6 at most).");
        dueRead(LAW + GUEST.repeat(7) + "quarrel 0 6;quarrel 6 0;", 7);
        dueFault(TWO + "quarrel 0 ^0;", 2);
        dueFault(TWO + "quarrel 1 ^1;", 2);
        dueFault(TWO + "quarrel ^2 0;", 2);
        dueFault(TWO + "quarrel 0 ^2;", 2);
        dueFault(LAW + GUEST.repeat(7) + "quarrel 0 ^7;", 2);
        dueFault(LAW + "quarrel ^0 1;", 2);
        dueFault(LAW + GUEST + "quarrel 0 ^1;", 2);
        dueRead(TWO + "quarrel 0 1;".repeat(6), 2);
        dueFault(TWO + "quarrel 0 1;".repeat(6) + "^quarrel 0 1;", 3);
    }

    private static void standsInPlace() {
        Sentences.says(Sentences.TERMS, "An EVENING that is read stands in place of the one before (none at first):"
            + " no GLASS can be undone; IMAGES and ROWS stay.");
        HomeDrives x = Due.at("law 50 20;way 0 1 1;way 1 2 1;hill 3;" + GUEST + GUEST + GUEST + "car 0 4 1;quarrel 0 1;");
        x.image(0);
        x.drink(0, 1);
        x.image(1);
        x.drink(0, 1);
        x.row(2, 1, 5);
        Due.due("home of the one before", x.home(0, 2), 2);
        Due.due("another", Due.read(x, "law 0 1;way 0 1 7;way 0 3 2;person sick 1 3;person plain 3 0;car 1 1 0;"), 2);
        Due.due("people", x.count(1), 2);
        Due.due("cars", x.count(2), 1);
        Due.due("quarrels", x.count(3), 0);
        Due.due("who quarrels with 0", x.person(0, 3), 0);
        Due.due("drinks", x.count(4), 0);
        Due.due("undo()", x.undo(), STATE);
        Due.due("glasses", x.count(5), 3);
        Due.due("a way", x.far(0, 1), 7);
        Due.due("no way", x.far(1, 2), NONE);
        Due.due("no hill", x.goes(0), 1);
        Due.due("limit and rate", x.may(0, 600, 0), 20);
        Due.due("home", x.home(0, 3), 1);
        Due.due("rows", x.drop(2), 5);
        Due.due("restore(0)", x.restore(0), 1);
        Due.due("glasses of image 0", x.count(5), 0);
        Due.due("restore(1)", x.restore(1), 1);
        Due.due("glasses of image 1", x.count(5), 1);
        Due.due("home of it", x.home(0, 2), 2);
        fullAndBareInTurn();
        Sentences.says(Sentences.TERMS, "All are at SITE 0.");
        HomeDrives y = Due.at(LAW + "way 0 1 7;way 1 2 5;person plain 1 0;person plain 2 0;person plain 1 0;car 0 1 0;car 1 1 0;");
        Due.due("from 0 to 1", y.order(0, 0, -1), 7);
        Due.due("from 0 to 2", y.order(0, 1, -1), 12);
    }

    /** Evenings that have all that there is room for, and such that have little, one after the other. */
    private static void fullAndBareInTurn() {
        HomeDrives x = new HomeDrives();
        String full = LAW + "way 1 2 1;".repeat(16) + "hill 1;hill 2;hill 3;hill 4;hill 5;hill 6;hill 7;" + "person sick 1 0;".repeat(7)
            + "car 2 1 1;car 1 1 1;car 0 1 1;" + "quarrel 0 1;".repeat(6);
        String bare = LAW + "way 0 1 3;" + GUEST + GUEST + "car 0 1 0;";
        for (int round = 0; round < 2; round++) {
            for (int twice = 0; twice < 2; twice++) {
                Due.due("all that there is room for", Due.read(x, full), 7);
                Due.due("quarrels", x.count(3), 6);
                Due.due("cars", x.count(2), 3);
                Due.due("none goes", x.goes(0), 0);
            }
            for (int twice = 0; twice < 2; twice++) {
                Due.due("little", Due.read(x, bare), 2);
                Due.due("no quarrels", x.count(3), 0);
                Due.due("no quarrel of 0", x.person(0, 3), 0);
                Due.due("one car", x.count(2), 1);
                Due.due("no hill, nobody sick", x.goes(0), 1);
                Due.due("who rides", x.home(0, 3), 2);
                Due.due("no way of the one before", x.far(1, 2), NONE);
            }
        }
    }

    private static void firstFault() {
        Sentences.says(Sentences.TERMS, "FAULTS, the first TOKEN that has one (its first byte), of one TOKEN the least:");
        dueFault("law ^51 0;", 2);
        dueFault("law ^x 0;!", 1);
        dueFault("law 5 ^99 !", 2);
        dueFault("   law   ^99;", 2);
        dueFault(LAW + "   ^wayward 0 1 1;", 1);
        dueFault(LAW + "way ^9 9 0;", 2);
        dueFault(LAW + "way 1 ^1 0;", 2);
        dueFault(LAW + "way 1 2 ^0000;", 1);
        dueFault(LAW + "hill 1;".repeat(7) + "^hill 9;", 3);
        dueFault(LAW + "hill 1;".repeat(7) + "^hill!", 3);
        dueFault(LAW + "hill 1;".repeat(7) + "^hills 1;", 1);
        dueFault(LAW + "way 0 1 1;".repeat(16) + "hill 1;^way 0 1 1;", 1);
        dueFault(LAW + GUEST.repeat(7) + "^hill 1;", 1);
        dueFault(LAW + GUEST.repeat(7) + "car 0 1 0;^" + GUEST, 1);
        dueFault(LAW + GUEST.repeat(7) + "car 0 1 0;car 1 1 0;car 2 1 0;quarrel 0 1;^car 3 1 0;", 1);
        // Of one that is no number it is not asked how much it is; of two numbers the first counts.
        dueFault("law ^9999 0;", 1);
        dueFault(LAW + GUEST + "car 0 1 0;car ^0 9 9;", 2);
    }

    private static void unfit() {
        Sentences.says(Sentences.TERMS, "1 it cannot stand there, or is none (a run of four figures or more, at its first; the end: how many bytes there are);");
        dueFault("^5 4;", 1);
        dueFault("^;", 1);
        dueFault("law ^;", 1);
        dueFault("law ^law 4;", 1);
        dueFault("law 5 ^x;", 1);
        dueFault("law 5 4 ^x;", 1);
        dueFault("law 5 4 ^7;", 1);
        dueFault(LAW + "^;", 1);
        dueFault(LAW + "^5;", 1);
        dueFault(LAW + "way 0 1^;", 1);
        dueFault(LAW + "way 0 ^x 1;", 1);
        dueFault(LAW + "hill ^hill 1;", 1);
        dueFault(LAW + "person ^1 0;", 1);
        dueFault(LAW + "person ^;", 1);
        dueFault(LAW + "person plain 1^;", 1);
        dueFault(LAW + GUEST + "car 0 1^;", 1);
        dueFault(LAW + GUEST + "car ^plain 1 0;", 1);
        dueFault(TWO + "quarrel 0^;", 1);
        dueFault(TWO + "quarrel 0 1 ^1;", 1);
        dueFault("law ^0000 4;", 1);
        dueFault("law ^0005 4;", 1);
        dueFault("law ^00000000000000000000000005 4;", 1);
        dueFault("law ^4294967301 4;", 1);
        dueFault("^1234", 1);
        dueFault(LAW + "^1234", 1);
        dueFault("law 5 ^1234x", 1);
        theEnd();
    }

    /** A text that breaks off behind each of its bytes. */
    private static void theEnd() {
        String text = "law 12 4 ; way 0 1 9;person child 3 7 ;person sick 2 1; car 1 2 0;quarrel 0 1 ;";
        dueRead(text, 2);
        for (int n = 0; n < text.length(); n++) {
            String begun = text.substring(0, n).strip();
            boolean isWhole = begun.endsWith(";");
            boolean isWord = begun.matches("(.*[^a-z])?(law|way|person|car|quarrel|child|sick)") || !begun.matches(".*[a-z]");
            HomeDrives x = new HomeDrives();
            int answer = Due.read(x, text.substring(0, n));
            if (isWhole) {
                Due.due("the first " + n + " bytes are whole", answer >= 0 ? 1 : 0, 1);
            } else if (isWord) {
                Due.due("the end at " + n, answer, -1000100 - n);
                Due.due("fault()", x.fault(), 1);
            } else {
                Due.due("a part of a word at " + n, answer, -1000100 - begun.replaceFirst("[a-z]+$", "").length());
            }
        }
        dueFault("   ^", 1);
        dueFault("law 5 4 \n\n^", 1);
        dueFault(LAW + "way 0 1 1 ^", 1);
    }

    private static void wrongNumbers() {
        Sentences.says(Sentences.TERMS, "2 a NUMBER that is not as told (an OWNER told twice, too);");
        dueFault("law ^051 1;", 2);
        dueFault("law 0 ^000;", 2);
        dueFault(LAW + "way 0 1 ^999;", 2);
        dueFault(LAW + GUEST.repeat(3) + "car 0 1 0;car 2 1 0;car ^2 1 0;", 2);
        dueFault(LAW + GUEST.repeat(3) + "car 0 1 0;car 2 1 0;car ^00 1 0;", 2);
        dueFault(LAW + GUEST.repeat(3) + "car 0 1 0;car 2 1 0;car ^3 1 0;", 2);
        dueRead(LAW + GUEST.repeat(3) + "car 0 1 0;car 2 1 0;car 1 1 0;", 3);
    }

    private static void noRoom() {
        Sentences.says(Sentences.TERMS, "3 more of a sort than there is room for (its word).");
        dueFault(LAW + "way 0 1 1;".repeat(16) + "  ^way", 3);
        dueFault(LAW + "hill 7;".repeat(7) + "\n^hill", 3);
        dueFault(LAW + GUEST.repeat(7) + " \n ^person", 3);
        dueFault(LAW + GUEST.repeat(7) + "car 0 1 0;car 1 1 0;car 2 1 0; ^car 0", 3);
        dueFault(TWO + "quarrel 0 1;".repeat(6) + " ^quarrel 1 1;", 3);
        // Each sort has room of its own.
        dueRead(LAW + "way 0 1 1;".repeat(16) + "hill 1;".repeat(7) + GUEST.repeat(7) + "car 6 1 0;car 5 1 0;car 4 1 0;"
            + "quarrel 0 1;".repeat(6), 7);
    }

    private static void reads() {
        Sentences.says(7, "The tape, empty then, is read: how many PEOPLE there are.");
        HomeDrives x = new HomeDrives();
        for (int people = 0; people <= 7; people++) {
            Due.due(people + " people", Due.read(x, LAW + GUEST.repeat(people)), people);
            Due.due("count(6)", x.count(6), 0);
        }
        Due.due("the empty tape", x.evening(), -1000100);
        // Nothing that stood on the tape before is read again behind its end.
        Due.due("a longer word", Due.read(x, "lawlaw"), -1000100);
        Due.due("a shorter one", Due.read(x, "law"), -1000103);
        Due.due("a longer number", Due.read(x, "law 5 44;"), -1000106);
        Due.due("a shorter one", Due.read(x, "law 5 4"), -1000107);
        Due.due("more people", Due.read(x, LAW + GUEST + GUEST), 2);
        Due.due("fewer people", Due.read(x, LAW + GUEST), 1);
        Due.due("seven people", Due.read(x, LAW + GUEST.repeat(7)), 7);
        Due.due("count(1) behind an empty tape", x.evening() + x.count(1), -1000100 + 7);
        Sentences.says(7, "-1000100 less the place of a FAULT: all but the tape, and what fault() tells, stays.");
        x.image(0);
        x.drink(0, 3);
        x.row(0, 0, 2);
        x.set(0, 2, 0);
        x.ask(0, 0);
        Due.due("a fault at its first", Due.read(x, "!"), -1000100);
        Due.due("a fault at the 500th", Due.read(x, "law 50 20;person child 7 9;" + " ".repeat(472) + "!"), -1000599);
        Due.due("a fault behind all 500", Due.read(x, "law 50 20;" + " ".repeat(490 - 15) + "person child 7 "), -1000600);
        Due.due("the tape is empty", x.count(6), 0);
        Due.due("people", x.count(1), 7);
        Due.due("glasses", x.count(5), 3);
        Due.due("kind(0)", x.kind(0), 1);
        Due.due("rows", x.count(0), 1);
        Due.due("status()", x.status(), 2);
        Due.due("trace(0)", x.trace(0), 11);
        Due.due("undo()", x.undo(), 0);
        Due.due("restore(0)", x.restore(0), 1);
        HomeDrives y = new HomeDrives();
        Due.due("a fault ahead of any evening", Due.read(y, LAW + "!"), -1000108);
        Due.due("there is none yet", y.far(0, 0), STATE);
        Due.due("the tape is read anew", Due.read(y, LAW), 0);
        Due.due("there is one now", y.far(0, 0), 0);
    }

    private static void tellsFault() {
        Sentences.says(8, "The number of the latest FAULT; 0 before one.");
        HomeDrives x = new HomeDrives();
        Due.due("before one", x.fault(), 0);
        Due.read(x, LAW);
        Due.due("behind one without", x.fault(), 0);
        Due.read(x, LAW + "hill 1;".repeat(8));
        Due.due("3", x.fault(), 3);
        Due.due("3 again", x.fault(), 3);
        Due.read(x, LAW);
        Due.due("3 stays behind one without", x.fault(), 3);
        Due.read(x, "law 51");
        Due.due("2", x.fault(), 2);
        x.evening();
        Due.due("1: the empty tape", x.fault(), 1);
        x.image(0);
        x.restore(0);
        Due.due("1 stays", x.fault(), 1);
    }
}
