/** Compares answers with those that are due, and feeds texts. */
final class Due {
    private static int wrong = 0;
    private static String under = "";

    private Due() {
    }

    /** What is told ahead of each wrong answer from now on. */
    static void under(String heading) {
        under = heading;
    }

    static void due(String call, long got, long want) {
        if (got != want) {
            wrong++;
            System.out.println(under + call + " answered " + got + ", due is " + want);
        }
    }

    /** Puts a text behind the tape in pieces of up to eight bytes. */
    static void feed(HomeDrives x, String text) {
        for (int from = 0; from < text.length(); from += 8) {
            int n = Math.min(8, text.length() - from);
            long w = 0;
            for (int i = 0; i < n; i++) {
                w = w << 8 | text.charAt(from + i) & 255;
            }
            x.feed(w, n);
        }
    }

    static int read(HomeDrives x, String text) {
        feed(x, text);
        return x.evening();
    }

    static HomeDrives at(String text) {
        HomeDrives x = new HomeDrives();
        int people = read(x, text);
        if (people < 0) {
            due("evening of \"" + text + "\"", people, 0);
        }
        return x;
    }

    static void end() {
        if (wrong > 0) {
            System.exit(1);
        }
    }
}
