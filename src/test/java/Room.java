/** A DavRoom that is asked in text; every answer that is not the one due is printed and counted. */
final class Room {
    static final int REFUSED = -1, NONE = -2, FULL = -3;

    private static int wrong;
    private static int asked;

    final DavRoom dav = new DavRoom();

    static void due(String call, long got, long want) {
        asked++;
        if (got != want) {
            wrong++;
            System.out.println(call + " answered " + got + ", due is " + want);
        }
    }

    static void due(String call, String got, String want) {
        asked++;
        if (!got.equals(want)) {
            wrong++;
            System.out.println(call + " answered " + shown(got) + ", due is " + shown(want));
        }
    }

    static void finish() {
        System.out.println(asked + " answers, " + wrong + " wrong");
        if (wrong != 0) {
            System.exit(1);
        }
    }

    static String shown(String text) {
        return "\"" + text.replace("\n", "\\n") + "\"";
    }

    /** Puts the text on the tape, which is empty before. */
    void tape(String text) {
        for (int from = 0; from < text.length(); from += 20) {
            dav.feed(word(text, from), word(text, from + 4), word(text, from + 8), word(text, from + 12), word(text, from + 16));
        }
        due("end for " + shown(text), dav.end(text.length()), text.length());
    }

    private static int word(String text, int from) {
        int word = 0;
        for (int k = from; k < from + 4; k++) {
            word = word << 8 | (k < text.length() ? text.charAt(k) : 0);
        }
        return word;
    }

    int status(String text) {
        tape(text);
        return dav.request();
    }

    void ask(String text, int want) {
        due(shown(text), status(text), want);
    }

    void ask(String text, int want, String wantOut) {
        ask(text, want);
        due("OUT of " + shown(text), out(), wantOut);
    }

    String out() {
        StringBuilder text = new StringBuilder();
        int length = dav.octet(-1);
        for (int k = 0; k < length; k++) {
            text.append((char) dav.octet(k));
        }
        return text.toString();
    }

    void look(String path, int what, int want) {
        tape(path);
        due("look(" + what + ") at " + path, dav.look(what), want);
    }

    void lock(int k, int what, int want) {
        due("lock(" + k + ", " + what + ")", dav.lock(k, what), want);
    }

    void count(int what, int want) {
        due("count(" + what + ")", dav.count(what), want);
    }

    void tick(int n, int want) {
        due("tick(" + n + ")", dav.tick(n), want);
    }

    void keep(int want) {
        due("keep()", dav.keep(), want);
    }

    void crash(int want) {
        due("crash()", dav.crash(), want);
    }
}
