/** A DavRoom that is asked in text; every answer that is not the one due is printed and counted. */
final class Room {
    static final int REFUSED = -1, NONE = -2, FULL = -3;

    /** What an object answers to later calls is free. */
    static final int MOST_CALLS = 512;

    private static int wrong;
    private static int asked;
    private static String about = "";

    private final DavRoom dav = new DavRoom();
    private int calls;

    /** What the answers from here on are about: it is printed with each wrong one. */
    static void about(String words) {
        about = words + ": ";
    }

    static void due(String call, long got, long want) {
        asked++;
        if (got != want) {
            wrong++;
            System.out.println(about + call + " answered " + got + ", due is " + want);
        }
    }

    static void due(String call, String got, String want) {
        asked++;
        if (!got.equals(want)) {
            wrong++;
            System.out.println(about + call + " answered " + shown(got) + ", due is " + shown(want));
        }
    }

    static void finish() {
        System.out.println(asked + " answers, " + wrong + " wrong");
        if (wrong != 0) {
            System.exit(1);
        }
    }

    static String shown(String text) {
        return "\"" + text.replace("\n", "\\n") + "\"";
    }

    private DavRoom used() {
        calls++;
        if (calls > MOST_CALLS) {
            throw new IllegalStateException(about + "a test asks one object more than " + MOST_CALLS + " times");
        }
        return dav;
    }

    int callsLeft() {
        return MOST_CALLS - calls;
    }

    int feed(int a, int b, int c, int d, int e) {
        return used().feed(a, b, c, d, e);
    }

    void feed(int a, int b, int c, int d, int e, int want) {
        due("feed(" + a + ", " + b + ", " + c + ", " + d + ", " + e + ")", feed(a, b, c, d, e), want);
    }

    void end(int n, int want) {
        due("end(" + n + ")", used().end(n), want);
    }

    int request() {
        return used().request();
    }

    void request(int want) {
        due("request()", request(), want);
    }

    int octet(int k) {
        return used().octet(k);
    }

    void octet(int k, int want) {
        due("octet(" + k + ")", octet(k), want);
    }

    /** Puts the text behind what the tape has. */
    void feedText(String text) {
        for (int from = 0; from < text.length(); from += 20) {
            feed(word(text, from), word(text, from + 4), word(text, from + 8), word(text, from + 12), word(text, from + 16));
        }
    }

    /** Puts the text on the tape, which is empty before. */
    void tape(String text) {
        feedText(text);
        due("end for " + shown(text), used().end(text.length()), text.length());
    }

    static int word(String text, int from) {
        int word = 0;
        for (int k = from; k < from + 4; k++) {
            word = word << 8 | (k < text.length() ? text.charAt(k) : 0);
        }
        return word;
    }

    int status(String text) {
        tape(text);
        return request();
    }

    void ask(String text, int want) {
        due(shown(text), status(text), want);
    }

    void ask(String text, int want, String wantOut) {
        ask(text, want);
        due("OUT of " + shown(text), out(), wantOut);
    }

    /** The request is answered so, OUT is empty, and what the room has stays as it was. */
    void refuses(String text, int want) {
        String before = state();
        ask(text, want, "");
        due("what there is behind " + shown(text), state(), before);
    }

    /** Makes collections of the paths that end in "/", files of the others. */
    Room with(String... paths) {
        for (String path : paths) {
            boolean collection = path.endsWith("/");
            String name = collection ? path.substring(0, path.length() - 1) : path;
            ask((collection ? "MKCOL " : "PUT ") + name + " DAV\n\n", 201);
        }
        return this;
    }

    String out() {
        StringBuilder text = new StringBuilder();
        int length = octet(-1);
        for (int k = 0; k < length; k++) {
            text.append((char) octet(k));
        }
        return text.toString();
    }

    /** All paths with their versions, and all that is told of the locks; OUT is another one afterwards. */
    String state() {
        status("LIST / DAV\ndepth: all\n\n");
        StringBuilder told = new StringBuilder();
        for (String path : out().split("\n")) {
            tape(path);
            told.append(path).append(" of version ").append(used().look(1)).append('\n');
        }
        int locks = count(3);
        for (int k = 0; k < locks; k++) {
            told.append("lock ").append(used().lock(k, 0)).append(" until ").append(used().lock(k, 1));
            told.append(used().lock(k, 2) == 1 ? " deep" : "").append(used().lock(k, 3) == 1 ? " of one" : " of many");
            told.append(" over ").append(used().lock(k, 4)).append('\n');
        }
        return told.append(used().count(4)).append(" bytes").toString();
    }

    /** The paths of all that there is, with blanks between. */
    void has(String want) {
        ask("LIST / DAV\ndepth: all\n\n", 207, want.replace(' ', '\n') + "\n");
    }

    void look(String path, int what, int want) {
        tape(path);
        due("look(" + what + ") at " + shown(path), used().look(what), want);
    }

    /** Looks with the tape as it is. */
    void look(int what, int want) {
        due("look(" + what + ")", used().look(what), want);
    }

    void lock(int k, int what, int want) {
        due("lock(" + k + ", " + what + ")", used().lock(k, what), want);
    }

    int count(int what) {
        return used().count(what);
    }

    void count(int what, int want) {
        due("count(" + what + ")", count(what), want);
    }

    void tick(int n, int want) {
        due("tick(" + n + ")", used().tick(n), want);
    }

    void keep(int want) {
        due("keep()", used().keep(), want);
    }

    void crash(int want) {
        due("crash()", used().crash(), want);
    }
}
