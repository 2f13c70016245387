/** Terms: what is a PATH, as the PATH of a REQUEST and as the value of to. */
public final class PathsTest {
    private static final String LETTERS = "abcdefghijklmnopqrstuvwxyz0123456789-.";

    public static void main(String[] args) {
        rootAlone();
        segmentOfOneLetter();
        segmentOfEightLetters();
        segmentOfNineLetters();
        segmentOfNone();
        segmentOfDotsAlone();
        segmentOfDotsAndAnother();
        everyByteAsALetter();
        fiveSegments();
        sixSegments();
        slashes();
        collectionsAreTheirPathsWithoutTheLast();
        Room.finish();
    }

    /** As a PATH that there is not, and as one that "/" is copied to, which is forbidden. */
    private static void good(String path) {
        Room room = new Room();
        room.ask("GET " + path + " DAV\n\n", 404);
        room.ask("COPY / DAV\nto: " + path + "\n\n", 403);
    }

    private static void bad(String path) {
        Room room = new Room();
        room.ask("GET " + path + " DAV\n\n", 400);
        room.ask("COPY / DAV\nto: " + path + "\n\n", 400);
        room.ask("MKCOL " + path + " DAV\n\n", 400);
        room.count(1, 0);
    }

    private static void rootAlone() {
        Room.about("Terms, PATH: \"/\"");
        Room room = new Room();
        room.ask("GET / DAV\n\n", 200, "");
        room.ask("COPY / DAV\nto: /\n\n", 403);
        bad("");
        bad("//");
        bad("a");
    }

    private static void segmentOfOneLetter() {
        Room.about("Terms, a SEGMENT of 1 letter");
        good("/a");
        good("/a/b");
        new Room().with("/a/", "/a/b").has("/ /a /a/b");
    }

    private static void segmentOfEightLetters() {
        Room.about("Terms, a SEGMENT of 8 letters");
        good("/abcdefgh");
        good("/a/abcdefgh");
        good("/abcdefgh/a");
        good("/-.-.-.-.");
        new Room().with("/abcdefgh/", "/abcdefgh/ijklmnop").has("/ /abcdefgh /abcdefgh/ijklmnop");
    }

    private static void segmentOfNineLetters() {
        Room.about("Terms, a SEGMENT of 9 letters");
        bad("/abcdefghi");
        bad("/a/abcdefghi");
        bad("/abcdefghi/a");
        bad("/abcdefgh/abcdefghi/a");
        bad("/a........");
        bad("/abcdefghijklmnopqrstuvwxyz");
    }

    private static void segmentOfNone() {
        Room.about("Terms, a SEGMENT of none");
        bad("//");
        bad("//a");
        bad("/a/");
        bad("/a//b");
        bad("/a/b//");
        bad("///");
        bad("/a/b/c/d/e/");
    }

    private static void segmentOfDotsAlone() {
        Room.about("Terms, a SEGMENT of dots alone");
        for (int dots = 1; dots <= 9; dots++) {
            String segment = ".".repeat(dots);
            bad("/" + segment);
            bad("/a/" + segment);
            bad("/" + segment + "/a");
            bad("/a/" + segment + "/a");
        }
    }

    private static void segmentOfDotsAndAnother() {
        Room.about("Terms, a SEGMENT of dots and another");
        for (String segment : new String[] {".a", "a.", "..a", "a..", ".-", "-.", ".0.", ".......a", "a.......", "...z...."}) {
            good("/" + segment);
            good("/a/" + segment);
            good("/" + segment + "/a");
        }
    }

    private static void everyByteAsALetter() {
        Room.about("Terms, letters a to z, digits, - and dots");
        for (int octet = 0; octet < 256; octet++) {
            String letter = Character.toString(octet);
            boolean isLetter = LETTERS.indexOf(octet) >= 0;
            Room room = new Room();
            room.ask("GET /" + letter + " DAV\n\n", isLetter && octet != '.' ? 404 : 400);
            room.ask("GET /a" + letter + "b DAV\n\n", isLetter || octet == '/' ? 404 : 400);
            room.ask("COPY / DAV\nto: /a" + letter + "\n\n", isLetter ? 403 : 400);
        }
    }

    private static void fiveSegments() {
        Room.about("Terms, 5 SEGMENTS");
        good("/a/b/c/d");
        good("/a/b/c/d/e");
        good("/abcdefgh/abcdefgh/abcdefgh/abcdefgh/abcdefgh");
        Room room = new Room().with("/a/", "/a/b/", "/a/b/c/", "/a/b/c/d/", "/a/b/c/d/e");
        room.ask("GET /a/b/c/d/e DAV\n\n", 200);
    }

    private static void sixSegments() {
        Room.about("Terms, 6 SEGMENTS");
        bad("/a/b/c/d/e/f");
        bad("/a/b/c/d/e/f/g");
        bad("/abcdefgh/abcdefgh/abcdefgh/abcdefgh/abcdefgh/a");
        bad("/a".repeat(100));
    }

    private static void slashes() {
        Room.about("Terms, a \"/\" before each SEGMENT");
        bad("a");
        bad("a/");
        bad("a/b");
        bad("\\a");
    }

    private static void collectionsAreTheirPathsWithoutTheLast() {
        Room.about("Terms, in the COLLECTION whose path is its without the last SEGMENT");
        Room room = new Room().with("/a/", "/a-/", "/a/b/", "/ab/", "/a/b/c", "/a-/b");
        room.look("/a", 2, 2);
        room.look("/a/b", 2, 1);
        room.look("/a-", 2, 1);
        room.look("/ab", 2, 0);
        room.look("/", 2, 6);
        room.refuses("PUT /b/c DAV\n\n", 409);
        room.refuses("PUT /a/b/c/d DAV\n\n", 409);
    }
}
