/** Promise 4: what is a REQUEST, and what is BAD. */
public final class FormTest {
    private static final String[] VERBS = {"GET", "PUT", "DELETE", "MKCOL", "COPY", "MOVE", "LOCK", "UNLOCK", "LIST"};
    private static final String[] HEADERS = {"depth: 0", "to: /x", "over: yes", "match: any", "none: any", "token: 1", "for: 1", "sort: one"};

    public static void main(String[] args) {
        emptyTape();
        cutAnywhere();
        oneByteLess();
        oneByteTwice();
        oneByteOther();
        otherLines();
        methods();
        headersInAnyOrder();
        headerTwice();
        headerOfOtherForm();
        headersThatTheMethodDoesNotUse();
        headersThatTheMethodNeeds();
        depthValues();
        depthOneForCopyAndLock();
        overValues();
        noneValues();
        sortValues();
        toValues();
        numbersOfNineAndTenDigits();
        numbersOfNoDigits();
        numbersWithZerosBefore();
        numbersOfOtherBytes();
        forAtItsEnds();
        bodyOfEightyAndEightyOne();
        bodyOfNone();
        bodyOfAnyBytes();
        bodyButForPut();
        badChangesNothing();
        Room.finish();
    }

    /** A request of the method with just the headers that it needs. */
    private static String plain(String verb) {
        return verb + " /q DAV\n" + needed(verb) + "\n";
    }

    private static String needed(String verb) {
        return verb.equals("COPY") || verb.equals("MOVE") ? "to: /x\n" : verb.equals("UNLOCK") ? "token: 1\n" : "";
    }

    private static void isBad(String text, boolean want) {
        Room.due(Room.shown(text) + " is BAD", new Room().status(text) == 400 ? 1 : 0, want ? 1 : 0);
    }

    private static void good(String before, String... values) {
        for (String value : values) {
            isBad(before + value + "\n\n", false);
        }
    }

    private static void bad(String before, String... values) {
        for (String value : values) {
            isBad(before + value + "\n\n", true);
        }
    }

    private static void emptyTape() {
        Room.about("Promise 4, an empty TAPE");
        Room room = new Room();
        room.request(400);
        room.octet(-1, 0);
        room.ask("GET / DAV\n\n", 200);
        room.request(400);
    }

    private static void cutAnywhere() {
        Room.about("Promise 4, a REQUEST that is cut");
        for (String verb : VERBS) {
            String whole = plain(verb);
            isBad(whole, false);
            for (int n = 0; n < whole.length(); n++) {
                isBad(whole.substring(0, n), true);
            }
        }
    }

    private static final String SAMPLE = "LIST / DAV\ndepth: 1\n\n";

    private static void oneByteLess() {
        Room.about("Promise 4, a REQUEST without one of its bytes");
        for (int k = 0; k < SAMPLE.length(); k++) {
            isBad(SAMPLE.substring(0, k) + SAMPLE.substring(k + 1), true);
        }
    }

    private static void oneByteTwice() {
        Room.about("Promise 4, a REQUEST with one of its bytes twice");
        for (int k = 0; k < SAMPLE.length(); k++) {
            isBad(SAMPLE.substring(0, k + 1) + SAMPLE.substring(k), true);
        }
    }

    private static void oneByteOther() {
        Room.about("Promise 4, a REQUEST with one of its bytes changed");
        for (int k = 0; k < SAMPLE.length(); k++) {
            for (int bit : new int[] {2, 32, 128}) {
                StringBuilder text = new StringBuilder(SAMPLE);
                text.setCharAt(k, (char) (SAMPLE.charAt(k) ^ bit));
                isBad(text.toString(), true);
            }
        }
    }

    private static void otherLines() {
        Room.about("Promise 4, METHOD, a blank, PATH, a blank, \"DAV\", LF");
        String[] lines = {"\n", "\n\n", " DAV\n\n", "/ DAV\n\n", "/q DAV\n\n", " / DAV\n\n", "GET \n", "GET \n\n", "GET\n\n", "DAV\n\n", "GET / DAV\n\n\n", "GET / DAV\n\n\u0000", " GET / DAV\n\n", "GET\t/ DAV\n\n", "GET /\nDAV\n\n", "GET / DAV \n\n",
            "GET / DAVE\n\n", "GET / DAV\r\n\r\n", "GET / DAV/1\n\n", "GET / \n\n", "GET /\n\n", "GET DAV\n\n", "GET  DAV\n\n", "/ GET DAV\n\n", "\nGET / DAV\n\n",
            "GET / DAV\n \n", "GET / DAV\n\r\n"};
        for (String text : lines) {
            isBad(text, true);
        }
    }

    private static void methods() {
        Room.about("Promise 4, METHODS");
        for (String verb : VERBS) {
            isBad(plain(verb), false);
            isBad(plain(verb).toLowerCase(), true);
            isBad("X" + plain(verb), true);
            isBad(plain(verb).replace(" /q", "X /q"), true);
            isBad(plain(verb).substring(1), true);
        }
        for (String verb : new String[] {"HEAD", "POST", "PROPFIND", "ANY", "Get", "GETPUT", "GET PUT", "", "UN", "UNLOCKED"}) {
            isBad(verb + " /q DAV\n\n", true);
            isBad(verb + " /q DAV\ntoken: 1\n\n", true);
        }
    }

    private static void headersInAnyOrder() {
        Room.about("Promise 4, { HEADER LF }: in any order");
        String[] four = {"to: /x\n", "over: no\n", "depth: 0\n", "token: 1\n"};
        String[] other = {"sort: many\n", "for: 9\n", "depth: all\n", "token: 1\n"};
        for (int first = 0; first < 4; first++) {
            for (int second = 0; second < 4; second++) {
                for (int third = 0; third < 4; third++) {
                    if (first != second && second != third && third != first) {
                        int last = 6 - first - second - third;
                        new Room().ask("COPY / DAV\n" + four[first] + four[second] + four[third] + four[last] + "\n", 403);
                        new Room().ask("LOCK / DAV\n" + other[first] + other[second] + other[third] + other[last] + "\n", 412);
                    }
                }
            }
        }
    }

    private static void headerTwice() {
        Room.about("Promise 4, each HEADER at most once");
        twice("LIST", "depth: 0", "depth: 0", "depth: all");
        twice("COPY", "to: /x", "to: /x", "to: /y");
        twice("MOVE", "over: no", "over: no", "over: yes");
        twice("GET", "match: 1", "match: 1", "match: any");
        twice("PUT", "none: any", "none: any");
        twice("MKCOL", "token: 1", "token: 1", "token: 01");
        twice("LOCK", "for: 1", "for: 1", "for: 1000");
        twice("LOCK", "sort: one", "sort: one", "sort: many");
        isBad("PUT /q DAV\nmatch: 1\ntoken: 1\nmatch: 1\n\n", true);
        isBad("COPY / DAV\nto: /x\nover: no\ndepth: 0\ntoken: 1\nto: /x\n\n", true);
    }

    private static void twice(String verb, String header, String... again) {
        String base = header.startsWith("to:") ? verb + " /q DAV\n" : verb + " /q DAV\n" + needed(verb);
        isBad(base + header + "\n\n", false);
        for (String more : again) {
            isBad(base + header + "\n" + more + "\n\n", true);
        }
    }

    private static void headerOfOtherForm() {
        Room.about("Promise 4, HEADER: a name, \":\", a blank, a value");
        for (String line : new String[] {" depth: 1", "depth:1", "depth : 1", "depth:  1", "depth: 1 ", "Depth: 1", "DEPTH: 1", "depth", "depth:", "depth: ",
            ": 1", "1", ":", "other: 1", "dept: 1", "depths: 1", "depth; 1", "depth:\t1", "depth: 1\r", "depth: 1, all", "depth: 1 all"}) {
            isBad("LIST / DAV\n" + line + "\n\n", true);
        }
        isBad("LIST / DAV\ndepth: 1\nother: 1\n\n", true);
        isBad("LIST / DAV\ndepth: 1\n\ndepth: 1\n\n", true);
    }

    private static void headersThatTheMethodDoesNotUse() {
        Room.about("Promise 4, a HEADER that the METHOD does not use");
        uses("GET", "match");
        uses("PUT", "match none token");
        uses("DELETE", "match token");
        uses("MKCOL", "token");
        uses("COPY", "to over depth token");
        uses("MOVE", "to over token");
        uses("LOCK", "depth for sort token");
        uses("UNLOCK", "token");
        uses("LIST", "depth");
    }

    private static void uses(String verb, String names) {
        for (String header : HEADERS) {
            String name = header.substring(0, header.indexOf(':'));
            boolean used = (" " + names + " ").contains(" " + name + " ");
            String added = needed(verb).startsWith(name + ":") ? "" : header + "\n";
            isBad(verb + " /q DAV\n" + needed(verb) + added + "\n", !used);
            isBad(verb + " / DAV\n" + added + needed(verb) + "\n", !used);
        }
    }

    private static void headersThatTheMethodNeeds() {
        Room.about("Promise 4, COPY and MOVE without to, UNLOCK without token");
        for (String verb : new String[] {"COPY", "MOVE"}) {
            bad(verb + " / DAV", "", "\nover: yes", "\ntoken: 1", "\nover: no\ntoken: 1");
            good(verb + " / DAV\nto: /x", "", "\nover: yes", "\ntoken: 1", "\nover: no\ntoken: 1");
        }
        bad("COPY / DAV", "\ndepth: 0", "\ndepth: all\nover: no\ntoken: 1");
        bad("UNLOCK / DAV", "");
        good("UNLOCK / DAV", "\ntoken: 1");
        good("LOCK / DAV", "", "\ntoken: 1");
    }

    private static void depthValues() {
        Room.about("Promise 4, depth: 0, 1 or all");
        good("LIST / DAV\ndepth: ", "0", "1", "all");
        bad("LIST / DAV\ndepth: ", "", "00", "01", "10", "2", "al", "alls", "ALL", "any", "-1", "a", "0all");
    }

    private static void depthOneForCopyAndLock() {
        Room.about("Promise 4, depth 1 for COPY and LOCK");
        good("COPY / DAV\nto: /x\ndepth: ", "0", "all");
        bad("COPY / DAV\nto: /x\ndepth: ", "1", "", "00", "2");
        good("LOCK / DAV\ndepth: ", "0", "all");
        bad("LOCK / DAV\ndepth: ", "1", "", "00", "2");
        good("LOCK / DAV\ntoken: 1\ndepth: ", "0", "all");
        bad("LOCK / DAV\ntoken: 1\ndepth: ", "1");
        new Room().ask("LIST / DAV\ndepth: 1\n\n", 207, "/\n");
    }

    private static void overValues() {
        Room.about("Promise 4, over: yes or no");
        for (String verb : new String[] {"COPY", "MOVE"}) {
            good(verb + " / DAV\nto: /x\nover: ", "yes", "no");
            bad(verb + " / DAV\nto: /x\nover: ", "", "y", "n", "ye", "not", "yess", "Yes", "NO", "any", "0", "yesno");
        }
    }

    private static void noneValues() {
        Room.about("Promise 4, none: any");
        good("PUT /q DAV\nnone: ", "any");
        bad("PUT /q DAV\nnone: ", "", "1", "an", "anyx", "all", "Any");
    }

    private static void sortValues() {
        Room.about("Promise 4, sort: one or many");
        good("LOCK / DAV\nsort: ", "one", "many");
        bad("LOCK / DAV\nsort: ", "", "on", "ones", "man", "manyx", "any", "1", "One");
        bad("LOCK / DAV\ntoken: 1\nsort: ", "any");
    }

    private static void toValues() {
        Room.about("Promise 4, to: a PATH");
        for (String verb : new String[] {"COPY", "MOVE"}) {
            good(verb + " / DAV\nto: ", "/", "/x", "/x/y/z/0/1", "/abcdefgh");
            bad(verb + " / DAV\nto: ", "", "x", "//", "/x/", "/x/y/z/0/1/2", "/abcdefghi", "/.", "/x ", "/x DAV", "/X");
        }
    }

    private static void numbersOfNineAndTenDigits() {
        Room.about("Promise 4, a NUMBER of 9 digits and of 10");
        for (String header : new String[] {"match", "token"}) {
            good("PUT /q DAV\n" + header + ": ", "1", "12", "12345678", "999999999", "100000000");
            bad("PUT /q DAV\n" + header + ": ", "1000000000", "9999999999", "2147483647", "2147483648", "4294967296", "4294967297", "18446744073709551617");
        }
        good("LOCK / DAV\nfor: ", "000000007");
        bad("LOCK / DAV\nfor: ", "0000000007");
        Room room = new Room().with("/f");
        room.ask("LOCK / DAV\n\n", 201);
        room.refuses("GET /f DAV\nmatch: 4294967297\n\n", 400);
        room.refuses("UNLOCK / DAV\ntoken: 4294967297\n\n", 400);
    }

    private static void numbersOfNoDigits() {
        Room.about("Promise 4, a NUMBER of no digits");
        bad("GET / DAV\nmatch: ", "");
        bad("MKCOL / DAV\ntoken: ", "");
        bad("LOCK / DAV\nfor: ", "");
        bad("GET / DAV\nmatch:", "");
        bad("MKCOL / DAV\ntoken:", "");
        bad("LOCK / DAV\nfor:", "");
    }

    private static void numbersWithZerosBefore() {
        Room.about("Promise 4, zeros may stand before");
        Room room = new Room().with("/f");
        room.ask("GET /f DAV\nmatch: 01\n\n", 200);
        room.ask("GET /f DAV\nmatch: 000000001\n\n", 200);
        room.ask("GET /f DAV\nmatch: 0000000001\n\n", 400);
        room.ask("GET /f DAV\nmatch: 000000000\n\n", 412);
        room.ask("LOCK /f DAV\nfor: 000001000\n\n", 201);
        room.lock(0, 1, 1000);
        room.ask("PUT /f DAV\ntoken: 000000001\n\n", 204);
        room.ask("PUT /f DAV\ntoken: 0000000001\n\n", 400);
        room.ask("UNLOCK /f DAV\ntoken: 0001\n\n", 204);
    }

    private static void numbersOfOtherBytes() {
        Room.about("Promise 4, a NUMBER of digits alone");
        String[] others = {"-1", "+1", "1a", "a1", "a", " 1", "1 ", "1:", ":", "/", "1/", "1.", "1,0", "0x1", "\u00b2", "1\u0000", "1\r", "any1", "1any"};
        bad("GET / DAV\nmatch: ", others);
        bad("MKCOL / DAV\ntoken: ", others);
        bad("LOCK / DAV\nfor: ", others);
        good("GET / DAV\nmatch: ", "any", "0", "9");
        bad("MKCOL / DAV\ntoken: ", "any");
        good("MKCOL / DAV\ntoken: ", "0", "9");
        bad("LOCK / DAV\nfor: ", "any");
        bad("GET / DAV\nmatch: ", "an", "anyx", "Any", "all");
    }

    private static void forAtItsEnds() {
        Room.about("Promise 4, for: a NUMBER from 1 to 1000");
        bad("LOCK / DAV\nfor: ", "0", "000", "000000000", "1001", "9999", "999999999");
        bad("LOCK / DAV\ntoken: 1\nfor: ", "0", "1001");
        for (int term : new int[] {1, 2, 999, 1000}) {
            Room room = new Room();
            room.tick(30, 0);
            room.ask("LOCK / DAV\nfor: " + term + "\n\n", 201, "1\n");
            room.lock(0, 1, 30 + term);
            room.ask("LOCK / DAV\ntoken: 1\nfor: " + (1001 - term) + "\n\n", 200, "1\n");
            room.lock(0, 1, 1031 - term);
        }
    }

    private static void bodyOfEightyAndEightyOne() {
        Room.about("Promise 4, a BODY of 80 bytes and of 81");
        Room room = new Room();
        room.refuses("PUT /a DAV\n\n" + "y".repeat(81), 400);
        room.ask("PUT /a DAV\n\n" + "y".repeat(80), 201);
        room.look("/a", 2, 80);
        room.refuses("PUT /a DAV\n\n" + "z".repeat(81), 400);
        room.ask("GET /a DAV\n\n", 200, "y".repeat(80));
        room.ask("PUT /a DAV\n\n" + "z".repeat(79), 204);
        room.look("/a", 2, 79);
        room.refuses("PUT /a DAV\n\n" + "z".repeat(380), 400);
    }

    private static void bodyOfNone() {
        Room.about("Promise 4, an empty BODY");
        Room room = new Room();
        room.ask("PUT /a DAV\n\n", 201);
        room.look("/a", 0, 1);
        room.look("/a", 2, 0);
        room.ask("PUT /a DAV\n\nx", 204);
        room.look("/a", 2, 1);
        room.ask("PUT /a DAV\n\n", 204);
        room.ask("GET /a DAV\n\n", 200, "");
        room.count(4, 0);
    }

    private static void bodyOfAnyBytes() {
        Room.about("Promise 4, BODY (all that is left)");
        for (String body : new String[] {"\n", "\n\n", "\n\n\n", "depth: 1\n\n", "\u0000", "\u0000\u00ff\n\r", " ", "GET / DAV\n\n"}) {
            Room room = new Room();
            room.ask("PUT /a DAV\n\n" + body, 201);
            room.ask("GET /a DAV\n\n", 200, body);
            room.ask("PUT /a DAV\ntoken: 1\nmatch: 1\n\n" + body + "x", 204);
            room.ask("GET /a DAV\n\n", 200, body + "x");
        }
    }

    private static void bodyButForPut() {
        Room.about("Promise 4, a BODY but for PUT");
        for (String verb : VERBS) {
            isBad(plain(verb), false);
            for (String body : new String[] {"x", "\n", "\u0000", "y".repeat(80)}) {
                isBad(plain(verb) + body, !verb.equals("PUT"));
                isBad(plain(verb).replace("/q", "/") + body, !verb.equals("PUT"));
            }
        }
    }

    private static void badChangesNothing() {
        Room.about("Promise 4, what is BAD changes nothing");
        String[] spoilt = {"PUT /n DAV\ndepth: 0\n\n", "PUT /f DAV\nto: /g\n\nnew", "MKCOL /n DAV\n\nx", "DELETE /c DAV\nnone: any\n\n", "COPY /f DAV\n\n",
            "COPY /f DAV\nto: /n\ndepth: 1\n\n", "COPY /f DAV\nto: /n\nmatch: any\n\n", "MOVE /f DAV\nto: /n\ndepth: all\n\n", "MOVE /f DAV\nto: /n/\n\n",
            "LOCK /f DAV\ndepth: 1\n\n", "LOCK /f DAV\nfor: 0\n\n", "LOCK /c DAV\ntoken: 1\nfor: 1001\n\n", "UNLOCK /c DAV\n\n", "UNLOCK /c DAV\ntoken: 1\n\nx"};
        for (String text : spoilt) {
            Room room = new Room().with("/f", "/c/", "/c/g");
            room.ask("LOCK /c DAV\n\n", 201);
            room.refuses(text, 400);
            room.look("/f", 1, 1);
            room.with("/h");
            room.look("/h", 1, 3);
            room.ask("LOCK /f DAV\n\n", 201, "2\n");
        }
    }
}
