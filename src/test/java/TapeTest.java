/** Promises 1, 2, 3 and 5: a new object, feed, end, octet; and which calls empty the TAPE. */
public final class TapeTest {
    private static final int LEAST = Integer.MIN_VALUE, MOST = Integer.MAX_VALUE;

    public static void main(String[] args) {
        newObjectHasRootAlone();
        newObjectHasNothingElse();
        objectsShareNothing();
        feedTellsHowMany();
        feedAtFourHundred();
        feedAtThreeHundredAndEighty();
        feedHighestByteFirst();
        feedIntsBelowZero();
        feedComesBehindTheCut();
        endOfMoreThanItHas();
        endOfJustWhatItHas();
        endOfLess();
        endHidesTheRest();
        endAtZero();
        endBelowZero();
        endOfAnEmptyTape();
        octetMinusOne();
        octetAtTheLastByte();
        octetBelowMinusOne();
        octetOfAnEmptyOut();
        octetOfEveryByte();
        outIsEmptyBeforeARequest();
        requestEmptiesTheTape();
        otherCallsLeaveTheTape();
        Room.finish();
    }

    private static void newObjectHasRootAlone() {
        Room.about("Promise 1, \"/\" alone");
        Room room = new Room();
        room.look("/", 0, 2);
        room.look("/", 1, 0);
        room.look("/", 2, 0);
        room.look("/", 3, 0);
        room.ask("GET / DAV\n\n", 200, "");
        room.ask("LIST / DAV\ndepth: all\n\n", 207, "/\n");
        room.look("/a", 0, Room.NONE);
    }

    private static void newObjectHasNothingElse() {
        Room.about("Promise 1, TAPE, OUT and CLOCK at first");
        Room room = new Room();
        for (int what = 0; what < 5; what++) {
            room.count(what, 0);
        }
        room.octet(-1, 0);
        room.octet(0, Room.NONE);
        room.end(1, Room.REFUSED);
        room.end(0, 0);
        room.lock(0, 0, Room.NONE);
        room.crash(0);
        room.keep(0);
        room.tick(0, 0);
        room.feed(0, 0, 0, 0, 0, 20);
    }

    private static void objectsShareNothing() {
        Room.about("Promise 1, one object knows nothing of another");
        Room one = new Room().with("/f", "/c/");
        one.ask("LOCK / DAV\n\n", 201, "1\n");
        one.tick(5, 0);
        one.keep(2);
        one.tape("/f");
        Room other = new Room();
        other.end(1, Room.REFUSED);
        other.octet(-1, 0);
        other.count(0, 0);
        other.count(3, 0);
        other.crash(0);
        other.with("/g");
        other.look("/g", 1, 1);
        other.ask("LOCK / DAV\n\n", 201, "1\n");
        one.look(1, 1);
        one.look("/g", 0, Room.NONE);
    }

    private static void feedTellsHowMany() {
        Room.about("Promise 2, how many it has");
        Room room = new Room();
        for (int k = 1; k <= 20; k++) {
            room.feed(k, -k, k, -k, k, 20 * k);
        }
    }

    private static void feedAtFourHundred() {
        Room.about("Promise 2, FULL if the TAPE would have more than 400");
        Room room = new Room();
        room.feedText("PUT /a DAV\n\nbody----");
        for (int k = 2; k <= 20; k++) {
            room.feed(k, k, k, k, k, 20 * k);
        }
        room.feed(1, 2, 3, 4, 5, Room.FULL);
        room.feed(1, 2, 3, 4, 5, Room.FULL);
        room.end(401, Room.REFUSED);
        room.end(400, 400);
        room.feed(1, 2, 3, 4, 5, Room.FULL);
        room.end(16, 16);
        room.request(201);
        room.ask("GET /a DAV\n\n", 200, "body");
    }

    private static void feedAtThreeHundredAndEighty() {
        Room.about("Promise 2, a TAPE that has 380, 381 and 399");
        for (int has : new int[] {380, 381, 399}) {
            Room room = new Room();
            for (int k = 1; k <= 20; k++) {
                room.feed(k, k, k, k, k);
            }
            room.end(has, has);
            room.feed(1, 2, 3, 4, 5, has == 380 ? 400 : Room.FULL);
            room.end(has + 1, has == 380 ? has + 1 : Room.REFUSED);
        }
    }

    private static void feedHighestByteFirst() {
        Room.about("Promise 2, the highest of each four bytes first");
        Room room = new Room();
        room.feed(0x50555420, 0x2f612044, 0x41560a0a, 0x01020304, 0x05060708, 20);
        room.feed(0x11121314, 0x21222324, 0x31323334, 0x41424344, 0x51525354, 40);
        room.request(201);
        room.ask("GET /a DAV\n\n", 200, "\1\2\3\4\5\6\7\10\21\22\23\24\41\42\43\44\61\62\63\64ABCDQRST");
    }

    private static void feedIntsBelowZero() {
        Room.about("Promise 2, ints below 0");
        Room room = new Room();
        room.feed(0x50555420, 0x2f612044, 0x41560a0a, -1, LEAST, 20);
        room.feed(MOST, -2, 0x80ff007f, 0x00800080, 0xfefdfcfb, 40);
        room.request(201);
        room.ask("GET /a DAV\n\n", 200, "\u00ff\u00ff\u00ff\u00ff\u0080\0\0\0\u007f\u00ff\u00ff\u00ff\u00ff\u00ff\u00ff\u00fe"
                + "\u0080\u00ff\0\u007f\0\u0080\0\u0080\u00fe\u00fd\u00fc\u00fb");
    }

    private static void feedComesBehindTheCut() {
        Room.about("Promises 2 and 3, what comes behind a cut");
        Room room = new Room();
        room.feedText("PUT /a DAV\n\nxxxxxxxx");
        room.end(13, 13);
        room.feedText("yyyyyyyyyyyyyyyyyyyy");
        room.end(34, Room.REFUSED);
        room.end(33, 33);
        room.request(201);
        room.ask("GET /a DAV\n\n", 200, "xyyyyyyyyyyyyyyyyyyyy");
    }

    private static void endOfMoreThanItHas() {
        Room.about("Promise 3, REFUSED if it has less");
        Room room = new Room();
        room.feedText("/");
        room.end(21, Room.REFUSED);
        room.end(400, Room.REFUSED);
        room.end(401, Room.REFUSED);
        room.end(MOST, Room.REFUSED);
        room.end(20, 20);
        room.end(1, 1);
        room.end(2, Room.REFUSED);
        room.look(0, 2);
    }

    private static void endOfJustWhatItHas() {
        Room.about("Promise 3, n that is just what it has");
        Room room = new Room();
        room.feedText("GET / DAV\n\n");
        room.end(20, 20);
        room.end(20, 20);
        room.end(11, 11);
        room.end(11, 11);
        room.request(200);
    }

    private static void endOfLess() {
        Room.about("Promise 3, the first n bytes stay");
        Room room = new Room().with("/ab/", "/a");
        room.feedText("/ab");
        room.end(2, 2);
        room.look(0, 1);
        room.feedText("/ab");
        room.end(3, 3);
        room.look(0, 2);
        room.feedText("/ab");
        room.end(1, 1);
        room.look(2, 2);
    }

    private static void endHidesTheRest() {
        Room.about("Promise 3, what stood behind the first n bytes is gone");
        String whole = "LIST / DAV\ndepth: 1\n\n";
        for (int n = 0; n <= whole.length(); n++) {
            Room room = new Room();
            room.feedText(whole);
            room.end(n, n);
            room.request(n == whole.length() ? 207 : 400);
        }
        Room room = new Room();
        room.feedText("GET / DAV\n\n");
        room.end(4, 4);
        room.request(400);
        room.feedText("GET / DAV\n\n");
        room.end(0, 0);
        room.request(400);
    }

    private static void endAtZero() {
        Room.about("Promise 3, n 0");
        Room room = new Room();
        room.feed(1, 2, 3, 4, 5, 20);
        room.end(0, 0);
        room.end(0, 0);
        room.end(1, Room.REFUSED);
        room.feed(1, 2, 3, 4, 5, 20);
    }

    private static void endBelowZero() {
        Room.about("Promise 3, REFUSED if n is below 0");
        Room room = new Room();
        room.end(-1, Room.REFUSED);
        room.feed(1, 2, 3, 4, 5, 20);
        room.end(-1, Room.REFUSED);
        room.end(-20, Room.REFUSED);
        room.end(LEAST, Room.REFUSED);
        room.end(20, 20);
    }

    private static void endOfAnEmptyTape() {
        Room.about("Promise 3, an empty TAPE");
        Room room = new Room();
        room.end(0, 0);
        room.end(1, Room.REFUSED);
        room.end(-1, Room.REFUSED);
    }

    /** A room whose OUT has the bytes 255, 0 and x. */
    private static Room withOut() {
        Room room = new Room();
        room.ask("PUT /f DAV\n\n\u00ff\u0000x", 201, "");
        room.ask("GET /f DAV\n\n", 200);
        return room;
    }

    private static void octetMinusOne() {
        Room.about("Promise 5, for k -1 how many");
        Room room = withOut();
        room.octet(-1, 3);
        room.octet(-1, 3);
        room.ask("PUT /f DAV\n\n" + "y".repeat(80), 204);
        room.octet(-1, 0);
        room.ask("GET /f DAV\n\n", 200);
        room.octet(-1, 80);
    }

    private static void octetAtTheLastByte() {
        Room.about("Promise 5, the last byte and the one behind it");
        Room room = withOut();
        room.octet(0, 255);
        room.octet(1, 0);
        room.octet(2, 'x');
        room.octet(3, Room.NONE);
        room.octet(399, Room.NONE);
        room.octet(400, Room.NONE);
        room.octet(MOST, Room.NONE);
    }

    private static void octetBelowMinusOne() {
        Room.about("Promise 5, k below -1");
        Room room = withOut();
        room.octet(-2, Room.NONE);
        room.octet(-3, Room.NONE);
        room.octet(LEAST, Room.NONE);
    }

    private static void octetOfAnEmptyOut() {
        Room.about("Promise 5, an empty OUT");
        Room room = new Room();
        for (String text : new String[] {"PUT /f DAV\n\n", "GET /f DAV\n\n", "nothing"}) {
            room.octet(-1, 0);
            room.octet(0, Room.NONE);
            room.octet(-2, Room.NONE);
            room.status(text);
        }
        room.octet(-1, 0);
        room.octet(0, Room.NONE);
    }

    private static void octetOfEveryByte() {
        Room.about("Promise 5, every byte there is");
        for (int first = 0; first < 256; first += 64) {
            StringBuilder body = new StringBuilder();
            for (int k = first; k < first + 64; k++) {
                body.append((char) k);
            }
            Room room = new Room();
            room.ask("PUT /f DAV\n\n" + body, 201, "");
            room.ask("GET /f DAV\n\n", 200, body.toString());
        }
    }

    private static void outIsEmptyBeforeARequest() {
        Room.about("Promise 4, OUT is empty before");
        String[] silent = {"", "nothing", "GET /q DAV\n\n", "GET /f DAV\nmatch: 9\n\n", "PUT /g DAV\n\nbody", "PUT /f DAV\n\nbody", "PUT / DAV\n\n",
            "MKCOL /c DAV\n\n", "MKCOL /f DAV\n\n", "DELETE /f DAV\n\n", "DELETE / DAV\n\n", "COPY /f DAV\nto: /g\n\n", "COPY /f DAV\nto: /\n\n",
            "MOVE /f DAV\nto: /g\n\n", "MOVE / DAV\nto: /g\n\n", "LOCK /q DAV\n\n", "UNLOCK / DAV\ntoken: 1\n\n", "LIST /q DAV\n\n"};
        for (String text : silent) {
            Room room = withOut();
            room.status(text);
            Room.due("OUT of " + Room.shown(text), room.out(), "");
        }
        Room room = withOut();
        room.ask("LIST / DAV\n\n", 207, "/\n/f\n");
        room.ask("GET / DAV\n\n", 200, "f\n");
        room.ask("LOCK / DAV\n\n", 201, "1\n");
        room.ask("UNLOCK / DAV\ntoken: 1\n\n", 204, "");
    }

    private static void requestEmptiesTheTape() {
        Room.about("Terms, calls that read the TAPE empty it");
        for (String text : new String[] {"GET / DAV\n\n", "GET /q DAV\n\n", "GET / DAV\n\nbody", "nothing", "DELETE / DAV\n\n", "PUT /f DAV\n\n"}) {
            Room room = new Room();
            room.status(text);
            room.end(1, Room.REFUSED);
            room.request(400);
            room.feed(1, 2, 3, 4, 5, 20);
        }
        Room room = new Room();
        for (String path : new String[] {"/", "/q", "nothing"}) {
            room.tape(path);
            room.look(0, path.equals("/") ? 2 : Room.NONE);
            room.end(1, Room.REFUSED);
            room.feed(1, 2, 3, 4, 5, 20);
            room.end(0, 0);
        }
    }

    private static void otherCallsLeaveTheTape() {
        Room.about("Terms, calls that do not read the TAPE leave it");
        Room room = new Room().with("/f");
        room.keep(1);
        room.tape("/f");
        room.octet(-1, 0);
        room.octet(0, Room.NONE);
        room.end(-1, Room.REFUSED);
        room.tick(1, 0);
        room.tick(-1, Room.REFUSED);
        room.keep(1);
        room.crash(1);
        room.lock(0, 0, Room.NONE);
        room.lock(0, 5, Room.REFUSED);
        room.count(1, 1);
        room.count(5, Room.REFUSED);
        room.look(4, Room.REFUSED);
        room.end(3, Room.REFUSED);
        room.end(2, 2);
        room.look(0, 1);
    }
}
