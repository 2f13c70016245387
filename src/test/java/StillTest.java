import java.util.function.Consumer;

/** Each call changes what its promise says, and nothing else: OUT, TAPE, CLOCK, resources, locks, numbers, what is kept. */
public final class StillTest {
    private static final int LEAST = Integer.MIN_VALUE, MOST = Integer.MAX_VALUE;
    private static final String TAPE = "GET / DAV\n\n", OUT = "two";
    private static final int CLOCK = 7;

    private static final String THERE = "/ of version 0\n/c of version 0\n/c/f of version 1\n/g of version 2\n"
            + "lock 1 until 500 deep of one over 2\nlock 2 until 600 of many over 1\n3 bytes";
    private static final String KEPT = "/ of version 0\n/c of version 0\n/c/f of version 1\nlock 1 until 500 deep of one over 2\n0 bytes";

    public static void main(String[] args) {
        feedChangesTheTapeAlone();
        feedThatIsFullChangesNothing();
        endChangesTheTapeAlone();
        octetChangesNothing();
        tickChangesTheClockAlone();
        keepChangesWhatIsKeptAlone();
        lookEmptiesTheTapeAlone();
        lookRefusedChangesNothing();
        lockChangesNothing();
        countChangesNothing();
        requestThatTellsChangesNothing();
        requestThatIsNotDoneChangesNothing();
        requestWithoutRoomChangesNothing();
        requestLeavesWhatIsKept();
        requestLeavesTheClock();
        Room.finish();
    }

    /** A room that has something of all that a room may have. */
    private static Room loaded() {
        Room room = new Room().with("/c/", "/c/f");
        room.ask("LOCK /c DAV\nfor: 500\n\n", 201, "1\n");
        room.keep(2);
        room.ask("PUT /g DAV\n\n" + OUT, 201);
        room.ask("LOCK /g DAV\nfor: 600\nsort: many\ndepth: 0\n\n", 201, "2\n");
        room.tick(CLOCK, 0);
        room.ask("GET /g DAV\n\n", 200, OUT);
        room.tape(TAPE);
        return room;
    }

    private static void changesNothing(Consumer<Room> call) {
        Room room = loaded();
        call.accept(room);
        isStill(room, TAPE, CLOCK);
    }

    private static void isStill(Room room, String tape, int clock) {
        Room.due("OUT", room.out(), OUT);
        isStillButForOut(room, tape, clock);
    }

    private static void isStillButForOut(Room room, String tape, int clock) {
        hasTape(room, tape);
        room.count(0, clock);
        Room.due("what there is", room.state(), THERE);
        tellsTheNextNumbers(room);
        room.crash(2);
        Room.due("what was kept", room.state(), KEPT);
    }

    private static void hasTape(Room room, String tape) {
        room.end(tape.length() + 1, Room.REFUSED);
        room.end(tape.length(), tape.length());
        room.request(tape.equals(TAPE) ? 200 : 400);
        Room.due("OUT of the TAPE", room.out(), tape.equals(TAPE) ? "c\ng\n" : "");
    }

    /** No VERSION and no token went to nothing. */
    private static void tellsTheNextNumbers(Room room) {
        room.ask("PUT /n DAV\n\n", 201);
        room.look("/n", 1, 3);
        room.ask("LOCK /n DAV\n\n", 201, "3\n");
    }

    private static void feedChangesTheTapeAlone() {
        Room.about("Promise 2, bytes come to the TAPE, and all else stays");
        Room room = loaded();
        room.feed(1, 2, 3, 4, 5, TAPE.length() + 20);
        room.end(TAPE.length(), TAPE.length());
        isStill(room, TAPE, CLOCK);
    }

    private static void feedThatIsFullChangesNothing() {
        Room.about("Promise 2, FULL, and all stays");
        Room room = loaded();
        for (int has = TAPE.length() + 20; has <= 400; has += 20) {
            room.feed(1, 2, 3, 4, 5, has);
        }
        room.feed(1, 2, 3, 4, 5, Room.FULL);
        room.end(392, Room.REFUSED);
        room.end(391, 391);
        room.end(TAPE.length(), TAPE.length());
        isStill(room, TAPE, CLOCK);
    }

    private static void endChangesTheTapeAlone() {
        Room.about("Promise 3, the TAPE is cut, and all else stays");
        changesNothing(room -> room.end(TAPE.length(), TAPE.length()));
        for (int n : new int[] {-1, LEAST, TAPE.length() + 1, 400, MOST}) {
            changesNothing(room -> room.end(n, Room.REFUSED));
        }
        for (int n : new int[] {0, 1, TAPE.length() - 1}) {
            Room room = loaded();
            room.end(n, n);
            isStill(room, TAPE.substring(0, n), CLOCK);
        }
    }

    private static void octetChangesNothing() {
        Room.about("Promise 5, all stays");
        changesNothing(room -> room.octet(-1, 3));
        changesNothing(room -> room.octet(0, 't'));
        changesNothing(room -> room.octet(2, 'o'));
        for (int k : new int[] {3, 400, MOST, -2, LEAST}) {
            changesNothing(room -> room.octet(k, Room.NONE));
        }
    }

    private static void tickChangesTheClockAlone() {
        Room.about("Promise 6, n later, and all else stays");
        changesNothing(room -> room.tick(0, 0));
        for (int n : new int[] {-1, 1001, LEAST, MOST}) {
            changesNothing(room -> room.tick(n, Room.REFUSED));
        }
        for (int n : new int[] {1, 492}) {
            Room room = loaded();
            room.tick(n, 0);
            isStill(room, TAPE, CLOCK + n);
        }
        Room room = loaded();
        room.tick(493, 1);
        Room.due("OUT", room.out(), OUT);
        hasTape(room, TAPE);
        Room.due("what there is", room.state(), THERE.replace("lock 1 until 500 deep of one over 2\n", ""));
        tellsTheNextNumbers(room);
        room.crash(2);
        Room.due("what was kept", room.state(), KEPT.replace("lock 1 until 500 deep of one over 2\n", ""));
    }

    private static void keepChangesWhatIsKeptAlone() {
        Room.about("Promise 7, what is kept is another, and all else stays");
        Room room = loaded();
        room.keep(3);
        Room.due("OUT", room.out(), OUT);
        hasTape(room, TAPE);
        room.count(0, CLOCK);
        Room.due("what there is", room.state(), THERE);
        tellsTheNextNumbers(room);
        room.crash(3);
        Room.due("what was kept", room.state(), THERE);
    }

    private static void lookEmptiesTheTapeAlone() {
        Room.about("Promise 9, the TAPE is empty, and all else stays");
        int[] answers = {1, 2, 3, 1};
        for (int what = 0; what < answers.length; what++) {
            looks("/g", what, answers[what]);
            looks("/q", what, Room.NONE);
            looks("no path", what, Room.NONE);
            looks("", what, Room.NONE);
        }
        int[] answersOfCollection = {2, 0, 1, 1};
        for (int what = 0; what < answersOfCollection.length; what++) {
            looks("/c", what, answersOfCollection[what]);
        }
    }

    private static void looks(String path, int what, int want) {
        Room room = loaded();
        room.end(0, 0);
        room.look(path, what, want);
        isStill(room, "", CLOCK);
    }

    private static void lookRefusedChangesNothing() {
        Room.about("Promise 9, REFUSED: the TAPE stays, and all else");
        for (int what : new int[] {-1, 4, LEAST, MOST}) {
            changesNothing(room -> room.look(what, Room.REFUSED));
        }
    }

    private static void lockChangesNothing() {
        Room.about("Promise 10, all stays");
        int[] answers = {1, 500, 1, 1, 2};
        for (int k = 0; k < answers.length; k++) {
            int what = k;
            changesNothing(room -> room.lock(0, what, answers[what]));
            changesNothing(room -> room.lock(2, what, Room.NONE));
            changesNothing(room -> room.lock(-1, what, Room.NONE));
        }
        for (int what : new int[] {-1, 5, LEAST, MOST}) {
            changesNothing(room -> room.lock(0, what, Room.REFUSED));
            changesNothing(room -> room.lock(2, what, Room.REFUSED));
        }
    }

    private static void countChangesNothing() {
        Room.about("Promise 11, all stays");
        int[] answers = {CLOCK, 3, 2, 2, 3};
        for (int k = 0; k < answers.length; k++) {
            int what = k;
            changesNothing(room -> room.count(what, answers[what]));
        }
        for (int what : new int[] {-1, 5, LEAST, MOST}) {
            changesNothing(room -> room.count(what, Room.REFUSED));
        }
    }

    private static void requestThatTellsChangesNothing() {
        Room.about("Promise 4, GET and LIST change OUT and TAPE alone");
        asks("GET / DAV\n\n", 200, "c\ng\n");
        asks("GET /c DAV\n\n", 200, "f\n");
        asks("GET /g DAV\nmatch: 2\n\n", 200, OUT);
        asks("GET /c/f DAV\n\n", 200, "");
        asks("LIST / DAV\n\n", 207, "/\n/c\n/g\n");
        asks("LIST /c DAV\ndepth: all\n\n", 207, "/c\n/c/f\n");
        asks("LIST /g DAV\ndepth: 0\n\n", 207, "/g\n");
    }

    private static void asks(String text, int status, String out) {
        Room room = loaded();
        room.end(0, 0);
        room.ask(text, status, out);
        isStillButForOut(room, "", CLOCK);
    }

    private static void requestThatIsNotDoneChangesNothing() {
        String[] notDone = {"400 nothing", "400 PUT /g DAV\ndepth: 0\ntoken: 2\n\n", "400 DELETE /c DAV\ntoken: 1\n\nbody",
            "404 GET /q DAV\n\n", "412 GET /g DAV\nmatch: 1\n\n", "412 GET /c DAV\nmatch: 0\n\n", "412 GET /q DAV\nmatch: any\n\n",
            "405 PUT / DAV\n\n", "405 PUT /c DAV\ntoken: 1\n\n", "409 PUT /q/n DAV\n\n", "409 PUT /g/n DAV\ntoken: 2\n\n",
            "412 PUT /g DAV\ntoken: 2\nmatch: 1\n\n", "412 PUT /g DAV\ntoken: 2\nnone: any\n\n", "423 PUT /g DAV\n\n", "423 PUT /c/n DAV\n\n",
            "404 DELETE /q DAV\n\n", "403 DELETE / DAV\n\n", "412 DELETE /g DAV\nmatch: 1\ntoken: 2\n\n", "423 DELETE /g DAV\ntoken: 1\n\n",
            "405 MKCOL / DAV\n\n", "405 MKCOL /c DAV\ntoken: 1\n\n", "405 MKCOL /g DAV\ntoken: 2\n\n", "409 MKCOL /q/n DAV\n\n",
            "423 MKCOL /c/n DAV\ntoken: 2\n\n", "404 LOCK /q DAV\n\n", "412 LOCK /c DAV\ntoken: 2\n\n", "412 LOCK /c DAV\ntoken: 3\n\n",
            "423 LOCK /c/f DAV\nsort: many\n\n", "423 LOCK /g DAV\n\n", "423 LOCK / DAV\n\n", "404 UNLOCK /q DAV\ntoken: 1\n\n",
            "412 UNLOCK /c DAV\ntoken: 2\n\n", "412 UNLOCK / DAV\ntoken: 1\n\n", "404 LIST /q DAV\n\n"};
        Room.about("Promise 4, what is not done changes nothing but TAPE and OUT");
        for (String one : notDone) {
            asks(one.substring(4), Integer.parseInt(one.substring(0, 3)), "");
        }
        String[] notTransferred = {"404 /q to: /n", "403 /g to: /", "403 /g to: /g", "403 /c to: /c/n", "403 /c/f to: /c", "403 / to: /n",
            "409 /g to: /q/n", "409 /c to: /g/n", "412 /c to: /g\nover: no", "423 /g to: /c/n", "423 /c/f to: /g", "423 /g to: /c"};
        for (String one : notTransferred) {
            String path = one.substring(4).replace(" to", " DAV\nto");
            asks("COPY " + path + "\n\n", Integer.parseInt(one.substring(0, 3)), "");
            asks("MOVE " + path + "\n\n", Integer.parseInt(one.substring(0, 3)), "");
        }
        asks("MOVE /g DAV\nto: /n\n\n", 423, "");
    }

    private static void requestWithoutRoomChangesNothing() {
        String[] withoutRoom = {"PUT /n DAV\n\nbody", "MKCOL /n DAV\n\n", "COPY /g DAV\nto: /n\n\n", "LOCK / DAV\nsort: many\ndepth: 0\n\n"};
        Room.about("Promise 4, 507 changes nothing but TAPE and OUT");
        for (String text : withoutRoom) {
            Room room = full();
            room.ask(text, 507, "");
            int[] counts = {CLOCK, 40, 39, 10, OUT.length()};
            for (int what = 0; what < counts.length; what++) {
                room.count(what, counts[what]);
            }
            room.lock(9, 1, CLOCK + 100);
            room.look("/n", 0, Room.NONE);
            room.ask("DELETE /c DAV\ntoken: 1\n\n", 204);
            room.ask("PUT /n DAV\n\n", 201);
            room.look("/n", 1, 40);
            room.ask("LOCK /n DAV\n\n", 201, "11\n");
            room.crash(2);
            Room.due("what was kept", room.state(), KEPT);
        }
    }

    /** A loaded room with no place left, for resources and for locks. */
    private static Room full() {
        Room room = loaded();
        room.end(0, 0);
        for (int k = 3; k < 40; k++) {
            room.ask("PUT /f" + k + " DAV\n\n", 201);
        }
        for (int k = 3; k <= 10; k++) {
            room.ask("LOCK /f3 DAV\nsort: many\n\n", 201, k + "\n");
        }
        return room;
    }

    /** Of each METHOD one that is done, and one that is not. */
    private static String[] requests() {
        return new String[] {"GET /g DAV\n\n", "GET /q DAV\n\n", "PUT /g DAV\ntoken: 2\n\nmore", "PUT /h DAV\n\nnew", "PUT /g DAV\n\n",
            "MKCOL /m DAV\n\n", "MKCOL /c DAV\n\n", "DELETE /c DAV\ntoken: 1\n\n", "DELETE /c DAV\n\n", "COPY /c DAV\nto: /m\n\n",
            "COPY /g DAV\nto: /c\ntoken: 1\n\n", "COPY /g DAV\nto: /c/f\n\n", "MOVE /c DAV\nto: /m\ntoken: 1\n\n", "MOVE /c DAV\nto: /m\n\n",
            "LOCK / DAV\ndepth: 0\n\n", "LOCK /c/f DAV\ntoken: 1\n\n", "LOCK /c/f DAV\n\n", "UNLOCK /c DAV\ntoken: 1\n\n",
            "UNLOCK /g DAV\ntoken: 1\n\n", "LIST / DAV\n\n", "LIST /q DAV\n\n", "nothing"};
    }

    private static void requestLeavesWhatIsKept() {
        Room.about("Promise 8, resources and locks are as they were kept, whatever was asked since");
        for (String text : requests()) {
            Room room = loaded();
            room.end(0, 0);
            room.status(text);
            room.crash(2);
            Room.due("what was kept before " + Room.shown(text), room.state(), KEPT);
        }
    }

    private static void requestLeavesTheClock() {
        Room.about("Terms, THE CLOCK goes with tick alone");
        for (String text : requests()) {
            Room room = loaded();
            room.end(0, 0);
            room.status(text);
            room.count(0, CLOCK);
        }
    }
}
