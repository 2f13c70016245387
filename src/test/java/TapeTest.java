/** Promises 1, 2, 3 and 5: a new object, feed, end, octet. */
public final class TapeTest {
    public static void main(String[] args) {
        newObject();
        feed();
        feedFull();
        end();
        octet();
        Room.finish();
    }

    private static void newObject() {
        Room room = new Room();
        for (int what = 0; what < 5; what++) {
            room.count(what, 0);
        }
        Room.due("octet(-1)", room.dav.octet(-1), 0);
        Room.due("end(1)", room.dav.end(1), Room.REFUSED);
        room.lock(0, 0, Room.NONE);
        room.look("/", 0, 2);
        room.look("/", 1, 0);
        room.look("/", 2, 0);
        room.look("/", 3, 0);
        room.ask("LIST / DAV\ndepth: all\n\n", 207, "/\n");
        new Room().crash(0);
    }

    private static void feed() {
        Room room = new Room();
        Room.due("first feed", room.dav.feed(0x50555420, 0x2f612044, 0x41560a0a, 0x80ff007f, 0xfffefdfc), 20);
        Room.due("request", room.dav.request(), 201);
        room.ask("GET /a DAV\n\n", 200, "\u0080\u00ff\u0000\u007f\u00ff\u00fe\u00fd\u00fc");
        Room.due("the tape is empty behind a request", room.dav.feed(0, 0, 0, 0, 0), 20);
        Room.due("request", room.dav.request(), 400);
        Room.due("the tape is empty behind a bad request", room.dav.feed(0, 0, 0, 0, 0), 20);
    }

    private static void feedFull() {
        Room room = new Room();
        for (int k = 1; k <= 20; k++) {
            Room.due("feed " + k, room.dav.feed(k, k, k, k, k), 20 * k);
        }
        Room.due("feed 21", room.dav.feed(1, 2, 3, 4, 5), Room.FULL);
        Room.due("a full tape stays", room.dav.end(400), 400);
        Room.due("end(381)", room.dav.end(381), 381);
        Room.due("feed behind 381", room.dav.feed(1, 2, 3, 4, 5), Room.FULL);
        Room.due("end(380)", room.dav.end(380), 380);
        Room.due("feed behind 380", room.dav.feed(1, 2, 3, 4, 5), 400);
    }

    private static void end() {
        Room room = new Room();
        Room.due("end(0) of none", room.dav.end(0), 0);
        Room.due("end(1) of none", room.dav.end(1), Room.REFUSED);
        Room.due("end(-1)", room.dav.end(-1), Room.REFUSED);
        Room.due("end(least)", room.dav.end(Integer.MIN_VALUE), Room.REFUSED);
        room.dav.feed(0x2f000000, 0, 0, 0, 0);
        Room.due("end(21) of 20", room.dav.end(21), Room.REFUSED);
        Room.due("end(most) of 20", room.dav.end(Integer.MAX_VALUE), Room.REFUSED);
        Room.due("end(-1) of 20", room.dav.end(-1), Room.REFUSED);
        Room.due("end(20) of 20", room.dav.end(20), 20);
        Room.due("feed behind 20", room.dav.feed(0, 0, 0, 0, 0), 40);
        Room.due("end(1)", room.dav.end(1), 1);
        Room.due("end(2) of 1", room.dav.end(2), Room.REFUSED);
        Room.due("the first byte is left", room.dav.look(0), 2);
        Room.due("the tape is empty behind look", room.dav.end(1), Room.REFUSED);
        room.dav.feed(1, 2, 3, 4, 5);
        Room.due("end(0) of 20", room.dav.end(0), 0);
        Room.due("end(1) of none", room.dav.end(1), Room.REFUSED);
        Room.due("feed behind end(0)", room.dav.feed(1, 2, 3, 4, 5), 20);
    }

    private static void octet() {
        Room room = new Room();
        Room.due("octet(0) of none", room.dav.octet(0), Room.NONE);
        room.ask("PUT /f DAV\n\n\u00ff\u0000x", 201, "");
        room.ask("GET /f DAV\n\n", 200);
        Room.due("octet(-1)", room.dav.octet(-1), 3);
        Room.due("octet(0)", room.dav.octet(0), 255);
        Room.due("octet(1)", room.dav.octet(1), 0);
        Room.due("octet(2)", room.dav.octet(2), 'x');
        Room.due("octet(3)", room.dav.octet(3), Room.NONE);
        Room.due("octet(-2)", room.dav.octet(-2), Room.NONE);
        Room.due("octet(most)", room.dav.octet(Integer.MAX_VALUE), Room.NONE);
        Room.due("octet(least)", room.dav.octet(Integer.MIN_VALUE), Room.NONE);
        room.look("/f", 0, 1);
        room.tick(1, 0);
        room.keep(1);
        room.crash(1);
        Room.due("OUT stays behind other calls", room.out(), "\u00ff\u0000x");
        room.ask("nothing", 400, "");
        room.ask("GET /f DAV\n\n", 200, "\u00ff\u0000x");
        room.ask("GET /g DAV\n\n", 404, "");
    }
}
