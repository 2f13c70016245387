/** Promises 6, 7 and 8: tick, keep, crash. */
public final class PowerTest {
    public static void main(String[] args) {
        tick();
        neverKept();
        kept();
        keptLocks();
        whatStays();
        Room.finish();
    }

    private static void tick() {
        Room room = new Room();
        room.tick(-1, Room.REFUSED);
        room.tick(1001, Room.REFUSED);
        room.tick(Integer.MIN_VALUE, Room.REFUSED);
        room.tick(Integer.MAX_VALUE, Room.REFUSED);
        room.count(0, 0);
        room.tick(0, 0);
        room.tick(1000, 0);
        room.count(0, 1000);
        room.ask("LOCK / DAV\nsort: many\nfor: 5\n\n", 201);
        room.ask("LOCK / DAV\nsort: many\nfor: 3\n\n", 201);
        room.ask("LOCK / DAV\nsort: many\nfor: 5\n\n", 201);
        room.ask("LOCK / DAV\nsort: many\nfor: 1000\n\n", 201);
        room.tick(2, 0);
        room.tick(0, 0);
        room.tick(1, 1);
        room.lock(0, 0, 1);
        room.lock(1, 0, 3);
        room.tick(1001, Room.REFUSED);
        room.tick(996, 2);
        room.lock(0, 0, 4);
        room.tick(1, 1);
        room.count(0, 2000);
        room.count(3, 0);
    }

    private static void neverKept() {
        Room room = new Room();
        room.ask("MKCOL /c DAV\n\n", 201);
        room.ask("PUT /c/f DAV\n\n1", 201);
        room.ask("LOCK / DAV\n\n", 201);
        room.crash(0);
        for (int what = 1; what < 5; what++) {
            room.count(what, 0);
        }
        room.look("/c", 0, Room.NONE);
        room.ask("PUT /f DAV\n\n1", 201);
        room.look("/f", 1, 2);
        room.ask("LOCK /f DAV\n\n", 201, "2\n");
    }

    private static void kept() {
        Room room = new Room();
        room.keep(0);
        room.ask("MKCOL /c DAV\n\n", 201);
        room.ask("PUT /c/f DAV\n\nold", 201);
        room.ask("PUT /g DAV\n\ngg", 201);
        room.keep(3);
        room.ask("PUT /c/f DAV\n\nnewer", 204);
        room.ask("MOVE /g DAV\nto: /c/g\n\n", 201);
        room.ask("MKCOL /0 DAV\n\n", 201);
        room.count(1, 4);
        room.crash(3);
        room.ask("LIST / DAV\ndepth: all\n\n", 207, "/\n/c\n/c/f\n/g\n");
        room.ask("GET /c/f DAV\n\n", 200, "old");
        room.look("/c/f", 1, 1);
        room.look("/g", 1, 2);
        room.ask("PUT /g DAV\n\n", 204);
        room.look("/g", 1, 4);
        room.ask("DELETE /c DAV\n\n", 204);
        room.crash(3);
        room.look("/g", 1, 2);
        room.ask("DELETE /c DAV\n\n", 204);
        room.keep(1);
        room.crash(1);
        room.ask("LIST / DAV\ndepth: all\n\n", 207, "/\n/g\n");
        room.ask("COPY /g DAV\nto: /h\n\n", 201);
        room.look("/h", 1, 5);
    }

    private static void keptLocks() {
        Room room = new Room();
        room.ask("PUT /f DAV\n\n", 201);
        room.ask("LOCK /f DAV\nsort: many\nfor: 10\n\n", 201, "1\n");
        room.ask("LOCK / DAV\nsort: many\nfor: 20\ndepth: 0\n\n", 201, "2\n");
        room.ask("LOCK /f DAV\nsort: many\nfor: 30\n\n", 201, "3\n");
        room.keep(1);
        room.ask("LOCK /f DAV\ntoken: 1\nfor: 500\n\n", 200);
        room.ask("UNLOCK / DAV\ntoken: 2\n\n", 204);
        room.ask("LOCK / DAV\nsort: many\n\n", 201, "4\n");
        room.tick(9, 0);
        room.crash(1);
        room.count(3, 3);
        room.lock(0, 0, 1);
        room.lock(0, 1, 10);
        room.lock(1, 0, 2);
        room.lock(1, 2, 0);
        room.lock(1, 3, 0);
        room.lock(2, 0, 3);
        room.tick(1, 1);
        room.crash(1);
        room.lock(0, 0, 2);
        room.tick(20, 2);
        room.crash(1);
        room.count(3, 0);
        room.ask("LOCK /f DAV\n\n", 201, "5\n");
        room.keep(1);
        room.ask("DELETE /f DAV\ntoken: 5\n\n", 204);
        room.count(3, 0);
        room.crash(1);
        room.lock(0, 0, 5);
        room.look("/f", 3, 1);
        keptLocksStayWhereTheyWere();
    }

    private static void keptLocksStayWhereTheyWere() {
        Room room = new Room();
        room.ask("PUT /f DAV\n\n", 201);
        room.ask("PUT /g DAV\n\n", 201);
        room.ask("LOCK /f DAV\n\n", 201, "1\n");
        room.keep(2);
        room.ask("UNLOCK /f DAV\ntoken: 1\n\n", 204);
        room.ask("LOCK /g DAV\n\n", 201, "2\n");
        room.crash(2);
        room.look("/f", 3, 1);
        room.look("/g", 3, 0);
        room.ask("PUT /f DAV\n\n", 423);
        room.ask("PUT /g DAV\n\n", 204);
        room.ask("PUT /f DAV\ntoken: 1\n\n", 204);
    }

    private static void whatStays() {
        Room room = new Room();
        room.ask("PUT /f DAV\n\nout", 201);
        room.ask("GET /f DAV\n\n", 200, "out");
        room.tick(77, 0);
        room.tape("GET /f DAV\n\n");
        room.keep(1);
        room.crash(1);
        Room.due("OUT stays", room.out(), "out");
        room.count(0, 77);
        Room.due("the tape stays", room.dav.end(12), 12);
        Room.due("request", room.dav.request(), 200);
    }
}
