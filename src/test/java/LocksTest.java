/** Promise 4: LOCK and UNLOCK, and what must be FREE. */
public final class LocksTest {
    public static void main(String[] args) {
        lockAnswers();
        terms();
        refresh();
        clashes();
        shared();
        atMostTen();
        unlock();
        putNeeds();
        mkcolNeeds();
        deleteNeeds();
        copyNeeds();
        moveNeeds();
        oneOfSeveral();
        locksGo();
        orderOfRefusals();
        Room.finish();
    }

    /** "/c", "/c/d", "/c/d/f", "/c/e", "/x", "/y". */
    private static Room filled() {
        Room room = new Room();
        for (String path : new String[] {"/c", "/c/d", "/x"}) {
            room.ask("MKCOL " + path + " DAV\n\n", 201);
        }
        for (String path : new String[] {"/c/d/f", "/c/e", "/y"}) {
            room.ask("PUT " + path + " DAV\n\n1", 201);
        }
        return room;
    }

    private static void lockAnswers() {
        Room room = filled();
        room.ask("LOCK /q DAV\n\n", 404, "");
        room.ask("LOCK /q DAV\ntoken: 1\n\n", 404, "");
        room.ask("LOCK /c DAV\n\n", 201, "1\n");
        room.lock(0, 0, 1);
        room.lock(0, 1, 100);
        room.lock(0, 2, 1);
        room.lock(0, 3, 1);
        room.lock(0, 4, 4);
        room.ask("LOCK /x DAV\ndepth: 0\nsort: many\nfor: 0030\n\n", 201, "2\n");
        room.lock(1, 0, 2);
        room.lock(1, 1, 30);
        room.lock(1, 2, 0);
        room.lock(1, 3, 0);
        room.lock(1, 4, 1);
        room.ask("LOCK / DAV\ndepth: all\n\n", 423, "");
        room.ask("LOCK /y DAV\ndepth: all\nsort: one\n\n", 201, "3\n");
        room.lock(2, 2, 1);
        room.lock(2, 3, 1);
        room.lock(2, 4, 1);
    }

    private static void terms() {
        Room room = filled();
        room.tick(7, 0);
        room.ask("LOCK /c DAV\nfor: 1\n\n", 201);
        room.lock(0, 1, 8);
        room.ask("LOCK /x DAV\nfor: 1000\n\n", 201);
        room.lock(1, 1, 1007);
        room.ask("LOCK /y DAV\n\n", 201);
        room.lock(2, 1, 107);
        room.tick(1, 1);
        room.lock(0, 0, 2);
        room.ask("LOCK /c DAV\n\n", 201, "4\n");
    }

    private static void refresh() {
        Room room = filled();
        room.ask("LOCK /c DAV\nsort: many\nfor: 10\n\n", 201, "1\n");
        room.ask("LOCK /x DAV\ndepth: 0\n\n", 201, "2\n");
        room.tick(5, 0);
        room.ask("LOCK /c DAV\ntoken: 1\nsort: one\ndepth: 0\nfor: 20\n\n", 200, "1\n");
        room.lock(0, 1, 25);
        room.lock(0, 2, 1);
        room.lock(0, 3, 0);
        room.ask("LOCK /c/d/f DAV\ntoken: 0001\n\n", 200, "1\n");
        room.lock(0, 1, 105);
        room.ask("LOCK /c/d/f DAV\ntoken: 1\nfor: 1\n\n", 200, "1\n");
        room.lock(0, 1, 6);
        room.ask("LOCK /y DAV\ntoken: 1\n\n", 412, "");
        room.ask("LOCK / DAV\ntoken: 1\n\n", 412, "");
        room.ask("LOCK /c DAV\ntoken: 2\n\n", 412, "");
        room.ask("LOCK /c DAV\ntoken: 0\n\n", 412, "");
        room.ask("LOCK /c DAV\ntoken: 3\n\n", 412, "");
        room.ask("PUT /x/in DAV\ntoken: 2\n\n", 201);
        room.ask("LOCK /x/in DAV\ntoken: 2\n\n", 412, "");
        room.count(3, 2);
        room.tick(1, 1);
        room.ask("LOCK /c DAV\ntoken: 1\n\n", 412, "");
    }

    private static void clashes() {
        Room room = filled();
        room.ask("LOCK /c/d DAV\ndepth: 0\n\n", 201);
        room.ask("LOCK /c/d DAV\n\n", 423);
        room.ask("LOCK /c/d DAV\ndepth: 0\nsort: many\n\n", 423);
        room.ask("LOCK /c DAV\n\n", 423);
        room.ask("LOCK / DAV\nsort: many\n\n", 423);
        room.ask("LOCK /c DAV\ndepth: 0\n\n", 201);
        room.ask("LOCK /c/d/f DAV\n\n", 201);
        room.ask("LOCK /c/e DAV\n\n", 201);
        room.ask("LOCK / DAV\ndepth: 0\n\n", 201);
        room.count(3, 5);
        room = filled();
        room.ask("LOCK /c DAV\n\n", 201);
        room.ask("LOCK /c/d/f DAV\ndepth: 0\nsort: many\n\n", 423);
        room.ask("LOCK / DAV\ndepth: 0\n\n", 201, "2\n");
        room.ask("LOCK /x DAV\n\n", 201);
        room.ask("UNLOCK /c/d DAV\ntoken: 1\n\n", 204);
        room.ask("LOCK /c/d/f DAV\ndepth: 0\nsort: many\n\n", 201, "4\n");
    }

    private static void shared() {
        Room room = filled();
        room.ask("LOCK /c DAV\nsort: many\n\n", 201);
        room.ask("LOCK /c DAV\nsort: many\n\n", 201);
        room.ask("LOCK /c/d DAV\nsort: many\n\n", 201);
        room.ask("LOCK / DAV\nsort: many\n\n", 201);
        room.ask("LOCK /c/d/f DAV\nsort: one\n\n", 423);
        room.ask("LOCK /x DAV\n\n", 423);
        room.ask("LOCK / DAV\ndepth: 0\n\n", 423);
        room.look("/c/d/f", 3, 4);
        room.look("/c", 3, 3);
        room.look("/y", 3, 1);
        room.look("/", 3, 1);
    }

    private static void atMostTen() {
        Room room = filled();
        for (int k = 1; k <= 10; k++) {
            room.ask("LOCK /y DAV\nsort: many\nfor: " + (k + 10) + "\n\n", 201, k + "\n");
        }
        room.ask("LOCK /y DAV\nsort: many\n\n", 507, "");
        room.ask("LOCK /y DAV\n\n", 423, "");
        room.ask("LOCK /x DAV\n\n", 507, "");
        room.ask("LOCK /y DAV\ntoken: 10\n\n", 200, "10\n");
        room.ask("UNLOCK /y DAV\ntoken: 4\n\n", 204);
        room.lock(3, 0, 5);
        room.lock(9, 0, Room.NONE);
        room.ask("LOCK /x DAV\n\n", 201, "11\n");
        room.lock(9, 0, 11);
        room.ask("LOCK /c DAV\n\n", 507, "");
        room.tick(12, 2);
        room.lock(0, 0, 3);
        room.ask("LOCK /c DAV\n\n", 201, "12\n");
    }

    private static void unlock() {
        Room room = filled();
        room.ask("LOCK /c DAV\n\n", 201);
        room.ask("LOCK /x DAV\ndepth: 0\n\n", 201);
        room.ask("UNLOCK /q DAV\ntoken: 1\n\n", 404);
        room.ask("UNLOCK /c DAV\ntoken: 2\n\n", 412);
        room.ask("UNLOCK /c DAV\ntoken: 3\n\n", 412);
        room.ask("UNLOCK / DAV\ntoken: 1\n\n", 412);
        room.ask("PUT /x/in DAV\ntoken: 2\n\n", 201);
        room.ask("UNLOCK /x/in DAV\ntoken: 2\n\n", 412);
        room.ask("UNLOCK /x DAV\ntoken: 002\n\n", 204, "");
        room.ask("UNLOCK /x DAV\ntoken: 2\n\n", 412);
        room.ask("UNLOCK /c/d/f DAV\ntoken: 1\n\n", 204);
        room.count(3, 0);
    }

    private static void putNeeds() {
        Room room = filled();
        room.ask("LOCK /c DAV\ndepth: 0\n\n", 201);
        room.ask("PUT /c/new DAV\n\n", 423);
        room.ask("PUT /c/new DAV\ntoken: 2\n\n", 423);
        room.ask("PUT /c/e DAV\n\n2", 204);
        room.ask("PUT /c/d/new DAV\n\n2", 201);
        room.ask("PUT /c/new DAV\ntoken: 1\n\n", 201);
        room.look("/c/new", 3, 0);
        room.ask("UNLOCK /c DAV\ntoken: 1\n\n", 204);
        room.ask("LOCK /c DAV\n\n", 201, "2\n");
        room.ask("PUT /c/e DAV\n\n3", 423);
        room.ask("PUT /c/d/more DAV\n\n3", 423);
        room.ask("PUT /c/d/more DAV\ntoken: 2\n\n3", 201);
        room.look("/c/d/more", 3, 1);
        room.ask("GET /c/e DAV\n\n", 200, "2");
        room.ask("LOCK /y DAV\n\n", 201, "3\n");
        room.ask("PUT /y DAV\ntoken: 2\n\n3", 423);
        room.ask("PUT /y DAV\ntoken: 3\n\n3", 204);
        room.count(3, 2);
    }

    private static void mkcolNeeds() {
        Room room = filled();
        room.ask("LOCK / DAV\ndepth: 0\n\n", 201);
        room.ask("MKCOL /new DAV\n\n", 423);
        room.ask("MKCOL /c/new DAV\n\n", 201);
        room.ask("MKCOL /c DAV\n\n", 405);
        room.ask("MKCOL /q/new DAV\n\n", 409);
        room.ask("MKCOL /new DAV\ntoken: 1\n\n", 201);
    }

    private static void deleteNeeds() {
        Room room = filled();
        room.ask("LOCK /c/d/f DAV\n\n", 201);
        room.ask("DELETE /c DAV\n\n", 423);
        room.ask("DELETE /c/d DAV\n\n", 423);
        room.ask("DELETE /c/d/f DAV\n\n", 423);
        room.ask("DELETE /c/e DAV\n\n", 204);
        room.ask("LOCK /c/d DAV\ndepth: 0\n\n", 201);
        room.ask("DELETE /c/d/f DAV\ntoken: 1\n\n", 423);
        room.ask("DELETE /c DAV\ntoken: 1\n\n", 423);
        room.ask("DELETE /c DAV\ntoken: 2\n\n", 423);
        room.ask("UNLOCK /c/d DAV\ntoken: 2\n\n", 204);
        room.ask("DELETE /c DAV\ntoken: 1\n\n", 204);
        room.count(3, 0);
        room.ask("LOCK / DAV\ndepth: 0\n\n", 201, "3\n");
        room.ask("DELETE /x DAV\n\n", 423);
        room.ask("DELETE /x DAV\ntoken: 3\n\n", 204);
        room.count(3, 1);
    }

    private static void copyNeeds() {
        Room room = filled();
        room.ask("LOCK /x DAV\ndepth: 0\n\n", 201);
        room.ask("COPY /y DAV\nto: /x/y\n\n", 423);
        room.ask("COPY /y DAV\nto: /x\n\n", 423);
        room.ask("COPY /x DAV\nto: /z\n\n", 201);
        room.ask("COPY /y DAV\nto: /x/y\ntoken: 1\n\n", 201);
        room.ask("COPY /c DAV\nto: /x/y\n\n", 204);
        room.ask("LOCK /x/y/d/f DAV\n\n", 201, "2\n");
        room.ask("COPY /y DAV\nto: /x/y\n\n", 423);
        room.ask("COPY /y DAV\nto: /x\ntoken: 2\n\n", 423);
        room.ask("COPY /y DAV\nto: /x/y\ntoken: 2\n\n", 204);
        room.count(3, 1);
        room.ask("COPY /y DAV\nto: /x\ntoken: 1\n\n", 204);
        room.count(3, 0);
        room.look("/x", 3, 0);
    }

    private static void moveNeeds() {
        Room room = filled();
        room.ask("LOCK /c/d/f DAV\n\n", 201);
        room.ask("MOVE /c DAV\nto: /z\n\n", 423);
        room.ask("MOVE /c/d/f DAV\nto: /z\n\n", 423);
        room.ask("COPY /c DAV\nto: /z\n\n", 201);
        room.ask("MOVE /c DAV\nto: /z\ntoken: 1\n\n", 204);
        room.count(3, 0);
        room.ask("LOCK / DAV\ndepth: 0\n\n", 201, "2\n");
        room.ask("MOVE /y DAV\nto: /x/y\n\n", 423);
        room.ask("MOVE /z/e DAV\nto: /e\n\n", 423);
        room.ask("MOVE /z/e DAV\nto: /y\n\n", 204);
        room.ask("MOVE /y DAV\nto: /x/y\ntoken: 2\n\n", 201);
        room.ask("LOCK /x DAV\n\n", 201, "3\n");
        room.ask("MOVE /z/d DAV\nto: /x/d\ntoken: 2\n\n", 423);
        room.ask("MOVE /z/d DAV\nto: /x/d\ntoken: 3\n\n", 201);
        room.look("/x/d/f", 3, 1);
        room.ask("MOVE /x/d/f DAV\nto: /z/f\n\n", 423);
        room.ask("MOVE /x/d/f DAV\nto: /z/f\ntoken: 3\n\n", 201);
        room.look("/z/f", 3, 0);
        room.lock(1, 4, 3);
        room.ask("MOVE /x DAV\nto: /w\ntoken: 3\n\n", 423);
        room.ask("UNLOCK / DAV\ntoken: 2\n\n", 204);
        room.ask("MOVE /x DAV\nto: /w\ntoken: 3\n\n", 201);
        room.count(3, 0);
    }

    private static void oneOfSeveral() {
        Room room = filled();
        room.ask("LOCK /c DAV\nsort: many\n\n", 201);
        room.ask("LOCK /c/e DAV\nsort: many\n\n", 201);
        room.ask("PUT /c/e DAV\n\n", 423);
        room.ask("PUT /c/e DAV\ntoken: 3\n\n", 423);
        room.ask("PUT /c/e DAV\ntoken: 1\n\n", 204);
        room.ask("PUT /c/e DAV\ntoken: 2\n\n", 204);
        room.ask("DELETE /c/e DAV\ntoken: 2\n\n", 423);
        room.ask("DELETE /c/e DAV\ntoken: 1\n\n", 204);
        room.count(3, 1);
    }

    private static void locksGo() {
        Room room = filled();
        room.ask("LOCK /c/d DAV\n\n", 201);
        room.ask("LOCK /y DAV\n\n", 201);
        room.ask("PUT /y DAV\ntoken: 2\n\nnew", 204);
        room.count(3, 2);
        room.ask("COPY /x DAV\nto: /y\ntoken: 2\n\n", 204);
        room.count(3, 1);
        room.ask("DELETE /c DAV\ntoken: 1\n\n", 204);
        room.count(3, 0);
        room.ask("MKCOL /c DAV\n\n", 201);
        room.look("/c", 3, 0);
        room.ask("LOCK /x DAV\nfor: 3\n\n", 201, "3\n");
        room.tick(2, 0);
        room.ask("DELETE /x DAV\n\n", 423);
        room.tick(1, 1);
        room.ask("DELETE /x DAV\n\n", 204);
    }

    private static void orderOfRefusals() {
        Room room = filled();
        room.ask("LOCK / DAV\n\n", 201);
        room.ask("PUT /x DAV\n\n", 405);
        room.ask("PUT /q/r DAV\n\n", 409);
        room.ask("DELETE / DAV\n\n", 403);
        room.ask("DELETE /q DAV\n\n", 404);
        room.ask("COPY /c DAV\nto: /c/z\n\n", 403);
        room.ask("COPY /c DAV\nto: /q/z\n\n", 409);
        room.ask("COPY /c DAV\nto: /x\nover: no\n\n", 412);
        room.ask("COPY /c DAV\nto: /x\n\n", 423);
        for (int k = room.dav.count(1); k < 40; k++) {
            room.ask("PUT /n" + k + " DAV\ntoken: 1\n\n", 201);
        }
        room.ask("PUT /z DAV\n\n", 423);
        room.ask("MKCOL /z DAV\n\n", 423);
        room.ask("COPY /c DAV\nto: /z\n\n", 423);
        room.ask("PUT /z DAV\ntoken: 1\n\n", 507);
        room.ask("MKCOL /z DAV\ntoken: 1\n\n", 507);
        room.ask("COPY /c DAV\nto: /z\ntoken: 1\n\n", 507);
        room.ask("MOVE /c DAV\nto: /z\ntoken: 1\n\n", 201);
    }
}
