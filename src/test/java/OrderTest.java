/** Promise 4: where two statuses could be answered, which of them stands first. */
public final class OrderTest {
    public static void main(String[] args) {
        putAndMkcol();
        putAndMkcolWithForty();
        delete();
        for (String verb : new String[] {"COPY", "MOVE"}) {
            missingFirst(verb);
            forbiddenBeforeNoHome(verb);
            forbiddenBeforeTheRest(verb);
            noHomeBeforeTheRest(verb);
            tooDeepBeforeTheRest(verb);
            overBeforeLocked(verb);
        }
        copyWithForty();
        moveWithForty();
        moveOfRoot();
        lock();
        lockWithToken();
        unlock();
        Room.finish();
    }

    /** "/1/2/3/4", "/c/d/f", "/x", "/y"; all of it locked if asked for. */
    private static Room filled(boolean locked) {
        Room room = new Room().with("/1/", "/1/2/", "/1/2/3/", "/1/2/3/4/", "/c/", "/c/d/", "/c/d/f", "/x/", "/y");
        if (locked) {
            room.ask("LOCK / DAV\n\n", 201, "1\n");
        }
        return room;
    }

    /** The same with 40 resources. */
    private static Room full(boolean locked) {
        Room room = filled(false);
        for (int k = 9; k < 40; k++) {
            room.with("/n" + k);
        }
        if (locked) {
            room.ask("LOCK / DAV\n\n", 201, "1\n");
        }
        return room;
    }

    private static void transfer(Room room, String verb, String from, String to, int want) {
        room.ask(verb + " " + from + " DAV\nto: " + to + "\n\n", want, "");
    }

    private static void transferOverNo(Room room, String verb, String from, String to, int want) {
        room.ask(verb + " " + from + " DAV\nto: " + to + "\nover: no\n\n", want, "");
    }

    private static void putAndMkcol() {
        Room.about("PUT and MKCOL, 405 and 409 before 423");
        Room room = filled(true);
        room.refuses("PUT /x DAV\n\n", 405);
        room.ask("PUT / DAV\n\n", 405);
        room.ask("PUT /q/r DAV\n\n", 409);
        room.ask("PUT /y/r DAV\n\n", 409);
        room.ask("PUT /q DAV\n\n", 423);
        room.ask("PUT /y DAV\n\n", 423);
        room.ask("MKCOL /x DAV\n\n", 405);
        room.ask("MKCOL /y DAV\n\n", 405);
        room.ask("MKCOL / DAV\n\n", 405);
        room.ask("MKCOL /q/r DAV\n\n", 409);
        room.ask("MKCOL /y/r DAV\n\n", 409);
        room.ask("MKCOL /q DAV\n\n", 423);
    }

    private static void putAndMkcolWithForty() {
        Room.about("PUT and MKCOL, 405, 409 and 423 before 507");
        Room room = full(false);
        for (String verb : new String[] {"PUT", "MKCOL"}) {
            room.ask(verb + " /x DAV\n\n", 405);
            room.ask(verb + " /q/r DAV\n\n", 409);
            room.ask(verb + " /y/r DAV\n\n", 409);
            room.ask(verb + " /q DAV\n\n", 507);
        }
        room = full(true);
        for (String verb : new String[] {"PUT", "MKCOL"}) {
            room.ask(verb + " /q DAV\n\n", 423);
            room.ask(verb + " /q DAV\ntoken: 2\n\n", 423);
            room.ask(verb + " /q DAV\ntoken: 1\n\n", 507);
        }
    }

    private static void delete() {
        Room.about("DELETE, 404 and 403 before 423");
        Room room = filled(true);
        room.ask("DELETE /q DAV\n\n", 404);
        room.ask("DELETE /y/q DAV\n\n", 404);
        room.ask("DELETE / DAV\n\n", 403);
        room.ask("DELETE / DAV\ntoken: 1\n\n", 403);
        room.ask("DELETE /x DAV\n\n", 423);
    }

    private static void missingFirst(String verb) {
        Room.about(verb + ", 404 before 403, 409, 412 and 423");
        Room room = filled(true);
        transfer(room, verb, "/q", "/", 404);
        transfer(room, verb, "/q", "/q", 404);
        transfer(room, verb, "/q", "/q/r", 404);
        transfer(room, verb, "/q/r", "/q", 404);
        transfer(room, verb, "/x/q", "/x", 404);
        transfer(room, verb, "/q", "/r/s", 404);
        transfer(room, verb, "/q", "/y/s", 404);
        transferOverNo(room, verb, "/q", "/y", 404);
        transfer(room, verb, "/q", "/y", 404);
        transfer(room, verb, "/q", "/r", 404);
        transfer(full(false), verb, "/q", "/r", 404);
    }

    private static void forbiddenBeforeNoHome(String verb) {
        Room.about(verb + ", 403 before 409");
        Room room = filled(false);
        transfer(room, verb, "/c", "/c/q/r", 403);
        transfer(room, verb, "/c", "/c/d/f/g", 403);
        transfer(room, verb, "/y", "/y/q/r", 403);
        transfer(room, verb, "/", "/q/r", 403);
        transfer(room, verb, "/c", "/c/d/1/2/3", 403);
        transfer(room, verb, "/1", "/1/2/3/4/5", 403);
        transfer(room, verb, "/c", "/", 403);
        transfer(room, verb, "/c", "/q/r", 409);
    }

    private static void forbiddenBeforeTheRest(String verb) {
        Room.about(verb + ", 403 before 412, 423 and 507");
        Room room = filled(true);
        transferOverNo(room, verb, "/c", "/c", 403);
        transferOverNo(room, verb, "/c", "/c/d", 403);
        transferOverNo(room, verb, "/c/d", "/c", 403);
        transferOverNo(room, verb, "/c/d/f", "/c", 403);
        transferOverNo(room, verb, "/c", "/", 403);
        transferOverNo(room, verb, "/", "/c", 403);
        transfer(room, verb, "/c", "/c", 403);
        transfer(room, verb, "/c", "/c/n", 403);
        transfer(room, verb, "/c/d", "/", 403);
        transfer(room, verb, "/", "/n", 403);
        room = full(false);
        transfer(room, verb, "/c", "/c/n", 403);
        transfer(room, verb, "/", "/n", 403);
        transfer(room, verb, "/y", "/y", 403);
    }

    private static void noHomeBeforeTheRest(String verb) {
        Room.about(verb + ", 409 before 412, 423 and 507");
        Room room = filled(true);
        transferOverNo(room, verb, "/c", "/q/r", 409);
        transfer(room, verb, "/c", "/q/r", 409);
        transfer(room, verb, "/c", "/y/r", 409);
        transfer(room, verb, "/c", "/r", 423);
        room = full(false);
        transfer(room, verb, "/c", "/q/r", 409);
        transfer(room, verb, "/c", "/y/r", 409);
    }

    private static void tooDeepBeforeTheRest(String verb) {
        Room.about(verb + ", the 409 of more than 5 SEGMENTS right after the other 409, before 412");
        Room room = filled(false);
        transferOverNo(room, verb, "/c", "/1/2/3/4", 409);
        transferOverNo(room, verb, "/c/d", "/1/2/3/4", 412);
        room = filled(true);
        transferOverNo(room, verb, "/c", "/1/2/3/4", 409);
        transfer(room, verb, "/c", "/1/2/3/4", 409);
        transfer(room, verb, "/c", "/1/2/3/n", 409);
        transfer(room, verb, "/c", "/1/2/n", 423);
        room = full(false);
        transfer(room, verb, "/c", "/1/2/3/n", 409);
        transfer(room, verb, "/c", "/1/2/3/4", 409);
        transferOverNo(room, verb, "/c", "/1/2/3/4", 409);
    }

    private static void overBeforeLocked(String verb) {
        Room.about(verb + ", 412 before 423 and 507");
        Room room = filled(true);
        transferOverNo(room, verb, "/c", "/x", 412);
        transferOverNo(room, verb, "/c/d/f", "/y", 412);
        transfer(room, verb, "/c", "/x", 423);
        transferOverNo(room, verb, "/c", "/n", 423);
        room = full(false);
        transferOverNo(room, verb, "/c", "/x", 412);
        transferOverNo(room, verb, "/y", "/x", 412);
    }

    private static void copyWithForty() {
        Room.about("COPY, 423 before 507");
        Room room = full(true);
        transfer(room, "COPY", "/c", "/n", 423);
        transfer(room, "COPY", "/c", "/x", 423);
        room.ask("COPY /c DAV\nto: /n\ntoken: 2\n\n", 423);
        room.ask("COPY /c DAV\nto: /n\ntoken: 1\n\n", 507);
        room.ask("COPY /c DAV\nto: /x\ntoken: 1\n\n", 507);
        room.ask("COPY /y DAV\nto: /x\ntoken: 1\n\n", 204);
    }

    private static void moveWithForty() {
        Room.about("MOVE, 423 with 40, and no 507");
        Room room = full(true);
        transfer(room, "MOVE", "/c", "/n", 423);
        room.ask("MOVE /c DAV\nto: /n\ntoken: 1\n\n", 201);
        room.count(1, 40);
    }

    private static void moveOfRoot() {
        Room.about("MOVE, \"/\": 403");
        Room room = filled(false);
        for (String to : new String[] {"/", "/q", "/x", "/y", "/q/r", "/y/r", "/1/2/3/4/5"}) {
            transfer(room, "MOVE", "/", to, 403);
            transferOverNo(room, "MOVE", "/", to, 403);
        }
        room.count(1, 9);
    }

    private static void lock() {
        Room.about("LOCK, 404 before 423 and 507, 423 before 507");
        Room room = filled(true);
        room.ask("LOCK /q DAV\n\n", 404, "");
        room.ask("LOCK /y/q DAV\nsort: many\n\n", 404, "");
        room = filled(false);
        for (int k = 1; k <= 10; k++) {
            room.ask("LOCK /c DAV\nsort: many\n\n", 201, k + "\n");
        }
        room.ask("LOCK /q DAV\n\n", 404, "");
        room.ask("LOCK /c DAV\n\n", 423, "");
        room.ask("LOCK /c/d/f DAV\n\n", 423, "");
        room.ask("LOCK / DAV\n\n", 423, "");
        room.ask("LOCK / DAV\ndepth: 0\n\n", 507, "");
        room.ask("LOCK /c DAV\nsort: many\n\n", 507, "");
        room.ask("LOCK /y DAV\n\n", 507, "");
    }

    private static void lockWithToken() {
        Room.about("LOCK with a token, 404 before 412, and neither 423 nor 507");
        Room room = filled(false);
        for (int k = 1; k <= 10; k++) {
            room.ask("LOCK /c DAV\nsort: many\n\n", 201, k + "\n");
        }
        room.ask("LOCK /q DAV\ntoken: 1\n\n", 404, "");
        room.ask("LOCK /q DAV\ntoken: 99\n\n", 404, "");
        room.ask("LOCK /c DAV\ntoken: 99\n\n", 412, "");
        room.ask("LOCK /y DAV\ntoken: 1\n\n", 412, "");
        room.ask("LOCK /c DAV\ntoken: 1\nsort: one\n\n", 200, "1\n");
        room.ask("LOCK /c DAV\ntoken: 99\nsort: one\n\n", 412, "");
    }

    private static void unlock() {
        Room.about("UNLOCK, 404 before 412");
        Room room = filled(true);
        room.ask("UNLOCK /q DAV\ntoken: 1\n\n", 404);
        room.ask("UNLOCK /q DAV\ntoken: 2\n\n", 404);
        room.ask("UNLOCK /y DAV\ntoken: 2\n\n", 412);
        room.ask("UNLOCK /y DAV\ntoken: 1\n\n", 204);
    }
}
