/** Promise 4: COPY and MOVE without locks. */
public final class TransferTest {
    public static void main(String[] args) {
        for (String verb : new String[] {"COPY", "MOVE"}) {
            missing(verb);
            forbidden(verb);
            noHome(verb);
            tooDeep(verb);
            over(verb);
        }
        copyFile();
        copyAll();
        copyDepthZero();
        copyOrderOfVersions();
        copyNoRoom();
        copyOverMakesRoom();
        moveFile();
        moveAll();
        moveWhenFull();
        Room.finish();
    }

    /** "/d", "/d/a" (version 1), "/d/c", "/d/c/z" (version 2), "/f" (version 3). */
    private static Room filled() {
        Room room = new Room();
        room.ask("MKCOL /d DAV\n\n", 201);
        room.ask("PUT /d/a DAV\n\naa", 201);
        room.ask("MKCOL /d/c DAV\n\n", 201);
        room.ask("PUT /d/c/z DAV\n\nzzz", 201);
        room.ask("PUT /f DAV\n\nf", 201);
        return room;
    }

    private static void transfer(Room room, String verb, String from, String to, int want) {
        room.ask(verb + " " + from + " DAV\nto: " + to + "\n\n", want, "");
    }

    private static void tree(Room room, String want) {
        room.ask("LIST / DAV\ndepth: all\n\n", 207, want.replace(' ', '\n') + "\n");
    }

    private static void missing(String verb) {
        Room room = filled();
        transfer(room, verb, "/q", "/", 404);
        transfer(room, verb, "/q", "/q", 404);
        transfer(room, verb, "/q", "/x/y", 404);
        transfer(room, verb, "/f/q", "/x", 404);
    }

    private static void forbidden(String verb) {
        Room room = filled();
        transfer(room, verb, "/", "/", 403);
        transfer(room, verb, "/", "/x", 403);
        transfer(room, verb, "/", "/x/y", 403);
        transfer(room, verb, "/d", "/", 403);
        transfer(room, verb, "/d", "/d", 403);
        transfer(room, verb, "/d", "/d/q", 403);
        transfer(room, verb, "/d", "/d/q/r/s/t", 403);
        transfer(room, verb, "/d", "/d/a/b", 403);
        transfer(room, verb, "/d/a", "/d", 403);
        transfer(room, verb, "/d/c/z", "/d", 403);
        transfer(room, verb, "/f", "/f", 403);
        transfer(room, verb, "/f", "/f/g", 403);
        tree(room, "/ /d /d/a /d/c /d/c/z /f");
        transfer(room, verb, "/d", "/d-", 201);
    }

    private static void noHome(String verb) {
        Room room = filled();
        transfer(room, verb, "/f", "/x/y", 409);
        transfer(room, verb, "/d/a", "/f/y", 409);
        room.ask(verb + " /d DAV\nto: /x/y\nover: no\n\n", 409);
        tree(room, "/ /d /d/a /d/c /d/c/z /f");
    }

    private static void tooDeep(String verb) {
        Room room = filled();
        for (String path : new String[] {"/1", "/1/2", "/1/2/3", "/1/2/3/4", "/1/2/3/x"}) {
            room.ask("MKCOL " + path + " DAV\n\n", 201);
        }
        room.count(1, 10);
        transfer(room, verb, "/d", "/1/2/3/4/5", 409);
        transfer(room, verb, "/d", "/1/2/3/5", 409);
        room.ask(verb + " /d DAV\nto: /1/2/3/x\nover: no\n\n", 409);
        room.ask("LOCK /1 DAV\n\n", 201);
        transfer(room, verb, "/d", "/1/2/3/5", 409);
        room.ask("UNLOCK /1 DAV\ntoken: 1\n\n", 204);
        room.count(1, 10);
        transfer(room, verb, "/d", "/1/2/5", 201);
        room.look("/1/2/5/c/z", 2, 3);
        transfer(room, verb, "/f", "/1/2/3/4/5", 201);
        longest(verb);
    }

    private static void longest(String verb) {
        Room room = filled();
        String path = "";
        for (int k = 0; k < 4; k++) {
            path += "/abcdefgh";
            room.ask("MKCOL " + path + " DAV\n\n", 201);
        }
        room.ask("MKCOL /s DAV\n\n", 201);
        room.ask("PUT /s/ijklmnop DAV\n\nend", 201);
        transfer(room, verb, "/s", path, 204);
        room.ask("GET " + path + "/ijklmnop DAV\n\n", 200, "end");
        transfer(room, verb, "/f", path + "/fedcba98", 201);
        room.ask("LIST " + path + " DAV\n\n", 207, path + "\n" + path + "/fedcba98\n" + path + "/ijklmnop\n");
    }

    private static void over(String verb) {
        Room room = filled();
        room.ask(verb + " /f DAV\nto: /d\nover: no\n\n", 412);
        room.ask(verb + " /f DAV\nto: /g\nover: no\n\n", 201);
        room.look("/d", 2, 3);
        room.ask(verb + " /g DAV\nto: /d\nover: yes\n\n", 204);
        room.look("/d", 0, 1);
        room.look("/d/c/z", 0, Room.NONE);
        room.ask("PUT /h DAV\n\n", 201);
        transfer(room, verb, "/h", "/d", 204);
        room.look("/d", 2, 0);
    }

    private static void copyFile() {
        Room room = filled();
        transfer(room, "COPY", "/f", "/g", 201);
        room.look("/f", 1, 3);
        room.look("/g", 1, 4);
        room.ask("GET /g DAV\n\n", 200, "f");
        transfer(room, "COPY", "/d/a", "/g", 204);
        room.look("/g", 1, 5);
        room.ask("GET /g DAV\n\n", 200, "aa");
        room.ask("PUT /d/a DAV\n\nother", 204);
        room.ask("GET /g DAV\n\n", 200, "aa");
        room.ask("COPY /d/a DAV\nto: /g\ndepth: 0\n\n", 204);
        room.ask("GET /g DAV\n\n", 200, "other");
    }

    private static void copyAll() {
        Room room = filled();
        transfer(room, "COPY", "/d", "/e", 201);
        tree(room, "/ /d /d/a /d/c /d/c/z /e /e/a /e/c /e/c/z /f");
        room.look("/e", 1, 0);
        room.look("/e/a", 1, 4);
        room.look("/e/c/z", 1, 5);
        room.look("/d/c/z", 1, 2);
        room.ask("GET /e/c/z DAV\n\n", 200, "zzz");
        room.count(4, 11);
        room.ask("PUT /e/q DAV\n\n", 201);
        room.ask("COPY /d DAV\nto: /e\ndepth: all\n\n", 204);
        tree(room, "/ /d /d/a /d/c /d/c/z /e /e/a /e/c /e/c/z /f");
        transfer(room, "COPY", "/d", "/f", 204);
        tree(room, "/ /d /d/a /d/c /d/c/z /e /e/a /e/c /e/c/z /f /f/a /f/c /f/c/z");
        transfer(room, "COPY", "/e/a", "/d/c", 204);
        tree(room, "/ /d /d/a /d/c /e /e/a /e/c /e/c/z /f /f/a /f/c /f/c/z");
    }

    private static void copyDepthZero() {
        Room room = filled();
        room.ask("COPY /d DAV\nto: /e\ndepth: 0\n\n", 201);
        tree(room, "/ /d /d/a /d/c /d/c/z /e /f");
        room.look("/e", 0, 2);
        room.ask("COPY /e DAV\nto: /d\ndepth: 0\n\n", 204);
        tree(room, "/ /d /e /f");
        for (String path : new String[] {"/e/e", "/e/e/e", "/e/e/e/e"}) {
            room.ask("MKCOL " + path + " DAV\n\n", 201);
        }
        room.ask("MKCOL /d/x DAV\n\n", 201);
        room.ask("COPY /d DAV\nto: /e/e/e/e/e\n\n", 409);
        room.ask("COPY /d DAV\nto: /e/e/e/e/e\ndepth: 0\n\n", 201);
    }

    private static void copyOrderOfVersions() {
        Room room = new Room();
        room.ask("MKCOL /s DAV\n\n", 201);
        room.ask("MKCOL /s/a DAV\n\n", 201);
        for (String path : new String[] {"/s/b", "/s/a/x", "/s/a0", "/s/a-", "/s/a.", "/s/a/x-"}) {
            room.ask("PUT " + path + " DAV\n\n", 201);
        }
        transfer(room, "COPY", "/s", "/t", 201);
        String[] rising = {"/t/a-", "/t/a.", "/t/a/x", "/t/a/x-", "/t/a0", "/t/b"};
        for (int k = 0; k < rising.length; k++) {
            room.look(rising[k], 1, 7 + k);
        }
    }

    private static void fill(Room room, int until) {
        for (int k = room.dav.count(1); k < until; k++) {
            room.ask("PUT /n" + k + " DAV\n\n", 201);
        }
    }

    private static void copyNoRoom() {
        Room room = filled();
        fill(room, 37);
        transfer(room, "COPY", "/d", "/e", 507);
        room.count(1, 37);
        room.look("/e", 0, Room.NONE);
        room.ask("COPY /d DAV\nto: /e\ndepth: 0\n\n", 201);
        room.count(1, 38);
        transfer(room, "COPY", "/d", "/e", 507);
        room.ask("DELETE /e DAV\n\n", 204);
        room.ask("DELETE /n36 DAV\n\n", 204);
        transfer(room, "COPY", "/d", "/e", 201);
        room.count(1, 40);
        room.ask("DELETE /n35 DAV\n\n", 204);
        transfer(room, "COPY", "/d/c", "/g", 507);
        room.ask("COPY /d/c DAV\nto: /g\ndepth: 0\n\n", 201);
        room.count(1, 40);
        room.ask("DELETE /g DAV\n\n", 204);
        transfer(room, "COPY", "/f", "/n35", 201);
        transfer(room, "COPY", "/f", "/g", 507);
        room.ask("COPY /f DAV\nto: /e\nover: no\n\n", 412);
        room.ask("COPY /f DAV\nto: /q/e\n\n", 409);
    }

    private static void copyOverMakesRoom() {
        Room room = filled();
        fill(room, 40);
        transfer(room, "COPY", "/d", "/f", 507);
        room.look("/f", 1, 3);
        transfer(room, "COPY", "/f", "/d", 204);
        room.count(1, 37);
        fill(room, 37);
        transfer(room, "COPY", "/n5", "/d", 204);
        room.count(1, 37);
    }

    private static void moveFile() {
        Room room = filled();
        transfer(room, "MOVE", "/f", "/d/f", 201);
        room.look("/f", 0, Room.NONE);
        room.look("/d/f", 1, 3);
        room.ask("GET /d/f DAV\n\n", 200, "f");
        transfer(room, "MOVE", "/d/f", "/d/a", 204);
        room.look("/d/a", 1, 3);
        room.ask("PUT /new DAV\n\n", 201);
        room.look("/new", 1, 4);
    }

    private static void moveAll() {
        Room room = filled();
        transfer(room, "MOVE", "/d", "/0", 201);
        tree(room, "/ /0 /0/a /0/c /0/c/z /f");
        room.look("/0/c/z", 1, 2);
        room.ask("GET /0/c/z DAV\n\n", 200, "zzz");
        transfer(room, "MOVE", "/0", "/longname", 201);
        tree(room, "/ /f /longname /longname/a /longname/c /longname/c/z");
        transfer(room, "MOVE", "/longname/c", "/f", 204);
        tree(room, "/ /f /f/z /longname /longname/a");
        room.look("/f/z", 1, 2);
        transfer(room, "MOVE", "/f/z", "/longname", 204);
        tree(room, "/ /f /longname");
        room.count(2, 1);
        room.count(4, 3);
    }

    private static void moveWhenFull() {
        Room room = filled();
        fill(room, 40);
        transfer(room, "MOVE", "/d", "/e", 201);
        room.count(1, 40);
        room.look("/e", 2, 3);
        transfer(room, "MOVE", "/e", "/f", 204);
        room.count(1, 39);
    }
}
