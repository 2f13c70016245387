/** Promise 4: GET, PUT, MKCOL, DELETE and LIST without locks. */
public final class MethodsTest {
    public static void main(String[] args) {
        get();
        put();
        mkcol();
        delete();
        list();
        listCut();
        listCutExactly();
        atMostForty();
        Room.finish();
    }

    private static void get() {
        Room room = new Room();
        room.ask("GET / DAV\n\n", 200, "");
        room.ask("GET /a DAV\n\n", 404, "");
        room.ask("PUT /b DAV\n\nbody", 201, "");
        room.ask("GET /b DAV\n\n", 200, "body");
        room.ask("GET /b/c DAV\n\n", 404, "");
        room.ask("MKCOL /a DAV\n\n", 201);
        room.ask("MKCOL /a/x DAV\n\n", 201);
        room.ask("PUT /a/x/deep DAV\n\n", 201);
        room.ask("PUT /a/x.y DAV\n\n", 201);
        room.ask("PUT /a/x-y DAV\n\n", 201);
        room.ask("PUT /a/x0 DAV\n\n", 201);
        room.ask("PUT /a/w DAV\n\n", 201);
        room.ask("PUT /a/xx DAV\n\n", 201);
        room.ask("PUT /a- DAV\n\n", 201);
        room.ask("GET / DAV\n\n", 200, "a\na-\nb\n");
        room.ask("GET /a DAV\n\n", 200, "w\nx\nx-y\nx.y\nx0\nxx\n");
        room.ask("GET /a/x DAV\n\n", 200, "deep\n");
        room.ask("GET /a/x/deep DAV\n\n", 200, "");
    }

    private static void put() {
        Room room = new Room();
        room.ask("PUT / DAV\n\n", 405);
        room.ask("PUT /a/b DAV\n\n", 409);
        room.ask("PUT /a DAV\n\nlonger", 201);
        room.look("/a", 1, 1);
        room.ask("PUT /a DAV\n\nx", 204);
        room.look("/a", 1, 2);
        room.ask("GET /a DAV\n\n", 200, "x");
        room.ask("PUT /a/b DAV\n\n", 409);
        room.ask("PUT /a/b/c DAV\n\n", 409);
        room.ask("MKCOL /c DAV\n\n", 201);
        room.ask("PUT /c DAV\n\n", 405);
        room.ask("PUT /c/d DAV\n\n", 201);
        room.look("/c/d", 1, 3);
        room.look("/c/d", 2, 0);
        room.count(1, 3);
        room.count(4, 1);
    }

    private static void mkcol() {
        Room room = new Room();
        room.ask("MKCOL / DAV\n\n", 405);
        room.ask("MKCOL /a/b DAV\n\n", 409);
        room.ask("PUT /f DAV\n\n", 201);
        room.ask("MKCOL /f DAV\n\n", 405);
        room.ask("MKCOL /f/g DAV\n\n", 409);
        String path = "";
        for (int k = 0; k < 5; k++) {
            path += "/abcdefgh";
            room.ask("MKCOL " + path + " DAV\n\n", 201, "");
            room.ask("MKCOL " + path + " DAV\n\n", 405);
            room.look(path, 0, 2);
        }
        room.ask("MKCOL " + path + "/x DAV\n\n", 400);
        room.look("/abcdefgh", 2, 4);
        room.ask("LIST " + path + " DAV\n\n", 207, path + "\n");
    }

    private static void delete() {
        Room room = new Room();
        room.ask("DELETE / DAV\n\n", 403);
        room.ask("DELETE /a DAV\n\n", 404);
        for (String path : new String[] {"/a", "/a/b", "/a/b/c", "/ab"}) {
            room.ask("MKCOL " + path + " DAV\n\n", 201);
        }
        room.ask("PUT /a/b/f DAV\n\n123", 201);
        room.ask("PUT /a- DAV\n\n4567", 201);
        room.ask("DELETE /a/b/f DAV\n\n", 204, "");
        room.count(1, 5);
        room.ask("PUT /a/b/f DAV\n\n123", 201);
        room.look("/a/b/f", 1, 3);
        room.ask("DELETE /a DAV\n\n", 204);
        room.ask("LIST / DAV\ndepth: all\n\n", 207, "/\n/a-\n/ab\n");
        room.count(4, 4);
        room.ask("DELETE /a DAV\n\n", 404);
        room.ask("PUT /a/b DAV\n\n", 409);
        room.ask("DELETE /a- DAV\n\n", 204);
        room.ask("MKCOL /a- DAV\n\n", 201);
        room.ask("MKCOL /a DAV\n\n", 201);
        room.ask("MKCOL /0 DAV\n\n", 201);
        room.count(2, 0);
        room.count(4, 0);
        room.look("/a-", 1, 0);
        room.look("/a-", 2, 0);
    }

    private static void list() {
        Room room = new Room();
        room.ask("LIST /a DAV\n\n", 404, "");
        for (String path : new String[] {"/b", "/a", "/a/a", "/a/a/a", "/a-"}) {
            room.ask("MKCOL " + path + " DAV\n\n", 201);
        }
        room.ask("PUT /a.f DAV\n\n", 201);
        room.ask("PUT /a/a- DAV\n\n", 201);
        room.ask("LIST / DAV\n\n", 207, "/\n/a\n/a-\n/a.f\n/b\n");
        room.ask("LIST / DAV\ndepth: 1\n\n", 207, "/\n/a\n/a-\n/a.f\n/b\n");
        room.ask("LIST / DAV\ndepth: 0\n\n", 207, "/\n");
        room.ask("LIST / DAV\ndepth: all\n\n", 207, "/\n/a\n/a-\n/a.f\n/a/a\n/a/a-\n/a/a/a\n/b\n");
        room.ask("LIST /a DAV\n\n", 207, "/a\n/a/a\n/a/a-\n");
        room.ask("LIST /a DAV\ndepth: all\n\n", 207, "/a\n/a/a\n/a/a-\n/a/a/a\n");
        room.ask("LIST /a DAV\ndepth: 0\n\n", 207, "/a\n");
        room.ask("LIST /a.f DAV\ndepth: all\n\n", 207, "/a.f\n");
    }

    /** The first path that would not be whole ends the list, though a later one would fit. */
    private static void listCut() {
        Room room = new Room();
        String top = "/abcdefgh/abcdefgh/abcdefgh/abcdefgh";
        for (int k = 9; k <= top.length(); k += 9) {
            room.ask("MKCOL " + top.substring(0, k) + " DAV\n\n", 201);
        }
        StringBuilder want = new StringBuilder(top + "\n");
        for (int k = 10; k < 30; k++) {
            String path = top + "/file--" + k;
            room.ask("PUT " + path + " DAV\n\n", 201);
            if (want.length() + path.length() + 1 <= 400) {
                want.append(path).append("\n");
            }
        }
        room.ask("PUT " + top + "/z DAV\n\n", 201);
        Room.due("a short path would still fit", 400 - want.length() >= 39 ? 1 : 0, 1);
        room.ask("LIST " + top + " DAV\n\n", 207, want.toString());
        room.ask("LIST " + top + " DAV\ndepth: all\n\n", 207, want.toString());
    }

    /** The last LF as byte 400 is still told; as byte 401 its path is not. */
    private static void listCutExactly() {
        Room room = new Room();
        room.ask("MKCOL /abcdefg DAV\n\n", 201);
        StringBuilder want = new StringBuilder("/abcdefg\n");
        for (char letter = 'a'; letter <= 'w'; letter++) {
            String path = "/abcdefg/f-" + letter + "-xyz";
            room.ask("PUT " + path + " DAV\n\n", 201);
            want.append(path).append("\n");
        }
        room.ask("LIST /abcdefg DAV\n\n", 207, want.toString());
        Room.due("how many", room.dav.octet(-1), 400);
        Room.due("octet(399)", room.dav.octet(399), 10);
        Room.due("octet(400)", room.dav.octet(400), Room.NONE);
        room.ask("MOVE /abcdefg/f-w-xyz DAV\nto: /abcdefg/f-w-xyz0\n\n", 201);
        room.ask("PUT /abcdefg/g DAV\n\n", 201);
        want.setLength(400 - 17);
        room.ask("LIST /abcdefg DAV\n\n", 207, want.toString());
    }

    private static void atMostForty() {
        Room room = new Room();
        for (int k = 0; k < 40; k++) {
            room.ask((k % 2 == 0 ? "PUT /f" : "MKCOL /f") + k + " DAV\n\n", 201);
        }
        room.ask("PUT /g DAV\n\n", 507);
        room.ask("MKCOL /g DAV\n\n", 507);
        room.ask("MKCOL /f1 DAV\n\n", 405);
        room.ask("PUT /q/g DAV\n\n", 409);
        room.ask("PUT /f0 DAV\n\nx", 204);
        room.look("/f0", 1, 21);
        room.count(1, 40);
        room.count(2, 20);
        room.ask("DELETE /f1 DAV\n\n", 204);
        room.ask("PUT /f0 DAV\n\nx", 204);
        room.ask("MKCOL /f0 DAV\n\n", 405);
        room.ask("PUT /g DAV\n\n", 201);
        room.look("/g", 1, 23);
        room.ask("PUT /h DAV\n\n", 507);
    }
}
