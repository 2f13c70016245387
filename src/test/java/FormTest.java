/** Promise 4: what is a REQUEST and what is BAD, and the CONDITIONS. */
public final class FormTest {
    public static void main(String[] args) {
        lines();
        paths();
        headersOfVerbs();
        values();
        bodies();
        conditions();
        conditionsComeFirst();
        Room.finish();
    }

    private static void lines() {
        Room room = new Room();
        String[] bad = {"", "\n", "GET", "GET ", "GET /", "GET / ", "GET / DAV", "GET / DAV\n", "GET / DAV\n\n\n", "GET / DAV\n\n\u0000",
            "get / DAV\n\n", " GET / DAV\n\n", "GET  / DAV\n\n", "GET /  DAV\n\n", "GET / dav\n\n", "GET / DAV \n\n", "GET /\nDAV\n\n",
            "GETS / DAV\n\n", "GE / DAV\n\n", "HEAD / DAV\n\n", "UNLOC / DAV\n\n", "GET / DAVE\n\n", "GET / DAV\r\n\r\n",
            "GET DAV\n\n", "GET  DAV\n\n", "LIST / DAV\n depth: 1\n\n", "LIST / DAV\ndepth:1\n\n", "LIST / DAV\ndepth : 1\n\n",
            "LIST / DAV\ndepth:  1\n\n", "LIST / DAV\ndepth: 1 \n\n", "LIST / DAV\nDepth: 1\n\n", "LIST / DAV\ndepth: \n\n",
            "LIST / DAV\ndepth\n\n", "LIST / DAV\n: 1\n\n", "LIST / DAV\ndepth: 1\n", "LIST / DAV\ndepth: 1", "LIST / DAV\nother: 1\n\n",
            "LIST / DAV\ndepth: 1\ndepth: 1\n\n", "LIST / DAV\ndepth: 1\ndepth: all\n\n"};
        for (String text : bad) {
            room.ask(text, 400, "");
        }
        room.ask("GET / DAV\n\n", 200, "");
        room.ask("LIST / DAV\ndepth: 1\n\n", 207, "/\n");
    }

    private static void paths() {
        Room room = new Room();
        String[] bad = {"a", "//", "/a/", "//a", "/a//b", "/.", "/..", "/...", "/........", "/a/..", "/../a", "/abcdefghi", "/A", "/a_b",
            "/a/b/c/d/e/f", "/a:", "/a\u00e9", "/a\u0000", "/*"};
        for (String path : bad) {
            room.ask("GET " + path + " DAV\n\n", 400);
            room.ask("COPY / DAV\nto: " + path + "\n\n", 400);
        }
        String[] good = {"/a", "/z", "/0", "/9", "/-", "/--", "/.a", "/a.", "/..a", "/...-...", "/abcdefgh", "/a/b/c/d/e",
            "/abcdefgh/abcdefgh/abcdefgh/abcdefgh/abcdefgh"};
        for (String path : good) {
            room.ask("GET " + path + " DAV\n\n", 404);
            room.ask("COPY / DAV\nto: " + path + "\n\n", 403);
        }
    }

    private static void headersOfVerbs() {
        String[] headers = {"depth: 0", "to: /x", "over: yes", "match: any", "none: any", "token: 1", "for: 1", "sort: one"};
        used("GET", headers, "match");
        used("PUT", headers, "match none token");
        used("DELETE", headers, "match token");
        used("MKCOL", headers, "token");
        used("COPY", headers, "to over depth token");
        used("MOVE", headers, "to over token");
        used("LOCK", headers, "depth for sort token");
        used("UNLOCK", headers, "token");
        used("LIST", headers, "depth");
        Room room = new Room();
        room.ask("COPY / DAV\n\n", 400);
        room.ask("COPY / DAV\nover: yes\n\n", 400);
        room.ask("MOVE / DAV\n\n", 400);
        room.ask("UNLOCK / DAV\n\n", 400);
        room.ask("COPY / DAV\ntoken: 1\ndepth: all\nover: no\nto: /x\n\n", 403);
        room.ask("COPY / DAV\nto: /x\nover: no\ndepth: 0\ntoken: 1\n\n", 403);
        room.ask("COPY / DAV\nto: /x\nover: no\ndepth: 0\ntoken: 1\nto: /x\n\n", 400);
    }

    private static void used(String verb, String[] headers, String names) {
        String base = verb.equals("COPY") || verb.equals("MOVE") ? "to: /x\n" : verb.equals("UNLOCK") ? "token: 1\n" : "";
        for (String header : headers) {
            String name = header.substring(0, header.indexOf(':'));
            boolean uses = (" " + names + " ").contains(" " + name + " ");
            String added = base.startsWith(name + ":") ? "" : header + "\n";
            String text = verb + " /q DAV\n" + base + added + "\n";
            int status = new Room().status(text);
            Room.due(Room.shown(text) + " is bad", status == 400 ? 1 : 0, uses ? 0 : 1);
        }
    }

    private static void values() {
        Room room = new Room();
        good(room, "LIST / DAV\ndepth: ", "0", "1", "all");
        bad(room, "LIST / DAV\ndepth: ", "00", "01", "2", "al", "alls", "ALL", "any", "-1");
        good(room, "COPY / DAV\nto: /x\ndepth: ", "0", "all");
        bad(room, "COPY / DAV\nto: /x\ndepth: ", "1", "00", "2");
        good(room, "LOCK /q DAV\ndepth: ", "0", "all");
        bad(room, "LOCK /q DAV\ndepth: ", "1", "00", "2", "002");
        good(room, "COPY / DAV\nto: /x\nover: ", "yes", "no");
        bad(room, "COPY / DAV\nto: /x\nover: ", "y", "n", "not", "yess", "any", "0");
        good(room, "GET / DAV\nmatch: ", "any", "0", "1", "000000001", "999999999");
        bad(room, "GET / DAV\nmatch: ", "anyx", "an", "1234567890", "0000000001", "-1", "+1", "1a", "a", "1 ", "1:", ":", "/", "1/", "\u00b2");
        good(room, "PUT /q/q DAV\nnone: ", "any");
        bad(room, "PUT /q/q DAV\nnone: ", "1", "an", "all");
        good(room, "MKCOL / DAV\ntoken: ", "0", "1", "999999999");
        bad(room, "MKCOL / DAV\ntoken: ", "any", "1234567890", "x");
        good(room, "LOCK /q DAV\nfor: ", "1", "1000", "000000001", "000001000");
        bad(room, "LOCK /q DAV\nfor: ", "0", "1001", "000000000", "999999999", "0000000001", "x");
        good(room, "LOCK /q DAV\nsort: ", "one", "many");
        bad(room, "LOCK /q DAV\nsort: ", "on", "ones", "any", "1");
    }

    private static void good(Room room, String before, String... values) {
        for (String value : values) {
            Room.due(Room.shown(before + value) + " is bad", room.status(before + value + "\n\n") == 400 ? 1 : 0, 0);
        }
    }

    private static void bad(Room room, String before, String... values) {
        room.ask(before + "\n\n", 400);
        room.ask(before.substring(0, before.length() - 1) + "\n\n", 400);
        for (String value : values) {
            room.ask(before + value + "\n\n", 400);
        }
    }

    private static void bodies() {
        Room room = new Room();
        for (String verb : new String[] {"GET", "DELETE", "MKCOL", "LOCK", "LIST"}) {
            room.ask(verb + " /q DAV\n\nx", 400);
        }
        room.ask("COPY / DAV\nto: /q\n\nx", 400);
        room.ask("MOVE / DAV\nto: /q\n\nx", 400);
        room.ask("UNLOCK / DAV\ntoken: 1\n\nx", 400);
        room.count(1, 0);
        room.ask("PUT /a DAV\n\n" + "y".repeat(81), 400);
        room.count(1, 0);
        room.ask("PUT /a DAV\n\n" + "y".repeat(80), 201);
        room.look("/a", 2, 80);
        room.ask("PUT /a DAV\n\n\n\ndepth: 1\n\n", 204);
        room.ask("GET /a DAV\n\n", 200, "\n\ndepth: 1\n\n");
        room.ask("PUT /a DAV\n\n", 204);
        room.ask("GET /a DAV\n\n", 200, "");
    }

    private static void conditions() {
        Room room = new Room();
        room.ask("PUT /f DAV\n\n1", 201);
        room.ask("MKCOL /c DAV\n\n", 201);
        room.ask("GET /f DAV\nmatch: 1\n\n", 200, "1");
        room.ask("GET /f DAV\nmatch: 0001\n\n", 200);
        room.ask("GET /f DAV\nmatch: 2\n\n", 412, "");
        room.ask("GET /c DAV\nmatch: any\n\n", 200);
        room.ask("GET /c DAV\nmatch: 0\n\n", 412);
        room.ask("GET /q DAV\nmatch: any\n\n", 412);
        room.ask("GET /q DAV\nmatch: 0\n\n", 412);
        room.ask("PUT /f DAV\nmatch: 2\n\n2", 412);
        room.look("/f", 1, 1);
        room.ask("PUT /f DAV\nmatch: 1\n\n2", 204);
        room.look("/f", 1, 2);
        room.ask("PUT /f DAV\nnone: any\n\n3", 412);
        room.ask("PUT /g DAV\nmatch: any\n\n3", 412);
        room.ask("PUT /g DAV\nnone: any\n\n3", 201);
        room.ask("PUT /g DAV\nmatch: 3\nnone: any\n\n3", 412);
        room.ask("PUT /h DAV\nmatch: any\nnone: any\n\n3", 412);
        room.ask("DELETE /g DAV\nmatch: 2\n\n", 412);
        room.ask("DELETE /g DAV\nmatch: 3\n\n", 204);
        room.count(1, 2);
    }

    private static void conditionsComeFirst() {
        Room room = new Room();
        room.ask("PUT / DAV\nnone: any\n\n", 412);
        room.ask("PUT / DAV\nmatch: 1\n\n", 412);
        room.ask("PUT / DAV\nmatch: any\n\n", 405);
        room.ask("PUT /q/f DAV\nmatch: any\n\n", 412);
        room.ask("PUT /q/f DAV\nnone: any\n\n", 409);
        room.ask("DELETE / DAV\nmatch: 1\n\n", 412);
        room.ask("DELETE / DAV\nmatch: any\n\n", 403);
        room.ask("DELETE /q DAV\nmatch: any\n\n", 412);
        room.ask("PUT /f DAV\n\n", 201);
        room.ask("LOCK /f DAV\n\n", 201);
        room.ask("PUT /f DAV\nmatch: 9\n\n", 412);
        room.ask("PUT /f DAV\nmatch: 1\n\n", 423);
        room.ask("PUT /f DAV\nmatch: 1\n\n" + "y".repeat(81), 400);
    }
}
