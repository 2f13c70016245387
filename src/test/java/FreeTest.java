import java.util.List;

/** Promise 4: which resources each change needs to be FREE: each one locked alone, and each one with all in it. */
public final class FreeTest {
    private static final String[] ALL = {"/", "/c", "/c/d", "/c/d/f", "/c/e", "/x", "/x/g", "/y", "/c-"};

    public static void main(String[] args) {
        needs("PUT /c/n DAV\n", 201, "/c");
        needs("PUT /c/d/n DAV\n", 201, "/c/d");
        needs("PUT /n DAV\n", 201, "/");
        needs("PUT /c/e DAV\n", 204, "/c/e");
        needs("PUT /y DAV\n", 204, "/y");
        needs("MKCOL /c/n DAV\n", 201, "/c");
        needs("MKCOL /n DAV\n", 201, "/");
        needs("DELETE /y DAV\n", 204, "/y", "/");
        needs("DELETE /c DAV\n", 204, "/c", "/c/d", "/c/d/f", "/c/e", "/");
        needs("DELETE /c/d DAV\n", 204, "/c/d", "/c/d/f", "/c");
        needs("DELETE /c/d/f DAV\n", 204, "/c/d/f", "/c/d");
        needs("COPY /y DAV\nto: /n\n", 201, "/");
        needs("COPY /c DAV\nto: /n\n", 201, "/");
        needs("COPY /c DAV\nto: /x/n\n", 201, "/x");
        needs("COPY /y DAV\nto: /c/n\n", 201, "/c");
        needs("COPY /y DAV\nto: /c\n", 204, "/c", "/c/d", "/c/d/f", "/c/e");
        needs("COPY /y DAV\nto: /c/d\n", 204, "/c/d", "/c/d/f");
        needs("COPY /y DAV\nto: /c/e\n", 204, "/c/e");
        needs("COPY /c DAV\nto: /x\n", 204, "/x", "/x/g");
        needs("COPY /c DAV\nto: /x\ndepth: 0\n", 204, "/x", "/x/g");
        needs("MOVE /y DAV\nto: /n\n", 201, "/y", "/");
        needs("MOVE /y DAV\nto: /x/n\n", 201, "/x", "/y", "/");
        needs("MOVE /y DAV\nto: /x\n", 204, "/x", "/x/g", "/y", "/");
        needs("MOVE /c/d DAV\nto: /n\n", 201, "/", "/c/d", "/c/d/f", "/c");
        needs("MOVE /c/d DAV\nto: /x/n\n", 201, "/x", "/c/d", "/c/d/f", "/c");
        needs("MOVE /c/d DAV\nto: /x/g\n", 204, "/x/g", "/c/d", "/c/d/f", "/c");
        needs("MOVE /c/d DAV\nto: /c/e\n", 204, "/c/e", "/c/d", "/c/d/f", "/c");
        needs("MOVE /c/d DAV\nto: /c/n\n", 201, "/c/d", "/c/d/f", "/c");
        nothing("GET /c/d/f DAV\n", 200);
        nothing("GET /c DAV\n", 200);
        nothing("LIST / DAV\ndepth: all\n", 207);
        Room.finish();
    }

    private static Room filled() {
        Room room = new Room().with("/c/", "/c/d/", "/x/", "/c/d/f", "/c/e", "/x/g", "/y");
        return room.with("/c-");
    }

    private static void lock(Room room, String path, boolean deep, String sort) {
        room.ask("LOCK " + path + " DAV\ndepth: " + (deep ? "all" : "0") + "\nsort: " + sort + "\n\n", 201);
    }

    private static boolean isAtOrIn(String path, String top) {
        return path.equals(top) || path.startsWith(top.equals("/") ? "/" : top + "/");
    }

    private static void needs(String text, int fine, String... needed) {
        List<String> each = List.of(needed);
        for (String path : ALL) {
            Room.about("FREE for " + Room.shown(text) + ", a lock on " + path + " alone");
            held(text, path, false, each.contains(path) ? 423 : fine, fine);
            Room.about("FREE for " + Room.shown(text) + ", a lock on " + path + " and all in it");
            held(text, path, true, each.stream().anyMatch(one -> isAtOrIn(one, path)) ? 423 : fine, fine);
        }
    }

    private static void held(String text, String path, boolean deep, int without, int fine) {
        Room room = filled();
        lock(room, path, deep, "one");
        if (without == 423) {
            room.refuses(text + "\n", 423);
            room.ask(text + "token: 2\n\n", 423);
            room.ask(text + "token: 0\n\n", 423);
        } else {
            room.ask(text + "\n", without);
        }
        if (without == 423) {
            room.ask(text + "token: 1\n\n", fine);
        }
        ofTwo(text, path, deep, without, fine);
    }

    /** Two locks cover the same: the token of one of them is enough, that of a third is not. */
    private static void ofTwo(String text, String path, boolean deep, int without, int fine) {
        for (int token = 1; token <= 3; token++) {
            Room room = filled();
            lock(room, path, deep, "many");
            lock(room, path, deep, "many");
            room.ask(text + "token: " + token + "\n\n", token == 3 ? without : fine);
        }
    }

    private static void nothing(String text, int fine) {
        Room.about("nothing must be FREE for " + Room.shown(text));
        Room room = filled();
        lock(room, "/", true, "one");
        room.ask(text + "\n", fine);
    }
}
