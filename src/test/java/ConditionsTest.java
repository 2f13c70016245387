/** Promise 4: the CONDITIONS, first of all but BAD. */
public final class ConditionsTest {
    public static void main(String[] args) {
        matchAny();
        matchOfAVersion();
        matchOfCollections();
        noneAny();
        matchAndNone();
        conditionsChangeNothing();
        behindBad();
        beforeAllElse();
        Room.finish();
    }

    /** "/f" of version 2, "/g" of version 3, "/c". */
    private static Room filled() {
        Room room = new Room().with("/f", "/c/");
        room.ask("PUT /f DAV\n\nff", 204);
        return room.with("/g");
    }

    private static void matchAny() {
        Room.about("Promise 4, match: any: there is a resource");
        Room room = filled();
        room.ask("GET /f DAV\nmatch: any\n\n", 200, "ff");
        room.ask("GET /c DAV\nmatch: any\n\n", 200);
        room.ask("GET / DAV\nmatch: any\n\n", 200);
        room.ask("GET /q DAV\nmatch: any\n\n", 412, "");
        room.ask("GET /f/q DAV\nmatch: any\n\n", 412, "");
        room.ask("PUT /f DAV\nmatch: any\n\n", 204);
        room.refuses("PUT /q DAV\nmatch: any\n\n", 412);
        room.refuses("DELETE /q DAV\nmatch: any\n\n", 412);
        room.ask("DELETE /c DAV\nmatch: any\n\n", 204);
    }

    private static void matchOfAVersion() {
        Room.about("Promise 4, match: a NUMBER: it is a FILE of that VERSION");
        Room room = filled();
        room.ask("GET /f DAV\nmatch: 2\n\n", 200, "ff");
        room.ask("GET /f DAV\nmatch: 1\n\n", 412, "");
        room.ask("GET /f DAV\nmatch: 3\n\n", 412, "");
        room.ask("GET /f DAV\nmatch: 0\n\n", 412, "");
        room.ask("GET /f DAV\nmatch: 999999999\n\n", 412, "");
        room.ask("GET /q DAV\nmatch: 2\n\n", 412, "");
        room.refuses("PUT /f DAV\nmatch: 1\n\nnew", 412);
        room.ask("PUT /f DAV\nmatch: 2\n\nnew", 204);
        room.refuses("PUT /f DAV\nmatch: 2\n\nnewer", 412);
        room.refuses("DELETE /f DAV\nmatch: 2\n\n", 412);
        room.ask("DELETE /f DAV\nmatch: 4\n\n", 204);
    }

    private static void matchOfCollections() {
        Room.about("Promise 4, match: a NUMBER, of a COLLECTION");
        Room room = filled();
        for (String path : new String[] {"/", "/c"}) {
            room.ask("GET " + path + " DAV\nmatch: 0\n\n", 412, "");
            room.ask("GET " + path + " DAV\nmatch: 1\n\n", 412, "");
            room.refuses("DELETE " + path + " DAV\nmatch: 0\n\n", 412);
        }
    }

    private static void noneAny() {
        Room.about("Promise 4, none: any: there is no resource");
        Room room = filled();
        room.refuses("PUT /f DAV\nnone: any\n\n", 412);
        room.refuses("PUT /c DAV\nnone: any\n\n", 412);
        room.refuses("PUT / DAV\nnone: any\n\n", 412);
        room.ask("PUT /n DAV\nnone: any\n\n", 201);
        room.refuses("PUT /n DAV\nnone: any\n\n", 412);
    }

    private static void matchAndNone() {
        Room.about("Promise 4, with match and none both");
        for (String both : new String[] {"match: any\nnone: any\n", "none: any\nmatch: any\n", "match: 2\nnone: any\n", "none: any\nmatch: 2\n"}) {
            Room room = filled();
            room.refuses("PUT /f DAV\n" + both + "\n", 412);
            room.refuses("PUT /q DAV\n" + both + "\n", 412);
        }
    }

    private static void conditionsChangeNothing() {
        Room.about("Promise 4, 412 gives no VERSION");
        Room room = filled();
        room.ask("PUT /f DAV\nmatch: 9\n\n", 412);
        room.ask("PUT /f DAV\nnone: any\n\n", 412);
        room.ask("PUT /q DAV\nmatch: any\n\n", 412);
        room.with("/n");
        room.look("/n", 1, 4);
    }

    private static void behindBad() {
        Room.about("Promise 4, CONDITIONS behind BAD");
        Room room = filled();
        room.ask("GET /q DAV\nmatch: any\n\nbody", 400);
        room.ask("GET /q DAV\nmatch: any\ntoken: 1\n\n", 400);
        room.ask("PUT /f DAV\nnone: any\n\n" + "y".repeat(81), 400);
        room.ask("PUT /f DAV\nnone: any\nfor: 1\n\n", 400);
        room.ask("DELETE /f DAV\nmatch: 9\nmatch: 9\n\n", 400);
        room.ask("DELETE /f DAV\nmatch: 9\nnone: any\n\n", 400);
    }

    private static void beforeAllElse() {
        Room.about("Promise 4, CONDITIONS first of all but BAD");
        Room room = filled();
        room.ask("GET /q DAV\nmatch: 1\n\n", 412);
        room.ask("GET /q DAV\n\n", 404);
        room.ask("PUT /c DAV\nnone: any\n\n", 412);
        room.ask("PUT /c DAV\nmatch: 1\n\n", 412);
        room.ask("PUT /c DAV\nmatch: any\n\n", 405);
        room.ask("PUT /q/f DAV\nmatch: any\n\n", 412);
        room.ask("PUT /q/f DAV\nnone: any\n\n", 409);
        room.ask("DELETE / DAV\nmatch: 1\n\n", 412);
        room.ask("DELETE / DAV\nmatch: any\n\n", 403);
        room.ask("DELETE /q DAV\nmatch: any\n\n", 412);
        room.ask("DELETE /q DAV\n\n", 404);
        room.ask("LOCK / DAV\n\n", 201);
        room.ask("PUT /f DAV\nmatch: 9\n\n", 412);
        room.ask("PUT /f DAV\nmatch: 2\n\n", 423);
        room.ask("PUT /n DAV\nmatch: any\n\n", 412);
        room.ask("PUT /n DAV\nnone: any\n\n", 423);
        room.ask("DELETE /f DAV\nmatch: 9\n\n", 412);
        room.ask("DELETE /f DAV\nmatch: 2\n\n", 423);
        Room full = new Room();
        for (int k = 0; k < 40; k++) {
            full.with("/f" + k);
        }
        full.ask("PUT /n DAV\nmatch: any\n\n", 412);
        full.ask("PUT /n DAV\nnone: any\n\n", 507);
    }
}
