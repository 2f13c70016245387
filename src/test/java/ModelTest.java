import java.util.List;
import java.util.Map;
import java.util.TreeMap;

/** Long runs of made-up calls, each answer and the state behind it held against the Model's. */
public final class ModelTest {
    private static final int RUNS = 6000;

    /** The dearest step, with a LIST of 400 bytes, and the dearest look behind the run. */
    private static final int CALLS_OF_A_STEP = 60, CALLS_BEHIND = 110, CALLS_OF_A_LOOK = 6;

    /** So many bytes of a longer OUT are held against the Model's. */
    private static final int MOST_OCTETS = 20;
    private static final String[] VERBS = {"GET", "PUT", "PUT", "PUT", "MKCOL", "MKCOL", "DELETE", "COPY", "COPY", "MOVE", "LOCK", "LOCK", "UNLOCK", "LIST"};
    private static final String[] SEGMENTS = {"a", "a-", "a.", "ab", "b", "b0", "-", "a..", "longname"};
    private static final String[] HEADERS = {"depth: 0\n", "depth: 1\n", "depth: all\n", "over: no\n", "over: yes\n",
        "match: any\n", "none: any\n", "for: 5\n", "for: 0007\n", "for: 1000\n", "sort: one\n", "sort: many\n"};
    private static final String[] USES = {"GET match", "PUT match none token", "DELETE match token", "MKCOL token",
        "COPY to over depth token", "MOVE to over token", "LOCK depth for sort token", "UNLOCK token", "LIST depth"};

    private static final Map<Integer, Integer> seen = new TreeMap<>();

    private long state;
    private final int breadth;
    private final boolean grows;
    private final boolean shares;
    private final Room room = new Room();
    private final Model model = new Model();

    private ModelTest(int seed) {
        state = seed * 7919L + 17;
        grows = seed % 3 == 0;
        shares = seed % 3 == 1;
        breadth = 2 + seed % (SEGMENTS.length - 1);
    }

    public static void main(String[] args) {
        for (int seed = 1; seed <= RUNS; seed++) {
            new ModelTest(seed).run();
        }
        System.out.println("statuses: " + seen);
        for (int status : new int[] {200, 201, 204, 207, 400, 403, 404, 405, 409, 412, 423, 507}) {
            Room.due("status " + status + " was met", seen.getOrDefault(status, 0) >= 20 ? 1 : 0, 1);
        }
        Room.finish();
    }

    private int pick(int below) {
        state = state * 6364136223846793005L + 1442695040888963407L;
        return (int) ((state >>> 33) % below);
    }

    /** Most of the 40 places, and of the 10 locks, are taken at once: a run is too short to come there step by step. */
    private void fill() {
        check("MKCOL /a DAV\n\n");
        for (int k = pick(3); k < 8; k++) {
            check("PUT /a/f" + k + " DAV\n\nxyz");
        }
        for (String to : new String[] {"/a-", "/b", "/a/b"}) {
            check("COPY /a DAV\nto: " + to + "\n\n");
            check("COPY /a DAV\nto: " + to + "/0\n\n");
        }
        for (int k = pick(20); k < 10; k++) {
            check("LOCK " + path(false) + " DAV\nsort: many\ndepth: 0\n\n");
        }
    }

    private void run() {
        if (grows) {
            fill();
        }
        while (room.callsLeft() > CALLS_OF_A_STEP + CALLS_BEHIND) {
            step();
        }
        for (int k = 0; k < 11; k++) {
            for (int what = 0; what < 5; what++) {
                room.lock(k, what, model.lock(k, what));
            }
        }
        List<String> paths = model.paths();
        while (room.callsLeft() > CALLS_OF_A_LOOK) {
            String path = paths.get(pick(paths.size()));
            int what = pick(4);
            room.look(path, what, model.look(path, what));
        }
    }

    private void step() {
        int kind = pick(grows ? 80 : 40);
        if (kind == 0) {
            room.keep(model.keep());
        } else if (kind == 1 && pick(3) == 0) {
            room.crash(model.crash());
        } else if (kind == 2) {
            int n = pick(4) == 0 ? pick(1004) - 2 : pick(6);
            room.tick(n, model.tick(n));
        } else if (kind == 3) {
            String path = path(false);
            int what = pick(4);
            room.look(path, what, model.look(path, what));
        } else {
            request();
        }
        int what = pick(5);
        room.count(what, model.count(what));
        room.octet(-1, model.out.length());
    }

    private void request() {
        String verb = verb();
        boolean makes = verb.equals("PUT") || verb.equals("MKCOL");
        StringBuilder text = new StringBuilder(verb).append(' ').append(path(makes)).append(" DAV\n");
        if ((verb.equals("COPY") || verb.equals("MOVE")) && pick(50) > 0) {
            text.append("to: ").append(path(true)).append('\n');
        }
        if (verb.equals("UNLOCK") && pick(30) > 0 || uses(verb, "token") && !model.tokens().isEmpty() && pick(verb.equals("LOCK") ? 4 : 2) == 0) {
            text.append(token());
        }
        if (verb.equals("LOCK") && shares && pick(8) > 0) {
            text.append("sort: many\n");
        }
        for (int k = pick(3); k > 0; k--) {
            String header = pick(9) == 0 ? "match: " + pick(model.version() + 2) + "\n" : HEADERS[pick(HEADERS.length)];
            if (uses(verb, header.substring(0, header.indexOf(':'))) || pick(60) == 0) {
                text.append(header);
            }
        }
        text.append('\n');
        if (verb.equals("PUT")) {
            text.append("x\n\u00ff".repeat(pick(29)));
        }
        check(pick(40) == 0 ? spoilt(text) : text.toString());
    }

    private String verb() {
        String verb = VERBS[pick(VERBS.length)];
        boolean lessens = verb.equals("DELETE") || verb.equals("MOVE") || verb.equals("LOCK");
        return grows && lessens && pick(12) > 0 ? "PUT" : verb;
    }

    private void check(String text) {
        int want = model.request(text);
        seen.merge(want, 1, Integer::sum);
        room.ask(text, want);
        room.octet(-1, model.out.length());
        int first = model.out.length() <= MOST_OCTETS ? 0 : pick(model.out.length() - MOST_OCTETS + 1);
        for (int k = first; k < model.out.length() && k < first + MOST_OCTETS; k++) {
            room.octet(k, model.out.charAt(k));
        }
    }

    private String spoilt(StringBuilder text) {
        int at = pick(text.length());
        if (pick(2) == 0) {
            return text.deleteCharAt(at).toString();
        }
        text.setCharAt(at, " \n/:.a0A\u0000\u00ff".charAt(pick(10)));
        return text.toString();
    }

    private static boolean uses(String verb, String header) {
        for (String row : USES) {
            if (row.startsWith(verb + " ")) {
                return row.contains(" " + header);
            }
        }
        return false;
    }

    private String token() {
        List<Integer> tokens = model.tokens();
        int token = tokens.isEmpty() || pick(6) == 0 ? pick(9) : tokens.get(pick(tokens.size()));
        return "token: " + (pick(9) == 0 ? "000" : "") + token + "\n";
    }

    /** Mostly one that is there, or one directly in one that is there. */
    private String path(boolean fresh) {
        List<String> paths = model.paths();
        String path = pick(12) == 0 ? "/" : paths.get(pick(paths.size()));
        for (int k = 0; k < 6 && fresh && model.look(path, 0) == 1; k++) {
            path = paths.get(pick(paths.size()));
        }
        int more = pick(8) < (fresh ? 7 : 1) ? 1 : pick(2) * pick(2) * pick(2);
        for (int k = 0; k < more; k++) {
            path = (path.equals("/") ? "" : path) + "/" + SEGMENTS[pick(breadth)];
        }
        return path;
    }
}
