import java.util.ArrayList;
import java.util.HashMap;
import java.util.List;
import java.util.Map;
import java.util.TreeMap;
import java.util.regex.Matcher;
import java.util.regex.Pattern;

/** The document's words once more, with the Java library, to hold DavRoom against. */
final class Model {
    private static final String SEGMENT = "/(?!\\.+(?:/|$))[a-z0-9.-]{1,8}";
    private static final Pattern PATH = Pattern.compile("/|(?:" + SEGMENT + "){1,5}");
    private static final Pattern FORM = Pattern.compile("([A-Z]+) ([^ \n]+) DAV\n((?:[^\n]+\n)*)\n(.*)", Pattern.DOTALL);
    private static final Map<String, String> VALUES = Map.of(
            "depth", "0|1|all", "over", "yes|no", "match", "[0-9]{1,9}|any", "none", "any",
            "token", "[0-9]{1,9}", "for", "[0-9]{1,9}", "sort", "one|many");
    private static final Map<String, List<String>> USES = Map.of(
            "GET", List.of("match"), "PUT", List.of("match", "none", "token"), "DELETE", List.of("match", "token"),
            "MKCOL", List.of("token"), "COPY", List.of("to", "over", "depth", "token"),
            "MOVE", List.of("to", "over", "token"), "LOCK", List.of("depth", "for", "sort", "token"),
            "UNLOCK", List.of("token"), "LIST", List.of("depth"));

    /** A collection has no body. */
    record Entry(String body, int version) { }

    record Hold(int token, String path, int until, boolean deep, boolean alone) {
        boolean covers(String other) {
            return other.equals(path) || deep && in(other, path);
        }
    }

    private TreeMap<String, Entry> entries = new TreeMap<>(Map.of("/", new Entry(null, 0)));
    private TreeMap<Integer, Hold> holds = new TreeMap<>();
    private TreeMap<String, Entry> keptEntries = new TreeMap<>(entries);
    private TreeMap<Integer, Hold> keptHolds = new TreeMap<>();
    private int clock;
    private int version;
    private int token;
    String out = "";

    private String verb;
    private String path;
    private String body;
    private Map<String, String> headers;

    static boolean in(String inner, String outer) {
        return !inner.equals(outer) && inner.startsWith(outer.equals("/") ? "/" : outer + "/");
    }

    private static String home(String path) {
        int cut = path.lastIndexOf('/');
        return cut <= 0 ? "/" : path.substring(0, cut);
    }

    private List<String> within(String top) {
        List<String> found = new ArrayList<>();
        for (String one : entries.keySet()) {
            if (one.equals(top) || in(one, top)) {
                found.add(one);
            }
        }
        return found;
    }

    private boolean isCollection(String at) {
        return entries.containsKey(at) && entries.get(at).body() == null;
    }

    private boolean free(String at) {
        List<Hold> covering = holds.values().stream().filter(one -> one.covers(at)).toList();
        return covering.isEmpty() || headers.containsKey("token")
                && covering.stream().anyMatch(one -> one.token() == number("token"));
    }

    private boolean allFree(String top) {
        return within(top).stream().allMatch(this::free);
    }

    private int number(String header) {
        return Integer.parseInt(headers.get(header));
    }

    private void leave(String top) {
        entries.keySet().removeAll(within(top));
        holds.values().removeIf(one -> one.path().equals(top) || in(one.path(), top));
    }

    int request(String tape) {
        out = "";
        if (!parse(tape)) {
            return 400;
        }
        Entry it = entries.get(path);
        if (headers.containsKey("none") && it != null) {
            return 412;
        }
        String match = headers.get("match");
        if (match != null && (it == null || !match.equals("any")
                && (it.body() == null || it.version() != Integer.parseInt(match)))) {
            return 412;
        }
        if (verb.equals("PUT")) {
            return put(it);
        }
        if (verb.equals("MKCOL")) {
            return it != null ? 405 : make(null);
        }
        if (it == null) {
            return 404;
        }
        return switch (verb) {
            case "GET" -> get(it);
            case "DELETE" -> delete();
            case "COPY", "MOVE" -> transfer(verb.equals("MOVE"));
            case "LOCK" -> hold();
            case "UNLOCK" -> unhold();
            default -> list();
        };
    }

    private boolean parse(String tape) {
        Matcher form = FORM.matcher(tape);
        if (!form.matches()) {
            return false;
        }
        verb = form.group(1);
        path = form.group(2);
        body = form.group(4);
        headers = new HashMap<>();
        if (!USES.containsKey(verb) || !PATH.matcher(path).matches()) {
            return false;
        }
        for (String line : form.group(3).split("\n")) {
            if (!line.isEmpty() && !parseHeader(line)) {
                return false;
            }
        }
        String depth = headers.get("depth");
        if ("1".equals(depth) && !verb.equals("LIST")) {
            return false;
        }
        if ((verb.equals("COPY") || verb.equals("MOVE")) && !headers.containsKey("to")
                || verb.equals("UNLOCK") && !headers.containsKey("token")) {
            return false;
        }
        return body.length() <= (verb.equals("PUT") ? 80 : 0);
    }

    private boolean parseHeader(String line) {
        int colon = line.indexOf(": ");
        if (colon < 0) {
            return false;
        }
        String name = line.substring(0, colon);
        String value = line.substring(colon + 2);
        if (!USES.get(verb).contains(name) || headers.put(name, value) != null) {
            return false;
        }
        if (name.equals("to")) {
            return PATH.matcher(value).matches();
        }
        if (!value.matches(VALUES.get(name))) {
            return false;
        }
        return !name.equals("for") || number("for") >= 1 && number("for") <= 1000;
    }

    private int get(Entry it) {
        if (it.body() != null) {
            out = it.body();
            return 200;
        }
        for (String one : within(path)) {
            if (!one.equals(path) && home(one).equals(path)) {
                out += one.substring(one.lastIndexOf('/') + 1) + "\n";
            }
        }
        return 200;
    }

    private int put(Entry it) {
        if (it == null) {
            return make(body);
        }
        if (it.body() == null) {
            return 405;
        }
        if (!free(path)) {
            return 423;
        }
        entries.put(path, new Entry(body, ++version));
        return 204;
    }

    private int make(String content) {
        if (!isCollection(home(path))) {
            return 409;
        }
        if (!free(home(path))) {
            return 423;
        }
        if (entries.size() > 40) {
            return 507;
        }
        entries.put(path, new Entry(content, content == null ? 0 : ++version));
        return 201;
    }

    private int delete() {
        if (path.equals("/")) {
            return 403;
        }
        if (!allFree(path) || !free(home(path))) {
            return 423;
        }
        leave(path);
        return 204;
    }

    private int transfer(boolean moves) {
        String to = headers.get("to");
        if (path.equals("/") || to.equals("/") || to.equals(path) || in(to, path) || in(path, to)) {
            return 403;
        }
        if (!isCollection(home(to))) {
            return 409;
        }
        List<String> coming = "0".equals(headers.get("depth")) ? List.of(path) : within(path);
        TreeMap<String, Entry> arriving = new TreeMap<>();
        for (String one : coming) {
            arriving.put(to + one.substring(path.length()), entries.get(one));
        }
        for (String one : arriving.keySet()) {
            if (one.chars().filter(octet -> octet == '/').count() > 5) {
                return 409;
            }
        }
        boolean isNew = !entries.containsKey(to);
        if (!isNew && "no".equals(headers.get("over"))) {
            return 412;
        }
        if (isNew && !free(home(to)) || !isNew && !allFree(to)) {
            return 423;
        }
        if (moves && (!allFree(path) || !free(home(path)))) {
            return 423;
        }
        if (!moves && entries.size() - 1 - within(to).size() + coming.size() > 40) {
            return 507;
        }
        leave(to);
        if (moves) {
            leave(path);
        } else {
            arriving.replaceAll((at, one) -> new Entry(one.body(), one.body() == null ? 0 : ++version));
        }
        entries.putAll(arriving);
        return isNew ? 201 : 204;
    }

    private Hold held() {
        Hold found = holds.get(number("token"));
        return found != null && found.covers(path) ? found : null;
    }

    private int hold() {
        int until = clock + (headers.containsKey("for") ? number("for") : 100);
        if (headers.containsKey("token")) {
            Hold old = held();
            if (old == null) {
                return 412;
            }
            holds.put(old.token(), new Hold(old.token(), old.path(), until, old.deep(), old.alone()));
            out = old.token() + "\n";
            return 200;
        }
        Hold fresh = new Hold(token + 1, path, until, !"0".equals(headers.get("depth")), !"many".equals(headers.get("sort")));
        for (Hold one : holds.values()) {
            boolean together = entries.keySet().stream().anyMatch(at -> one.covers(at) && fresh.covers(at));
            if (together && (one.alone() || fresh.alone())) {
                return 423;
            }
        }
        if (holds.size() == 10) {
            return 507;
        }
        token++;
        holds.put(token, fresh);
        out = token + "\n";
        return 201;
    }

    private int unhold() {
        Hold old = held();
        if (old == null) {
            return 412;
        }
        holds.remove(old.token());
        return 204;
    }

    private int list() {
        String depth = headers.getOrDefault("depth", "1");
        for (String one : within(path)) {
            boolean told = one.equals(path) || depth.equals("all") || depth.equals("1") && home(one).equals(path);
            if (told && out.length() + one.length() + 1 > 400) {
                return 207;
            }
            out += told ? one + "\n" : "";
        }
        return 207;
    }

    int tick(int n) {
        if (n < 0 || n > 1000) {
            return -1;
        }
        clock += n;
        int before = holds.size();
        holds.values().removeIf(one -> one.until() <= clock);
        return before - holds.size();
    }

    int keep() {
        keptEntries = new TreeMap<>(entries);
        keptHolds = new TreeMap<>(holds);
        return entries.size() - 1;
    }

    int crash() {
        entries = new TreeMap<>(keptEntries);
        holds = new TreeMap<>(keptHolds);
        holds.values().removeIf(one -> one.until() <= clock);
        return entries.size() - 1;
    }

    int look(String at, int what) {
        Entry it = entries.get(at);
        if (it == null) {
            return -2;
        }
        return switch (what) {
            case 0 -> it.body() != null ? 1 : 2;
            case 1 -> it.version();
            case 2 -> it.body() != null ? it.body().length() : within(at).size() - 1;
            default -> (int) holds.values().stream().filter(one -> one.covers(at)).count();
        };
    }

    int lock(int k, int what) {
        if (k < 0 || k >= holds.size()) {
            return -2;
        }
        Hold one = new ArrayList<>(holds.values()).get(k);
        return switch (what) {
            case 0 -> one.token();
            case 1 -> one.until();
            case 2 -> one.deep() ? 1 : 0;
            case 3 -> one.alone() ? 1 : 0;
            default -> (int) entries.keySet().stream().filter(one::covers).count();
        };
    }

    int count(int what) {
        return switch (what) {
            case 0 -> clock;
            case 1 -> entries.size() - 1;
            case 2 -> (int) entries.values().stream().filter(one -> one.body() != null).count();
            case 3 -> holds.size();
            default -> entries.values().stream().mapToInt(one -> one.body() == null ? 0 : one.body().length()).sum();
        };
    }

    List<String> paths() {
        return new ArrayList<>(entries.keySet());
    }

    List<Integer> tokens() {
        return new ArrayList<>(holds.keySet());
    }

    int version() {
        return version;
    }
}
