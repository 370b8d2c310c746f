import java.util.ArrayList;
import java.util.Arrays;
import java.util.HashMap;
import java.util.HashSet;
import java.util.List;
import java.util.Map;
import java.util.Set;
import java.util.TreeSet;

/** The FAULT of a text, found by tables: what may stand at each place of a line, and all faults of one place at once. */
final class PlainFaults {
    private static final Map<String, String> LINES = new HashMap<>();
    private static final Map<String, Integer> ROOM = new HashMap<>();

    static {
        LINES.put("dream", "rates RATES fall 0-60 morning 1-600");
        LINES.put("head", "NEW:head");
        LINES.put("sleeper", "NEW:sleeper KIND deaf 1-9999 dread 0-999 chance 0-100");
        LINES.put("down", "USE:sleeper USE:head after 0-999");
        LINES.put("up", "USE:sleeper after 0-999");
        LINES.put("knock", "USE:head floor 0-LAST at 0-MORNING strong 1-99");
        LINES.put("task", "NEW:task floor 0-FLOORS minutes 1-999 risk 0-99");
        LINES.put("pays", "PAYS");
        LINES.put("thinks", "THINKER 0-4");
        LINES.put("felt", "1-99 1-9999");
        LINES.put("came", "1-9999 0-9999");
        LINES.put("did", "1-9999 floor 1-FLOORS awake 1-999");
        ROOM.put("head", 3);
        ROOM.put("sleeper", 5);
        ROOM.put("step", 20);
        ROOM.put("knock", 8);
        ROOM.put("task", 6);
        ROOM.put("sign", 6);
        ROOM.put("did", 6);
    }

    private final List<String> tokens = new ArrayList<>();
    private final List<Integer> places = new ArrayList<>();
    private final Map<String, String> names = new HashMap<>();
    private final Map<String, Integer> counts = new HashMap<>();
    private final Set<String> thinkers = new HashSet<>();
    private int at;
    private int floors;
    private int morning;
    private int lastWhole;
    private int[] found;

    /** {fault, place}; {0, -1} without one. */
    static int[] of(String text) {
        PlainFaults it = new PlainFaults();
        it.cut(text);
        it.lines();
        return it.found == null ? new int[] {0, -1} : it.found;
    }

    /** Tokens; "?" is none, "$" is the end. */
    private void cut(String text) {
        int i = 0;
        while (i < text.length()) {
            char c = text.charAt(i);
            int j = i + 1;
            String token = String.valueOf(c);
            if (c >= 'a' && c <= 'z') {
                while (j < text.length() && text.charAt(j) >= 'a' && text.charAt(j) <= 'z') {
                    j++;
                }
                token = j - i > 8 ? "?" : text.substring(i, j);
            } else if (c >= '0' && c <= '9') {
                while (j < text.length() && text.charAt(j) >= '0' && text.charAt(j) <= '9') {
                    j++;
                }
                token = j - i > 4 ? "?" : text.substring(i, j);
            } else if (c != ' ' && c != ';' && c != ',') {
                token = "?";
            }
            if (c != ' ') {
                tokens.add(token);
                places.add(i);
            }
            i = j;
        }
        tokens.add("$");
        places.add(text.length());
    }

    private String now() {
        return tokens.get(at);
    }

    /** Notes the least of these faults, if there is one. */
    private boolean bad(Integer... faults) {
        TreeSet<Integer> all = new TreeSet<>(Arrays.asList(faults));
        all.remove(0);
        if (!all.isEmpty() && found == null) {
            found = new int[] {all.first(), places.get(at)};
        }
        return found != null;
    }

    private void lines() {
        while (true) {
            String word = now();
            if (bad(LINES.containsKey(word) ? 0 : 1)) {
                return;
            }
            String sort = word.equals("down") || word.equals("up") ? "step"
                : word.equals("felt") || word.equals("came") ? "sign" : word;
            int count = counts.merge(sort, 1, Integer::sum);
            boolean once = word.equals("dream") || word.equals("pays");
            boolean many = ROOM.containsKey(sort) && count > ROOM.get(sort);
            boolean early = floors == 0 && !word.equals("dream");
            if (bad(once && count > 1 ? 3 : 0, many ? 5 : 0, early ? 6 : 0)) {
                return;
            }
            at++;
            for (String item : LINES.get(word).split(" ")) {
                if (item(item)) {
                    return;
                }
            }
            if (word.equals("dream")) {
                morning = lastWhole;
            }
            if (now().equals("$")) {
                bad(counts.containsKey("head") && counts.containsKey("sleeper") ? 0 : 6);
                return;
            }
            if (bad(now().equals(";") ? 0 : 1)) {
                return;
            }
            at++;
        }
    }

    private boolean item(String item) {
        if (item.equals("RATES")) {
            return list(2, 12, 4);
        }
        if (item.equals("PAYS")) {
            int before = at;
            if (list(0, 999, floors)) {
                return true;
            }
            boolean over = now().equals(";") || now().equals("$");
            return over && bad((at - before + 1) / 2 < floors ? 6 : 0);
        }
        if (item.contains("-")) {
            String[] bounds = item.split("-");
            int most = bounds[1].equals("LAST") ? floors - 1 : bounds[1].equals("FLOORS") ? floors
                : bounds[1].equals("MORNING") ? morning : Integer.parseInt(bounds[1]);
            return whole(Integer.parseInt(bounds[0]), most, false);
        }
        boolean isName = now().matches("[a-z]+") && !LINES.containsKey(now());
        if (item.startsWith("NEW:")) {
            if (bad(isName ? 0 : 1, names.containsKey(now()) ? 3 : 0)) {
                return true;
            }
            names.put(now(), item.substring(4));
        } else if (item.startsWith("USE:")) {
            if (bad(isName ? 0 : 1, item.substring(4).equals(names.get(now())) ? 0 : 2)) {
                return true;
            }
        } else if (item.equals("THINKER")) {
            boolean again = !thinkers.add(now());
            if (bad(isName ? 0 : 1, "sleeper".equals(names.get(now())) ? 0 : 2, again ? 3 : 0)) {
                return true;
            }
        } else if (item.equals("KIND")) {
            if (bad(now().matches("plain|light|heavy|fond") ? 0 : 1)) {
                return true;
            }
        } else if (bad(now().equals(item) ? 0 : 1)) {
            return true;
        }
        at++;
        return false;
    }

    private boolean list(int least, int most, int room) {
        int count = 0;
        while (true) {
            count++;
            if (whole(least, most, count > room)) {
                return true;
            }
            if (least == 2) {
                floors++;
            }
            if (!now().equals(",")) {
                return false;
            }
            at++;
        }
    }

    private boolean whole(int least, int most, boolean tooMany) {
        if (bad(now().matches("[0-9]+") ? 0 : 1)) {
            return true;
        }
        lastWhole = Integer.parseInt(now());
        if (bad(lastWhole < least || lastWhole > most ? 4 : 0, tooMany ? 5 : 0)) {
            return true;
        }
        at++;
        return false;
    }
}
