import java.util.ArrayList;
import java.util.Arrays;
import java.util.HashMap;
import java.util.HashSet;
import java.util.LinkedHashMap;
import java.util.LinkedHashSet;
import java.util.List;
import java.util.Map;
import java.util.Set;
import java.util.TreeMap;
import java.util.TreeSet;
import java.util.regex.Matcher;
import java.util.regex.Pattern;

/**
 * The document once more, word by word and without any thrift: each answer is found anew from
 * the definitions, in other ways than those of the class, so that both seldom err alike.
 */
final class Oracle {
    static final int UNKNOWN = -1, OUTSIDE = -2, STATE = -3, FULL = -4, NONE = -9;
    private static final Pattern TEXT = Pattern.compile(
        "(?:[0-5][a-h][0-5]|\\*[0-5]|![a-h])(?: (?:[0-5][a-h][0-5]|\\*[0-5]|![a-h]))*");

    private static final class Device {
        int kind;
        int greatest = 0;
        final Map<String, Integer> steps = new HashMap<>();
        final Set<Integer> alphabet = new TreeSet<>();
        final Set<Integer> marked = new TreeSet<>();

        Integer step(int s, int e) {
            return steps.get(s + "," + e);
        }
    }

    private static final class Loss {
        final int wave, reason, event, cause;

        Loss(int wave, int reason, int event, int cause) {
            this.wave = wave;
            this.reason = reason;
            this.event = event;
            this.cause = cause;
        }
    }

    private final StringBuilder tape = new StringBuilder();
    private final List<Device> devices = new ArrayList<>();
    private final Set<Integer> free = new HashSet<>();
    private final List<Integer> history = new ArrayList<>();
    private List<List<Integer>> joints;
    private List<Map<Integer, Integer>> ways;
    private Map<Integer, Loss> losses;
    private int waves;
    private Set<Integer> controlled;
    private int taken;

    Oracle() {
        begin();
    }

    int type(int code) {
        if (code < 0 || code > 127) {
            return OUTSIDE;
        }
        if (tape.length() == 60) {
            return FULL;
        }
        tape.append((char) code);
        return tape.length();
    }

    int wipe() {
        int n = tape.length();
        tape.setLength(0);
        return n;
    }

    int machine(int kind) {
        if (kind != 0 && kind != 1) {
            return OUTSIDE;
        }
        if (devices.size() == 6) {
            return FULL;
        }
        String text = tape.toString();
        for (int place = 0; place < text.length(); place++) {
            if (!canGoOn(text.substring(0, place + 1))) {
                return -100 - place;
            }
        }
        if (!TEXT.matcher(text).matches()) {
            return -100 - text.length();
        }
        devices.add(device(kind, text));
        tape.setLength(0);
        begin();
        return devices.size() - 1;
    }

    private static boolean canGoOn(String head) {
        Matcher matcher = TEXT.matcher(head);
        if (!matcher.matches() && !matcher.hitEnd()) {
            return false;
        }
        Map<String, String> told = new HashMap<>();
        for (String item : head.split(" ")) {
            if (item.length() == 3) {
                String before = told.put(item.substring(0, 2), item.substring(2));
                if (before != null && !before.equals(item.substring(2))) {
                    return false;
                }
            }
        }
        return true;
    }

    private static Device device(int kind, String text) {
        Device d = new Device();
        d.kind = kind;
        for (String item : text.split(" ")) {
            if (item.charAt(0) == '*') {
                d.marked.add(item.charAt(1) - '0');
            } else if (item.charAt(0) == '!') {
                d.alphabet.add(item.charAt(1) - 'a');
            } else {
                d.alphabet.add(item.charAt(1) - 'a');
                d.steps.put((item.charAt(0) - '0') + "," + (item.charAt(1) - 'a'), item.charAt(2) - '0');
            }
            for (char c : item.toCharArray()) {
                if (c >= '0' && c <= '5') {
                    d.greatest = Math.max(d.greatest, c - '0');
                }
            }
        }
        return d;
    }

    int drop() {
        if (devices.isEmpty()) {
            return STATE;
        }
        devices.remove(devices.size() - 1);
        begin();
        return devices.size();
    }

    int free(int e, int v) {
        if (e < 0 || e > 7) {
            return UNKNOWN;
        }
        if (v < 0 || v > 1) {
            return OUTSIDE;
        }
        boolean was = v == 1 ? !free.add(e) : free.remove(e);
        begin();
        return was ? 1 : 0;
    }

    int anew() {
        int n = devices.size();
        devices.clear();
        free.clear();
        begin();
        return n;
    }

    int ofMachine(int m, int what) {
        if (m < 0 || m >= devices.size()) {
            return UNKNOWN;
        }
        Device d = devices.get(m);
        return what == 0 ? d.kind : what == 1 ? bits(d.alphabet) : what == 2 ? bits(d.marked)
            : what == 3 ? d.steps.size() : what == 4 ? d.greatest : OUTSIDE;
    }

    int step(int m, int s, int e) {
        if (m < 0 || m >= devices.size() || s < 0 || s > 5 || e < 0 || e > 7) {
            return UNKNOWN;
        }
        Integer to = devices.get(m).step(s, e);
        return to == null ? NONE : to;
    }

    private static int bits(Iterable<Integer> set) {
        int bits = 0;
        for (int k : set) {
            bits |= 1 << k;
        }
        return bits;
    }

    private static List<Integer> led(List<Device> all, List<Integer> from, int e) {
        boolean had = false;
        List<Integer> to = new ArrayList<>(from);
        for (int m = 0; m < all.size(); m++) {
            if (all.get(m).alphabet.contains(e)) {
                had = true;
                Integer s = all.get(m).step(from.get(m), e);
                if (s == null) {
                    return null;
                }
                to.set(m, s);
            }
        }
        return had ? to : null;
    }

    /** null: there would be more than 150. */
    private static List<List<Integer>> meet(List<Device> all) {
        List<List<Integer>> met = new ArrayList<>();
        Integer[] zeros = new Integer[all.size()];
        Arrays.fill(zeros, 0);
        met.add(Arrays.asList(zeros));
        Set<List<Integer>> known = new HashSet<>(met);
        for (int n = 0; n < met.size(); n++) {
            for (int e = 0; e < 8; e++) {
                List<Integer> to = led(all, met.get(n), e);
                if (to != null && known.add(to)) {
                    met.add(to);
                }
            }
            if (met.size() > 150) {
                return null;
            }
        }
        return met;
    }

    private static List<Map<Integer, Integer>> waysAmong(List<Device> all, List<List<Integer>> met) {
        Map<List<Integer>, Integer> numbers = new LinkedHashMap<>();
        for (List<Integer> one : met) {
            numbers.put(one, numbers.size());
        }
        List<Map<Integer, Integer>> result = new ArrayList<>();
        for (List<Integer> one : met) {
            Map<Integer, Integer> out = new TreeMap<>();
            for (int e = 0; e < 8; e++) {
                List<Integer> to = led(all, one, e);
                if (to != null) {
                    out.put(e, numbers.get(to));
                }
            }
            result.add(out);
        }
        return result;
    }

    private static boolean finished(List<Device> all, List<Integer> one) {
        for (int m = 0; m < all.size(); m++) {
            if (!all.get(m).marked.contains(one.get(m))) {
                return false;
            }
        }
        return true;
    }

    private static Set<Integer> reach(List<Map<Integer, Integer>> ways, int from, Set<Integer> shut) {
        Set<Integer> seen = new LinkedHashSet<>();
        if (shut.contains(from)) {
            return seen;
        }
        List<Integer> todo = new ArrayList<>(List.of(from));
        while (!todo.isEmpty()) {
            int n = todo.remove(todo.size() - 1);
            if (seen.add(n)) {
                for (int to : ways.get(n).values()) {
                    if (!shut.contains(to)) {
                        todo.add(to);
                    }
                }
            }
        }
        return seen;
    }

    private Set<Integer> clashes(int n) {
        Set<Integer> set = new TreeSet<>();
        for (int e : free) {
            boolean plantHas = false, plantsCan = true, ruleStops = false;
            for (int m = 0; m < devices.size(); m++) {
                Device d = devices.get(m);
                if (d.alphabet.contains(e)) {
                    boolean can = d.step(joints.get(n).get(m), e) != null;
                    plantHas |= d.kind == 0;
                    plantsCan &= can || d.kind == 1;
                    ruleStops |= d.kind == 1 && !can;
                }
            }
            if (plantHas && plantsCan && ruleStops) {
                set.add(e);
            }
        }
        return set;
    }

    private void begin() {
        history.clear();
        taken = 0;
        joints = meet(devices);
        losses = new HashMap<>();
        controlled = new HashSet<>();
        waves = 0;
        if (joints == null) {
            joints = new ArrayList<>();
            ways = new ArrayList<>();
            return;
        }
        ways = waysAmong(devices, joints);
        for (int n = 0; n < joints.size(); n++) {
            Set<Integer> set = clashes(n);
            if (!set.isEmpty()) {
                losses.put(n, new Loss(0, 1, set.iterator().next(), NONE));
            }
        }
        waves = 1;
        while (true) {
            Map<Integer, Loss> more = pushed();
            if (more.isEmpty()) {
                more = stuck();
            }
            if (more.isEmpty()) {
                break;
            }
            losses.putAll(more);
            waves++;
        }
        controlled = reach(ways, 0, losses.keySet());
        history.add(0);
    }

    private Map<Integer, Loss> pushed() {
        Map<Integer, Loss> more = new HashMap<>();
        for (int n = 0; n < joints.size(); n++) {
            for (Map.Entry<Integer, Integer> way : ways.get(n).entrySet()) {
                if (!losses.containsKey(n) && !more.containsKey(n) && free.contains(way.getKey())
                    && losses.containsKey(way.getValue())) {
                    more.put(n, new Loss(waves, 2, way.getKey(), way.getValue()));
                }
            }
        }
        return more;
    }

    private Map<Integer, Loss> stuck() {
        Map<Integer, Loss> more = new HashMap<>();
        for (int n = 0; n < joints.size(); n++) {
            if (!losses.containsKey(n)) {
                boolean can = false;
                for (int to : reach(ways, n, losses.keySet())) {
                    can |= finished(devices, joints.get(to));
                }
                if (!can) {
                    more.put(n, new Loss(waves, 3, NONE, NONE));
                }
            }
        }
        return more;
    }

    private boolean isJoint(int n) {
        return n >= 0 && n < joints.size();
    }

    int stateOf(int n, int m) {
        return !isJoint(n) || m < 0 || m >= devices.size() ? UNKNOWN : joints.get(n).get(m);
    }

    int leads(int n, int e) {
        return !isJoint(n) || e < 0 || e > 7 ? UNKNOWN : ways.get(n).getOrDefault(e, NONE);
    }

    int joint(int n, int what) {
        if (!isJoint(n)) {
            return UNKNOWN;
        }
        switch (what) {
            case 0: return finished(devices, joints.get(n)) ? 1 : 0;
            case 1: return bits(ways.get(n).keySet());
            case 2: return bits(clashes(n));
            case 3: return losses.containsKey(n) ? 0 : 1;
            case 4: return controlled.contains(n) ? 1 : 0;
            case 5: return losses.containsKey(n) ? losses.get(n).wave : NONE;
            case 6: return controlled.contains(n) ? bits(barred(n)) : NONE;
            default: return OUTSIDE;
        }
    }

    private Set<Integer> barred(int n) {
        Set<Integer> set = new TreeSet<>(ways.get(n).keySet());
        set.removeIf(e -> !losses.containsKey(ways.get(n).get(e)));
        return set;
    }

    int why(int n, int k, int what) {
        if (!isJoint(n)) {
            return UNKNOWN;
        }
        if (k < 0 || k > 149 || what < 0 || what > 2) {
            return OUTSIDE;
        }
        Loss loss = losses.get(n);
        if (loss == null) {
            return NONE;
        }
        if (k > 0) {
            return loss.reason == 2 ? why(loss.cause, k - 1, what) : NONE;
        }
        return what == 0 ? loss.reason : what == 1 ? loss.event : n;
    }

    int wave(int w) {
        if (w < 0 || w >= waves) {
            return UNKNOWN;
        }
        return (int) losses.values().stream().filter(loss -> loss.wave == w).count();
    }

    int some(int set, int what) {
        if (set < 0 || set >= 1 << devices.size() || what < 0 || what > 1) {
            return OUTSIDE;
        }
        List<Device> chosen = new ArrayList<>();
        for (int m = 0; m < devices.size(); m++) {
            if ((set & 1 << m) != 0) {
                chosen.add(devices.get(m));
            }
        }
        List<List<Integer>> met = meet(chosen);
        if (met == null) {
            return NONE;
        }
        List<Map<Integer, Integer>> among = waysAmong(chosen, met);
        int blocked = 0;
        for (int n = 0; n < met.size(); n++) {
            boolean can = false;
            for (int to : reach(among, n, Set.of())) {
                can |= finished(chosen, met.get(to));
            }
            blocked += can ? 0 : 1;
        }
        return what == 0 ? met.size() : blocked;
    }

    int go(int e) {
        if (e < 0 || e > 7) {
            return UNKNOWN;
        }
        if (controlled.isEmpty()) {
            return STATE;
        }
        Integer to = ways.get(place()).get(e);
        if (to == null || losses.containsKey(to)) {
            return NONE;
        }
        history.add(to);
        taken = Math.min(16, taken + 1);
        return to;
    }

    private int place() {
        return history.get(history.size() - 1);
    }

    int back() {
        if (taken == 0) {
            return STATE;
        }
        taken--;
        history.remove(history.size() - 1);
        return place();
    }

    int at() {
        return controlled.isEmpty() ? STATE : place();
    }

    int finish(int k) {
        if (k != NONE && (k < 0 || k > 149)) {
            return OUTSIDE;
        }
        if (controlled.isEmpty()) {
            return STATE;
        }
        Set<Integer> ends = new HashSet<>();
        for (int n : controlled) {
            if (finished(devices, joints.get(n))) {
                ends.add(n);
            }
        }
        return ofWord(firstWord(place(), ends), k);
    }

    int word(int n, int k) {
        if (!isJoint(n)) {
            return UNKNOWN;
        }
        if (k != NONE && (k < 0 || k > 149)) {
            return OUTSIDE;
        }
        return controlled.contains(n) ? ofWord(firstWord(0, Set.of(n)), k) : NONE;
    }

    private static int ofWord(List<Integer> word, int k) {
        return k == NONE ? word.size() : k < word.size() ? word.get(k) : NONE;
    }

    /** By which JOINTS an end is come to with just r EVENTS, r growing; then the least EVENT at each place. */
    private List<Integer> firstWord(int from, Set<Integer> ends) {
        List<Set<Integer>> within = new ArrayList<>();
        within.add(ends);
        while (!within.get(within.size() - 1).contains(from)) {
            Set<Integer> next = new HashSet<>();
            for (int n : controlled) {
                for (int to : ways.get(n).values()) {
                    if (within.get(within.size() - 1).contains(to)) {
                        next.add(n);
                    }
                }
            }
            within.add(next);
            if (within.size() > 200) {
                throw new IllegalStateException("no WORD");
            }
        }
        List<Integer> word = new ArrayList<>();
        int n = from;
        for (int left = within.size() - 2; left >= 0; left--) {
            for (int e : ways.get(n).keySet()) {
                int to = ways.get(n).get(e);
                if (within.get(left).contains(to) && controlled.contains(to)) {
                    word.add(e);
                    n = to;
                    break;
                }
            }
        }
        return word;
    }

    int many(int what) {
        switch (what) {
            case 0: return devices.size();
            case 1: return tape.length();
            case 2: return joints.isEmpty() ? NONE : joints.size();
            case 3: return losses.size();
            case 4: return controlled.size();
            case 5: return waves;
            case 6: return taken;
            case 7: return controlled.stream().mapToInt(n -> barred(n).size()).sum();
            default: return OUTSIDE;
        }
    }
}
