import java.util.ArrayList;
import java.util.HashMap;
import java.util.LinkedList;
import java.util.List;
import java.util.Map;
import java.util.TreeMap;
import java.util.regex.Matcher;
import java.util.regex.Pattern;

/** The document once more, told with lists, maps and a regular expression; only for comparing answers. */
final class NaiveShop {
    private static final Pattern TEXT = Pattern.compile(
            "(a[0-9][sml]|[px][0-9]{4}|m[0-9]{4}>[0-5]|d([1-9]|[12][0-9]|30))"
            + "(;(a[0-9][sml]|[px][0-9]{4}|m[0-9]{4}>[0-5]|d([1-9]|[12][0-9]|30)))*");

    record Parcel(int sender, int size, int came, int code) {
        int shelf() {
            return code / 100 % 10;
        }

        int place() {
            return code / 10 % 10;
        }
    }

    static final class State {
        int[] settings = {5, 2, 10, 7, 2};
        int day;
        int wrong;
        int came;
        int paid;
        TreeMap<Integer, Parcel> onPlaces = new TreeMap<>();
        Map<Integer, Integer> left = new HashMap<>();
        List<List<Parcel>> bins = new ArrayList<>();
        int[] charged = new int[10];
        List<Integer> fetched = new ArrayList<>();
        List<Integer> taken = new ArrayList<>();

        State() {
            for (int i = 0; i < 10; i++) {
                bins.add(new ArrayList<>());
            }
        }

        State copy() {
            State c = new State();
            c.settings = settings.clone();
            c.day = day;
            c.wrong = wrong;
            c.came = came;
            c.paid = paid;
            c.onPlaces.putAll(onPlaces);
            c.left.putAll(left);
            for (int i = 0; i < 10; i++) {
                c.bins.get(i).addAll(bins.get(i));
            }
            c.charged = charged.clone();
            c.fetched.addAll(fetched);
            c.taken.addAll(taken);
            return c;
        }
    }

    private State now = new State();
    private State saved;
    private final LinkedList<State> records = new LinkedList<>();
    private String buffer = "";
    private int reason = -6;
    private int behind = -6;

    // the calls, by number; the test calls both shops in the same way
    int answer(int method, int a, int b, int c) {
        switch (method) {
            case 6: return now.day;
            case 7: return parcel(a, b);
            case 8: return codeAt(a, b);
            case 9: return shelf(a, b);
            case 10: return sender(a, b);
            case 11: return total(a);
            case 12: return a == 0 ? reason : a == 1 ? behind : -2;
            case 13: return a < 0 || a > 9999 ? -2 : isCode(a) ? 1 : 0;
            case 14: return b < 0 || b > 5 || c < 0 || c > 7 ? -1 : a < 0 || a > 9999 ? -2 : code(a, b, c);
            case 15: return a < 0 || a > 9999 ? -2 : rests(a) ? now.left.get(a) + now.settings[0] : -6;
            case 16: return nextCode(a);
            case 17: return feeIn(a, b);
            case 18: return goesIn(a);
            case 19: return chargesIn(a);
            case 20: return append(a);
            case 21: return clear();
            case 22: return errorPosition();
            case 24: return undo();
            case 25: saved = now.copy(); return now.onPlaces.size();
            case 27: return a < 0 || a > 4 ? -2 : now.settings[a];
            default: return undoable(method, a, b);
        }
    }

    private int undoable(int method, int a, int b) {
        State before = now.copy();
        int answer;
        switch (method) {
            case 0: answer = set(a, b); break;
            case 1: answer = come(a, b); break;
            case 2: answer = fetch(a); break;
            case 3: answer = refuse(a); break;
            case 4: answer = move(a, b); break;
            case 5: answer = pass(a); break;
            case 23: answer = execute(); break;
            case 26: answer = restore(); break;
            case 28: answer = call(a); break;
            default: throw new IllegalArgumentException("method " + method);
        }
        if (answer >= 0 || answer < -5) {
            records.addLast(before);
            if (records.size() > 5) {
                records.removeFirst();
            }
        }
        return answer;
    }

    private static int code(int day, int shelf, int place) {
        int start = (day % 7 + 1) * 1000 + shelf * 100 + place * 10;
        for (int d = 0; d < 10; d++) {
            if ((3 * (day % 7 + 1) + shelf + 7 * place + d) % 10 == 0) {
                return start + d;
            }
        }
        throw new IllegalStateException();
    }

    private static boolean isCode(int code) {
        for (int day = 0; day < 7; day++) {
            for (int shelf = 0; shelf < 6; shelf++) {
                for (int place = 0; place < 8; place++) {
                    if (code(day, shelf, place) == code) {
                        return true;
                    }
                }
            }
        }
        return false;
    }

    private boolean rests(int code) {
        return now.left.containsKey(code) && now.day < now.left.get(code) + now.settings[0];
    }

    private Parcel with(int code) {
        for (Parcel p : now.onPlaces.values()) {
            if (p.code() == code) {
                return p;
            }
        }
        return null;
    }

    private int fee(Parcel p, int day) {
        int nights = day - p.came();
        int fee = 0;
        for (int night = 1; night <= nights; night++) {
            fee += night > now.settings[1] ? (p.size() + 1) * now.settings[2] : 0;
        }
        return fee;
    }

    private void leave(Parcel p) {
        now.onPlaces.remove(10 * p.shelf() + p.place());
        now.left.put(p.code(), now.day);
    }

    /** -1 if there is none that is free; -2 if there is one, but all rest. */
    private int give(int from, int to) {
        int found = -1;
        for (int shelf = from; shelf <= to; shelf++) {
            for (int place = 0; place < 8; place++) {
                if (!now.onPlaces.containsKey(10 * shelf + place)) {
                    if (!rests(code(now.day, shelf, place))) {
                        return 10 * shelf + place;
                    }
                    found = -2;
                }
            }
        }
        return found;
    }

    private int refusal(int why, int back, int answer) {
        reason = why;
        behind = back;
        return answer;
    }

    private int set(int setting, int value) {
        int[][] ranges = {{0, 20}, {0, 9}, {0, 50}, {1, 20}, {1, 9}};
        if (setting < 0 || setting > 4 || value < ranges[setting][0] || value > ranges[setting][1]) {
            return -2;
        }
        int old = now.settings[setting];
        now.settings[setting] = value;
        return old;
    }

    private int come(int sender, int size) {
        if (sender < 0 || sender > 9) {
            return -1;
        }
        if (size < 0 || size > 2) {
            return -2;
        }
        int at = give(2 * size, 5);
        if (at < 0) {
            return refusal(1, at == -2 ? 5 : 6, -4);
        }
        int code = code(now.day, at / 10, at % 10);
        now.onPlaces.put(at, new Parcel(sender, size, now.day, code));
        now.came++;
        return code;
    }

    private int fetch(int code) {
        if (code < 0 || code > 9999) {
            return -2;
        }
        if (now.wrong == 3) {
            return refusal(2, -6, -3);
        }
        Parcel p = with(code);
        if (p == null) {
            now.wrong++;
            return -7;
        }
        int fee = fee(p, now.day);
        now.paid += fee;
        now.fetched.add(p.sender());
        leave(p);
        return fee;
    }

    private int refuse(int code) {
        Parcel p = with(code);
        if (p == null) {
            return refusal(4, rests(code) ? 5 : -6, -1);
        }
        List<Parcel> bin = now.bins.get(p.sender());
        if (bin.size() == 9) {
            return refusal(3, -6, -3);
        }
        leave(p);
        bin.add(p);
        return bin.size();
    }

    private int move(int code, int shelf) {
        Parcel p = with(code);
        if (p == null) {
            return refusal(4, rests(code) ? 5 : -6, -1);
        }
        if (shelf < 0 || shelf > 5) {
            return -1;
        }
        if (p.shelf() == shelf || shelf / 2 < p.size()) {
            return -2;
        }
        int at = give(shelf, shelf);
        if (at < 0) {
            return refusal(1, at == -2 ? 5 : 6, -4);
        }
        leave(p);
        int next = code(now.day, at / 10, at % 10);
        now.onPlaces.put(at, new Parcel(p.sender(), p.size(), p.came(), next));
        return next;
    }

    private int empty(int sender, int times) {
        int charge = 0;
        for (Parcel p : now.bins.get(sender)) {
            charge += times * now.settings[2];
            now.taken.add(p.sender());
        }
        now.charged[sender] += charge;
        now.bins.get(sender).clear();
        return charge;
    }

    private int begin() {
        now.day++;
        now.wrong = 0;
        for (int sender = 0; sender < 10 && now.day % 3 == 0; sender++) {
            if (now.bins.get(sender).size() >= now.settings[4]) {
                empty(sender, 4);
            }
        }
        int gone = 0;
        for (Parcel p : new ArrayList<>(now.onPlaces.values())) {
            if (now.day - p.came() > now.settings[3] && now.bins.get(p.sender()).size() < 9) {
                now.bins.get(p.sender()).add(p);
                leave(p);
                gone++;
            }
        }
        return gone;
    }

    private int pass(int days) {
        if (days < 1 || days > 30) {
            return -2;
        }
        if (now.day + days > 9999) {
            return -4;
        }
        int gone = 0;
        for (int i = 0; i < days; i++) {
            gone += begin();
        }
        return gone;
    }

    private int call(int sender) {
        if (sender < 0 || sender > 9) {
            return -1;
        }
        return now.bins.get(sender).isEmpty() ? -3 : empty(sender, 6);
    }

    private int parcel(int code, int part) {
        Parcel p = with(code);
        if (p == null) {
            return -1;
        }
        if (part < 0 || part > 5) {
            return -2;
        }
        return new int[] {p.sender(), p.size(), p.came(), p.shelf(), p.place(), fee(p, now.day)}[part];
    }

    private int codeAt(int shelf, int place) {
        if (shelf < 0 || shelf > 5 || place < 0 || place > 7) {
            return -1;
        }
        Parcel p = now.onPlaces.get(10 * shelf + place);
        return p == null ? -6 : p.code();
    }

    private int shelf(int shelf, int part) {
        if (shelf < 0 || shelf > 5) {
            return -1;
        }
        if (part < 0 || part > 2) {
            return -2;
        }
        int taken = 0;
        int resting = 0;
        for (int place = 0; place < 8; place++) {
            if (now.onPlaces.containsKey(10 * shelf + place)) {
                taken++;
            } else if (rests(code(now.day, shelf, place))) {
                resting++;
            }
        }
        return part == 0 ? shelf / 2 : part == 1 ? taken : resting;
    }

    private static int count(List<Integer> senders, int sender) {
        int n = 0;
        for (int s : senders) {
            n += s == sender ? 1 : 0;
        }
        return n;
    }

    private int sender(int sender, int part) {
        if (sender < 0 || sender > 9) {
            return -1;
        }
        switch (part) {
            case 0: return (int) now.onPlaces.values().stream().filter(p -> p.sender() == sender).count();
            case 1: return now.bins.get(sender).size();
            case 2: return now.charged[sender];
            case 3: return count(now.fetched, sender);
            case 4: return count(now.taken, sender);
            default: return -2;
        }
    }

    private int total(int what) {
        switch (what) {
            case 0: return now.onPlaces.size();
            case 1: return now.bins.stream().mapToInt(List::size).sum();
            case 2: return now.came;
            case 3: return now.fetched.size();
            case 4: return now.taken.size();
            case 5: return now.paid;
            case 6: return java.util.Arrays.stream(now.charged).sum();
            case 7: return now.wrong;
            case 8: return now.wrong == 3 ? 1 : 0;
            case 9: return now.onPlaces.values().stream().mapToInt(p -> fee(p, now.day)).sum();
            default: return -2;
        }
    }

    private int nextCode(int size) {
        if (size < 0 || size > 2) {
            return -2;
        }
        int at = give(2 * size, 5);
        return at < 0 ? -6 : code(now.day, at / 10, at % 10);
    }

    private int feeIn(int code, int days) {
        Parcel p = with(code);
        return p == null ? -1 : days < 0 || days > 99 ? -2 : fee(p, now.day + days);
    }

    private int goesIn(int code) {
        Parcel p = with(code);
        if (p == null) {
            return -1;
        }
        State real = now;
        now = real.copy();
        int days = 0;
        while (days < 61 && now.onPlaces.get(10 * p.shelf() + p.place()) == p) {
            begin();
            days++;
        }
        now = real;
        return days == 61 ? -6 : days;
    }

    private int chargesIn(int days) {
        if (days < 1 || days > 30) {
            return -2;
        }
        State real = now;
        now = real.copy();
        now.charged = new int[10];
        for (int i = 0; i < days; i++) {
            begin();
        }
        int charges = total(6);
        now = real;
        return charges;
    }

    private int append(int sign) {
        if (sign < 33 || sign > 126) {
            return -2;
        }
        if (buffer.length() == 80) {
            return -4;
        }
        buffer += (char) sign;
        return buffer.length();
    }

    private int clear() {
        int length = buffer.length();
        buffer = "";
        return length;
    }

    private int errorPosition() {
        for (int end = 1; end <= buffer.length(); end++) {
            Matcher matcher = TEXT.matcher(buffer.substring(0, end));
            if (!matcher.matches() && !matcher.hitEnd()) {
                return end - 1;
            }
        }
        return TEXT.matcher(buffer).matches() ? -6 : buffer.length();
    }

    private int execute() {
        if (!TEXT.matcher(buffer).matches()) {
            return -5;
        }
        String[] commands = buffer.split(";");
        buffer = "";
        int done = 0;
        for (String command : commands) {
            int answer = command(command);
            if (answer < 0 && answer >= -5) {
                break;
            }
            done++;
        }
        return done;
    }

    private int command(String command) {
        String rest = command.substring(1);
        switch (command.charAt(0)) {
            case 'a': return come(rest.charAt(0) - '0', "sml".indexOf(rest.charAt(1)));
            case 'p': return fetch(Integer.parseInt(rest));
            case 'x': return refuse(Integer.parseInt(rest));
            case 'm': return move(Integer.parseInt(rest.substring(0, 4)), rest.charAt(5) - '0');
            default: return pass(Integer.parseInt(rest));
        }
    }

    private int undo() {
        if (records.isEmpty()) {
            return -3;
        }
        now = records.removeLast();
        return records.size();
    }

    private int restore() {
        if (saved == null) {
            return -3;
        }
        now = saved.copy();
        return now.onPlaces.size();
    }
}
