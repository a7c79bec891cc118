import java.util.ArrayList;
import java.util.List;
import java.util.NoSuchElementException;

/**
 * The document written a second time, as near to its words as can be and with no thought of cost:
 * places are texts "folder/name", ways of fitting are tried one by one, the steps of a plan are
 * found by moving the files of a copy of the store.
 */
final class PlainTurner {
    private static final int NONE = -1;

    private static final class Planned {
        int file;
        int counter;
        String from;
        String name;
        String to;
        int trouble;
        int with = NONE;

        boolean stays() {
            return from.equals(to);
        }
    }

    private static final class Step {
        int file;
        String from;
        String to;
    }

    private final StringBuilder tape = new StringBuilder();
    private final List<String> files = new ArrayList<>(); // null: no more
    private final List<String> links = new ArrayList<>();
    private boolean folds = false;
    private String items = null;
    private List<String> parts = null;
    private int faultPlace = NONE;
    private List<Planned> plan = null;
    private List<Step> steps = new ArrayList<>();
    private int done = 0;
    private int stuck = 0;

    private String taken() {
        String text = tape.toString();
        tape.setLength(0);
        return text;
    }

    private static boolean isName(String text) {
        return text.matches("[a-zA-Z0-9._-]{1,12}");
    }

    private static boolean isFolder(int folder) {
        return folder >= 0 && folder <= 5;
    }

    private boolean alike(String one, String other) {
        return folds ? one.equalsIgnoreCase(other) : one.equals(other);
    }

    private int findAlike(List<String> places, String place, int but) {
        for (int i = 0; i < places.size(); i++) {
            if (i != but && places.get(i) != null && alike(places.get(i), place)) {
                return i;
            }
        }
        return NONE;
    }

    private boolean has(int file) {
        return file >= 0 && file < files.size() && files.get(file) != null;
    }

    private int howManyAre() {
        return (int) files.stream().filter(f -> f != null).count();
    }

    private void move(int file, String to) {
        String from = files.get(file);
        links.replaceAll(l -> l.equals(from) ? to : l);
        files.set(file, to);
    }

    private static String nameOf(String place) {
        return place.substring(2);
    }

    private static int byteOf(String name, int i) {
        return i >= 0 && i < name.length() ? name.charAt(i) : NONE;
    }

    boolean folds(boolean is) {
        if (howManyAre() > 0) {
            return false;
        }
        folds = is;
        return true;
    }

    int feed(int... numbers) {
        if (tape.length() + 20 > 80) {
            return NONE;
        }
        for (int number : numbers) {
            for (byte b : java.nio.ByteBuffer.allocate(4).putInt(number).array()) {
                tape.append((char) Byte.toUnsignedInt(b));
            }
        }
        return tape.length();
    }

    int end(int n) {
        if (n < 0 || n > tape.length()) {
            return NONE;
        }
        tape.setLength(n);
        return n;
    }

    int file(int folder) {
        String name = taken();
        if (!isFolder(folder) || !isName(name) || files.size() >= 40) {
            return NONE;
        }
        int other = findAlike(files, folder + "/" + name, NONE);
        if (other != NONE) {
            return -2 - other;
        }
        files.add(folder + "/" + name);
        return files.size() - 1;
    }

    boolean remove(int file) {
        if (!has(file)) {
            return false;
        }
        files.set(file, null);
        return true;
    }

    int hand(int file, int folder) {
        String name = taken();
        if (!has(file) || !isFolder(folder) || !isName(name)) {
            return NONE;
        }
        int other = findAlike(files, folder + "/" + name, file);
        if (other != NONE) {
            return -2 - other;
        }
        move(file, folder + "/" + name);
        return 0;
    }

    int at(int folder) {
        String name = taken();
        return isFolder(folder) && isName(name) ? findAlike(files, folder + "/" + name, NONE) : NONE;
    }

    private int fault(int kind, int at) {
        faultPlace = at;
        return -1 - kind;
    }

    int rule() {
        String text = taken();
        faultPlace = NONE;
        int at = 0;
        String newItems = "";
        while (true) {
            if (at == text.length()) {
                return fault(1, at);
            }
            char c = text.charAt(at);
            if (c == '>' && at > 0) {
                break;
            }
            if (!isName("" + c) && "?*#".indexOf(c) < 0) {
                return fault(1, at);
            }
            if (newItems.length() == 12) {
                return fault(2, at);
            }
            newItems += c;
            at++;
        }
        int wild = newItems.replaceAll("[^?*#]", "").length();
        List<String> newParts = new ArrayList<>();
        at++;
        do {
            if (at == text.length()) {
                return fault(1, at);
            }
            char c = text.charAt(at);
            boolean figured = "$^!%".indexOf(c) >= 0;
            if (!figured && !isName("" + c)) {
                return fault(1, at);
            }
            if (newParts.size() == 12) {
                return fault(2, at);
            }
            String part = "" + c;
            if (figured) {
                at++;
                int f = at == text.length() ? NONE : "0123456789".indexOf(text.charAt(at));
                if (f < 0 || c == '%' && (f < 1 || f > 4)) {
                    return fault(1, at);
                }
                if (c != '%' && (f < 1 || f > wild)) {
                    return fault(3, at);
                }
                part += f;
            }
            newParts.add(part);
            at++;
        } while (at < text.length());
        items = newItems;
        parts = newParts;
        return items.length();
    }

    int place() {
        return faultPlace;
    }

    /** How many bytes each item takes, in the first of all ways; null: there is none. */
    private List<Integer> way(String rest, String name) {
        if (rest.isEmpty()) {
            return name.isEmpty() ? new ArrayList<>() : null;
        }
        char item = rest.charAt(0);
        for (int i = 0; i <= name.length(); i++) {
            int n = item == '#' ? name.length() - i : i;
            String took = name.substring(0, n);
            boolean may = item == '*' || item == '?' && n == 1 || item == '#' && took.matches("[0-9]+")
                    || took.equals("" + item) && "?*#".indexOf(item) < 0;
            List<Integer> behind = may ? way(rest.substring(1), name.substring(n)) : null;
            if (behind != null) {
                behind.add(0, n);
                return behind;
            }
        }
        return null;
    }

    int fits(int file, int what) {
        if (!has(file) || items == null) {
            return NONE;
        }
        List<Integer> way = way(items, nameOf(files.get(file)));
        if (what == 0) {
            return way == null ? 0 : 1;
        }
        if (way != null && what >= 10 && what - 10 < way.size()) {
            return way.get(what - 10);
        }
        if (way != null && what >= 30 && what - 30 < way.size()) {
            return way.subList(0, what - 30).stream().mapToInt(n -> n).sum();
        }
        return NONE;
    }

    private String nameBy(String old, int counter) {
        List<Integer> way = way(items, old);
        List<String> took = new ArrayList<>();
        int at = 0;
        for (int i = 0; i < items.length(); i++) {
            if ("?*#".indexOf(items.charAt(i)) >= 0) {
                took.add(old.substring(at, at + way.get(i)));
            }
            at += way.get(i);
        }
        StringBuilder name = new StringBuilder();
        for (String part : parts) {
            int figure = part.length() == 2 ? part.charAt(1) - '0' : 0;
            switch (part.charAt(0)) {
                case '$' -> name.append(took.get(figure - 1));
                case '^' -> name.append(took.get(figure - 1).toUpperCase(java.util.Locale.ROOT));
                case '!' -> name.append(took.get(figure - 1).toLowerCase(java.util.Locale.ROOT));
                case '%' -> name.append(String.format("%0" + figure + "d", counter));
                default -> name.append(part);
            }
        }
        return name.toString();
    }

    private boolean underWay() {
        return done > 0 && done < steps.size();
    }

    private int troubles() {
        return plan == null ? 0 : (int) plan.stream().filter(p -> p.trouble != 0).count();
    }

    int plan(int folder, int to, int start, int step, boolean byNames) {
        if (!isFolder(folder) || !isFolder(to) || start < 0 || start > 999 || step < 1 || step > 99 || items == null) {
            return NONE;
        }
        if (underWay()) {
            return -2;
        }
        plan = new ArrayList<>();
        for (int i = 0; i < files.size(); i++) {
            if (has(i) && files.get(i).startsWith(folder + "/") && way(items, nameOf(files.get(i))) != null) {
                Planned p = new Planned();
                p.file = i;
                p.from = files.get(i);
                plan.add(p);
            }
        }
        if (byNames) {
            plan.sort((p, q) -> p.from.compareTo(q.from));
        }
        for (int k = 0; k < plan.size(); k++) {
            Planned p = plan.get(k);
            p.counter = start + k * step;
            p.name = nameBy(nameOf(p.from), p.counter);
            p.to = to + "/" + p.name;
        }
        findTroubles();
        done = 0;
        steps = troubles() == 0 ? findSteps() : new ArrayList<>();
        return plan.size();
    }

    private void findTroubles() {
        for (Planned p : plan) {
            p.trouble = p.name.isEmpty() || p.name.length() > 12 ? 1 : 0;
        }
        for (Planned p : plan) {
            if (p.trouble == 1) {
                continue;
            }
            for (Planned q : plan) {
                if (q != p && q.trouble != 1 && alike(q.to, p.to)) {
                    p.trouble = 2;
                    p.with = q.file;
                    break;
                }
            }
            if (p.trouble != 0 || p.stays()) {
                continue;
            }
            for (int i = 0; i < files.size(); i++) {
                if (i != p.file && has(i) && alike(files.get(i), p.to) && isStaying(i)) {
                    p.trouble = 3;
                    p.with = i;
                }
            }
        }
    }

    private boolean isStaying(int file) {
        for (Planned q : plan) {
            if (q.file == file) {
                return q.trouble == 1 || q.stays();
            }
        }
        return true;
    }

    private List<Step> findSteps() {
        List<Step> found = new ArrayList<>();
        List<String> then = new ArrayList<>(files);
        List<Planned> byNumber = new ArrayList<>(plan);
        byNumber.sort((p, q) -> p.file - q.file);
        while (true) {
            Planned next = null;
            String goal = null;
            for (Planned p : byNumber) {
                if (next == null && !then.get(p.file).equals(p.to) && findAlike(then, p.to, p.file) == NONE) {
                    next = p;
                    goal = p.to;
                }
            }
            for (Planned p : byNumber) {
                boolean spared = then.get(p.file).indexOf('~') >= 0;
                if (next == null && !then.get(p.file).equals(p.to) && !spared) {
                    next = p;
                    goal = then.get(p.file).substring(0, 2) + "~" + p.file;
                }
            }
            if (next == null) {
                return found;
            }
            Step s = new Step();
            s.file = next.file;
            s.from = then.get(next.file);
            s.to = goal;
            then.set(next.file, goal);
            found.add(s);
        }
    }

    int planned(int k, int what) {
        if (plan == null || k < 0 || k >= plan.size()) {
            return NONE;
        }
        Planned p = plan.get(k);
        return switch (what) {
            case 0 -> p.file;
            case 1 -> p.trouble;
            case 2 -> p.with;
            case 3 -> p.to.charAt(0) - '0';
            case 4 -> p.name.length();
            case 5 -> p.stays() ? 1 : 0;
            case 6 -> p.counter;
            default -> NONE;
        };
    }

    int newName(int k, int i) {
        return plan == null || k < 0 || k >= plan.size() || i >= 12 ? NONE : byteOf(plan.get(k).name, i);
    }

    int steps() {
        return plan == null ? NONE : troubles() > 0 ? -2 : steps.size();
    }

    int step(int i, int what) {
        if (i < 0 || i >= steps.size()) {
            return NONE;
        }
        Step s = steps.get(i);
        return switch (what) {
            case 0 -> s.file;
            case 1 -> s.to.indexOf('~') >= 0 ? 1 : 0;
            case 2 -> s.from.indexOf('~') >= 0 ? 1 : 0;
            default -> NONE;
        };
    }

    private boolean moves(int file, String from, String to) {
        if (!has(file)) {
            stuck = 1;
        } else if (!files.get(file).equals(from)) {
            stuck = 2;
        } else if (findAlike(files, to, file) != NONE) {
            stuck = 3;
        } else {
            move(file, to);
        }
        return stuck == 0;
    }

    int go(int n) {
        if (n < 0 || plan == null || troubles() > 0) {
            return NONE;
        }
        stuck = 0;
        int count = 0;
        while (count < n && done < steps.size()
                && moves(steps.get(done).file, steps.get(done).from, steps.get(done).to)) {
            count++;
            done++;
        }
        return count;
    }

    int back(int n) {
        if (n < 0 || plan == null || troubles() > 0) {
            return NONE;
        }
        stuck = 0;
        int count = 0;
        while (count < n && done > 0
                && moves(steps.get(done - 1).file, steps.get(done - 1).to, steps.get(done - 1).from)) {
            count++;
            done--;
        }
        return count;
    }

    int stuck() {
        return stuck;
    }

    int link(int folder) {
        String name = taken();
        if (!isFolder(folder) || !isName(name) || links.size() >= 30) {
            return NONE;
        }
        links.add(folder + "/" + name);
        return links.size() - 1;
    }

    int linkOf(int link, int what) {
        if (link < 0 || link >= links.size()) {
            return NONE;
        }
        String target = links.get(link);
        return switch (what) {
            case 0 -> target.charAt(0) - '0';
            case 1 -> files.indexOf(target);
            case 2 -> target.length() - 2;
            default -> what < 10 ? NONE : byteOf(nameOf(target), what - 10);
        };
    }

    int of(int file, int what) {
        if (!has(file)) {
            throw new NoSuchElementException();
        }
        String lies = files.get(file);
        if (what >= 10 && what - 10 < lies.length() - 2) {
            return nameOf(lies).charAt(what - 10);
        }
        return switch (what) {
            case 0 -> lies.charAt(0) - '0';
            case 1 -> lies.length() - 2;
            case 2 -> lies.indexOf('~') >= 0 ? 1 : 0;
            default -> throw new NoSuchElementException();
        };
    }

    int count(int what) {
        return switch (what) {
            case 0 -> files.size();
            case 1 -> howManyAre();
            case 2 -> folds ? 1 : 0;
            case 3 -> tape.length();
            case 4 -> plan == null ? 0 : plan.size();
            case 5 -> troubles();
            case 6 -> done;
            case 7 -> links.size();
            case 8 -> underWay() ? 1 : 0;
            case 9 -> (int) files.stream().filter(f -> f != null && f.indexOf('~') >= 0).count();
            default -> NONE;
        };
    }
}
