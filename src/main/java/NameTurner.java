import java.util.NoSuchElementException;

/** Turns the names of files in folders by one rule, step by step, forth and back. */
public final class NameTurner {
    public static final int NONE = -1;

    private static final int FOLDERS = 6;
    private static final int MOST_FILES = 40;
    private static final int MOST_LINKS = 30;
    private static final int MOST_NAME = 12;
    private static final int MOST_TAPE = 80;
    private static final int MOST_PIECES = 12;
    // Each planned file goes to its new place once and to its spare name at most once.
    private static final int MOST_STEPS = 2 * MOST_FILES;

    private static final int HIGHEST_START = 999;
    private static final int HIGHEST_STEP = 99;

    private static final int FAULT_SIGN = 1;
    private static final int FAULT_TOO_MANY = 2;
    private static final int FAULT_NO_ITEM = 3;

    private static final int TROUBLE_LENGTH = 1;
    private static final int TROUBLE_RIVAL = 2;
    private static final int TROUBLE_TAKEN = 3;

    private static final int STUCK_GONE = 1;
    private static final int STUCK_ELSEWHERE = 2;
    private static final int STUCK_TAKEN = 3;

    private final Tape tape;
    private final Place told;
    private final Store store;
    private final Links links;
    private final Fit fit;
    private final Plan plan;
    private Rule rule;
    private Rule draft;
    private boolean hasRule;
    private int faultPlace;
    private int stuckBy;

    public NameTurner() {
        tape = new Tape();
        told = new Place();
        store = new Store();
        links = new Links();
        fit = new Fit();
        plan = new Plan();
        rule = new Rule();
        draft = new Rule();
        hasRule = false;
        faultPlace = NONE;
        stuckBy = 0;
    }

    public boolean folds(boolean is) {
        if (store.howManyAre() > 0) {
            return false;
        }
        store.setFolding(is);
        return true;
    }

    public int feed(int a, int b, int c, int d, int e) {
        if (!tape.hasRoom(20)) {
            return NONE;
        }
        tape.addNumber(a);
        tape.addNumber(b);
        tape.addNumber(c);
        tape.addNumber(d);
        tape.addNumber(e);
        return tape.length();
    }

    public int end(int n) {
        return tape.cut(n) ? n : NONE;
    }

    public int file(int folder) {
        if (!takePlace(folder) || store.isFull()) {
            return NONE;
        }
        int other = store.findAlike(told, NONE);
        return other == NONE ? store.add(told) : -2 - other;
    }

    public boolean remove(int file) {
        if (!store.has(file)) {
            return false;
        }
        store.drop(file);
        return true;
    }

    public int hand(int file, int folder) {
        if (!takePlace(folder) || !store.has(file)) {
            return NONE;
        }
        int other = store.findAlike(told, file);
        if (other != NONE) {
            return -2 - other;
        }
        move(file, told);
        return 0;
    }

    public int at(int folder) {
        return takePlace(folder) ? store.findAlike(told, NONE) : NONE;
    }

    public int rule() {
        int fault = draft.read(tape);
        tape.clear();
        faultPlace = draft.placeOfFault();
        if (fault != 0) {
            return -1 - fault;
        }
        Rule old = rule;
        rule = draft;
        draft = old;
        hasRule = true;
        return rule.itemCount();
    }

    public int place() {
        return faultPlace;
    }

    public int fits(int file, int what) {
        if (!hasRule || !store.has(file)) {
            return NONE;
        }
        boolean does = fit.match(rule, store.placeOf(file));
        if (what == 0) {
            return does ? 1 : 0;
        }
        if (!does) {
            return NONE;
        }
        if (what >= 10 && what < 10 + rule.itemCount()) {
            return fit.tookBy(what - 10);
        }
        if (what >= 30 && what < 30 + rule.itemCount()) {
            return fit.startOf(what - 30);
        }
        return NONE;
    }

    public int plan(int folder, int to, int start, int step, boolean byNames) {
        if (!hasRule || !isFolder(folder) || !isFolder(to)) {
            return NONE;
        }
        if (start < 0 || start > HIGHEST_START || step < 1 || step > HIGHEST_STEP) {
            return NONE;
        }
        if (plan.isUnderWay()) {
            return -2;
        }
        plan.begin();
        int inFolder = store.list(folder, byNames);
        for (int i = 0; i < inFolder && !plan.isFull(); i++) {
            int file = store.listed(i);
            if (store.has(file) && fit.match(rule, store.placeOf(file))) {
                Planned next = plan.add(file, store.placeOf(file), start + plan.size() * step);
                next.nameBy(rule, fit, to);
            }
        }
        plan.findTroubles(store);
        plan.findSteps();
        return plan.size();
    }

    public int planned(int k, int what) {
        if (!plan.hasPlanned(k)) {
            return NONE;
        }
        Planned one = plan.get(k);
        switch (what) {
            case 0: return one.file;
            case 1: return one.trouble;
            case 2: return one.troubleWith;
            case 3: return one.fresh.folder;
            case 4: return one.length;
            case 5: return one.stays ? 1 : 0;
            case 6: return one.counter;
            default: return NONE;
        }
    }

    public int newName(int k, int i) {
        return plan.hasPlanned(k) ? plan.get(k).fresh.byteAt(i) : NONE;
    }

    public int steps() {
        if (!plan.isMade()) {
            return NONE;
        }
        return plan.troubles() > 0 ? -2 : plan.stepCount();
    }

    public int step(int i, int what) {
        if (!plan.hasStep(i)) {
            return NONE;
        }
        switch (what) {
            case 0: return plan.fileOfStep(i);
            case 1: return plan.goesToSpare(i) ? 1 : 0;
            case 2: return plan.comesFromSpare(i) ? 1 : 0;
            default: return NONE;
        }
    }

    public int go(int n) {
        if (n < 0 || !plan.canRun()) {
            return NONE;
        }
        stuckBy = 0;
        int most = Math.min(n, plan.stepCount() - plan.done());
        for (int count = 0; count < most; count++) {
            int i = plan.done();
            stuckBy = tryMove(plan.fileOfStep(i), plan.startOfStep(i), plan.goalOfStep(i));
            if (stuckBy != 0) {
                return count;
            }
            plan.setDone(i + 1);
        }
        return most;
    }

    public int back(int n) {
        if (n < 0 || !plan.canRun()) {
            return NONE;
        }
        stuckBy = 0;
        int most = Math.min(n, plan.done());
        for (int count = 0; count < most; count++) {
            int i = plan.done() - 1;
            stuckBy = tryMove(plan.fileOfStep(i), plan.goalOfStep(i), plan.startOfStep(i));
            if (stuckBy != 0) {
                return count;
            }
            plan.setDone(i);
        }
        return most;
    }

    public int stuck() {
        return stuckBy;
    }

    public int link(int folder) {
        return takePlace(folder) && !links.isFull() ? links.add(told) : NONE;
    }

    public int linkOf(int link, int what) {
        if (!links.has(link)) {
            return NONE;
        }
        Place target = links.get(link);
        switch (what) {
            case 0: return target.folder;
            case 1: return store.findJust(target);
            case 2: return target.length;
            default: return what >= 10 ? target.byteAt(what - 10) : NONE;
        }
    }

    public int of(int file, int what) throws NoSuchElementException {
        if (!store.has(file)) {
            throw new NoSuchElementException("no such file");
        }
        Place lies = store.placeOf(file);
        switch (what) {
            case 0: return lies.folder;
            case 1: return lies.length;
            case 2: return lies.isSpare() ? 1 : 0;
            default: break;
        }
        if (what < 10 || what - 10 >= lies.length) {
            throw new NoSuchElementException("no such what");
        }
        return lies.byteAt(what - 10);
    }

    public int count(int what) {
        switch (what) {
            case 0: return store.howManyCame();
            case 1: return store.howManyAre();
            case 2: return store.isFolding() ? 1 : 0;
            case 3: return tape.length();
            case 4: return plan.size();
            case 5: return plan.troubles();
            case 6: return plan.done();
            case 7: return links.size();
            case 8: return plan.isUnderWay() ? 1 : 0;
            case 9: return store.howManySpare();
            default: return NONE;
        }
    }

    private static boolean isFolder(int folder) {
        return folder >= 0 && folder < FOLDERS;
    }

    /** Empties the tape in any case; says whether it and the folder were a place. */
    private boolean takePlace(int folder) {
        boolean is = isFolder(folder) && tape.isName();
        if (is) {
            told.begin(folder);
            for (int i = 0; i < tape.length(); i++) {
                told.add(tape.byteAt(i));
            }
        }
        tape.clear();
        return is;
    }

    private int tryMove(int file, Place from, Place to) {
        if (!store.has(file)) {
            return STUCK_GONE;
        }
        if (!store.placeOf(file).isJust(from)) {
            return STUCK_ELSEWHERE;
        }
        if (store.findAlike(to, file) != NONE) {
            return STUCK_TAKEN;
        }
        move(file, to);
        return 0;
    }

    private void move(int file, Place to) {
        Place lies = store.placeOf(file);
        // The links go first: they are found by the place that the file is about to leave.
        links.follow(lies, to);
        lies.become(to);
    }

    /** What single bytes are; a byte that there isn't is NONE and is nothing. */
    private static final class Signs {
        static boolean isFigure(int b) {
            return b >= '0' && b <= '9';
        }

        static boolean isSmall(int b) {
            return b >= 'a' && b <= 'z';
        }

        static boolean isCapital(int b) {
            return b >= 'A' && b <= 'Z';
        }

        static boolean isOfNames(int b) {
            return isSmall(b) || isCapital(b) || isFigure(b) || b == '.' || b == '-' || b == '_';
        }

        static boolean isWild(int b) {
            return b == '?' || b == '*' || b == '#';
        }

        static boolean isTaken(int b) {
            return b == '$' || b == '^' || b == '!';
        }

        static int capital(int b) {
            return b >= 'a' && b <= 'z' ? b - 'a' + 'A' : b;
        }

        static int small(int b) {
            return b >= 'A' && b <= 'Z' ? b - 'A' + 'a' : b;
        }
    }

    /** The bytes that were fed and not used yet. */
    private static final class Tape {
        private final int[] bytes = new int[MOST_TAPE];
        private int length = 0;

        int length() {
            return length;
        }

        int byteAt(int i) {
            return i >= 0 && i < length && i < bytes.length ? bytes[i] : NONE;
        }

        boolean hasRoom(int n) {
            return length + n <= bytes.length;
        }

        void addNumber(int number) {
            for (int shift = 24; shift >= 0; shift -= 8) {
                if (length < bytes.length) {
                    bytes[length] = (number >>> shift) & 255;
                    length++;
                }
            }
        }

        boolean cut(int n) {
            if (n < 0 || n > length) {
                return false;
            }
            length = n;
            return true;
        }

        void clear() {
            length = 0;
        }

        boolean isName() {
            if (length < 1 || length > MOST_NAME) {
                return false;
            }
            for (int i = 0; i < length; i++) {
                if (!Signs.isOfNames(byteAt(i))) {
                    return false;
                }
            }
            return true;
        }
    }

    /** A folder and a name (a spare name too). */
    private static final class Place {
        private final int[] name = new int[MOST_NAME];
        private int folder = 0;
        private int length = 0;

        int byteAt(int i) {
            return i >= 0 && i < length && i < name.length ? name[i] : NONE;
        }

        void begin(int inFolder) {
            folder = inFolder;
            length = 0;
        }

        void add(int b) {
            if (length < name.length) {
                name[length] = b;
                length++;
            }
        }

        void become(Place other) {
            begin(other.folder);
            for (int i = 0; i < other.length; i++) {
                add(other.byteAt(i));
            }
        }

        void becomeSpare(int inFolder, int file) {
            begin(inFolder);
            add('~');
            if (file >= 10) {
                add('0' + file / 10);
            }
            add('0' + file % 10);
        }

        boolean isSpare() {
            return byteAt(0) == '~';
        }

        boolean isJust(Place other) {
            return isAlike(other, false);
        }

        boolean isAlike(Place other, boolean folding) {
            if (folder != other.folder || length != other.length) {
                return false;
            }
            for (int i = 0; i < length; i++) {
                int mine = byteAt(i);
                int its = other.byteAt(i);
                if (mine != its && !(folding && Signs.small(mine) == Signs.small(its))) {
                    return false;
                }
            }
            return true;
        }

        boolean isNamedBefore(Place other) {
            int both = Math.min(length, other.length);
            for (int i = 0; i < both; i++) {
                if (byteAt(i) != other.byteAt(i)) {
                    return byteAt(i) < other.byteAt(i);
                }
            }
            return length < other.length;
        }
    }

    /** The files by their numbers; those that are no more keep theirs. */
    private static final class Store {
        private final Place[] places = new Place[MOST_FILES];
        private final boolean[] is = new boolean[MOST_FILES];
        private final int[] listing = new int[MOST_FILES];
        private int came = 0;
        private int are = 0;
        private boolean folding = false;

        Store() {
            for (int i = 0; i < MOST_FILES; i++) {
                places[i] = new Place();
            }
        }

        int howManyCame() {
            return came;
        }

        int howManyAre() {
            return are;
        }

        boolean isFull() {
            return came >= MOST_FILES;
        }

        boolean isFolding() {
            return folding;
        }

        void setFolding(boolean to) {
            folding = to;
        }

        boolean has(int file) {
            return file >= 0 && file < came && file < is.length && is[file];
        }

        /** Only for a file that has() knows. */
        Place placeOf(int file) {
            return places[file];
        }

        /** Only while it is not full. */
        int add(Place place) {
            int file = came;
            places[file].become(place);
            is[file] = true;
            came++;
            are++;
            return file;
        }

        /** Only for a file that has() knows. */
        void drop(int file) {
            is[file] = false;
            are--;
        }

        int findAlike(Place place, int but) {
            for (int i = 0; i < came; i++) {
                if (i != but && is[i] && places[i].isAlike(place, folding)) {
                    return i;
                }
            }
            return NONE;
        }

        int findJust(Place place) {
            for (int i = 0; i < came; i++) {
                if (is[i] && places[i].isJust(place)) {
                    return i;
                }
            }
            return NONE;
        }

        int howManySpare() {
            int spare = 0;
            for (int i = 0; i < came; i++) {
                if (is[i] && places[i].isSpare()) {
                    spare++;
                }
            }
            return spare;
        }

        /** Puts a folder's files in order, to be asked for by listed(); says how many. */
        int list(int folder, boolean byNames) {
            int size = 0;
            for (int i = 0; i < came; i++) {
                if (is[i] && places[i].folder == folder) {
                    int at = size;
                    for (int k = size; byNames && k > 0 && isNamedBefore(i, listing[k - 1]); k--) {
                        listing[k] = listing[k - 1];
                        at = k - 1;
                    }
                    listing[at] = i;
                    size++;
                }
            }
            return size;
        }

        private boolean isNamedBefore(int one, int other) {
            return places[one].isNamedBefore(places[other]);
        }

        int listed(int i) {
            return i >= 0 && i < listing.length ? listing[i] : NONE;
        }
    }

    /** Places that are named, whether a file lies there or not. */
    private static final class Links {
        private final Place[] targets = new Place[MOST_LINKS];
        private int size = 0;

        Links() {
            for (int i = 0; i < MOST_LINKS; i++) {
                targets[i] = new Place();
            }
        }

        int size() {
            return size;
        }

        boolean isFull() {
            return size >= MOST_LINKS;
        }

        boolean has(int link) {
            return link >= 0 && link < size;
        }

        /** Only for a link that has() knows. */
        Place get(int link) {
            return targets[link];
        }

        /** Only while they are not full. */
        int add(Place target) {
            int number = size;
            targets[number].become(target);
            size++;
            return number;
        }

        void follow(Place from, Place to) {
            for (int i = 0; i < size; i++) {
                if (targets[i].isJust(from)) {
                    targets[i].become(to);
                }
            }
        }
    }

    /** Items and parts as they were read from a text. */
    private static final class Rule {
        private final int[] items = new int[MOST_PIECES];
        private final int[] wildItems = new int[MOST_PIECES];
        private final int[] partSigns = new int[MOST_PIECES];
        private final int[] partFigures = new int[MOST_PIECES];
        private int itemCount = 0;
        private int wildCount = 0;
        private int partCount = 0;
        private int faultAt = NONE;

        int itemCount() {
            return itemCount;
        }

        int partCount() {
            return partCount;
        }

        int placeOfFault() {
            return faultAt;
        }

        int item(int i) {
            return i >= 0 && i < itemCount ? items[i] : NONE;
        }

        int partSign(int i) {
            return i >= 0 && i < partCount ? partSigns[i] : NONE;
        }

        int partFigure(int i) {
            return i >= 0 && i < partCount ? partFigures[i] : NONE;
        }

        /** Which item the n-th one that takes bytes freely is (n from 1 on). */
        int wildItem(int n) {
            return n >= 1 && n <= wildCount ? wildItems[n - 1] : NONE;
        }

        /** Answers the kind of the text's first fault, 0 without one. */
        int read(Tape text) {
            itemCount = 0;
            wildCount = 0;
            partCount = 0;
            faultAt = NONE;
            int kind = readItems(text);
            return kind != 0 ? kind : readParts(text, itemCount + 1);
        }

        private int fault(int kind, int at) {
            faultAt = at;
            return kind;
        }

        private int readItems(Tape text) {
            for (int at = 0; at < text.length(); at++) {
                int sign = text.byteAt(at);
                if (sign == '>' && itemCount > 0) {
                    return 0;
                }
                if (!Signs.isOfNames(sign) && !Signs.isWild(sign)) {
                    return fault(FAULT_SIGN, at);
                }
                if (itemCount >= MOST_PIECES) {
                    return fault(FAULT_TOO_MANY, at);
                }
                addItem(sign);
            }
            return fault(FAULT_SIGN, text.length());
        }

        private void addItem(int sign) {
            if (Signs.isWild(sign)) {
                wildItems[wildCount] = itemCount;
                wildCount++;
            }
            items[itemCount] = sign;
            itemCount++;
        }

        private int readParts(Tape text, int from) {
            for (int at = from; at < text.length(); at++) {
                int sign = text.byteAt(at);
                boolean hasFigure = sign == '%' || Signs.isTaken(sign);
                if (!hasFigure && !Signs.isOfNames(sign)) {
                    return fault(FAULT_SIGN, at);
                }
                if (partCount >= MOST_PIECES) {
                    return fault(FAULT_TOO_MANY, at);
                }
                if (hasFigure) {
                    at++;
                    int kind = faultOfFigure(sign, text.byteAt(at));
                    if (kind != 0) {
                        return fault(kind, at);
                    }
                }
                addPart(sign, text.byteAt(at) - '0');
            }
            return partCount > 0 ? 0 : fault(FAULT_SIGN, text.length());
        }

        private int faultOfFigure(int sign, int b) {
            if (!Signs.isFigure(b)) {
                return FAULT_SIGN;
            }
            int figure = b - '0';
            if (sign == '%') {
                return figure >= 1 && figure <= 4 ? 0 : FAULT_SIGN;
            }
            return figure >= 1 && figure <= wildCount ? 0 : FAULT_NO_ITEM;
        }

        private void addPart(int sign, int figure) {
            partSigns[partCount] = sign;
            partFigures[partCount] = figure;
            partCount++;
        }
    }

    /** How the items of a rule take the bytes of one name. */
    private static final class Fit {
        private static final int WIDTH = MOST_NAME + 1;

        // can[i * WIDTH + at]: the items from i on can take just the bytes from at on.
        private final boolean[] can = new boolean[(MOST_PIECES + 1) * WIDTH];
        private final int[] took = new int[MOST_PIECES];
        private final int[] start = new int[MOST_PIECES];

        int tookBy(int item) {
            return item >= 0 && item < took.length ? took[item] : NONE;
        }

        int startOf(int item) {
            return item >= 0 && item < start.length ? start[item] : NONE;
        }

        boolean match(Rule rule, Place place) {
            findWays(rule, place);
            if (!isWay(0, 0)) {
                return false;
            }
            int at = 0;
            for (int i = 0; i < rule.itemCount(); i++) {
                start[i] = at;
                took[i] = firstChoice(rule, place, i, at);
                at += took[i];
            }
            return true;
        }

        private boolean isWay(int item, int at) {
            return item >= 0 && item <= MOST_PIECES && at >= 0 && at < WIDTH && can[item * WIDTH + at];
        }

        // From the end on, so that no way is tried twice however many * there are.
        private void findWays(Rule rule, Place place) {
            int last = rule.itemCount();
            for (int at = 0; at <= place.length; at++) {
                can[last * WIDTH + at] = at == place.length;
            }
            for (int i = last - 1; i >= 0; i--) {
                for (int at = place.length; at >= 0; at--) {
                    can[i * WIDTH + at] = hasWay(rule.item(i), i, place, at);
                }
            }
        }

        private boolean hasWay(int item, int i, Place place, int at) {
            if (item == '*') {
                return isWay(i + 1, at) || (at < place.length && isWay(i, at + 1));
            }
            if (!takes(item, place.byteAt(at))) {
                return false;
            }
            return isWay(i + 1, at + 1) || (item == '#' && isWay(i, at + 1));
        }

        private static boolean takes(int item, int b) {
            switch (item) {
                case '?': return b != NONE;
                case '#': return Signs.isFigure(b);
                default: return item == b;
            }
        }

        private int firstChoice(Rule rule, Place place, int i, int at) {
            switch (rule.item(i)) {
                case '*': return fewest(place, i, at);
                case '#': return mostFigures(place, i, at);
                default: return 1;
            }
        }

        private int fewest(Place place, int i, int at) {
            for (int n = 0; at + n <= place.length; n++) {
                if (isWay(i + 1, at + n)) {
                    return n;
                }
            }
            return 0;
        }

        private int mostFigures(Place place, int i, int at) {
            int most = 0;
            for (int n = 1; Signs.isFigure(place.byteAt(at + n - 1)) && n <= place.length; n++) {
                if (isWay(i + 1, at + n)) {
                    most = n;
                }
            }
            return most;
        }
    }

    /** One file of a plan: whence, whither, and what stands against it. */
    private static final class Planned {
        private final Place old = new Place();
        private final Place fresh = new Place();
        private final Place spare = new Place();
        private int file = NONE;
        private int counter = 0;
        private int length = 0;
        private boolean stays = false;
        private int trouble = 0;
        private int troubleWith = NONE;
        private int waitsFor = NONE;
        private boolean isSpared = false;
        private boolean isThere = false;

        void begin(int number, Place lies, int itsCounter) {
            file = number;
            counter = itsCounter;
            old.become(lies);
            spare.becomeSpare(lies.folder, number);
            trouble = 0;
            troubleWith = NONE;
            waitsFor = NONE;
            isSpared = false;
            isThere = false;
        }

        void nameBy(Rule rule, Fit fit, int to) {
            fresh.begin(to);
            length = 0;
            for (int i = 0; i < rule.partCount(); i++) {
                int sign = rule.partSign(i);
                int figure = rule.partFigure(i);
                if (sign == '%') {
                    addCounter(figure);
                } else if (Signs.isTaken(sign)) {
                    int item = rule.wildItem(figure);
                    addTaken(sign, fit.startOf(item), fit.tookBy(item));
                } else {
                    addByte(sign);
                }
            }
            stays = length == fresh.length && fresh.isJust(old);
        }

        private void addByte(int b) {
            fresh.add(b);
            length++;
        }

        private void addTaken(int sign, int start, int took) {
            for (int i = 0; i < took; i++) {
                int b = old.byteAt(start + i);
                if (sign == '^') {
                    b = Signs.capital(b);
                } else if (sign == '!') {
                    b = Signs.small(b);
                }
                addByte(b);
            }
        }

        private void addCounter(int width) {
            int figures = 4;
            for (int unit = 1000; unit >= 1; unit /= 10) {
                if (figures <= width || counter >= unit) {
                    addByte('0' + counter / unit % 10);
                }
                figures--;
            }
        }

        void findOwnTrouble() {
            if (length < 1 || length > MOST_NAME) {
                trouble = TROUBLE_LENGTH;
            }
        }

        boolean hasName() {
            return trouble != TROUBLE_LENGTH;
        }

        void setTrouble(int kind, int with) {
            trouble = kind;
            troubleWith = with;
        }

        boolean isLeft() {
            return !stays && !isThere;
        }

        boolean hasLeftOldPlace() {
            return isSpared || isThere;
        }
    }

    /** What is to be done with all the files of a folder that fit, and how far that is. */
    private static final class Plan {
        private final Planned[] all = new Planned[MOST_FILES];
        private final int[] stepOf = new int[MOST_STEPS];
        private final boolean[] toSpare = new boolean[MOST_STEPS];
        private final boolean[] fromSpare = new boolean[MOST_STEPS];
        private boolean made = false;
        private int size = 0;
        private int troubles = 0;
        private int stepCount = 0;
        private int done = 0;

        Plan() {
            for (int k = 0; k < MOST_FILES; k++) {
                all[k] = new Planned();
            }
        }

        boolean isMade() {
            return made;
        }

        boolean isUnderWay() {
            return done > 0 && done < stepCount;
        }

        boolean canRun() {
            return made && troubles == 0;
        }

        int size() {
            return size;
        }

        int troubles() {
            return troubles;
        }

        int stepCount() {
            return stepCount;
        }

        int done() {
            return done;
        }

        void setDone(int steps) {
            done = steps;
        }

        boolean hasPlanned(int k) {
            return k >= 0 && k < size;
        }

        /** Only for one that hasPlanned() knows. */
        Planned get(int k) {
            return all[k];
        }

        void begin() {
            made = true;
            size = 0;
            troubles = 0;
            stepCount = 0;
            done = 0;
        }

        boolean isFull() {
            return size >= all.length;
        }

        /** Only while it is not full. */
        Planned add(int file, Place lies, int counter) {
            Planned next = all[size];
            next.begin(file, lies, counter);
            size++;
            return next;
        }

        void findTroubles(Store store) {
            // Whether another one has a name at all is asked below, so this goes first for all.
            for (int k = 0; k < size; k++) {
                all[k].findOwnTrouble();
            }
            for (int k = 0; k < size; k++) {
                if (all[k].hasName()) {
                    findTroubleWithOthers(k, store);
                }
                if (all[k].trouble != 0) {
                    troubles++;
                }
            }
        }

        private void findTroubleWithOthers(int k, Store store) {
            Planned one = all[k];
            for (int i = 0; i < size; i++) {
                if (i != k && all[i].hasName() && all[i].fresh.isAlike(one.fresh, store.isFolding())) {
                    one.setTrouble(TROUBLE_RIVAL, all[i].file);
                    return;
                }
            }
            int other = store.findAlike(one.fresh, one.file);
            if (other == NONE) {
                return;
            }
            int its = find(other);
            if (its == NONE || !all[its].hasName() || all[its].stays) {
                one.setTrouble(TROUBLE_TAKEN, other);
            } else {
                one.waitsFor = its;
            }
        }

        private int find(int file) {
            for (int k = 0; k < size; k++) {
                if (all[k].file == file) {
                    return k;
                }
            }
            return NONE;
        }

        void findSteps() {
            if (troubles > 0) {
                return;
            }
            for (int i = 0; i < MOST_STEPS; i++) {
                int k = leastThatCanGo();
                if (k != NONE) {
                    addStep(k, false);
                    all[k].isThere = true;
                } else {
                    k = leastToSpare();
                    if (k == NONE) {
                        return;
                    }
                    addStep(k, true);
                    all[k].isSpared = true;
                }
            }
        }

        private void addStep(int k, boolean spare) {
            stepOf[stepCount] = k;
            toSpare[stepCount] = spare;
            fromSpare[stepCount] = all[k].isSpared;
            stepCount++;
        }

        // No two planned files get places alike here, so whoever lay at a new place at first
        // is the only one that can ever be in the way.
        private boolean canGo(int k) {
            int other = all[k].waitsFor;
            return all[k].isLeft() && (!hasPlanned(other) || all[other].hasLeftOldPlace());
        }

        private int leastThatCanGo() {
            int least = NONE;
            for (int k = 0; k < size; k++) {
                if (canGo(k) && (least == NONE || all[k].file < all[least].file)) {
                    least = k;
                }
            }
            return least;
        }

        private int leastToSpare() {
            int least = NONE;
            for (int k = 0; k < size; k++) {
                boolean may = all[k].isLeft() && !all[k].isSpared;
                if (may && (least == NONE || all[k].file < all[least].file)) {
                    least = k;
                }
            }
            return least;
        }

        boolean hasStep(int i) {
            return i >= 0 && i < stepCount;
        }

        // The five below only for a step that hasStep() knows.

        int fileOfStep(int i) {
            return all[stepOf[i]].file;
        }

        boolean goesToSpare(int i) {
            return toSpare[i];
        }

        boolean comesFromSpare(int i) {
            return fromSpare[i];
        }

        Place startOfStep(int i) {
            Planned one = all[stepOf[i]];
            return fromSpare[i] ? one.spare : one.old;
        }

        Place goalOfStep(int i) {
            Planned one = all[stepOf[i]];
            return toSpare[i] ? one.spare : one.fresh;
        }
    }
}
