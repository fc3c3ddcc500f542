import java.util.Arrays;

/** A parcel shop: shelves, codes, a counter, bins for returns and a courier. */
public final class ParcelShelves {
    public static final int NO_SUCH = -1;
    public static final int BAD_VALUE = -2;
    public static final int NOT_POSSIBLE = -3;
    public static final int LIMIT = -4;
    public static final int BAD_TEXT = -5;
    public static final int NONE = -6;
    public static final int WRONG = -7;

    private static final int LAST_DAY = 9999;
    private static final int DAYS_AT_ONCE = 30;
    private static final int LAST_CODE = 9999;

    private static final int SHELVES = 6;
    private static final int PLACES_OF_SHELF = 8;
    private static final int PLACES = SHELVES * PLACES_OF_SHELF;
    private static final int SHELVES_OF_SIZE = 2;
    private static final int SIZES = 3;
    private static final int WEEKDAYS = 7;
    private static final int CODES = WEEKDAYS * PLACES;
    private static final int SENDERS = 10;
    private static final int BIN_ROOM = 9;

    private static final int REST = 0;
    private static final int FREE_NIGHTS = 1;
    private static final int RATE = 2;
    private static final int KEEPING = 3;
    private static final int LEAST_NUMBER = 4;
    private static final int SETTINGS = 5;
    private static final int[] LOWEST = {0, 0, 0, 1, 1};
    private static final int[] HIGHEST = {20, 9, 50, 20, 9};
    private static final int[] AT_BEGINNING = {5, 2, 10, 7, 2};

    private static final int COURIER_DAYS = 3;
    private static final int RATES_WHEN_DUE = 4;
    private static final int RATES_WHEN_CALLED = 6;
    private static final int WRONG_CODES_TO_LOCK = 3;
    private static final int DAYS_OF_FEE_AHEAD = 99;
    private static final int DAYS_OF_GOING_AHEAD = 60;

    private static final int REASON_NO_PLACE = 1;
    private static final int REASON_LOCKED = 2;
    private static final int REASON_BIN_FULL = 3;
    private static final int REASON_NO_PARCEL = 4;
    private static final int BEHIND_CODES_REST = 5;
    private static final int BEHIND_ALL_TAKEN = 6;

    /** What a search for a place answers if it finds none. */
    private static final int NOWHERE = -1;

    private final Shop now;
    private final Shop saved;
    /** The predictions let days begin in this one, so that they change nothing. */
    private final Shop ahead;
    private final History history;
    private final Text text;
    private boolean isSaved;
    private int reason;
    private int behind;

    public ParcelShelves() {
        now = new Shop();
        saved = new Shop();
        ahead = new Shop();
        history = new History();
        text = new Text();
        isSaved = false;
        reason = NONE;
        behind = NONE;
    }

    // ---- settings

    public int set(int setting, int value) {
        history.prepare(now);
        return recorded(changeSetting(setting, value));
    }

    public int setting(int setting) {
        if (!isWithin(setting, 0, SETTINGS - 1)) {
            return BAD_VALUE;
        }
        return now.settings[setting];
    }

    // ---- parcels

    public int come(int sender, int size) {
        history.prepare(now);
        return recorded(letCome(sender, size));
    }

    public int fetch(int code) {
        history.prepare(now);
        return recorded(letFetch(code));
    }

    public int refuse(int code) {
        history.prepare(now);
        return recorded(letRefuse(code));
    }

    public int move(int code, int shelf) {
        history.prepare(now);
        return recorded(moveParcel(code, shelf));
    }

    public int pass(int days) {
        history.prepare(now);
        return recorded(letPass(days));
    }

    public int call(int sender) {
        history.prepare(now);
        return recorded(callCourier(sender));
    }

    // ---- asking

    public int day() {
        return now.today;
    }

    public int parcel(int code, int part) {
        int at = now.placeWith(code);
        if (at == NOWHERE) {
            return NO_SUCH;
        }
        switch (part) {
            case 0:
                return now.senders[at];
            case 1:
                return now.sizes[at];
            case 2:
                return now.cameOn[at];
            case 3:
                return at / PLACES_OF_SHELF;
            case 4:
                return at % PLACES_OF_SHELF;
            case 5:
                return now.feeAfter(at, 0);
            default:
                return BAD_VALUE;
        }
    }

    public int codeAt(int shelf, int place) {
        if (!isPlace(shelf, place)) {
            return NO_SUCH;
        }
        int at = shelf * PLACES_OF_SHELF + place;
        return now.isFree(at) ? NONE : now.codeOn(at);
    }

    public int shelf(int shelf, int part) {
        if (!isWithin(shelf, 0, SHELVES - 1)) {
            return NO_SUCH;
        }
        switch (part) {
            case 0:
                return sizeOfShelf(shelf);
            case 1:
                return now.parcelsOnShelf(shelf);
            case 2:
                return now.restingOnShelf(shelf);
            default:
                return BAD_VALUE;
        }
    }

    public int sender(int sender, int part) {
        if (!isWithin(sender, 0, SENDERS - 1)) {
            return NO_SUCH;
        }
        switch (part) {
            case 0:
                return now.parcelsOfSender(sender);
            case 1:
                return now.bins[sender];
            case 2:
                return now.charged[sender];
            case 3:
                return now.fetched[sender];
            case 4:
                return now.taken[sender];
            default:
                return BAD_VALUE;
        }
    }

    public int total(int what) {
        switch (what) {
            case 0:
                return now.parcelsOnShelves();
            case 1:
                return sum(now.bins);
            case 2:
                return now.cameSoFar;
            case 3:
                return sum(now.fetched);
            case 4:
                return sum(now.taken);
            case 5:
                return now.feesPaid;
            case 6:
                return sum(now.charged);
            case 7:
                return now.wrongCodes;
            case 8:
                return now.isLocked() ? 1 : 0;
            case 9:
                return now.feesOnShelves();
            default:
                return BAD_VALUE;
        }
    }

    public int refusal(int part) {
        switch (part) {
            case 0:
                return reason;
            case 1:
                return behind;
            default:
                return BAD_VALUE;
        }
    }

    // ---- codes

    public int isCode(int code) {
        if (!isWithin(code, 0, LAST_CODE)) {
            return BAD_VALUE;
        }
        return indexOfCode(code) >= 0 ? 1 : 0;
    }

    public int codeOf(int day, int shelf, int place) {
        if (!isPlace(shelf, place)) {
            return NO_SUCH;
        }
        if (!isWithin(day, 0, LAST_DAY)) {
            return BAD_VALUE;
        }
        return codeFor(weekdayOf(day), shelf * PLACES_OF_SHELF + place);
    }

    public int restsUntil(int code) {
        if (!isWithin(code, 0, LAST_CODE)) {
            return BAD_VALUE;
        }
        int index = indexOfCode(code);
        if (index < 0 || !now.rests(index)) {
            return NONE;
        }
        return now.leftOn[index] + now.settings[REST];
    }

    // ---- predictions; they change nothing

    public int nextCode(int size) {
        if (!isWithin(size, 0, SIZES - 1)) {
            return BAD_VALUE;
        }
        int at = now.placeToGive(firstShelfFor(size), SHELVES - 1);
        return at == NOWHERE ? NONE : codeFor(weekdayOf(now.today), at);
    }

    public int feeIn(int code, int days) {
        int at = now.placeWith(code);
        if (at == NOWHERE) {
            return NO_SUCH;
        }
        if (!isWithin(days, 0, DAYS_OF_FEE_AHEAD)) {
            return BAD_VALUE;
        }
        return now.feeAfter(at, days);
    }

    public int goesIn(int code) {
        int at = now.placeWith(code);
        if (at == NOWHERE) {
            return NO_SUCH;
        }
        ahead.copyFrom(now);
        for (int days = 1; days <= DAYS_OF_GOING_AHEAD; days++) {
            ahead.beginDay();
            if (ahead.isFree(at)) {
                return days;
            }
        }
        return NONE;
    }

    public int chargesIn(int days) {
        if (!isWithin(days, 1, DAYS_AT_ONCE)) {
            return BAD_VALUE;
        }
        ahead.copyFrom(now);
        for (int i = 0; i < days; i++) {
            ahead.beginDay();
        }
        return sum(ahead.charged) - sum(now.charged);
    }

    // ---- texts

    public int append(int code) {
        if (!isWithin(code, Text.FIRST_SIGN, Text.LAST_SIGN)) {
            return BAD_VALUE;
        }
        if (text.isFull()) {
            return LIMIT;
        }
        return text.add((char) code);
    }

    public int clearText() {
        return text.empty();
    }

    public int errorPosition() {
        return text.firstError();
    }

    public int execute() {
        if (text.firstError() != NONE) {
            return BAD_TEXT;
        }
        history.prepare(now);
        int executed = 0;
        for (int i = 0; i < text.length; i++) {
            if (text.isStartOfCommand(i)) {
                if (isError(executeCommand(i))) {
                    break;
                }
                executed++;
            }
        }
        text.empty();
        return recorded(executed);
    }

    // ---- undo, saved state

    public int undo() {
        if (history.count == 0) {
            return NOT_POSSIBLE;
        }
        return history.takeBack(now);
    }

    public int save() {
        saved.copyFrom(now);
        isSaved = true;
        return now.parcelsOnShelves();
    }

    public int restore() {
        if (!isSaved) {
            return NOT_POSSIBLE;
        }
        history.prepare(now);
        now.copyFrom(saved);
        return recorded(now.parcelsOnShelves());
    }

    // ---- what the undoable calls do; the commands of a text do the same, but record nothing

    private int changeSetting(int setting, int value) {
        if (!isWithin(setting, 0, SETTINGS - 1)) {
            return BAD_VALUE;
        }
        if (!isWithin(value, LOWEST[setting], HIGHEST[setting])) {
            return BAD_VALUE;
        }
        int previous = now.settings[setting];
        now.settings[setting] = value;
        return previous;
    }

    private int letCome(int sender, int size) {
        if (!isWithin(sender, 0, SENDERS - 1)) {
            return NO_SUCH;
        }
        if (!isWithin(size, 0, SIZES - 1)) {
            return BAD_VALUE;
        }
        int at = now.placeToGive(firstShelfFor(size), SHELVES - 1);
        if (at == NOWHERE) {
            refuseForNoPlace(firstShelfFor(size), SHELVES - 1);
            return LIMIT;
        }
        now.put(at, sender, size, now.today);
        now.cameSoFar++;
        return now.codeOn(at);
    }

    private int letFetch(int code) {
        if (!isWithin(code, 0, LAST_CODE)) {
            return BAD_VALUE;
        }
        if (now.isLocked()) {
            refuseFor(REASON_LOCKED, NONE);
            return NOT_POSSIBLE;
        }
        int at = now.placeWith(code);
        if (at == NOWHERE) {
            now.wrongCodes++;
            return WRONG;
        }
        int fee = now.feeAfter(at, 0);
        now.feesPaid += fee;
        now.fetched[now.senders[at]]++;
        now.leave(at);
        return fee;
    }

    private int letRefuse(int code) {
        int at = now.placeWith(code);
        if (at == NOWHERE) {
            refuseForNoParcel(code);
            return NO_SUCH;
        }
        int sender = now.senders[at];
        if (now.bins[sender] >= BIN_ROOM) {
            refuseFor(REASON_BIN_FULL, NONE);
            return NOT_POSSIBLE;
        }
        now.leave(at);
        now.bins[sender]++;
        return now.bins[sender];
    }

    private int moveParcel(int code, int shelf) {
        int from = now.placeWith(code);
        if (from == NOWHERE) {
            refuseForNoParcel(code);
            return NO_SUCH;
        }
        if (!isWithin(shelf, 0, SHELVES - 1)) {
            return NO_SUCH;
        }
        if (shelf == from / PLACES_OF_SHELF || sizeOfShelf(shelf) < now.sizes[from]) {
            return BAD_VALUE;
        }
        int to = now.placeToGive(shelf, shelf);
        if (to == NOWHERE) {
            refuseForNoPlace(shelf, shelf);
            return LIMIT;
        }
        now.put(to, now.senders[from], now.sizes[from], now.cameOn[from]);
        now.leave(from);
        return now.codeOn(to);
    }

    private int letPass(int days) {
        if (!isWithin(days, 1, DAYS_AT_ONCE)) {
            return BAD_VALUE;
        }
        if (now.today > LAST_DAY - days) {
            return LIMIT;
        }
        int gone = 0;
        for (int i = 0; i < days; i++) {
            gone += now.beginDay();
        }
        return gone;
    }

    private int callCourier(int sender) {
        if (!isWithin(sender, 0, SENDERS - 1)) {
            return NO_SUCH;
        }
        if (now.bins[sender] == 0) {
            return NOT_POSSIBLE;
        }
        return now.emptyBin(sender, RATES_WHEN_CALLED);
    }

    /** Only for a buffer that is a text. */
    private int executeCommand(int start) {
        switch (text.signAt(start)) {
            case 'a':
                return letCome(text.numberAt(start + 1, 1), text.sizeAt(start + 2));
            case 'p':
                return letFetch(text.numberAt(start + 1, Text.DIGITS_OF_CODE));
            case 'x':
                return letRefuse(text.numberAt(start + 1, Text.DIGITS_OF_CODE));
            case 'm':
                return moveParcel(text.numberAt(start + 1, Text.DIGITS_OF_CODE),
                        text.numberAt(start + 2 + Text.DIGITS_OF_CODE, 1));
            case 'd':
                return letPass(text.numberAt(start + 1, text.endOfCommand(start) - start - 1));
            default:
                return BAD_TEXT;
        }
    }

    // ---- records and refusals

    private int recorded(int answer) {
        if (!isError(answer)) {
            history.keepPrepared();
        }
        return answer;
    }

    private static boolean isError(int answer) {
        return isWithin(answer, BAD_TEXT, NO_SUCH);
    }

    private void refuseFor(int why, int whatLiesBehind) {
        reason = why;
        behind = whatLiesBehind;
    }

    private void refuseForNoPlace(int firstShelf, int lastShelf) {
        boolean isOneFree = now.hasFreePlace(firstShelf, lastShelf);
        refuseFor(REASON_NO_PLACE, isOneFree ? BEHIND_CODES_REST : BEHIND_ALL_TAKEN);
    }

    private void refuseForNoParcel(int code) {
        int index = indexOfCode(code);
        boolean isResting = index >= 0 && now.rests(index);
        refuseFor(REASON_NO_PARCEL, isResting ? BEHIND_CODES_REST : NONE);
    }

    // ---- numbers, shelves and codes

    private static boolean isWithin(int value, int lowest, int highest) {
        return value >= lowest && value <= highest;
    }

    private static int sum(int[] numbers) {
        int sum = 0;
        for (int number : numbers) {
            sum += number;
        }
        return sum;
    }

    private static boolean isPlace(int shelf, int place) {
        return isWithin(shelf, 0, SHELVES - 1) && isWithin(place, 0, PLACES_OF_SHELF - 1);
    }

    private static int sizeOfShelf(int shelf) {
        return shelf / SHELVES_OF_SIZE;
    }

    private static int firstShelfFor(int size) {
        return size * SHELVES_OF_SIZE;
    }

    private static int checkDigit(int weekday, int shelf, int place) {
        return (10 - (3 * weekday + shelf + 7 * place) % 10) % 10;
    }

    private static int weekdayOf(int day) {
        return day % WEEKDAYS + 1;
    }

    /** The places of all shelves are numbered on from 0, shelf by shelf. */
    private static int codeFor(int weekday, int at) {
        int shelf = at / PLACES_OF_SHELF;
        int place = at % PLACES_OF_SHELF;
        return 1000 * weekday + 100 * shelf + 10 * place + checkDigit(weekday, shelf, place);
    }

    /** The codes are numbered on from 0, weekday by weekday and place by place. */
    private static int indexFor(int weekday, int at) {
        return (weekday - 1) * PLACES + at;
    }

    /** Answers -1 for what is no code. */
    private static int indexOfCode(int code) {
        if (!isWithin(code, 0, LAST_CODE)) {
            return -1;
        }
        int weekday = code / 1000;
        int shelf = code / 100 % 10;
        int place = code / 10 % 10;
        if (!isWithin(weekday, 1, WEEKDAYS) || !isPlace(shelf, place)) {
            return -1;
        }
        if (code % 10 != checkDigit(weekday, shelf, place)) {
            return -1;
        }
        return indexFor(weekday, shelf * PLACES_OF_SHELF + place);
    }

    /** All that undo() and restore() bring back. */
    private static final class Shop {
        /** In the row of weekdays: no parcel is here. */
        static final int FREE = 0;
        /** In the row of days: no parcel has left with this code. */
        static final int NEVER = -1;

        final int[] settings = new int[SETTINGS];
        int today;
        int wrongCodes;
        int cameSoFar;
        int feesPaid;

        /** For each place the weekday in the code of its parcel; the place itself tells the rest of the code. */
        final int[] weekdays = new int[PLACES];
        final int[] senders = new int[PLACES];
        final int[] sizes = new int[PLACES];
        final int[] cameOn = new int[PLACES];

        /** For each code the latest day on which a parcel left with it. */
        final int[] leftOn = new int[CODES];

        /** Nobody asks which parcels are in a bin, so their number is enough. */
        final int[] bins = new int[SENDERS];
        final int[] charged = new int[SENDERS];
        final int[] fetched = new int[SENDERS];
        final int[] taken = new int[SENDERS];

        Shop() {
            System.arraycopy(AT_BEGINNING, 0, settings, 0, SETTINGS);
            Arrays.fill(leftOn, NEVER);
        }

        void copyFrom(Shop other) {
            today = other.today;
            wrongCodes = other.wrongCodes;
            cameSoFar = other.cameSoFar;
            feesPaid = other.feesPaid;
            System.arraycopy(other.settings, 0, settings, 0, SETTINGS);
            System.arraycopy(other.weekdays, 0, weekdays, 0, PLACES);
            System.arraycopy(other.senders, 0, senders, 0, PLACES);
            System.arraycopy(other.sizes, 0, sizes, 0, PLACES);
            System.arraycopy(other.cameOn, 0, cameOn, 0, PLACES);
            System.arraycopy(other.leftOn, 0, leftOn, 0, CODES);
            System.arraycopy(other.bins, 0, bins, 0, SENDERS);
            System.arraycopy(other.charged, 0, charged, 0, SENDERS);
            System.arraycopy(other.fetched, 0, fetched, 0, SENDERS);
            System.arraycopy(other.taken, 0, taken, 0, SENDERS);
        }

        boolean isFree(int at) {
            return weekdays[at] == FREE;
        }

        /** Only for a place with a parcel. */
        int codeOn(int at) {
            return codeFor(weekdays[at], at);
        }

        boolean isLocked() {
            return wrongCodes >= WRONG_CODES_TO_LOCK;
        }

        boolean rests(int index) {
            return leftOn[index] != NEVER && today < leftOn[index] + settings[REST];
        }

        /** Whether the code rests that a parcel would get here today. */
        boolean restsToday(int at) {
            return rests(indexFor(weekdayOf(today), at));
        }

        /** A code names its place, so there is only one place to look at. */
        int placeWith(int code) {
            int index = indexOfCode(code);
            if (index < 0) {
                return NOWHERE;
            }
            int at = index % PLACES;
            return weekdays[at] == index / PLACES + 1 ? at : NOWHERE;
        }

        /** The shelves are numbered by size, so going up by number is the order of the document. */
        int placeToGive(int firstShelf, int lastShelf) {
            int end = (lastShelf + 1) * PLACES_OF_SHELF;
            for (int at = firstShelf * PLACES_OF_SHELF; at < end; at++) {
                if (isFree(at) && !restsToday(at)) {
                    return at;
                }
            }
            return NOWHERE;
        }

        boolean hasFreePlace(int firstShelf, int lastShelf) {
            int end = (lastShelf + 1) * PLACES_OF_SHELF;
            for (int at = firstShelf * PLACES_OF_SHELF; at < end; at++) {
                if (isFree(at)) {
                    return true;
                }
            }
            return false;
        }

        void put(int at, int sender, int size, int dayItCame) {
            weekdays[at] = weekdayOf(today);
            senders[at] = sender;
            sizes[at] = size;
            cameOn[at] = dayItCame;
        }

        void leave(int at) {
            if (weekdays[at] != FREE) {
                leftOn[indexFor(weekdays[at], at)] = today;
                weekdays[at] = FREE;
            }
        }

        int feeAfter(int at, int days) {
            int nights = today + days - cameOn[at];
            int paidNights = Math.max(0, nights - settings[FREE_NIGHTS]);
            return (sizes[at] + 1) * settings[RATE] * paidNights;
        }

        /** Answers how many parcels go into bins. */
        int beginDay() {
            today++;
            wrongCodes = 0;
            if (today % COURIER_DAYS == 0) {
                letCourierCome();
            }
            return returnParcelsKeptTooLong();
        }

        private void letCourierCome() {
            for (int sender = 0; sender < SENDERS; sender++) {
                if (bins[sender] >= settings[LEAST_NUMBER]) {
                    emptyBin(sender, RATES_WHEN_DUE);
                }
            }
        }

        int emptyBin(int sender, int ratesForEach) {
            int charge = ratesForEach * settings[RATE] * bins[sender];
            charged[sender] += charge;
            taken[sender] += bins[sender];
            bins[sender] = 0;
            return charge;
        }

        private int returnParcelsKeptTooLong() {
            int gone = 0;
            for (int at = 0; at < PLACES; at++) {
                if (isKeptTooLong(at) && bins[senders[at]] < BIN_ROOM) {
                    bins[senders[at]]++;
                    leave(at);
                    gone++;
                }
            }
            return gone;
        }

        private boolean isKeptTooLong(int at) {
            return weekdays[at] != FREE && today - cameOn[at] > settings[KEEPING];
        }

        int parcelsOnShelves() {
            int parcels = 0;
            for (int shelf = 0; shelf < SHELVES; shelf++) {
                parcels += parcelsOnShelf(shelf);
            }
            return parcels;
        }

        int parcelsOnShelf(int shelf) {
            int parcels = 0;
            for (int place = 0; place < PLACES_OF_SHELF; place++) {
                if (!isFree(shelf * PLACES_OF_SHELF + place)) {
                    parcels++;
                }
            }
            return parcels;
        }

        int restingOnShelf(int shelf) {
            int resting = 0;
            for (int place = 0; place < PLACES_OF_SHELF; place++) {
                int at = shelf * PLACES_OF_SHELF + place;
                if (isFree(at) && restsToday(at)) {
                    resting++;
                }
            }
            return resting;
        }

        int parcelsOfSender(int sender) {
            int parcels = 0;
            for (int at = 0; at < PLACES; at++) {
                if (!isFree(at) && senders[at] == sender) {
                    parcels++;
                }
            }
            return parcels;
        }

        int feesOnShelves() {
            int fees = 0;
            for (int at = 0; at < PLACES; at++) {
                if (!isFree(at)) {
                    fees += feeAfter(at, 0);
                }
            }
            return fees;
        }
    }

    /** The recorded states, in a ring of rows that are used again and again. */
    private static final class History {
        static final int MOST = 5;
        /** One more than are kept: the state ahead of a call must not cost the oldest if the call fails. */
        static final int ROWS = MOST + 1;

        final Shop[] rows = new Shop[ROWS];
        int oldest;
        int count;

        History() {
            for (int i = 0; i < ROWS; i++) {
                rows[i] = new Shop();
            }
        }

        void prepare(Shop shop) {
            rows[(oldest + count) % ROWS].copyFrom(shop);
        }

        void keepPrepared() {
            if (count < MOST) {
                count++;
            } else {
                oldest = (oldest + 1) % ROWS;
            }
        }

        /** Only if a state is recorded; answers how many remain. */
        int takeBack(Shop shop) {
            count--;
            shop.copyFrom(rows[(oldest + count) % ROWS]);
            return count;
        }
    }

    /** The buffer and its grammar. */
    private static final class Text {
        static final int ROOM = 80;
        static final int FIRST_SIGN = 33;
        static final int LAST_SIGN = 126;
        static final int DIGITS_OF_CODE = 4;

        /** What may come next; from FETCH_CODE and MOVE_CODE on there is one phase for each digit. */
        static final int COMMAND = 0;
        static final int SENDER = 1;
        static final int SIZE = 2;
        static final int NUMBER = 3;
        static final int DIGIT_OR_END = 4;
        static final int ZERO_OR_END = 5;
        static final int END = 6;
        static final int FETCH_CODE = 10;
        static final int MOVE_CODE = 20;
        static final int ARROW = MOVE_CODE + DIGITS_OF_CODE;
        static final int SHELF = ARROW + 1;
        static final int ERROR = -1;

        final char[] signs = new char[ROOM];
        int length;

        boolean isFull() {
            return length >= ROOM;
        }

        int add(char sign) {
            if (length < ROOM) {
                signs[length] = sign;
                length++;
            }
            return length;
        }

        int empty() {
            int before = length;
            length = 0;
            return before;
        }

        char signAt(int index) {
            return isWithin(index, 0, length - 1) ? signs[index] : 0;
        }

        int firstError() {
            int phase = COMMAND;
            for (int i = 0; i < length; i++) {
                phase = phaseAfter(phase, signAt(i));
                if (phase == ERROR) {
                    return i;
                }
            }
            return isEndAllowed(phase) ? NONE : length;
        }

        private static boolean isEndAllowed(int phase) {
            return phase == END || phase == DIGIT_OR_END || phase == ZERO_OR_END;
        }

        private static int phaseAfter(int phase, char sign) {
            if (isEndAllowed(phase) && sign == ';') {
                return COMMAND;
            }
            switch (phase) {
                case COMMAND:
                    return phaseAfterLetter(sign);
                case SENDER:
                    return isDigit(sign) ? SIZE : ERROR;
                case SIZE:
                    return sizeOf(sign) >= 0 ? END : ERROR;
                case NUMBER:
                    return phaseAfterFirstDigit(sign);
                case DIGIT_OR_END:
                    return isDigit(sign) ? END : ERROR;
                case ZERO_OR_END:
                    return sign == '0' ? END : ERROR;
                case ARROW:
                    return sign == '>' ? SHELF : ERROR;
                case SHELF:
                    return isWithin(sign, '0', '0' + SHELVES - 1) ? END : ERROR;
                default:
                    return phaseInCode(phase, sign);
            }
        }

        private static int phaseAfterLetter(char letter) {
            switch (letter) {
                case 'a':
                    return SENDER;
                case 'p':
                case 'x':
                    return FETCH_CODE;
                case 'm':
                    return MOVE_CODE;
                case 'd':
                    return NUMBER;
                default:
                    return ERROR;
            }
        }

        /** A number is at most 30: after 1 and 2 any digit, after 3 only a 0, after 4 to 9 none. */
        private static int phaseAfterFirstDigit(char sign) {
            if (sign == '1' || sign == '2') {
                return DIGIT_OR_END;
            }
            if (sign == '3') {
                return ZERO_OR_END;
            }
            return isWithin(sign, '4', '9') ? END : ERROR;
        }

        private static int phaseInCode(int phase, char sign) {
            if (phase == END || !isDigit(sign)) {
                return ERROR;
            }
            return phase == FETCH_CODE + DIGITS_OF_CODE - 1 ? END : phase + 1;
        }

        private static boolean isDigit(char sign) {
            return isWithin(sign, '0', '9');
        }

        private static int sizeOf(char sign) {
            switch (sign) {
                case 's':
                    return 0;
                case 'm':
                    return 1;
                case 'l':
                    return 2;
                default:
                    return -1;
            }
        }

        int sizeAt(int index) {
            return sizeOf(signAt(index));
        }

        int numberAt(int start, int digits) {
            int number = 0;
            for (int i = start; i < start + digits; i++) {
                number = 10 * number + signAt(i) - '0';
            }
            return number;
        }

        boolean isStartOfCommand(int index) {
            return index == 0 || signAt(index - 1) == ';';
        }

        /** The index of the next semicolon, or of the end of the buffer. */
        int endOfCommand(int start) {
            int end = start;
            while (end < length && signAt(end) != ';') {
                end++;
            }
            return end;
        }
    }
}
