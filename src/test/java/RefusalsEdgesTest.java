/** The edges that 'Terms' names of error codes, of calls that change nothing, and of refusals. */
public final class RefusalsEdgesTest {
    private static final Checks C = new Checks("RefusalsEdgesTest");
    private static final int NO_SUCH = -1;
    private static final int BAD_VALUE = -2;
    private static final int NOT_POSSIBLE = -3;
    private static final int LIMIT = -4;
    private static final int BAD_TEXT = -5;
    private static final int NONE = -6;

    private interface Refused {
        int call(ParcelShelves shop);
    }

    public static void main(String[] args) {
        theFirstErrorCodeOfComeApplies();
        theFirstErrorCodeOfFetchApplies();
        theFirstErrorCodeOfMoveApplies();
        theFirstErrorCodeOfPassApplies();
        theFirstErrorCodeOfTheOthersApplies();
        aCallThatReturnsAnErrorCodeChangesNothing();
        onTheLastDayPassChangesNothing();
        aRefusedCallOfTheFullShopChangesNothing();
        aRefusedRestoreOrUndoChangesNothing();
        theBeginningHasNoRefusal();
        reason1ForOneWhoComes();
        reason1BehindItIsOfTheShelvesThatAreAskedFor();
        reason1ForOneWhoIsMoved();
        reason2NothingLiesBehind();
        reason3NothingLiesBehind();
        reason4RestsUntilItsLastDay();
        reason4OfMoveIsThereWhetherThereIsSuchAShelfOrNot();
        reason4OfNumbersThatAreNoCodes();
        otherErrorsLeaveTheLatestRefusal();
        methodsThatAreNotUndoableLeaveTheLatestRefusal();
        theLatestRefusalCounts();
        theRefusalIsNotPartOfTheState();
        aCallThatSucceedsLeavesTheRefusal();
        C.end();
    }

    private static void refusal(ParcelShelves s, String after, int reason, int behind) {
        C.due("refusal(0) after " + after, s.refusal(0), reason);
        C.due("refusal(1) after " + after, s.refusal(1), behind);
    }

    private static void theFirstErrorCodeOfComeApplies() {
        ParcelShelves s = new ParcelShelves();
        Checks.comeOften(s, 48, 0, 0);
        C.due("no sender, no size, no place", s.come(10, 3), NO_SUCH);
        C.due("no sender, no place", s.come(-1, 0), NO_SUCH);
        C.due("no size, no place", s.come(0, 3), BAD_VALUE);
        C.due("no size, no place", s.come(0, -1), BAD_VALUE);
        refusal(s, "none of the kinds", NONE, NONE);
        C.due("no place", s.come(0, 0), LIMIT);
    }

    private static void theFirstErrorCodeOfFetchApplies() {
        ParcelShelves s = new ParcelShelves();
        Checks.run(s, "p0001;p0002;p0003");
        C.due("out of range, locked", s.fetch(10000), BAD_VALUE);
        C.due("out of range, locked", s.fetch(-1), BAD_VALUE);
        refusal(s, "out of range", NONE, NONE);
        C.due("locked, wrong", s.fetch(9999), NOT_POSSIBLE);
        C.due("locked, wrong", s.fetch(0), NOT_POSSIBLE);
        refusal(s, "locked", 2, NONE);
    }

    private static void theFirstErrorCodeOfMoveApplies() {
        ParcelShelves s = new ParcelShelves();
        Checks.comeOften(s, 48, 0, 0);
        C.due("no parcel, no shelf", s.move(1008, 6), NO_SUCH);
        C.due("no shelf", s.move(1007, 6), NO_SUCH);
        C.due("its own shelf, which is full", s.move(1007, 0), BAD_VALUE);
        C.due("a full shelf", s.move(1007, 1), LIMIT);
        s = new ParcelShelves();
        Checks.comeOften(s, 16, 0, 0);
        int large = s.come(0, 2);
        C.due("a full shelf on which it does not fit", s.move(large, 0), BAD_VALUE);
        C.due("an empty shelf on which it does not fit", s.move(large, 3), BAD_VALUE);
        refusal(s, "what does not fit", NONE, NONE);
    }

    private static void theFirstErrorCodeOfPassApplies() {
        ParcelShelves s = new ParcelShelves();
        Checks.passDays(s, 9999);
        C.due("out of range on the last day", s.pass(31), BAD_VALUE);
        C.due("out of range on the last day", s.pass(0), BAD_VALUE);
        C.due("out of range on the last day", s.pass(Integer.MAX_VALUE), BAD_VALUE);
        C.due("the last day", s.pass(1), LIMIT);
        refusal(s, "the last day", NONE, NONE);
    }

    private static void theFirstErrorCodeOfTheOthersApplies() {
        ParcelShelves s = new ParcelShelves();
        C.due("no parcel, no part", s.parcel(1007, 6), NO_SUCH);
        C.due("no shelf, no part", s.shelf(6, 3), NO_SUCH);
        C.due("no shelf, no part", s.shelf(-1, -1), NO_SUCH);
        C.due("no sender, no part", s.sender(10, 5), NO_SUCH);
        C.due("no sender, no part", s.sender(-1, -1), NO_SUCH);
        C.due("no day, no shelf", s.codeOf(10000, 6, 0), NO_SUCH);
        C.due("no day, no place", s.codeOf(-1, 0, 8), NO_SUCH);
        C.due("no parcel, no days", s.feeIn(1007, 100), NO_SUCH);
        C.due("no parcel, no days", s.feeIn(1007, -1), NO_SUCH);
        for (int i = 0; i < 80; i++) {
            s.append('a');
        }
        C.due("no sign, no room", s.append(127), BAD_VALUE);
        C.due("no sign, no room", s.append(32), BAD_VALUE);
        C.due("no room", s.append(33), LIMIT);
    }

    /** Something of all kinds: parcels, bins, rests, wrong codes, six records, a saved state, a buffer. */
    private static void busy(ParcelShelves s) {
        s.set(0, 9);
        Checks.comeOften(s, 6, 2, 1);
        s.come(3, 2);
        s.refuse(Checks.code(0, 2, 0));
        s.pass(1);
        s.save();
        Checks.fillBin(s, 5, 9);
        s.fetch(Checks.code(0, 2, 1));
        s.set(2, 20);
        s.fetch(1);
        s.fetch(2);
        s.come(5, 0);
        s.refuse(s.codeAt(1, 1));
        Checks.write(s, "d1;p");
    }

    /** After the call all must be as before it; the refusal that is due is set on both sides by the busy shop. */
    private static void changesNothing(String call, int answer, Picture.Story before, Refused refused) {
        ParcelShelves s = new ParcelShelves();
        before.tell(s);
        C.due(call, refused.call(s), answer);
        C.alike(call, shop -> {
            before.tell(shop);
            refused.call(shop);
        }, before);
    }

    private static void aCallThatReturnsAnErrorCodeChangesNothing() {
        Picture.Story busy = RefusalsEdgesTest::busy;
        changesNothing("set(5, 1)", BAD_VALUE, busy, s -> s.set(5, 1));
        changesNothing("set(3, 0)", BAD_VALUE, busy, s -> s.set(3, 0));
        changesNothing("set(0, 21)", BAD_VALUE, busy, s -> s.set(0, 21));
        changesNothing("come(10, 0)", NO_SUCH, busy, s -> s.come(10, 0));
        changesNothing("come(0, 3)", BAD_VALUE, busy, s -> s.come(0, 3));
        changesNothing("fetch(10000)", BAD_VALUE, busy, s -> s.fetch(10000));
        changesNothing("fetch(-1)", BAD_VALUE, busy, s -> s.fetch(-1));
        changesNothing("move to shelf 6", NO_SUCH, busy, s -> s.move(s.codeAt(4, 0), 6));
        changesNothing("move to its shelf", BAD_VALUE, busy, s -> s.move(s.codeAt(4, 0), 4));
        changesNothing("move to a smaller shelf", BAD_VALUE, busy, s -> s.move(s.codeAt(4, 0), 3));
        changesNothing("pass(0)", BAD_VALUE, busy, s -> s.pass(0));
        changesNothing("pass(31)", BAD_VALUE, busy, s -> s.pass(31));
        changesNothing("call(10)", NO_SUCH, busy, s -> s.call(10));
        changesNothing("call of an empty bin", NOT_POSSIBLE, busy, s -> s.call(9));
        changesNothing("append(32)", BAD_VALUE, busy, s -> s.append(32));
        changesNothing("execute of no text", BAD_TEXT, busy, s -> s.execute());
        changesNothing("parcel of no parcel", NO_SUCH, busy, s -> s.parcel(1, 0));
        changesNothing("feeIn of no parcel", NO_SUCH, busy, s -> s.feeIn(1, 0));
        changesNothing("goesIn of no parcel", NO_SUCH, busy, s -> s.goesIn(1));
        changesNothing("chargesIn(31)", BAD_VALUE, busy, s -> s.chargesIn(31));
        Picture.Story none = s -> {
            busy(s);
            s.refuse(1);
        };
        changesNothing("refuse of no parcel", NO_SUCH, none, s -> s.refuse(1));
        changesNothing("move of no parcel", NO_SUCH, none, s -> s.move(1, 5));
        Picture.Story full = s -> {
            busy(s);
            s.refuse(s.codeAt(1, 1));
        };
        changesNothing("refuse into a full bin", NOT_POSSIBLE, full, s -> s.refuse(s.codeAt(1, 1)));
        Picture.Story locked = s -> {
            busy(s);
            s.fetch(3);
            s.fetch(4);
        };
        changesNothing("fetch at a locked counter", NOT_POSSIBLE, locked, s -> s.fetch(s.codeAt(4, 0)));
        changesNothing("fetch of a wrong code there", NOT_POSSIBLE, locked, s -> s.fetch(5));
    }

    private static void onTheLastDayPassChangesNothing() {
        Picture.Story last = s -> {
            Checks.passDays(s, 9970);
            busy(s);
            s.pass(20);
            Checks.comeOften(s, 3, 1, 2);
        };
        changesNothing("pass(9)", LIMIT, last, s -> s.pass(9));
        changesNothing("pass(30)", LIMIT, last, s -> s.pass(30));
    }

    private static void aRefusedCallOfTheFullShopChangesNothing() {
        Picture.Story full = s -> {
            Checks.comeOften(s, 48, 7, 0);
            s.come(0, 0);
            for (int i = 0; i < 80; i++) {
                s.append("d1;".charAt(i % 3));
            }
        };
        changesNothing("come without a place", LIMIT, full, s -> s.come(0, 0));
        changesNothing("come of a large one", LIMIT, full, s -> s.come(0, 2));
        changesNothing("move without a place", LIMIT, full, s -> s.move(1007, 5));
        changesNothing("append without room", LIMIT, full, s -> s.append(';'));
    }

    private static void aRefusedRestoreOrUndoChangesNothing() {
        Picture.Story unsaved = s -> {
            s.come(1, 1);
            Checks.write(s, "x");
        };
        changesNothing("restore without a saved state", NOT_POSSIBLE, unsaved, s -> s.restore());
        Picture.Story undone = s -> {
            busy(s);
            for (int i = 0; i < 5; i++) {
                s.undo();
            }
        };
        changesNothing("undo without a record", NOT_POSSIBLE, undone, s -> s.undo());
        changesNothing("undo of a new shop", NOT_POSSIBLE, s -> s.day(), s -> s.undo());
    }

    private static void theBeginningHasNoRefusal() {
        refusal(new ParcelShelves(), "nothing", NONE, NONE);
    }

    /** Behind it is 6 with no free place, 5 with one that rests, and none with one that does not. */
    private static void reason1ForOneWhoComes() {
        ParcelShelves s = new ParcelShelves();
        Checks.comeOften(s, 48, 0, 0);
        C.due("no free place", s.come(0, 0), LIMIT);
        refusal(s, "no free place", 1, 6);
        s.fetch(Checks.code(0, 3, 4));
        C.due("one free place, which rests", s.come(0, 0), LIMIT);
        refusal(s, "one free place", 1, 5);
        s.set(0, 0);
        C.due("it does not rest", s.come(0, 0), Checks.code(0, 3, 4));
        C.due("no free place", s.come(0, 1), LIMIT);
        refusal(s, "no free place again", 1, 6);

        s = new ParcelShelves();
        for (int i = 0; i < 48; i++) {
            s.fetch(s.come(0, 0));
        }
        C.due("48 free places, all rest", s.come(0, 0), LIMIT);
        refusal(s, "48 free places", 1, 5);
        s.pass(1);
        C.due("codes of the next day", s.come(0, 0), Checks.code(1, 0, 0));
    }

    private static void reason1BehindItIsOfTheShelvesThatAreAskedFor() {
        ParcelShelves s = new ParcelShelves();
        Checks.comeOften(s, 16, 0, 2);
        C.due("large; middle and small places are free", s.come(0, 2), LIMIT);
        refusal(s, "large, all taken", 1, 6);
        s.fetch(s.come(0, 1));
        C.due("large; a middle place rests", s.come(0, 2), LIMIT);
        refusal(s, "large, a smaller one rests", 1, 6);
        Checks.comeOften(s, 15, 0, 1);
        C.due("middle; one middle place rests", s.come(0, 1), LIMIT);
        refusal(s, "middle, one rests", 1, 5);
        C.due("large still", s.come(0, 2), LIMIT);
        refusal(s, "large, all taken", 1, 6);
        s.fetch(Checks.code(0, 5, 7));
        C.due("the last place of all rests", s.come(0, 2), LIMIT);
        refusal(s, "the last place", 1, 5);
    }

    /** Only the shelf that is asked for counts, and neither the one below nor the one above it. */
    private static void reason1ForOneWhoIsMoved() {
        ParcelShelves s = new ParcelShelves();
        Checks.comeOften(s, 48, 0, 0);
        s.fetch(Checks.code(0, 2, 7));
        s.fetch(Checks.code(0, 4, 0));
        C.due("all 8 places taken", s.move(1007, 3), LIMIT);
        refusal(s, "8 places taken", 1, 6);
        C.due("one place rests, the last", s.move(1007, 2), LIMIT);
        refusal(s, "the last place rests", 1, 5);
        C.due("one place rests, the first", s.move(1007, 4), LIMIT);
        refusal(s, "the first place rests", 1, 5);
        C.due("all 8 places taken", s.move(1007, 5), LIMIT);
        refusal(s, "8 places taken", 1, 6);
        s.set(0, 0);
        C.due("the first place rests no more", s.move(1007, 4), Checks.code(0, 4, 0));
        C.due("the last place rests no more", s.move(1010, 2), Checks.code(0, 2, 7));
    }

    private static void reason2NothingLiesBehind() {
        ParcelShelves s = new ParcelShelves();
        int code = s.come(0, 0);
        s.refuse(code);
        s.refuse(code);
        refusal(s, "a code that rests", 4, 5);
        s.fetch(1);
        s.fetch(2);
        s.fetch(3);
        refusal(s, "three wrong codes", 4, 5);
        C.due("locked", s.fetch(code), NOT_POSSIBLE);
        refusal(s, "a locked counter", 2, NONE);
    }

    private static void reason3NothingLiesBehind() {
        ParcelShelves s = new ParcelShelves();
        Checks.fillBin(s, 0, 9);
        int code = s.come(0, 0);
        s.refuse(1007);
        refusal(s, "a code that rests", 4, 5);
        C.due("full", s.refuse(code), NOT_POSSIBLE);
        refusal(s, "a full bin", 3, NONE);
    }

    private static void reason4RestsUntilItsLastDay() {
        ParcelShelves s = new ParcelShelves();
        s.come(0, 0);
        s.pass(2);
        s.fetch(1007);
        s.pass(4);
        C.due("day 6", s.refuse(1007), NO_SUCH);
        refusal(s, "refuse on day 6", 4, 5);
        s.pass(1);
        C.due("day 7", s.refuse(1007), NO_SUCH);
        refusal(s, "refuse on day 7", 4, NONE);
        s.undo();
        C.due("day 6", s.move(1007, 1), NO_SUCH);
        refusal(s, "move on day 6", 4, 5);
        s.pass(1);
        C.due("day 7", s.move(1007, 1), NO_SUCH);
        refusal(s, "move on day 7", 4, NONE);
    }

    private static void reason4OfMoveIsThereWhetherThereIsSuchAShelfOrNot() {
        int[] shelves = {-1, 0, 5, 6, Integer.MIN_VALUE, Integer.MAX_VALUE};
        for (int shelf : shelves) {
            ParcelShelves s = new ParcelShelves();
            s.fetch(s.come(0, 0));
            C.due("move(1007, " + shelf + ")", s.move(1007, shelf), NO_SUCH);
            refusal(s, "move(1007, " + shelf + ")", 4, 5);
            C.due("move(1010, " + shelf + ")", s.move(1010, shelf), NO_SUCH);
            refusal(s, "move(1010, " + shelf + ")", 4, NONE);
        }
        ParcelShelves s = new ParcelShelves();
        s.come(0, 0);
        C.due("a parcel, but no shelf", s.move(1007, 6), NO_SUCH);
        refusal(s, "a parcel, but no shelf", NONE, NONE);
    }

    private static void reason4OfNumbersThatAreNoCodes() {
        int[] numbers = {Integer.MIN_VALUE, -1, 0, 1008, 8888, 9999, 10000, 11007, Integer.MAX_VALUE};
        for (int number : numbers) {
            ParcelShelves s = new ParcelShelves();
            s.fetch(s.come(0, 0));
            s.refuse(1007);
            C.due("refuse(" + number + ")", s.refuse(number), NO_SUCH);
            refusal(s, "refuse(" + number + ")", 4, NONE);
            s.refuse(1007);
            C.due("move(" + number + ", 1)", s.move(number, 1), NO_SUCH);
            refusal(s, "move(" + number + ", 1)", 4, NONE);
        }
    }

    private static void otherErrorsLeaveTheLatestRefusal() {
        Refused[] others = {s -> s.set(5, 1), s -> s.set(0, 21), s -> s.come(10, 0), s -> s.come(0, 3),
            s -> s.fetch(10000), s -> s.move(s.codeAt(0, 1), 6), s -> s.move(s.codeAt(0, 1), 0), s -> s.pass(0),
            s -> s.pass(31), s -> s.call(10), s -> s.call(0), s -> s.execute(), s -> s.restore()};
        for (int i = 0; i < others.length; i++) {
            ParcelShelves s = new ParcelShelves();
            Checks.comeOften(s, 2, 0, 0);
            s.fetch(1007);
            refusal(s, "nothing", NONE, NONE);
            C.due("an error code, call " + i, others[i].call(s) < 0 ? 1 : 0, 1);
            refusal(s, "other call " + i, NONE, NONE);
            s.refuse(1007);
            others[i].call(s);
            refusal(s, "a refusal and other call " + i, 4, 5);
        }
    }

    /** Their error codes are those of a refusal, but they are not marked "Undoable.". */
    private static void methodsThatAreNotUndoableLeaveTheLatestRefusal() {
        Refused[] others = {s -> s.parcel(1010, 0), s -> s.feeIn(1010, 0), s -> s.goesIn(1010), s -> s.nextCode(2),
            s -> s.codeAt(6, 0), s -> s.shelf(6, 0), s -> s.sender(10, 0), s -> s.total(10), s -> s.isCode(10000),
            s -> s.codeOf(0, 6, 0), s -> s.restsUntil(10000), s -> s.chargesIn(0), s -> s.append(32),
            s -> s.setting(5), s -> s.refusal(2)};
        for (int i = 0; i < others.length; i++) {
            ParcelShelves s = new ParcelShelves();
            Checks.comeOften(s, 16, 0, 2);
            C.due("an error code or none, call " + i, others[i].call(s) < 0 ? 1 : 0, 1);
            refusal(s, "other call " + i, NONE, NONE);
            s.come(0, 2);
            others[i].call(s);
            refusal(s, "a refusal and other call " + i, 1, 6);
        }
        ParcelShelves s = new ParcelShelves();
        s.refuse(1);
        s.undo();
        refusal(s, "undo without a record", 4, NONE);
    }

    private static void theLatestRefusalCounts() {
        ParcelShelves s = new ParcelShelves();
        Checks.comeOften(s, 16, 0, 2);
        s.come(0, 2);
        refusal(s, "come", 1, 6);
        s.refuse(1007);
        refusal(s, "refuse", 4, NONE);
        s.move(Checks.code(0, 4, 0), 5);
        refusal(s, "move", 1, 6);
        Checks.run(s, "p0001;p0001;p0001;p0001");
        refusal(s, "the latest command of a text", 2, NONE);
        s.move(1007, 9);
        refusal(s, "move", 4, NONE);
    }

    private static void theRefusalIsNotPartOfTheState() {
        ParcelShelves s = new ParcelShelves();
        s.come(0, 0);
        s.save();
        s.fetch(1007);
        s.refuse(1007);
        s.undo();
        refusal(s, "undo", 4, 5);
        s.restore();
        refusal(s, "restore", 4, 5);
        s.save();
        s.undo();
        s.undo();
        refusal(s, "all undone", 4, 5);
    }

    private static void aCallThatSucceedsLeavesTheRefusal() {
        ParcelShelves s = new ParcelShelves();
        s.refuse(1007);
        s.come(0, 0);
        s.move(1007, 1);
        s.refuse(s.codeAt(1, 0));
        s.call(0);
        s.fetch(1);
        s.set(0, 0);
        s.pass(30);
        Checks.run(s, "a0s;d1");
        refusal(s, "calls that succeed", 4, NONE);
    }
}
