/** The edges of undo() with its 5 kept states, of save() and of restore(). */
public final class UndoEdgesTest {
    private static final Checks C = new Checks("UndoEdgesTest");

    private interface Call {
        int call(ParcelShelves shop);
    }

    public static void main(String[] args) {
        undoNeedsARecord();
        atMost5StatesAreKept();
        recordsGoRoundManyTimes();
        anErrorCodeRecordsNothing();
        anErrorCodeDiscardsNothing();
        eachUndoableMethodRecordsOneState();
        methodsThatAreNotUndoableRecordNothing();
        aCallThatMakesNoDifferenceIsRecorded();
        aWrongCodeIsRecorded();
        undoIsNotUndone();
        eachUndoableCallIsTakenBackWhole();
        feesAndUsedPlacesComeBack();
        theBufferAndTheRefusalAreNotPartOfTheState();
        theSavedStateIsNotPartOfTheState();
        theRecordsAreNotPartOfTheState();
        saveOverwritesTheStateThatWasSavedBefore();
        saveTellsTheParcelsOnTheShelves();
        restoreNeedsASavedState();
        theSavedStateRemainsSaved();
        restoreIsUndoable();
        restoreBringsBackTheWholeState();
        C.end();
    }

    private static void undoNeedsARecord() {
        ParcelShelves s = new ParcelShelves();
        C.due("undo() of a new shop", s.undo(), -3);
        s.come(0, 0);
        C.due("one record", s.undo(), 0);
        C.due("none", s.undo(), -3);
        s.come(0, 0);
        s.come(0, 0);
        C.due("two records", s.undo(), 1);
        C.due("one", s.undo(), 0);
        C.due("none", s.undo(), -3);
        C.due("day()", s.day(), 0);
    }

    /** After n calls the oldest state that can be reached is that ahead of the call n - 5. */
    private static void atMost5StatesAreKept() {
        for (int calls = 1; calls <= 13; calls++) {
            ParcelShelves s = new ParcelShelves();
            Checks.comeOften(s, calls, 0, 0);
            int kept = Math.min(5, calls);
            for (int left = kept - 1; left >= 0; left--) {
                C.due("undo() after " + calls + " calls", s.undo(), left);
                C.due("parcels", s.total(0), calls - kept + left);
            }
            C.due("no more after " + calls + " calls", s.undo(), -3);
            C.due("parcels", s.total(0), calls - kept);
        }
    }

    private static void recordsGoRoundManyTimes() {
        ParcelShelves s = new ParcelShelves();
        int day = 0;
        for (int round = 0; round < 20; round++) {
            for (int i = 0; i < 7; i++) {
                s.pass(1);
            }
            C.due("undo()", s.undo(), 4);
            C.due("undo()", s.undo(), 3);
            day += 5;
            C.due("day()", s.day(), day);
        }
        for (int left = 2; left >= 0; left--) {
            C.due("undo()", s.undo(), left);
            C.due("day()", s.day(), day - 3 + left);
        }
        C.due("no more", s.undo(), -3);
    }

    private static final Call[] ERRORS = {s -> s.set(5, 0), s -> s.set(1, 10), s -> s.come(10, 0), s -> s.come(0, 3),
        s -> s.fetch(10000), s -> s.refuse(0), s -> s.move(0, 0), s -> s.move(1007, 6), s -> s.move(1007, 0),
        s -> s.pass(0), s -> s.pass(31), s -> s.call(10), s -> s.call(0), s -> s.execute(), s -> s.restore()};

    private static void anErrorCodeRecordsNothing() {
        for (int i = 0; i < ERRORS.length; i++) {
            ParcelShelves s = new ParcelShelves();
            s.come(0, 0);
            C.due("an error code, call " + i, ERRORS[i].call(s) < 0 ? 1 : 0, 1);
            C.due("one record after call " + i, s.undo(), 0);
            C.due("none on the shelves", s.total(0), 0);
            C.due("no more", s.undo(), -3);
        }
    }

    private static void anErrorCodeDiscardsNothing() {
        for (int i = 0; i < ERRORS.length; i++) {
            ParcelShelves s = new ParcelShelves();
            Checks.comeOften(s, 6, 0, 0);
            ERRORS[i].call(s);
            ERRORS[i].call(s);
            for (int left = 4; left >= 0; left--) {
                C.due("undo() after call " + i, s.undo(), left);
                C.due("parcels after call " + i, s.total(0), left + 1);
            }
            C.due("no more after call " + i, s.undo(), -3);
        }
    }

    /** Day 1: one parcel on a shelf, one in the bin, a saved state, no records but one. */
    private static void begin(ParcelShelves s) {
        s.come(0, 0);
        s.refuse(s.come(0, 0));
        s.save();
        Checks.write(s, "d1");
        for (int i = 0; i < 3; i++) {
            s.undo();
        }
        s.restore();
    }

    private static final Call[] UNDOABLE = {s -> s.set(0, 1), s -> s.come(1, 1), s -> s.fetch(1007),
        s -> s.refuse(1007), s -> s.move(1007, 3), s -> s.pass(9), s -> s.call(0), s -> s.execute(),
        s -> s.restore()};

    private static void eachUndoableMethodRecordsOneState() {
        for (int i = 0; i < UNDOABLE.length; i++) {
            ParcelShelves s = new ParcelShelves();
            begin(s);
            C.due("no error code, call " + i, UNDOABLE[i].call(s) >= 0 ? 1 : 0, 1);
            C.due("two records, call " + i, s.undo(), 1);
            C.due("one record, call " + i, s.undo(), 0);
            C.due("no more, call " + i, s.undo(), -3);
        }
    }

    private static void methodsThatAreNotUndoableRecordNothing() {
        Call[] others = {s -> s.setting(0), s -> s.day(), s -> s.parcel(1007, 0), s -> s.codeAt(0, 0),
            s -> s.shelf(0, 0), s -> s.sender(0, 0), s -> s.total(0), s -> s.refusal(0), s -> s.isCode(0),
            s -> s.codeOf(0, 0, 0), s -> s.restsUntil(1007), s -> s.nextCode(0), s -> s.feeIn(1007, 1),
            s -> s.goesIn(1007), s -> s.chargesIn(9), s -> s.append('a'), s -> s.clearText(),
            s -> s.errorPosition(), s -> s.save()};
        for (int i = 0; i < others.length; i++) {
            ParcelShelves s = new ParcelShelves();
            s.come(0, 0);
            others[i].call(s);
            C.due("one record, call " + i, s.undo(), 0);
            others[i].call(s);
            C.due("no record, call " + i, s.undo(), -3);
        }
    }

    private static void aCallThatMakesNoDifferenceIsRecorded() {
        ParcelShelves s = new ParcelShelves();
        s.set(0, 5);
        C.due("set() to the same value", s.undo(), 0);
        s.save();
        s.restore();
        C.due("restore() of the same state", s.undo(), 0);
        Checks.run(s, "x0000");
        C.due("execute() of no command", s.undo(), 0);
        s.come(0, 0);
        for (int i = 0; i < 5; i++) {
            s.set(0, 5);
        }
        for (int left = 4; left >= 0; left--) {
            C.due("undo()", s.undo(), left);
        }
        C.due("they discarded the state ahead of come()", s.undo(), -3);
        C.due("the parcel stays", s.total(0), 1);
    }

    private static void aWrongCodeIsRecorded() {
        ParcelShelves s = new ParcelShelves();
        for (int i = 1; i <= 3; i++) {
            C.due("wrong", s.fetch(0), -7);
        }
        C.due("locked", s.fetch(0), -3);
        C.due("undo()", s.undo(), 2);
        C.due("two are counted", s.total(7), 2);
        C.due("not locked", s.total(8), 0);
        C.due("wrong again", s.fetch(0), -7);
        C.due("locked", s.total(8), 1);
        s.undo();
        s.undo();
        C.due("undo()", s.undo(), 0);
        C.due("none is counted", s.total(7), 0);
    }

    private static void undoIsNotUndone() {
        ParcelShelves s = new ParcelShelves();
        s.pass(1);
        s.pass(2);
        s.pass(4);
        C.due("undo()", s.undo(), 2);
        C.due("undo()", s.undo(), 1);
        C.due("day()", s.day(), 1);
        C.due("undo()", s.undo(), 0);
        C.due("day()", s.day(), 0);
    }

    private static void eachUndoableCallIsTakenBackWhole() {
        for (int i = 0; i < UNDOABLE.length; i++) {
            Call call = UNDOABLE[i];
            C.alike("undoable call " + i, s -> {
                begin(s);
                call.call(s);
                s.undo();
                s.clearText();
            }, s -> {
                begin(s);
                s.clearText();
            });
        }
    }

    /** Meanwhile a fee was paid, and another parcel of another sender, size and day was on the place. */
    private static void feesAndUsedPlacesComeBack() {
        Picture.Story before = s -> {
            s.come(3, 2);
            s.pass(4);
            s.fetch(s.come(4, 1));
        };
        C.alike("undo", s -> {
            before.tell(s);
            Checks.run(s, "p1403;d1;a6s;m6002>4");
            C.due("on the place", s.parcel(s.codeAt(4, 0), 1), 0);
            C.due("paid", s.total(5), 60);
            s.undo();
            for (int i = 0; i < 5; i++) {
                s.set(0, 5);
            }
        }, s -> {
            before.tell(s);
            for (int i = 0; i < 5; i++) {
                s.set(0, 5);
            }
        });
    }

    private static void theBufferAndTheRefusalAreNotPartOfTheState() {
        ParcelShelves s = new ParcelShelves();
        s.come(0, 0);
        s.append('d');
        s.refuse(0);
        s.save();
        s.append('1');
        s.fetch(1007);
        s.refuse(1007);
        s.undo();
        C.due("the buffer after undo()", s.errorPosition(), -6);
        C.due("the refusal after undo()", s.refusal(1), 5);
        s.restore();
        C.due("the buffer after restore()", s.errorPosition(), -6);
        C.due("the refusal after restore()", s.refusal(1), 5);
        C.due("execute()", s.execute(), 1);
        s.undo();
        C.due("undo() does not bring the text back", s.clearText(), 0);
    }

    private static void theSavedStateIsNotPartOfTheState() {
        ParcelShelves s = new ParcelShelves();
        s.come(0, 0);
        s.save();
        C.due("undo() of the call ahead of save()", s.undo(), 0);
        C.due("parcels", s.total(0), 0);
        C.due("restore()", s.restore(), 1);
        C.due("parcels", s.total(0), 1);
        s.come(0, 0);
        C.due("save()", s.save(), 2);
        s.restore();
        s.undo();
        s.undo();
        C.due("the later saved state", s.restore(), 2);
    }

    private static void theRecordsAreNotPartOfTheState() {
        ParcelShelves s = new ParcelShelves();
        s.save();
        Checks.comeOften(s, 3, 0, 0);
        s.restore();
        C.due("undo() of restore()", s.undo(), 3);
        C.due("parcels", s.total(0), 3);
        C.due("undo()", s.undo(), 2);
        C.due("parcels", s.total(0), 2);
    }

    private static void saveOverwritesTheStateThatWasSavedBefore() {
        ParcelShelves s = new ParcelShelves();
        s.pass(1);
        s.save();
        s.pass(2);
        s.save();
        s.pass(4);
        s.restore();
        C.due("day()", s.day(), 3);
        s.undo();
        C.due("day()", s.day(), 7);
    }

    private static void saveTellsTheParcelsOnTheShelves() {
        ParcelShelves s = new ParcelShelves();
        C.due("save() of a new shop", s.save(), 0);
        C.due("restore()", s.restore(), 0);
        Checks.comeOften(s, 47, 0, 0);
        C.due("47", s.save(), 47);
        s.come(0, 0);
        C.due("48", s.save(), 48);
        s.come(0, 0);
        C.due("still 48", s.save(), 48);
        s.refuse(1007);
        C.due("not those in bins", s.save(), 47);
        s.pass(8);
        C.due("restore() tells those of the saved state", s.restore(), 47);
    }

    private static void restoreNeedsASavedState() {
        ParcelShelves s = new ParcelShelves();
        C.due("restore() of a new shop", s.restore(), -3);
        s.come(0, 0);
        C.due("nothing saved", s.restore(), -3);
        C.due("parcels", s.total(0), 1);
        C.due("one record", s.undo(), 0);
        s.save();
        C.due("saved", s.restore(), 0);
    }

    private static void theSavedStateRemainsSaved() {
        ParcelShelves s = new ParcelShelves();
        s.come(0, 0);
        s.save();
        for (int i = 0; i < 7; i++) {
            C.due("restore() no " + i, s.restore(), 1);
            s.come(0, 0);
            s.set(2, 40 + i);
            s.pass(3);
            s.fetch(1007);
        }
        s.restore();
        C.due("rate", s.setting(2), 10);
        C.due("day()", s.day(), 0);
        C.due("the code", s.codeAt(0, 0), 1007);
        C.due("no rest", s.restsUntil(1007), -6);
    }

    private static void restoreIsUndoable() {
        ParcelShelves s = new ParcelShelves();
        s.save();
        for (int i = 0; i < 5; i++) {
            s.pass(1);
        }
        C.due("restore()", s.restore(), 0);
        C.due("day()", s.day(), 0);
        for (int left = 4; left >= 0; left--) {
            C.due("undo()", s.undo(), left);
            C.due("day()", s.day(), left + 1);
        }
        C.due("the sixth record discarded the oldest", s.undo(), -3);
    }

    private static void restoreBringsBackTheWholeState() {
        Picture.Story before = s -> {
            s.set(3, 3);
            Checks.comeOften(s, 12, 6, 0);
            Checks.fillBin(s, 6, 3);
            s.come(7, 2);
            s.fetch(s.codeAt(4, 0));
            s.fetch(1);
            s.fetch(2);
            s.call(6);
            s.pass(2);
            s.save();
        };
        C.alike("restore", s -> {
            before.tell(s);
            Checks.run(s, "a1s;a2m;a3l;p0003;d5;a8l");
            s.set(0, 11);
            s.set(4, 9);
            s.call(6);
            s.restore();
            for (int i = 0; i < 5; i++) {
                s.undo();
            }
            s.restore();
            for (int i = 0; i < 5; i++) {
                s.set(0, 5);
            }
        }, s -> {
            before.tell(s);
            for (int i = 0; i < 5; i++) {
                s.set(0, 5);
            }
        });
    }
}
