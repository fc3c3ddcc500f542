import java.util.ArrayList;
import java.util.List;

/**
 * All that can be asked of a shop. The document promises 512 calls of an object, so the story is told again to a new
 * shop for each part of the questions.
 */
final class Picture {
    /** What happens to a new shop; at most 370 calls. */
    interface Story {
        void tell(ParcelShelves shop);
    }

    private final Story story;
    private final List<Integer> seen = new ArrayList<>();

    private Picture(Story story) {
        this.story = story;
    }

    static int[] of(Story story) {
        Picture picture = new Picture(story);
        picture.askNumbers();
        for (int shelf = 0; shelf < 6; shelf++) {
            picture.askParcels(shelf);
        }
        for (int day = 0; day < 7; day++) {
            picture.askCodes(day);
        }
        picture.askText();
        picture.askRecords();
        picture.askSaved();
        return picture.seen.stream().mapToInt(Integer::intValue).toArray();
    }

    private ParcelShelves shop() {
        ParcelShelves shop = new ParcelShelves();
        story.tell(shop);
        return shop;
    }

    private void askNumbers() {
        ParcelShelves shop = shop();
        seen.add(shop.day());
        seen.add(shop.refusal(0));
        seen.add(shop.refusal(1));
        for (int setting = 0; setting < 5; setting++) {
            seen.add(shop.setting(setting));
        }
        for (int what = 0; what < 10; what++) {
            seen.add(shop.total(what));
        }
        for (int i = 0; i < 50; i++) {
            seen.add(shop.sender(i / 5, i % 5));
        }
        for (int i = 0; i < 18; i++) {
            seen.add(shop.shelf(i / 3, i % 3));
        }
        for (int size = 0; size < 3; size++) {
            seen.add(shop.nextCode(size));
        }
        for (int days = 1; days <= 30; days++) {
            seen.add(shop.chargesIn(days));
        }
    }

    private void askParcels(int shelf) {
        ParcelShelves shop = shop();
        for (int place = 0; place < 8; place++) {
            int code = shop.codeAt(shelf, place);
            seen.add(code);
            for (int part = 0; part < 6; part++) {
                seen.add(shop.parcel(code, part));
            }
            seen.add(shop.goesIn(code));
            seen.add(shop.feeIn(code, 9));
        }
    }

    private void askCodes(int day) {
        ParcelShelves shop = shop();
        for (int at = 0; at < 48; at++) {
            seen.add(shop.restsUntil(Checks.code(day, at / 8, at % 8)));
        }
    }

    private void askText() {
        ParcelShelves shop = shop();
        seen.add(shop.errorPosition());
        seen.add(shop.clearText());
    }

    private void askRecords() {
        ParcelShelves shop = shop();
        for (int i = 0; i < 6; i++) {
            seen.add(shop.undo());
            askShortly(shop);
        }
    }

    private void askSaved() {
        ParcelShelves shop = shop();
        seen.add(shop.restore());
        askShortly(shop);
    }

    private void askShortly(ParcelShelves shop) {
        seen.add(shop.day());
        for (int what = 0; what < 10; what++) {
            seen.add(shop.total(what));
        }
        for (int setting = 0; setting < 5; setting++) {
            seen.add(shop.setting(setting));
        }
    }
}
