/** Counts and prints the answers that are not as due, for one test program. */
final class Checks {
    private final String program;
    private int checked;
    private int wrong;

    Checks(String program) {
        this.program = program;
    }

    void due(String call, long got, long want) {
        checked++;
        if (got != want) {
            wrong++;
            System.out.println(program + ": " + call + " answered " + got + ", due is " + want);
        }
    }

    void end() {
        System.out.println(program + ": " + checked + " answers checked, " + wrong + " not as due");
        if (wrong != 0 || checked == 0) {
            System.exit(1);
        }
    }

    /** Appends a text, sign by sign. */
    static void write(ParcelShelves shop, String text) {
        for (int i = 0; i < text.length(); i++) {
            shop.append(text.charAt(i));
        }
    }

    /** Empties the buffer, writes a text and executes it. */
    static int run(ParcelShelves shop, String text) {
        shop.clearText();
        write(shop, text);
        return shop.execute();
    }

    /** Lets parcels come and returns the code of the last one. */
    static int comeOften(ParcelShelves shop, int times, int sender, int size) {
        int code = ParcelShelves.NONE;
        for (int i = 0; i < times; i++) {
            code = shop.come(sender, size);
        }
        return code;
    }
}
