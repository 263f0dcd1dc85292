import java.nio.charset.StandardCharsets;

/** Learns from two texts of a house, and writes a third one as the house would. */
final class Example {
    public static void main(String[] args) {
        HouseManner desk = new HouseManner();
        write(desk, 0, 0, "rowCount = 1;\nif rowCount < 9 {\n  call show(rowCount, 1);\n}\n");
        write(desk, 1, 0, "lastRow = rowOf + 1;\nwhile lastRow {\n  lastRow = lastRow - 1;\n}\n");
        System.out.println("THE STYLE costs " + desk.find());
        System.out.println("in front of = stands CHOICE " + desk.habit(11, 5));

        write(desk, 2, 1, "max_row=3;if max_row{call show( max_row,2 );}");
        System.out.println("not as the house does: " + desk.exception(2, HouseManner.NONE));
        if (desk.lay(2) != HouseManner.NONE) {
            desk.take(2);
        }
        int make = desk.house();
        if (make != HouseManner.NONE && desk.turn(2, make) != HouseManner.NONE) {
            desk.take(2);
        }
        System.out.println(out(desk));

        write(desk, 3, 0, "a = 1; b = ;");
        System.out.println("FAULT " + desk.fault(0) + " at byte " + desk.fault(1));
    }

    /** The tape takes twenty bytes at once; those that are too many text() leaves out. */
    static int write(HouseManner desk, int t, int hand, String text) {
        byte[] bytes = text.getBytes(StandardCharsets.US_ASCII);
        for (int from = 0; from < bytes.length; from += 20) {
            int[] five = new int[5];
            for (int i = 0; i < 20; i++) {
                int b = from + i < bytes.length ? bytes[from + i] : ' ';
                five[i / 4] = five[i / 4] << 8 | b;
            }
            desk.feed(five[0], five[1], five[2], five[3], five[4]);
        }
        return desk.text(t, hand, bytes.length);
    }

    static String out(HouseManner desk) {
        StringBuilder told = new StringBuilder();
        int length = desk.told(HouseManner.NONE);
        for (int k = 0; k < length; k++) {
            told.append((char) desk.told(k));
        }
        return told.toString();
    }
}
