import java.nio.charset.StandardCharsets;
import java.util.NoSuchElementException;

/** What the tests share: writing a text on the tape, reading OUT, and counting wrong answers. */
final class Checks {
    interface Call {
        Object answer();
    }

    static final String NO_SUCH = "NoSuchElementException";
    static final String ILLEGAL = "IllegalArgumentException";

    private int wrong;
    private int made;

    /** A call's answer, or the name of what it throws. */
    static Object answerOf(Call call) {
        try {
            return call.answer();
        } catch (NoSuchElementException e) {
            return e.getClass() == NoSuchElementException.class ? NO_SUCH : e.getClass().getName();
        } catch (IllegalArgumentException e) {
            return e.getClass() == IllegalArgumentException.class ? ILLEGAL : e.getClass().getName();
        } catch (RuntimeException e) {
            return e.getClass().getName();
        }
    }

    void due(String what, Object want, Call call) {
        Object got = answerOf(call);
        made++;
        if (!want.equals(got)) {
            wrong++;
            System.out.println(what + " answered " + got + ", due is " + want);
        }
    }

    void end() {
        System.out.println(made + " answers, " + wrong + " wrong");
        if (wrong > 0) {
            System.exit(1);
        }
    }

    static int feedBytes(HouseManner x, byte[] bytes) {
        int fed = 0;
        for (int from = 0; from < bytes.length; from += 20) {
            int[] five = new int[5];
            for (int i = 0; i < 20; i++) {
                int b = from + i < bytes.length ? bytes[from + i] & 255 : 32;
                five[i / 4] = five[i / 4] << 8 | b;
            }
            fed = x.feed(five[0], five[1], five[2], five[3], five[4]);
        }
        return fed;
    }

    static int put(HouseManner x, int t, int hand, String text) {
        byte[] bytes = text.getBytes(StandardCharsets.ISO_8859_1);
        feedBytes(x, bytes);
        return x.text(t, hand, bytes.length);
    }

    static String out(HouseManner x) {
        StringBuilder told = new StringBuilder();
        int length = x.told(HouseManner.NONE);
        for (int k = 0; k < length; k++) {
            told.append((char) x.told(k));
        }
        return told.toString();
    }

    static String repeat(String part, int times) {
        return part.repeat(times);
    }
}
