import java.nio.charset.StandardCharsets;
import java.util.NoSuchElementException;

/**
 * What the tests share: writing a text on the tape, reading OUT, questions that are asked often,
 * and counting wrong answers.
 */
final class Checks {
    interface Call {
        Object answer();
    }

    static final String NO_SUCH = "NoSuchElementException";
    static final String ILLEGAL = "IllegalArgumentException";

    private int wrong;
    private int made;
    private int sentences;
    private String sentence = "";

    /** A call's answer, or the name of what it throws. */
    static Object answerOf(Call call) {
        try {
            return call.answer();
        } catch (NoSuchElementException e) {
            return e.getClass() == NoSuchElementException.class ? NO_SUCH : e.getClass().getName();
        } catch (IllegalArgumentException e) {
            return e.getClass() == IllegalArgumentException.class ? ILLEGAL : e.getClass().getName();
        } catch (RuntimeException e) {
            return e.getClass().getName();
        }
    }

    void due(String what, Object want, Call call) {
        Object got = answerOf(call);
        made++;
        if (!want.equals(got)) {
            wrong++;
            System.out.println(sentence + what + " answered " + got + ", due is " + want);
        }
    }

    /** The test of one sentence of the document; what is wrong in it is told with the sentence. */
    void sentence(String words, Runnable test) {
        int before = made;
        sentences++;
        sentence = "[" + words + "] ";
        test.run();
        due("answers to look at", true, () -> made > before);
        sentence = "";
    }

    void end() {
        if (sentences > 0) {
            System.out.print(sentences + " sentences, ");
        }
        System.out.println(made + " answers, " + wrong + " wrong");
        if (wrong > 0) {
            System.exit(1);
        }
    }

    /** A new desk with these texts, from TEXT 0 on, all of HAND 0. */
    HouseManner with(String... texts) {
        HouseManner x = new HouseManner();
        for (int t = 0; t < texts.length; t++) {
            int number = t;
            due("text " + texts[t], 0, () -> put(x, number, 0, texts[number]));
        }
        return x;
    }

    void faulty(String text, int fault, int place) {
        HouseManner x = new HouseManner();
        due("text " + text, fault, () -> put(x, 0, 0, text));
        due("fault of " + text, fault, () -> x.fault(0));
        due("place of " + text, place, () -> x.fault(1));
        due("there is none of " + text, fault == 0 ? 0 : NO_SUCH, () -> x.about(0, 2));
    }

    /** All GAPS of a text, asked for one what. */
    void gapsAre(String text, int what, int... want) {
        HouseManner x = with(text);
        for (int i = 0; i < want.length; i++) {
            int gap = i;
            due("gap " + i + " of " + text, want[i], () -> x.gap(0, gap, what));
        }
        due("no more gaps of " + text, NO_SUCH, () -> x.gap(0, want.length, what));
    }

    void habitIs(HouseManner x, int kind, int... want) {
        for (int what = 0; what < want.length; what++) {
            int w = what;
            due("habit(" + kind + ", " + what + ")", want[what], () -> x.habit(kind, w));
        }
    }

    static int feedBytes(HouseManner x, byte[] bytes) {
        int fed = 0;
        for (int from = 0; from < bytes.length; from += 20) {
            int[] five = new int[5];
            for (int i = 0; i < 20; i++) {
                int b = from + i < bytes.length ? bytes[from + i] & 255 : 32;
                five[i / 4] = five[i / 4] << 8 | b;
            }
            fed = x.feed(five[0], five[1], five[2], five[3], five[4]);
        }
        return fed;
    }

    static int put(HouseManner x, int t, int hand, String text) {
        byte[] bytes = text.getBytes(StandardCharsets.ISO_8859_1);
        feedBytes(x, bytes);
        return x.text(t, hand, bytes.length);
    }

    static String out(HouseManner x) {
        StringBuilder told = new StringBuilder();
        int length = x.told(HouseManner.NONE);
        for (int k = 0; k < length; k++) {
            told.append((char) x.told(k));
        }
        return told.toString();
    }

    private static final int END = 200;

    /** A long text's two ends: what of OUT can be asked for within an object's 512 calls. */
    static String bothEnds(String text) {
        int length = text.length();
        return length <= 2 * END ? text : text.substring(0, END) + ".." + text.substring(length - END);
    }

    /** OUT, or its two ends if it is long. */
    static String outEnds(HouseManner x) {
        int length = x.told(HouseManner.NONE);
        if (length <= 2 * END) {
            return out(x);
        }
        StringBuilder told = new StringBuilder();
        for (int k = 0; k < END; k++) {
            told.append((char) x.told(k));
        }
        told.append("..");
        for (int k = length - END; k < length; k++) {
            told.append((char) x.told(k));
        }
        return told.toString();
    }

    static String repeat(String part, int times) {
        return part.repeat(times);
    }
}
