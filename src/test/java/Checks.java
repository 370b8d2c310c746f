import java.nio.charset.StandardCharsets;
import java.util.NoSuchElementException;

/** What the tests share: feeding texts, and counting answers that aren't due; public for ReadmeTest's program. */
public final class Checks {
    private int wrong;
    private int made;

    /** Feeds a text, behind which blanks fill up the twenty bytes, and tells it: what dream() answers. */
    static int tell(AsleepInside x, String text) {
        feedText(x, text);
        return x.dream(text.length());
    }

    static void feedText(AsleepInside x, String text) {
        byte[] bytes = text.getBytes(StandardCharsets.ISO_8859_1);
        for (int i = 0; i < bytes.length; i += 20) {
            x.feed(four(bytes, i), four(bytes, i + 4), four(bytes, i + 8), four(bytes, i + 12), four(bytes, i + 16));
        }
    }

    private static int four(byte[] bytes, int from) {
        int number = 0;
        for (int i = from; i < from + 4; i++) {
            number = number << 8 | (i < bytes.length ? bytes[i] & 255 : ' ');
        }
        return number;
    }

    static AsleepInside of(String text) {
        AsleepInside x = new AsleepInside();
        tell(x, text);
        if (x.fault() != 0) {
            throw new IllegalStateException("fault " + x.fault() + " at " + x.where() + ": " + text);
        }
        return x;
    }

    public void due(String what, long got, long want) {
        made++;
        if (got != want) {
            wrong++;
            if (wrong <= 40) {
                System.out.println(what + " answered " + got + ", due is " + want);
            }
        }
    }

    public void due(String what, boolean got, boolean want) {
        due(what, got ? 1 : 0, want ? 1 : 0);
    }

    public void due(String what, String got, String want) {
        due(what + ": " + got + " instead of " + want, got.equals(want), true);
    }

    /** A call that is refused: NONE, by that trouble, which is no FAULT with a place. */
    void refused(String what, AsleepInside x, long got, int why) {
        due(what, got, AsleepInside.NONE);
        due(what + ": trouble", x.trouble(), why);
        due(what + ": where", x.where(), AsleepInside.NONE);
    }

    void granted(String what, AsleepInside x, long got, long want) {
        due(what, got, want);
        due(what + ": trouble", x.trouble(), 0);
    }

    /** Whether led() throws what the document wants. */
    static boolean throwsNoSuch(AsleepInside x, int i) {
        try {
            x.led(i);
        } catch (NoSuchElementException e) {
            return true;
        }
        return false;
    }

    /** Prints the sum, and ends the program with 1 if an answer was wrong. */
    void end() {
        System.out.println(made + " answers looked at, " + wrong + " not as due");
        if (wrong != 0) {
            System.exit(1);
        }
    }
}
