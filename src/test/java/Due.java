import java.nio.ByteBuffer;
import java.nio.charset.StandardCharsets;
import java.util.Arrays;

/** What the tests share: counting the answers that are not as due, and putting texts on the tape. */
final class Due {
    private static int wrong = 0;
    private static String sentence = "";

    private Due() {
    }

    static void due(String call, long got, long want) {
        if (got != want) {
            wrong++;
            System.out.println(sentence + call + " answered " + got + ", due is " + want);
        }
    }

    static void due(String call, boolean got, boolean want) {
        due(call, got ? 1 : 0, want ? 1 : 0);
    }

    /** A test of one boundary, told by the document's words for it; it makes its own objects. */
    static void edge(String words, Runnable test) {
        sentence = "\"" + words + "\": ";
        test.run();
        sentence = "";
    }

    /** The tape holds just these bytes. */
    static void tape(LitByLosers x, byte[] text) {
        x.end(0);
        ByteBuffer b = ByteBuffer.wrap(Arrays.copyOf(text, (text.length + 19) / 20 * 20));
        while (b.hasRemaining()) {
            x.feed(b.getInt(), b.getInt(), b.getInt(), b.getInt(), b.getInt());
        }
        x.end(text.length);
    }

    static int text(LitByLosers x, String text) {
        tape(x, text.getBytes(StandardCharsets.ISO_8859_1));
        return x.text();
    }

    /** A new object that is ruled by that text. */
    static LitByLosers ruled(String text) {
        LitByLosers x = new LitByLosers();
        due("text " + text, text(x, text), 0);
        x.by(0);
        return x;
    }

    /** All lamps of the bits are lit, by a dispute about them that is told for it; takes two people. */
    static void light(LitByLosers x, int lamps) {
        x.argue(x.dispute(x.is(2) ^ lamps), 0, 1);
    }

    /** What X becomes behind a draw. */
    static int next(int x) {
        return (x * 617 + 491) % 30869;
    }

    /** X behind so many draws. */
    static int next(int x, int draws) {
        int now = x;
        for (int i = 0; i < draws; i++) now = next(now);
        return now;
    }

    static void finish(String tests) {
        System.out.println(tests + (wrong == 0 ? ": all answers are as due" : ": " + wrong + " answers are not as due"));
        if (wrong != 0) System.exit(1);
    }
}
