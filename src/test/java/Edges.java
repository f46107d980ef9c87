import java.io.IOException;
import java.nio.file.Files;
import java.nio.file.Path;
import java.util.Set;
import java.util.TreeSet;
import java.util.function.IntSupplier;
import java.util.function.IntUnaryOperator;

/**
 * A test by sentences: each is quoted as DOC.md says it (a quote that is not there fails), then what it says is tried at its
 * bounds. All that is compared behind a quote bears it as its name.
 */
final class Edges {
    static final int MIN = Integer.MIN_VALUE;
    static final int MAX = Integer.MAX_VALUE;

    private final Due due;
    private final String document;
    private final Set<Integer> met = new TreeSet<>();
    private String sentence = "";
    private int nth;

    Edges(String name) throws IOException {
        due = new Due(name);
        document = Files.readString(Path.of("../shared/DOC.md")).replaceAll("\\s+", " ");
    }

    void terms(int number, String words) {
        quote("Terms " + number, part("==== " + number + ". ", number < 4 ? "==== " + (number + 1)
            + ". " : "The constants:"), words);
    }

    void promise(int number, String words) {
        met.add(number);
        quote("Promise " + number, part("## Promise " + number + ": ",
            number < 55 ? "## Promise " + (number + 1) + ": " : "## Not promised"), words);
    }

    private String part(String from, String to) {
        int first = document.indexOf(from);
        int last = document.indexOf(to, Math.max(0, first));
        return first < 0 || last < 0 ? "" : document.substring(first, last);
    }

    private void quote(String place, String part, String words) {
        sentence = place + " \"" + words + "\"";
        nth = 0;
        due.is(sentence + " is told in the document", part.contains(words), true);
    }

    void is(long got, long want) {
        nth++;
        due.is(sentence + " no. " + nth, got, want);
    }

    void is(boolean got, boolean want) {
        is(got ? 1 : 0, want ? 1 : 0);
    }

    void none(long got) {
        is(got, -1);
    }

    /** It answers NONE, and nothing is other than it was. */
    void refused(HillLeavers x, IntSupplier call) {
        String before = state(x);
        none(call.getAsInt());
        String after = state(x);
        is(after.equals(before), true);
    }

    /** It answers NONE for none of these numbers, and for all others that are tried. */
    void only(int least, int most, IntUnaryOperator call) {
        for (int i = -5; i < 140; i++) {
            one(least, most, i, call);
        }
        for (int i : new int[] {MIN, MIN + 1, MIN + 128, -1601, -1000, -999, -128, -100, -64, -61, -60, -32, -31, 255, 256,
            512, 998, 999, 1000, 1001, 1600, 1601, 65536, 99999, 100000, 100001, 1 << 30, MAX - 128, MAX - 1, MAX}) {
            one(least, most, i, call);
        }
    }

    private void one(int least, int most, int i, IntUnaryOperator call) {
        nth++;
        due.is(sentence + " for " + i, call.applyAsInt(i) == HillLeavers.NONE, i < least || i > most);
    }

    /** The FAULT is where the mark ^ stands; all but the TAPE stays as it was. */
    void faulty(String marked, int fault) {
        int place = marked.indexOf('^');
        String text = marked.substring(0, place) + marked.substring(place + 1);
        HillLeavers x = new HillLeavers();
        int city = Due.city(x, text);
        nth++;
        due.is(sentence + " city of " + marked, city, -1);
        due.is(sentence + " fault(0) of " + marked, x.fault(0), fault);
        due.is(sentence + " fault(1) of " + marked, x.fault(1), place);
        due.is(sentence + " TAPE behind " + marked, x.about(12), 0);
        due.is(sentence + " MEN behind " + marked, x.about(0), 0);
    }

    HillLeavers sound(String text) {
        HillLeavers x = new HillLeavers();
        int city = Due.city(x, text);
        nth++;
        due.is(sentence + " city of " + text, city, x.about(0));
        due.is(sentence + " fault(0) of " + text, x.fault(0), 0);
        due.is(sentence + " fault(1) of " + text, x.fault(1), -1);
        return x;
    }

    /** All that is told and all that is so, but for what is in BOXES. */
    static String state(HillLeavers x) {
        StringBuilder state = new StringBuilder();
        for (int what = 0; what < 14; what++) {
            state.append(x.about(what)).append(' ');
        }
        state.append(x.fault(0)).append(' ').append(x.fault(1)).append(' ').append(x.out());
        for (int i = 0; i < 7; i++) {
            for (int what = 0; what < 7; what++) {
                state.append(' ').append(x.man(i, what)).append(' ').append(x.craft(i, what)).append(' ').append(x.demand(i,
                    what));
            }
            state.append(' ').append(x.sure(i, x.about(11)));
        }
        state.append(' ').append(x.fits(-1)).append(' ').append(x.fits(0)).append(' ').append(x.fits(x.about(11)));
        return state.append(' ').append(x.costs(5)).toString();
    }

    /** So many MEN p, q .. of a CRAFT a, which is told as it is said here, the first of them OUT. */
    static String people(String craft, int men, int out) {
        StringBuilder text = new StringBuilder("craft a ").append(craft).append(';');
        for (int i = 0; i < men; i++) {
            text.append("man ").append((char) ('p' + i)).append(" of a loaves 9 debt 0").append(i < out ? " out;" : ";");
        }
        return text.toString();
    }

    /** Each of these promises must have been quoted. */
    void close(int... promises) {
        for (int promise : promises) {
            due.is("Promise " + promise + " is quoted", met.contains(promise), true);
        }
        due.close();
    }

    static int[] fromTo(int first, int last) {
        int[] all = new int[last - first + 1];
        for (int i = 0; i < all.length; i++) {
            all[i] = first + i;
        }
        return all;
    }
}
