import java.util.ArrayList;
import java.util.List;

/** All that can be seen of an object, but status(). */
final class Seen {
    /** Low bits that differ in 8, 16 and 64. */
    private static final long LONG_NUMBER = 0x0123456789abcdefL;

    private final NinthAir x;
    private final List<String> told = new ArrayList<>();

    private Seen(NinthAir x) {
        this.x = x;
    }

    /** The object is used up by it: its sheets are written, its TAPE is read as a text, its image is undone. */
    static List<String> all(NinthAir x) {
        Seen seen = new Seen(x);
        seen.night("");
        seen.add("count(1)", x.count(1));
        seen.sheets();
        seen.add("text()", x.text());
        seen.night(" by text()");
        seen.add("undo()", x.undo());
        seen.night(" by undo()");
        return seen.told;
    }

    private void add(String call, long answer) {
        told.add(call + " = " + answer);
    }

    private void night(String by) {
        for (int room = 0; room < 8; room++) {
            for (int what = 0; what < 4; what++) {
                add("roomOf(" + room + ", " + what + ")" + by, x.roomOf(room, what));
            }
        }
        add("HOUR" + by, x.now(0));
        add("DOORS" + by, x.now(6));
        int cold = x.cold(0);
        x.cold(cold);
        add("COLD" + by, cold);
        int people = x.count(0);
        add("PEOPLE" + by, people);
        for (int one = 0; one < people; one++) {
            for (int what = 0; what < 5; what++) {
                add("of(" + one + ", " + what + ")" + by, x.of(one, what));
            }
        }
    }

    private void sheets() {
        for (int s = 0; s < 4; s++) {
            long number = 0;
            for (int i = 0; i <= 40 && !Edges.isFinding(number); i++) {
                number = x.write(s, i, 0);
                add("number " + i + " of sheet " + s, number);
            }
            x.write(s, 0, LONG_NUMBER);
            add("lowest bits in sheet " + s, x.write(s, 0, 0));
        }
    }
}
