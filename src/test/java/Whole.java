import java.util.ArrayList;
import java.util.List;

/**
 * Everything about an object that can be seen from outside, as one row. Looking uses the object up:
 * the tape is read, what waits is checked, the image is gone back to, slot 4 is laid over.
 */
final class Whole {
    private final DeadAir x;
    private final List<Integer> row = new ArrayList<>();

    private Whole(DeadAir x) {
        this.x = x;
    }

    static List<Integer> of(DeadAir x) {
        Whole all = new Whole(x);
        all.studio();
        all.slots();
        all.sheets();
        all.row.add(x.check(2));
        all.row.add(x.text());
        all.row.add(x.fee());
        all.row.add(x.back());
        all.studio();
        return all.row;
    }

    private void studio() {
        for (int what = 0; what <= 10; what++) {
            row.add(x.studio(what));
        }
        for (int what = 0; what <= 6; what++) {
            row.add(x.count(what));
        }
        for (int voice = 0; voice < x.count(0); voice++) {
            for (int what = 0; what <= 10; what++) {
                row.add(x.told(voice, what));
            }
            row.add(x.fine(voice));
        }
        int fill = x.air(2, 0);
        x.air(2, fill);
        row.add(fill);
        texts();
        for (int what = 0; what <= 2; what++) {
            row.add(x.behind(40, what));
        }
    }

    private void texts() {
        for (int key = 0; key < 3; key++) {
            row.add(x.why(key));
        }
        for (int text = 0; text < x.count(3); text++) {
            row.add(x.textTold(text, 0));
            row.add(x.textTold(text, 1));
        }
        row.add(x.fee());
    }

    private void slots() {
        for (int slot = 0; slot < 5; slot++) {
            for (int kind = 0; kind < 6; kind++) {
                row.add(x.ask(slot, kind));
            }
            row.add(x.rest(slot, Integer.MIN_VALUE));
            items(slot);
        }
    }

    private void sheets() {
        for (int sheet = 0; sheet < 4; sheet++) {
            row.add(x.reads(sheet));
            if (x.lay(4, 2, sheet) != DeadAir.NOTHING) {
                // NONE is taken by floats alone, and by no sheet behind its end: this tells the sort
                row.add(x.mark(sheet, 0, DeadAir.NONE));
                items(4);
            }
        }
    }

    private void items(int slot) {
        int beforeTheFirst = x.item(slot, -1);
        row.add(beforeTheFirst);
        for (int place = 0; beforeTheFirst == DeadAir.INDEX && place < 25; place++) {
            int v = x.item(slot, place);
            row.add(v);
            if (v == DeadAir.INDEX) {
                break;
            }
        }
    }
}
