import java.util.ArrayList;
import java.util.List;

/**
 * All that can be seen of an object, as the answers of some 300 calls: of two objects that are alike
 * they are the same. Nothing is as it was behind a look: trays are written over, calls undone, images
 * restored, the tape read, so that what each of them holds is seen.
 */
final class Look {
    private final StoneMeet x;
    private final List<String> answers = new ArrayList<>();

    private Look(StoneMeet x) {
        this.x = x;
    }

    static List<String> at(StoneMeet x) {
        Look look = new Look(x);
        look.atNow();
        look.ahead();
        for (int tray = 0; tray < 4; tray++) {
            look.atTray(tray);
        }
        look.back();
        look.atImages();
        look.atTape();
        return look.answers;
    }

    /** The first answers that differ, empty if none does. */
    static String difference(List<String> got, List<String> want) {
        for (int i = 0; i < Math.min(got.size(), want.size()); i++) {
            if (!got.get(i).equals(want.get(i))) {
                return got.get(i) + ", due is " + want.get(i);
            }
        }
        return got.size() == want.size() ? "" : got.size() + " answers, due are " + want.size();
    }

    private void saw(String call, long answer) {
        answers.add(call + " is " + answer);
    }

    private void atCounts() {
        for (int what = 0; what < 10; what++) {
            saw("count " + what, x.count(what));
        }
        for (int p = 0; p < 4; p++) {
            saw("chalk of " + p, x.pair(p, 1));
        }
    }

    private void atNow() {
        atCounts();
        saw("fault", x.fault(0));
        saw("place", x.fault(1));
        for (int p = 0; p < 4; p++) {
            for (int what = 0; what < 4; what++) {
                saw("pair " + p + " " + what, x.pair(p, what));
            }
            saw("grown " + p, x.grown(p, 2, 0));
            saw("grown " + p + ", dry", x.grown(p, 1, 1));
        }
        saw("leadings", x.leadings());
    }

    private void ahead() {
        for (int p = 0; p < 4; p++) {
            saw("meets " + p, x.meets(p));
            saw("lies " + p, x.lies(p, 3));
            saw("order " + p, x.order(p));
            saw("forces " + p, x.forces(p));
        }
        saw("falls", x.falls());
        saw("soonest", x.soonest(3));
        saw("way", x.way(3, 1));
        saw("rows", x.rows(1, 4));
        saw("holding", x.holding());
        saw("felling", x.felling());
        saw("stands", x.stands());
        saw("chance", x.chance(0, 4, 0));
        saw("fallen", x.fallen(4, 0));
    }

    /** Place by place: what the rest of the deeds would do once those ahead are years. */
    private void atTray(int tray) {
        saw("seen in " + tray, x.seen(tray, 0));
        saw("chalks by " + tray, x.chalks(tray, 1));
        for (int i = 0; i < 6; i++) {
            saw("place of " + tray, x.judge(tray, 0));
            saw("why of " + tray, x.judge(tray, 1));
            saw("gaps by " + tray, x.judge(tray, 3));
            saw("number " + i + " of " + tray, x.write(tray, i, 1));
        }
        saw("number 39 of " + tray, x.write(tray, 39, 0));
        saw("sort of " + tray, x.write(tray, 0, 0x1122334485868788L));
    }

    private void back() {
        for (int i = 0; i < 11; i++) {
            saw("undo", x.undo(1));
            saw("gaps", x.count(3));
            saw("leading", x.count(4));
            saw("fallen", x.count(5));
            saw("years", x.count(6));
            saw("chalk", x.pair(0, 1) * 10 + x.pair(1, 1));
        }
    }

    private void atImages() {
        for (int i = 0; i < 2; i++) {
            saw("restore " + i, x.restore(i));
            atCounts();
        }
    }

    private void atTape() {
        saw("cave", x.cave(x.count(8)));
        saw("fault", x.fault(0));
        saw("place", x.fault(1));
        atCounts();
    }
}
