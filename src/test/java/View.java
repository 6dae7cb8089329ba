import java.util.ArrayList;
import java.util.List;

/**
 * All that can be seen of an object, in four parts. Looking uses the object up (texts and events are undone,
 * sheets lost) and takes many of its 512 calls, so each part is of an object of its own.
 */
final class View {
    static final int PARTS = 4;

    private View() {
    }

    static List<Long> of(SwornElsewhere x, int part) {
        List<Long> seen = new ArrayList<>();
        switch (part) {
            case 0: counts(x, seen); break;
            case 1: texts(x, seen); break;
            case 2: events(x, seen); break;
            default: sheets(x, seen); break;
        }
        return seen;
    }

    private static void counts(SwornElsewhere x, List<Long> seen) {
        for (int what = 0; what < 8; what++) {
            seen.add((long) x.count(what));
        }
        seen.add(x.digest());
        seen.add((long) x.forget());
        seen.add(x.digest());
    }

    private static void texts(SwornElsewhere x, List<Long> seen) {
        for (int text = 0; text < 2; text++) {
            int left = x.count(2 + text);
            while (left > 0) {
                seen.add((long) x.fault(text));
                seen.add((long) x.count(text));
                left = x.undo(text);
                seen.add((long) left);
            }
        }
    }

    private static void events(SwornElsewhere x, List<Long> seen) {
        int left = x.count(5);
        while (left > 0) {
            seen.add(x.digest());
            left = x.back();
            seen.add((long) left);
        }
    }

    private static void sheets(SwornElsewhere x, List<Long> seen) {
        for (int s = 0; s < 4; s++) {
            for (int form = 0; form < 3; form++) {
                seen.add((long) x.get(s, form, -1));
                int finding = x.count(8);
                seen.add((long) finding);
                // INDEX: there is a sheet, and it is of this form.
                if (finding == 2) {
                    items(x, s, form, seen);
                }
            }
            seen.add((long) x.lose(s));
        }
    }

    private static void items(SwornElsewhere x, int s, int form, List<Long> seen) {
        for (int i = 0; i < 60; i++) {
            int item = x.get(s, form, i);
            if (item == Integer.MIN_VALUE) {
                return;
            }
            seen.add((long) item);
        }
    }
}
