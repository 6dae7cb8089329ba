/** Promises 1 to 11: a new object, type, wipe, undo, fault, tale, charge, need, event, back, read. */
public final class TellTest {
    private static final Check CHECK = new Check();

    public static void main(String[] args) {
        newObject();
        type();
        wipeAndUndo();
        faults();
        taleAndCharge();
        need();
        eventAndBack();
        read();
        readGoesOnBehindWhatIs();
        CHECK.end();
    }

    private static void due(String what, long got, long want) {
        CHECK.due(what, got, want);
    }

    private static void newObject() {
        SwornElsewhere x = new SwornElsewhere();
        long[] counts = {0, 0, 0, 0, 6, 0, 0, 0, 0};
        for (int what = 0; what < counts.length; what++) {
            due("1: count(" + what + ")", x.count(what), counts[what]);
        }
        for (int s = 0; s < 4; s++) {
            due("1: lose(" + s + ")", x.lose(s), -11);
        }
    }

    private static void type() {
        int[] most = {59, 23};
        for (int text = 0; text < 2; text++) {
            SwornElsewhere x = new SwornElsewhere();
            due("2: below a byte", x.type(text, -1), -2);
            due("2: above a byte", x.type(text, 256), -2);
            due("2: least byte", x.type(text, 0), 1);
            due("2: greatest byte", x.type(text, 255), 2);
            for (int i = 3; i <= most[text]; i++) {
                due("2: type", x.type(text, 97), i);
            }
            due("2: one too many", x.type(text, 97), -4);
            due("2: BAD is ahead of FULL", x.type(text, 256), -2);
            due("2: still full", x.count(2 + text), most[text]);
            due("2: the other text is empty", x.count(3 - text), 0);
        }
        SwornElsewhere x = new SwornElsewhere();
        due("2: text -1", x.type(-1, 97), -2);
        due("2: text 2", x.type(2, 97), -2);
    }

    private static void wipeAndUndo() {
        SwornElsewhere x = Check.of("a00s;b11d", "c2");
        due("3: text -1", x.wipe(-1), -2);
        due("3: text 2", x.wipe(2), -2);
        due("4: text -1", x.undo(-1), -2);
        due("4: text 2", x.undo(2), -2);
        due("3: nothing wiped", x.count(0), 2);
        due("4: undo", x.undo(0), 8);
        due("4: with a fault there are no tales", x.count(0), 0);
        for (int i = 7; i >= 4; i--) {
            due("4: undo", x.undo(0), i);
        }
        due("4: one tale is left", x.count(0), 1);
        due("4: undo of charges", x.undo(1), 1);
        due("3: wipe", x.wipe(0), 4);
        due("3: no tales", x.count(0), 0);
        due("3: wipe again", x.wipe(0), 0);
        due("3: charges are as they were", x.count(3), 1);
        due("4: NOT", x.undo(0), -3);
        due("4: to nothing", x.undo(1), 0);
        due("4: NOT", x.undo(1), -3);
        due("3: wipe of charges", x.wipe(1), 0);
    }

    private static void fault(int text, String told, int want) {
        SwornElsewhere x = new SwornElsewhere();
        Check.tell(x, text, told);
        due("5: fault of '" + told + "'", x.fault(text), want);
        if (want != -1) {
            due("5: '" + told + "' is as if empty", x.count(text), 0);
        }
    }

    private static void faults() {
        fault(0, "", -1);
        fault(1, "", -1);
        fault(0, "a00s", -1);
        fault(0, "x79k;a00d", -1);
        fault(1, "a0", -1);
        fault(1, "x7;a0", -1);
        String[] bad = {"y", "A", "`", ";", "0", "a8", "a/", "ab", "a0:", "a0/", "a0s", "a00a", "a00S", "a00;",
            "a00ss", "a00s:", "a00s;;", "a00s;y", "a00s;a00x"};
        int[] at = {0, 0, 0, 0, 0, 1, 1, 1, 2, 2, 2, 3, 3, 3, 4, 4, 5, 5, 8};
        for (int i = 0; i < bad.length; i++) {
            fault(0, bad[i], at[i]);
            fault(0, bad[i] + "zz", at[i]);
        }
        String[] badCharges = {"y", ";", "a8", "a/", "aa", "a0s", "a00", "a0:", "a0;;", "a0;y", "a0;b8"};
        int[] badAt = {0, 0, 1, 1, 1, 2, 2, 2, 3, 3, 4};
        for (int i = 0; i < badCharges.length; i++) {
            fault(1, badCharges[i], badAt[i]);
            fault(1, badCharges[i] + "zz", badAt[i]);
        }
        String[] open = {"a", "a0", "a00", "a00s;", "a00s;b", "a00s;b1", "a00s;b11"};
        for (String told : open) {
            fault(0, told, told.length());
        }
        String[] openCharges = {"a", "a0;", "a0;b"};
        for (String told : openCharges) {
            fault(1, told, told.length());
        }
        fault(0, "a00s;".repeat(11) + "a00s", -1);
        fault(0, "a00s;".repeat(11) + "a00z", 58);
        fault(1, "a0;".repeat(7) + "a0", -1);
        SwornElsewhere x = new SwornElsewhere();
        due("5: text -1", x.fault(-1), -2);
        due("5: text 2", x.fault(2), -2);
    }

    private static void taleAndCharge() {
        SwornElsewhere x = Check.of("a00s;x79k;m35d", "x7;a0;c4");
        int[][] tales = {{0, 0, 0, 0}, {23, 7, 9, 2}, {12, 3, 5, 1}};
        int[][] charges = {{23, 7}, {0, 0}, {2, 4}};
        for (int i = 0; i < 3; i++) {
            for (int what = 0; what < 4; what++) {
                due("6: tale(" + i + ", " + what + ")", x.tale(i, what), tales[i][what]);
            }
            due("7: charge(" + i + ", 0)", x.charge(i, 0), charges[i][0]);
            due("7: charge(" + i + ", 1)", x.charge(i, 1), charges[i][1]);
            due("6: what -1", x.tale(i, -1), -2);
            due("6: what 4", x.tale(i, 4), -2);
            due("7: what -1", x.charge(i, -1), -2);
            due("7: what 2", x.charge(i, 2), -2);
        }
        due("6: tale -1", x.tale(-1, 0), -2);
        due("6: tale 3", x.tale(3, 0), -2);
        due("7: charge -1", x.charge(-1, 0), -2);
        due("7: charge 3", x.charge(3, 0), -2);
        x.type(0, ';');
        x.type(1, ';');
        due("6: none by a fault", x.tale(0, 0), -2);
        due("7: none by a fault", x.charge(0, 0), -2);
        Check.tell(x, 0, "a00s;".repeat(11) + "x79k");
        Check.tell(x, 1, "a0;".repeat(7) + "x7");
        due("6: the twelfth", x.tale(11, 2), 9);
        due("6: no thirteenth", x.tale(12, 2), -2);
        due("7: the eighth", x.charge(7, 0), 23);
        due("7: no ninth", x.charge(8, 0), -2);
    }

    private static void need() {
        SwornElsewhere x = new SwornElsewhere();
        due("8: first", x.need(1), 6);
        due("8: 0", x.need(0), -2);
        due("8: 41", x.need(41), -2);
        due("8: then", x.need(40), 1);
        due("8: told by count", x.count(4), 40);
        due("8: last", x.need(7), 40);
    }

    private static void eventAndBack() {
        SwornElsewhere x = new SwornElsewhere();
        due("10: NOT", x.back(), -3);
        int[][] bad = {{-1, 0, 0}, {3, 0, 0}, {0, -1, 0}, {0, 24, 0}, {0, 0, -1}, {0, 0, 10}};
        for (int[] b : bad) {
            due("9: BAD", x.event(b[0], b[1], b[2]), -2);
        }
        due("9: none yet", x.count(5), 0);
        for (int i = 1; i <= 8; i++) {
            due("9: event", x.event(i % 3, 23, 9), i);
        }
        due("9: FULL", x.event(0, 0, 0), -4);
        due("9: BAD is ahead of FULL", x.event(3, 0, 0), -2);
        for (int i = 7; i >= 0; i--) {
            due("10: back", x.back(), i);
        }
        due("10: NOT", x.back(), -3);
        SwornElsewhere y = Check.of("a00s", "");
        y.event(0, 0, 0);
        due("10: it counts not", y.stands(0, 0), 0);
        y.back();
        due("10: as if it had not been", y.stands(0, 0), 1);
    }

    private static void putAll(SwornElsewhere x, int s, int form, int... items) {
        x.sheet(s, form, items.length);
        for (int i = 0; i < items.length; i++) {
            x.put(s, form, i, items[i]);
        }
    }

    private static void read() {
        for (int form = 0; form < 3; form++) {
            SwornElsewhere x = Check.of("a00s;b12d", "");
            due("11: sheet -1", x.read(-1), -2);
            due("11: sheet 4", x.read(4), -2);
            due("11: NULL", x.read(3), -11);
            due("11: NULL told", x.count(8), 1);
            putAll(x, 3, form, 0, 0, 0, 2, 5);
            due("11: one whole", x.read(3), 1);
            due("11: it is", x.stands(0, 0), 0);
            due("11: one in all", x.count(5), 1);
            x.back();
            putAll(x, 3, form, 1, 1, 1, 2, 23, 9, 0, 24, 0, 0, 0, 0);
            due("11: up to one that may not be", x.read(3), 2);
            due("11: the fair is", x.stands(1, 0), 0);
            due("11: the last is not", x.stands(0, 0), 1);
            x.back();
            x.back();
            putAll(x, 3, form, 2, 5, 5, 0, 0, 0);
            due("11: two and no more", x.read(3), 2);
            due("11: the second is", x.stands(0, 0), 0);
            x.back();
            x.back();
            putAll(x, 3, form, -1, 0, 0);
            due("11: none", x.read(3), 0);
            putAll(x, 3, form);
            due("11: empty", x.read(3), 0);
            due("11: nothing came", x.count(5), 0);
        }
    }

    private static void readGoesOnBehindWhatIs() {
        SwornElsewhere x = new SwornElsewhere();
        x.sheet(0, 2, 60);
        due("11: eight of twenty", x.read(0), 8);
        due("11: eight in all", x.count(5), 8);
        due("11: none behind eight", x.read(0), 0);
        x.back();
        x.back();
        due("11: two more", x.read(0), 2);
        due("11: eight again", x.count(5), 8);
        due("11: FULL is no finding", x.count(8), 0);
    }
}
