/** Promises 17 to 20: settle, notes, note and owed. */
public final class NotesTest {
    public static void main(String[] args) {
        settling();
        places();
        ways();
        full();
        wrong();
        Checks.end("NotesTest");
    }

    private static void settling() {
        InvoiceSmith smith = new InvoiceSmith();
        smith.rate(0, 0, 10, 0);
        Checks.makeOneLine(smith, 0, 0, 1, 100);
        Checks.makeOneLine(smith, 1, 1, 1, 100);
        smith.pass(3);
        Checks.makeOneLine(smith, 2, 0, 2, 100);
        Checks.is("nothing to settle", smith.settle(0), 0);
        Checks.is("owed", smith.owed(0), 10 + 0 + 20);
        smith.rate(0, 0, 15, 1);
        smith.pass(1);
        Checks.is("one to settle", smith.settle(0), 1);
        notes(smith, new int[][] {{2, 10, 4}});
        Checks.is("once", smith.settle(0), 0);
        smith.rate(0, 0, 5, 0);
        smith.rate(0, 1, 7, 0);
        smith.rate(0, 0, 10, 2);
        smith.pass(2);
        Checks.is("three to settle", smith.settle(0), 3);
        notes(smith, new int[][] {{2, 10, 4}, {0, -5, 6}, {1, 7, 6}, {2, -10, 6}});
        Checks.is("once", smith.settle(0), 0);
        Checks.is("owed then", smith.owed(0), 5 + 7 + 20);
        Checks.is("taxed", smith.invoice(0, 4), 10);
        Checks.is("with notes", smith.invoice(0, 5), 5);
        Checks.is("with notes", smith.invoice(1, 5), 7);
        Checks.is("with notes", smith.invoice(2, 5), 20);
        Checks.is("as known", smith.taxAnew(0), 5);
    }

    private static void notes(InvoiceSmith smith, int[][] due) {
        Checks.is("notes", smith.notes(), due.length);
        for (int i = 0; i < due.length; i++) {
            for (int what = 0; what < 3; what++) {
                Checks.is("note " + i + ", what " + what, smith.note(i, what), due[i][what]);
            }
        }
    }

    private static void places() {
        InvoiceSmith smith = new InvoiceSmith();
        for (int place = 0; place < 4; place++) {
            smith.client(place, place);
            Checks.makeOneLine(smith, place, 0, 1, 100 * (place + 1));
        }
        Checks.makeOneLine(smith, 3, 0, 1, 1000);
        for (int place = 0; place < 4; place++) {
            smith.rate(place, 0, 10, 0);
        }
        smith.client(3, 2);
        Checks.is("settled", smith.settle(3), 2);
        notes(smith, new int[][] {{3, 40, 0}, {4, 100, 0}});
        Checks.is("owed by all", smith.owed(3), 140);
        Checks.is("not settled", smith.owed(2), 0);
        Checks.is("settled", smith.settle(1), 1);
        Checks.is("owed", smith.owed(1), 20);
        Checks.is("owed still", smith.owed(0), 0);
        notes(smith, new int[][] {{3, 40, 0}, {4, 100, 0}, {1, 20, 0}});
        Checks.is("another way then", smith.round(0, 2), 0);
        Checks.is("settled", smith.settle(0), 1);
        Checks.is("settled", smith.settle(2), 1);
        notes(smith, new int[][] {{3, 40, 0}, {4, 100, 0}, {1, 20, 0}, {0, 10, 0}, {2, 30, 0}});
    }

    /** Each invoice is settled in the way that it was made with. */
    private static void ways() {
        InvoiceSmith smith = new InvoiceSmith();
        for (int way = 0; way < 3; way++) {
            smith.round(0, way);
            smith.line(0, 1, 1);
            smith.line(0, 1, 1);
            smith.line(1, 1, 1);
            smith.make(0);
        }
        smith.round(0, InvoiceSmith.BY_LINE);
        smith.rate(0, 0, 20, 0);
        smith.rate(0, 1, 20, 0);
        Checks.is("by all alone", smith.settle(0), 1);
        smith.rate(0, 0, 25, 0);
        Checks.is("by kind too", smith.settle(0), 1);
        smith.rate(0, 1, 50, 0);
        Checks.is("by line and by kind", smith.settle(0), 2);
        notes(smith, new int[][] {{2, 1, 0}, {1, 1, 0}, {0, 1, 0}, {1, 1, 0}});
        Checks.is("owed", smith.owed(0), 1 + 2 + 1);
    }

    private static void full() {
        InvoiceSmith smith = new InvoiceSmith();
        for (int i = 0; i < 15; i++) {
            Checks.makeOneLine(smith, 0, 0, 1, 100);
        }
        smith.rate(0, 0, 1, 0);
        Checks.is("15", smith.settle(0), 15);
        smith.rate(0, 0, 2, 0);
        Checks.is("30", smith.settle(0), 15);
        smith.rate(0, 0, 7, 0);
        Checks.is("40", smith.settle(0), 10);
        Checks.is("all", smith.notes(), 40);
        for (int i = 0; i < 15; i++) {
            Checks.is("made or not", smith.invoice(i, 5), i < 10 ? 7 : 2);
            Checks.is("as known", smith.taxAnew(i), 7);
        }
        Checks.is("owed", smith.owed(0), 10 * 7 + 5 * 2);
        Checks.is("the last", smith.note(39, 0), 9);
        Checks.is("its difference", smith.note(39, 1), 5);
        Checks.fails("none behind", Checks.INDEX, () -> smith.note(40, 0));
        Checks.is("no room", smith.settle(0), 0);
        smith.rate(0, 0, 0, 0);
        Checks.is("no room", smith.settle(0), 0);
        Checks.is("all", smith.notes(), 40);
        Checks.is("owed still", smith.owed(0), 80);
    }

    private static void wrong() {
        InvoiceSmith smith = new InvoiceSmith();
        for (int wrong : new int[] {-1, 4, Integer.MIN_VALUE, Integer.MAX_VALUE}) {
            Checks.fails("settle", Checks.INDEX, () -> smith.settle(wrong));
            Checks.fails("owed", Checks.INDEX, () -> smith.owed(wrong));
        }
        Checks.fails("no note, wrong what", Checks.INDEX, () -> smith.note(0, 3));
        Checks.makeOneLine(smith, 0, 0, 1, 100);
        smith.rate(0, 0, 1, 0);
        smith.settle(0);
        for (int wrong : new int[] {-1, 1, 40, Integer.MIN_VALUE, Integer.MAX_VALUE}) {
            Checks.fails("note", Checks.INDEX, () -> smith.note(wrong, 0));
            Checks.fails("note ahead of what", Checks.INDEX, () -> smith.note(wrong, 3));
        }
        for (int wrong : new int[] {-1, 3, Integer.MIN_VALUE, Integer.MAX_VALUE}) {
            Checks.fails("what", Checks.ARGUMENT, () -> smith.note(0, wrong));
        }
        Checks.is("notes", smith.notes(), 1);
    }
}
