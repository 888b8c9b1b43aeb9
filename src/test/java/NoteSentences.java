/** The sentences on settling, notes and what is owed, each with a test of its own. */
final class NoteSentences {
    private static final int MOST_NOTES = 40;
    private static final int[] NO_PLACE = {Integer.MIN_VALUE, -1, 4, 5, Integer.MAX_VALUE};

    private NoteSentences() {
    }

    static void tell(Document document) {
        terms(document, "Invoices, notes");
        settle(document, "Promise 17");
        notes(document, "Promise 18");
        note(document, "Promise 19");
        owed(document, "Promise 20");
    }

    private static void terms(Document document, String heading) {
        document.says(heading, "To settle a place makes notes: for each of its invoices,",
                NoteSentences::ofItsInvoices);
        document.says(heading, "by rising numbers,", NoteSentences::byRisingNumbers);
        document.says(heading, "for which the tax by the rates of its day, as is known now, is another one than"
                + " what the invoice and its notes so far tax together:", NoteSentences::anotherTax);
        document.says(heading, "one more, of the difference,", NoteSentences::ofTheDifference);
        document.says(heading, "above 0 a debit, below 0 a credit.", NoteSentences::debitsAndCredits);
        document.says(heading, "Notes are numbered from 0, at most 40;", NoteSentences::fortyNotes);
        document.says(heading, "a note that would be one too many is not made,", NoteSentences::oneTooMany);
        document.says(heading, "nor those behind it.", NoteSentences::thoseBehind);
    }

    private static void settle(Document document, String heading) {
        document.says(heading, "Settles a place.", NoteSentences::settles);
        document.says(heading, "Returns how many notes are made.", NoteSentences::howManyAreMade);
        document.says(heading, "Throws IndexOutOfBoundsException as told", NoteSentences::settleOfNone);
    }

    private static void notes(Document document, String heading) {
        document.says(heading, "Returns how many notes there are.", NoteSentences::howManyThereAre);
    }

    private static void note(Document document, String heading) {
        document.says(heading, "Returns a number of a note.", NoteSentences::numbersOfANote);
        document.says(heading, "what: 0 its invoice,", NoteSentences::whatInvoice);
        document.says(heading, "1 the difference,", NoteSentences::whatDifference);
        document.says(heading, "2 its day", NoteSentences::whatDay);
        document.says(heading, "Throws IndexOutOfBoundsException as told", NoteSentences::noteOfNone);
        document.says(heading, "Throws IllegalArgumentException if what is out of range",
                NoteSentences::whatOutOfRange);
    }

    private static void owed(Document document, String heading) {
        document.says(heading, "Returns what a place is owed: what its invoices and their notes tax together.",
                NoteSentences::whatIsOwed);
        document.says(heading, "Throws IndexOutOfBoundsException as told", NoteSentences::owedOfNone);
    }

    /** Invoices of day 0 at place 0, each of 100, so that its tax is the rate, which is 0 at first. */
    private static InvoiceSmith withInvoices(int count) {
        InvoiceSmith smith = new InvoiceSmith();
        for (int i = 0; i < count; i++) {
            Checks.makeOneLine(smith, 0, 0, 1, 100);
        }
        return smith;
    }

    /** Tells a rate of place 0 from day 0 on, and settles. */
    private static int settleAt(InvoiceSmith smith, int hundredths) {
        smith.rate(0, 0, hundredths, 0);
        return smith.settle(0);
    }

    /** One invoice with so many notes, each of 1. */
    private static InvoiceSmith withNotes(int count) {
        InvoiceSmith smith = withInvoices(1);
        for (int i = 1; i <= count; i++) {
            settleAt(smith, i);
        }
        return smith;
    }

    private static void isNote(InvoiceSmith smith, int number, int invoice, int difference, int day) {
        Checks.is("invoice of note " + number, smith.note(number, 0), invoice);
        Checks.is("difference of note " + number, smith.note(number, 1), difference);
        Checks.is("day of note " + number, smith.note(number, 2), day);
    }

    // ---- terms

    private static void ofItsInvoices() {
        InvoiceSmith smith = new InvoiceSmith();
        for (int i = 0; i < 8; i++) {
            smith.client(i, i % 4);
            Checks.makeOneLine(smith, i, 0, 1, 100);
        }
        for (int place = 0; place < 4; place++) {
            smith.rate(place, 0, 10 + place, 0);
        }
        smith.client(2, 3);
        smith.client(1, 2);
        Checks.is("two of place 2", smith.settle(2), 2);
        isNote(smith, 0, 2, 12, 0);
        isNote(smith, 1, 6, 12, 0);
        Checks.is("no others", smith.notes(), 2);
        for (int invoice = 0; invoice < 8; invoice++) {
            boolean settled = invoice % 4 == 2;
            Checks.is("settled or not", smith.invoice(invoice, 5), settled ? 12 : 0);
        }
        Checks.is("two of place 3", smith.settle(3), 2);
        isNote(smith, 2, 3, 13, 0);
        isNote(smith, 3, 7, 13, 0);
    }

    private static void byRisingNumbers() {
        InvoiceSmith smith = withInvoices(30);
        Checks.is("30", settleAt(smith, 10), 30);
        for (int i = 0; i < 30; i++) {
            Checks.is("note " + i, smith.note(i, 0), i);
        }
    }

    private static void anotherTax() {
        InvoiceSmith smith = withInvoices(1);
        Checks.is("nothing told", smith.settle(0), 0);
        Checks.is("told the same", settleAt(smith, 0), 0);
        Checks.is("more by 1", settleAt(smith, 1), 1);
        Checks.is("once", smith.settle(0), 0);
        Checks.is("told the same", settleAt(smith, 1), 0);
        smith.pass(9);
        Checks.is("on another day", smith.settle(0), 0);
        Checks.is("less by 1", settleAt(smith, 0), 1);
        Checks.is("once", smith.settle(0), 0);
        smith.rate(0, 0, 50, 1);
        Checks.is("of a day behind", smith.settle(0), 0);
        smith.rate(0, 1, 50, 0);
        Checks.is("of another kind", smith.settle(0), 0);
        smith.rate(1, 0, 50, 0);
        Checks.is("of another place", smith.settle(0), 0);
        Checks.is("as many as were made", smith.notes(), 2);
        InvoiceSmith small = new InvoiceSmith();
        Checks.makeOneLine(small, 0, 0, 1, 1);
        Checks.is("another rate, but the same tax", settleAt(small, 49), 0);
        Checks.is("another tax", settleAt(small, 50), 1);
        Checks.is("the same tax again", settleAt(small, 100), 0);
    }

    private static void ofTheDifference() {
        InvoiceSmith smith = withInvoices(1);
        int[] rates = {10, 15, 5, 100, 0, 1};
        int before = 0;
        for (int i = 0; i < rates.length; i++) {
            Checks.is("one more", settleAt(smith, rates[i]), 1);
            isNote(smith, i, 0, rates[i] - before, 0);
            Checks.is("together", smith.invoice(0, 5), rates[i]);
            before = rates[i];
        }
        InvoiceSmith greatest = new InvoiceSmith();
        for (int i = 0; i < 6; i++) {
            greatest.line(0, 99, 9999);
        }
        greatest.make(0);
        settleAt(greatest, 100);
        settleAt(greatest, 0);
        isNote(greatest, 0, 0, 5939406, 0);
        isNote(greatest, 1, 0, -5939406, 0);
    }

    private static void debitsAndCredits() {
        InvoiceSmith smith = new InvoiceSmith();
        smith.rate(0, 0, 10, 0);
        smith.rate(0, 1, 10, 0);
        Checks.makeOneLine(smith, 0, 0, 1, 100);
        Checks.makeOneLine(smith, 0, 1, 1, 100);
        smith.rate(0, 0, 11, 0);
        smith.rate(0, 1, 9, 0);
        Checks.is("both", smith.settle(0), 2);
        isNote(smith, 0, 0, 1, 0);
        isNote(smith, 1, 1, -1, 0);
        Checks.is("a debit makes it more", smith.invoice(0, 5), 11);
        Checks.is("a credit makes it less", smith.invoice(1, 5), 9);
    }

    private static void fortyNotes() {
        InvoiceSmith smith = withInvoices(1);
        for (int i = 0; i < MOST_NOTES; i++) {
            Checks.is("one more", settleAt(smith, i + 1), 1);
            Checks.is("so many", smith.notes(), i + 1);
            isNote(smith, i, 0, 1, 0);
        }
        Checks.is("no more", settleAt(smith, 99), 0);
        Checks.is("so many", smith.notes(), MOST_NOTES);
        Checks.fails("note 40", Checks.INDEX, () -> smith.note(40, 0));
    }

    /** There are 39; of two that are due then, the second one is one too many. */
    private static void oneTooMany() {
        InvoiceSmith smith = withNotes(39);
        smith.client(1, 1);
        Checks.makeOneLine(smith, 1, 0, 1, 100);
        Checks.makeOneLine(smith, 1, 0, 1, 100);
        Checks.is("so many", smith.notes(), 39);
        smith.rate(1, 0, 50, 0);
        Checks.is("one alone", smith.settle(1), 1);
        isNote(smith, 39, 1, 50, 0);
        Checks.is("settled", smith.invoice(1, 5), 50);
        Checks.is("not settled", smith.invoice(2, 5), 0);
        Checks.is("as is known", smith.taxAnew(2), 50);
        Checks.fails("no note 40", Checks.INDEX, () -> smith.note(40, 0));
        Checks.is("none then", smith.settle(1), 0);
        Checks.is("so many", smith.notes(), MOST_NOTES);
    }

    private static void thoseBehind() {
        InvoiceSmith smith = withInvoices(15);
        Checks.is("15", settleAt(smith, 1), 15);
        Checks.is("15 more", settleAt(smith, 2), 15);
        Checks.is("10 alone", settleAt(smith, 7), 10);
        for (int i = 0; i < 15; i++) {
            Checks.is("settled or not", smith.invoice(i, 5), i < 10 ? 7 : 2);
        }
        isNote(smith, 39, 9, 5, 0);
        Checks.is("none", smith.settle(0), 0);
        Checks.is("none, with a credit due", settleAt(smith, 0), 0);
        Checks.is("owed as it was", smith.owed(0), 10 * 7 + 5 * 2);
        Checks.is("of another place neither", smith.settle(3), 0);
    }

    // ---- promise 17

    private static void settles() {
        InvoiceSmith smith = withInvoices(2);
        smith.pass(4);
        Checks.makeOneLine(smith, 0, 0, 2, 100);
        smith.rate(0, 0, 10, 4);
        smith.pass(2);
        Checks.is("the third", smith.settle(0), 1);
        isNote(smith, 0, 2, 20, 6);
        smith.rate(0, 0, 5, 0);
        Checks.is("the first two", smith.settle(0), 2);
        isNote(smith, 0, 2, 20, 6);
        isNote(smith, 1, 0, 5, 6);
        isNote(smith, 2, 1, 5, 6);
        for (int invoice = 0; invoice < 3; invoice++) {
            Checks.is("made good", smith.invoice(invoice, 5), smith.taxAnew(invoice));
            Checks.is("as it was made", smith.invoice(invoice, 4), 0);
        }
        Checks.is("once", smith.settle(0), 0);
    }

    private static void howManyAreMade() {
        Checks.is("no invoices", settleAt(new InvoiceSmith(), 10), 0);
        for (int count : new int[] {1, 2, 29, 30}) {
            InvoiceSmith smith = withInvoices(count);
            Checks.is("all", settleAt(smith, 10), count);
            Checks.is("none", smith.settle(0), 0);
            Checks.is("of another place", smith.settle(1), 0);
            Checks.is("all again, or what there is room for", settleAt(smith, 20), Math.min(count, 40 - count));
        }
    }

    private static void settleOfNone() {
        InvoiceSmith smith = withInvoices(1);
        smith.rate(0, 0, 10, 0);
        for (int wrong : NO_PLACE) {
            Checks.fails("place " + wrong, Checks.INDEX, () -> smith.settle(wrong));
        }
        Checks.is("none was made", smith.notes(), 0);
    }

    // ---- promise 18

    private static void howManyThereAre() {
        InvoiceSmith smith = withInvoices(8);
        Checks.is("at first", smith.notes(), 0);
        for (int i = 1; i <= 6; i++) {
            settleAt(smith, i);
            Checks.is("of " + i, smith.notes(), Math.min(8 * i, MOST_NOTES));
        }
    }

    // ---- promise 19

    private static void numbersOfANote() {
        InvoiceSmith smith = withInvoices(3);
        smith.pass(2);
        settleAt(smith, 30);
        smith.pass(3);
        smith.rate(0, 0, 20, 0);
        smith.settle(0);
        for (int i = 0; i < 3; i++) {
            isNote(smith, i, i, 30, 2);
            isNote(smith, i + 3, i, -10, 5);
        }
    }

    private static void whatInvoice() {
        InvoiceSmith smith = withInvoices(29);
        smith.rate(0, 0, 5, 0);
        smith.settle(0);
        Checks.makeOneLine(smith, 0, 0, 1, 100);
        smith.rate(0, 0, 0, 0);
        smith.settle(0);
        Checks.is("the first of 0", smith.note(0, 0), 0);
        Checks.is("of the last but one", smith.note(28, 0), 28);
        Checks.is("of 0 again", smith.note(29, 0), 0);
        Checks.is("the last", smith.note(39, 0), 10);
    }

    private static void whatDifference() {
        InvoiceSmith smith = withInvoices(1);
        int[] rates = {1, 0, 100, 0};
        int[] due = {1, -1, 100, -100};
        for (int i = 0; i < rates.length; i++) {
            settleAt(smith, rates[i]);
            Checks.is("note " + i, smith.note(i, 1), due[i]);
        }
    }

    private static void whatDay() {
        InvoiceSmith smith = withInvoices(1);
        settleAt(smith, 1);
        smith.pass(99);
        settleAt(smith, 2);
        for (int i = 0; i < 101; i++) {
            smith.pass(99);
        }
        settleAt(smith, 3);
        Checks.is("the first day", smith.note(0, 2), 0);
        Checks.is("a later day", smith.note(1, 2), 99);
        Checks.is("a day behind 9999", smith.note(2, 2), 102 * 99);
    }

    private static void noteOfNone() {
        for (int count : new int[] {0, 1, 39, 40}) {
            InvoiceSmith smith = withNotes(count);
            Checks.is("so many", smith.notes(), count);
            for (int wrong : new int[] {Integer.MIN_VALUE, -1, count, count + 1, 40, 41, Integer.MAX_VALUE}) {
                for (int what = 0; what < 3; what++) {
                    int one = what;
                    Checks.fails(wrong + " of " + count, Checks.INDEX, () -> smith.note(wrong, one));
                }
            }
        }
    }

    private static void whatOutOfRange() {
        InvoiceSmith smith = withNotes(MOST_NOTES);
        for (int wrong : new int[] {Integer.MIN_VALUE, -1, 3, 4, Integer.MAX_VALUE}) {
            Checks.fails("what " + wrong, Checks.ARGUMENT, () -> smith.note(0, wrong));
            Checks.fails("what " + wrong, Checks.ARGUMENT, () -> smith.note(39, wrong));
        }
    }

    // ---- promise 20

    private static void whatIsOwed() {
        InvoiceSmith smith = new InvoiceSmith();
        for (int place = 0; place < 4; place++) {
            Checks.is("nothing at first", smith.owed(place), 0);
            smith.rate(place, 0, 10 * (place + 1), 0);
            smith.client(place, place);
        }
        for (int i = 0; i < 8; i++) {
            Checks.makeOneLine(smith, i % 4, 0, 1, 100);
        }
        for (int place = 0; place < 4; place++) {
            Checks.is("of its invoices", smith.owed(place), 20 * (place + 1));
        }
        smith.rate(2, 0, 35, 0);
        Checks.is("not settled", smith.owed(2), 60);
        smith.settle(2);
        Checks.is("with debits", smith.owed(2), 70);
        smith.rate(2, 0, 1, 0);
        smith.settle(2);
        Checks.is("with credits", smith.owed(2), 2);
        smith.client(3, 2);
        Checks.is("its client has another place now", smith.owed(3), 80);
        Checks.is("as it was", smith.owed(2), 2);
        InvoiceSmith greatest = new InvoiceSmith();
        greatest.rate(0, 0, 100, 0);
        for (int i = 0; i < 180; i++) {
            if (greatest.line(0, 99, 9999) == 6) {
                greatest.make(0);
            }
        }
        Checks.is("the greatest", greatest.owed(0), 30 * 5939406);
    }

    private static void owedOfNone() {
        InvoiceSmith smith = withInvoices(1);
        for (int wrong : NO_PLACE) {
            Checks.fails("place " + wrong, Checks.INDEX, () -> smith.owed(wrong));
        }
    }
}
