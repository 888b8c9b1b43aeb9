/** The sentences on invoices as they are written, each with a test of its own. */
final class WritingSentences {
    private WritingSentences() {
    }

    static void tell(Document document) {
        written(document, "Promise 15");
        length(document, "Promise 16");
    }

    private static void written(Document document, String heading) {
        document.says(heading, "Writes an invoice by a template,", WritingSentences::byATemplate);
        document.says(heading, "with what it taxes; notes do not count.", WritingSentences::notesDoNotCount);
        document.says(heading, "place: from 0", WritingSentences::placeFrom0);
        document.says(heading, "Returns the sign there;", WritingSentences::signThere);
        document.says(heading, "a blank behind its end.", WritingSentences::blankBehind);
        document.says(heading, "Throws IndexOutOfBoundsException as told, of invoice and template,",
                WritingSentences::writtenOfNone);
        document.says(heading, "or if place is below 0", WritingSentences::placeBelow0);
    }

    private static void length(Document document, String heading) {
        document.says(heading, "Returns how many signs an invoice has, written by a template.",
                WritingSentences::howManySigns);
        document.says(heading, "Throws IndexOutOfBoundsException as told, of both", WritingSentences::lengthOfNone);
    }

    private static InvoiceSmith with(int invoices, int templates) {
        InvoiceSmith smith = new InvoiceSmith();
        for (int i = 0; i < invoices; i++) {
            Checks.makeOneLine(smith, i % 10, 0, 1, i + 1);
        }
        for (int i = 0; i < templates; i++) {
            Checks.read(smith, i, "T" + i + ":{n}");
        }
        return smith;
    }

    private static int[] beside(int count, int most) {
        return new int[] {Integer.MIN_VALUE, -1, count, count + 1, most, most + 1, Integer.MAX_VALUE};
    }

    /** Six lines of the greatest amount, and of the greatest tax. */
    private static InvoiceSmith greatest() {
        InvoiceSmith smith = new InvoiceSmith();
        smith.rate(0, 0, 100, 0);
        for (int i = 0; i < 6; i++) {
            smith.line(0, 99, 9999);
        }
        smith.make(0);
        return smith;
    }

    private static void byATemplate() {
        InvoiceSmith smith = with(30, 6);
        for (int invoice = 0; invoice < 30; invoice += 29) {
            for (int template = 0; template < 6; template++) {
                Checks.is("each by each", Checks.write(smith, invoice, template), "T" + template + ":" + invoice);
            }
        }
        Checks.read(smith, 3, "{s}");
        Checks.is("told anew", Checks.write(smith, 29, 3), "30");
        Checks.read(smith, 3, "");
        Checks.is("of no PARTs", Checks.write(smith, 29, 3), "");
        Checks.read(smith, 3, "{*{i}{?i=1:*|.}*}");
        Checks.is("of PARTs within PARTs", Checks.write(smith, 29, 3), "1*");
    }

    private static void notesDoNotCount() {
        InvoiceSmith smith = new InvoiceSmith();
        smith.rate(0, 0, 10, 0);
        smith.line(0, 1, 100);
        smith.line(1, 1, 50);
        smith.make(0);
        String text = "{t},{g},{*{x},*}{?t=10:y|n}";
        Checks.read(smith, 0, text);
        Checks.is("as made", Checks.write(smith, 0, 0), "10,160,10,0,y");
        smith.rate(0, 0, 90, 0);
        smith.rate(0, 1, 80, 0);
        Checks.is("rates told then", Checks.write(smith, 0, 0), "10,160,10,0,y");
        Checks.is("a note", smith.settle(0), 1);
        Checks.is("with a debit", Checks.write(smith, 0, 0), "10,160,10,0,y");
        Checks.read(smith, 1, text);
        Checks.is("by a template told then", Checks.write(smith, 0, 1), "10,160,10,0,y");
        smith.rate(0, 0, 0, 0);
        smith.settle(0);
        Checks.is("with a credit", Checks.write(smith, 0, 0), "10,160,10,0,y");
    }

    private static void placeFrom0() {
        InvoiceSmith smith = with(1, 0);
        Checks.read(smith, 0, "abc");
        Checks.is("0", smith.written(0, 0, 0), 'a');
        Checks.is("1", smith.written(0, 0, 1), 'b');
        Checks.is("2", smith.written(0, 0, 2), 'c');
    }

    /** Each of the signs of the longest writing that there is: 6 lines of 39 fields of 9 signs. */
    private static void signThere() {
        String text = "{*" + "{a9}".repeat(39) + "*}";
        String due = "   989901".repeat(6 * 39);
        for (int first = 0; first < due.length(); first += 300) {
            InvoiceSmith smith = greatest();
            Checks.read(smith, 0, text);
            for (int place = first; place < first + 300 && place < due.length(); place++) {
                Checks.is("place " + place, smith.written(0, 0, place), due.charAt(place));
            }
        }
    }

    private static void blankBehind() {
        InvoiceSmith smith = with(1, 0);
        for (String text : new String[] {"", "abc", "{n}", "{?0=1:a}", "{*b*}", "b".repeat(160)}) {
            Checks.read(smith, 0, text);
            int end = smith.length(0, 0);
            for (int place : new int[] {end, end + 1, end + 160, 10000, Integer.MAX_VALUE}) {
                Checks.is("behind " + text, smith.written(0, 0, place), ' ');
            }
            if (end > 0) {
                Checks.is("the last one is no blank", smith.written(0, 0, end - 1) == ' ' ? 1 : 0, 0);
            }
        }
    }

    private static void writtenOfNone() {
        for (int count : new int[] {0, 1, 30}) {
            InvoiceSmith smith = with(count, 1);
            for (int wrong : beside(count, 30)) {
                Checks.fails("invoice " + wrong + " of " + count, Checks.INDEX, () -> smith.written(wrong, 0, 0));
            }
        }
        for (int count = 0; count <= 6; count++) {
            InvoiceSmith smith = with(1, count);
            for (int wrong : beside(count, 6)) {
                Checks.fails("template " + wrong + " of " + count, Checks.INDEX, () -> smith.written(0, wrong, 0));
            }
        }
    }

    private static void placeBelow0() {
        InvoiceSmith smith = with(1, 6);
        Checks.fails("-1", Checks.INDEX, () -> smith.written(0, 5, -1));
        Checks.fails("-2", Checks.INDEX, () -> smith.written(0, 0, -2));
        Checks.fails("the least", Checks.INDEX, () -> smith.written(0, 0, Integer.MIN_VALUE));
        Checks.read(smith, 0, "");
        Checks.fails("-1 of an empty one", Checks.INDEX, () -> smith.written(0, 0, -1));
    }

    private static void howManySigns() {
        InvoiceSmith smith = greatest();
        String[] texts = {"", "a", "{n}", "{n9}", "{**}", "{*{i}*}", "{?0=0:}", "{?0=1:abc|de}", "{t5}", "{t8}",
            "b".repeat(160), "{*" + "c".repeat(156) + "*}", "{*" + "{a9}".repeat(39) + "*}"};
        int[] due = {0, 1, 1, 9, 0, 6, 0, 2, 7, 8, 160, 6 * 156, 6 * 39 * 9};
        for (int i = 0; i < texts.length; i++) {
            Checks.read(smith, 0, texts[i]);
            Checks.is(texts[i], smith.length(0, 0), due[i]);
        }
    }

    private static void lengthOfNone() {
        for (int count : new int[] {0, 1, 30}) {
            InvoiceSmith smith = with(count, 1);
            for (int wrong : beside(count, 30)) {
                Checks.fails("invoice " + wrong + " of " + count, Checks.INDEX, () -> smith.length(wrong, 0));
            }
        }
        for (int count = 0; count <= 6; count++) {
            InvoiceSmith smith = with(1, count);
            for (int wrong : beside(count, 6)) {
                Checks.fails("template " + wrong + " of " + count, Checks.INDEX, () -> smith.length(0, wrong));
            }
        }
    }
}
