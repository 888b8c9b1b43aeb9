/** An invoice, a rate that is told when its day has gone by, and the note that makes it good. */
public final class Example {
    public static void main(String[] args) {
        InvoiceSmith smith = new InvoiceSmith();
        type(smith, "No {n} of day {d}:{*{?i>1:,} {q} x {p} ={a6}*}; tax {t}, {?g>400:much|little}");
        System.out.println("PARTs: " + smith.template(0));

        smith.client(4, 1);
        smith.round(1, InvoiceSmith.BY_KIND);
        smith.rate(1, 2, 19, 0);
        smith.pass(3);
        smith.line(2, 3, 100);
        smith.line(0, 1, 99);
        int invoice = smith.make(4);
        System.out.println(written(smith, invoice, 0));

        smith.pass(7);
        int telling = smith.rate(1, 2, 20, 2);
        System.out.println("telling " + telling + " for a day gone by: the tax is " + smith.taxAnew(invoice));
        System.out.println("notes made: " + smith.settle(1) + ", then: " + smith.settle(1));
        System.out.println("note 0: of invoice " + smith.note(0, 0) + ", " + smith.note(0, 1)
                + " more, on day " + smith.note(0, 2));
        System.out.println("owed: " + smith.owed(1));

        type(smith, "{n} {tax}");
        System.out.println("FAULT at place " + (-1 - smith.template(1)));
        try {
            smith.line(0, 100, 1);
        } catch (IllegalArgumentException e) {
            System.out.println("no line of 100 pieces");
        }
    }

    /** Up to eight signs a call, the first of them in the lowest bits. */
    private static void type(InvoiceSmith smith, String text) {
        for (int begin = 0; begin < text.length(); begin += 8) {
            long signs = 0;
            for (int i = Math.min(begin + 8, text.length()) - 1; i >= begin; i--) {
                signs = signs << 8 | text.charAt(i);
            }
            smith.type(signs);
        }
    }

    private static String written(InvoiceSmith smith, int invoice, int template) {
        StringBuilder text = new StringBuilder();
        int length = smith.length(invoice, template);
        for (int place = 0; place < length; place++) {
            text.append(smith.written(invoice, template, place));
        }
        return text.toString();
    }
}
