/** Promises 15 and 16, written and length, and what templates mean. */
public final class WritingTest {
    public static void main(String[] args) {
        fields();
        loopFields();
        widths();
        loops();
        choices();
        sums();
        asMade();
        deep();
        longest();
        wrong();
        Checks.end("WritingTest");
    }

    /** Invoice 1 of client 8, day 30: 2 * 45 of kind 0 at 10, 1 * 7 of kind 2 at 50, 3 * 5 of kind 0. */
    private static InvoiceSmith smithOfThreeLines() {
        InvoiceSmith smith = new InvoiceSmith();
        smith.round(1, InvoiceSmith.BY_ALL);
        smith.client(8, 1);
        smith.rate(1, 0, 10, 0);
        smith.rate(1, 2, 50, 0);
        Checks.makeOneLine(smith, 0, 1, 1, 1);
        smith.pass(30);
        smith.line(0, 2, 45);
        smith.line(2, 1, 7);
        smith.line(0, 3, 5);
        smith.make(8);
        return smith;
    }

    private static void writes(String text, String due) {
        InvoiceSmith smith = smithOfThreeLines();
        Checks.read(smith, 0, text);
        Checks.is(text, Checks.write(smith, 1, 0), due);
    }

    private static void fields() {
        writes("", "");
        writes("plain * text?", "plain * text?");
        writes("{n}", "1");
        writes("{c}", "8");
        writes("{d}", "30");
        writes("{l}", "3");
        writes("{s}", "112");
        writes("{t}", "14");
        writes("{g}", "126");
        writes("<{n}{c}>{d}", "<18>30");
    }

    private static void loopFields() {
        writes("{*{i}*}", "123");
        writes("{*{k}*}", "020");
        writes("{*{q}*}", "213");
        writes("{*{p},*}", "45,7,5,");
        writes("{*{a},*}", "90,7,15,");
        writes("{*{x},*}", "9,4,2,");
        writes("{*{n}{l};*}", "13;13;13;");
    }

    private static void widths() {
        writes("{d1}", "30");
        writes("{d2}", "30");
        writes("{d3}", " 30");
        writes("{d9}", "       30");
        writes("{s2}{s4}", "112 112");
        writes("{*{p2}*}", "45 7 5");
        writes("{n9}!", "        1!");
        InvoiceSmith smith = new InvoiceSmith();
        Checks.makeOneLine(smith, 0, 0, 1, 1000);
        Checks.read(smith, 0, "{t}{n3}{s}{d5}{s4}{s5}");
        Checks.is("noughts", Checks.write(smith, 0, 0), "0  01000    01000 1000");
    }

    private static void loops() {
        writes("{**}", "");
        writes("{***}", "***");
        writes("a{*b*}c", "abbbc");
        writes("{*a*b*}{*c*}", "a*ba*ba*bccc");
        writes("{*{?i=2:*}*}", "*");
        writes("{?l=3:{*x*}|{*y*}}", "xxx");
        writes("{?l=2:{*x*}|{*y*}}{n}", "yyy1");
    }

    private static void choices() {
        writes("{?n=1:a}", "a");
        writes("{?n=2:a}", "");
        writes("{?n=2:a|b}", "b");
        writes("{?n=1:a|b}", "a");
        writes("{?n<1:a|b}{?n<2:a|b}{?n<0:a|b}", "bab");
        writes("{?n>1:a|b}{?n>2:a|b}{?n>0:a|b}", "bba");
        writes("{?n=1:|b}.", ".");
        writes("{?n=2:a|}.", ".");
        writes("{*{?i<l:{a},|{a}}*}", "90,7,15");
        writes("{*{?k=0:{?q>2:A|B}|C}*}", "BCA");
        writes("{?1=1:{?1=2:a|b}|c}{?1=2:a|{?1=1:b|c}}", "bb");
        writes("{?t=1:}z", "z");
    }

    private static void sums() {
        writes("{?s+t=g:y|n}", "y");
        writes("{?1-2+3=2:y|n}", "y");
        writes("{?1-2-3=0-4:y|n}", "y");
        writes("{?2=1-2+3:y|n}", "y");
        writes("{?0-1<0:y|n}", "y");
        writes("{?0>0-1:y|n}", "y");
        writes("{?000012=12:y|n}", "y");
        writes("{?999999+1>999999:y|n}", "y");
        writes("{?n+c+d+l=42:y|n}", "y");
        writes("{?5=5:{?4=4:y|n}|m}{?3=3:y|n}", "yy");
        writes("{?5=4:y|n}{?3=3:y|n}", "ny");
        writes("{*{?a-q+k-p+x=0:y|{?i+8=9:z|w}}*}", "zww");
        writes("{*{?a-p-p=0:y|n}*}", "ynn");
    }

    private static void asMade() {
        InvoiceSmith smith = smithOfThreeLines();
        Checks.read(smith, 0, "{t} {g}{* {x}*}");
        Checks.is("as made", Checks.write(smith, 1, 0), "14 126 9 4 2");
        smith.rate(1, 0, 100, 0);
        Checks.is("rates told later do not count", Checks.write(smith, 1, 0), "14 126 9 4 2");
        Checks.is("settled", smith.settle(1), 1);
        Checks.is("notes do not count", Checks.write(smith, 1, 0), "14 126 9 4 2");
        Checks.is("another invoice", Checks.write(smith, 0, 0), "0 1 0");
        smith.client(8, 0);
        smith.pass(1);
        Checks.read(smith, 1, "{c}{d}");
        Checks.is("client and day as made", Checks.write(smith, 1, 1), "830");
        Checks.is("client and day of the other", Checks.write(smith, 0, 1), "00");
    }

    private static void deep() {
        writes("{?1=1:{?1=1:{?1=1:{?1=1:{*{i}*}|e}|d}|c}|b}", "123");
        writes("{*{?i=1:a|{?i=2:b|{?q=3:{?p=5:y|n}|m}}}*}", "aby");
        writes("{?1=2:a|{?1=2:b|{?1=2:c|{?1=2:d|{?1=2:e|f}}}}}.", "f.");
    }

    private static void longest() {
        InvoiceSmith smith = new InvoiceSmith();
        for (int i = 0; i < 6; i++) {
            smith.line(0, 99, 9999);
        }
        smith.make(0);
        StringBuilder text = new StringBuilder("{*");
        for (int i = 0; i < 39; i++) {
            text.append("{a9}");
        }
        Checks.is("parts", Checks.read(smith, 0, text + "*}"), 40);
        Checks.is("longest", smith.length(0, 0), 6 * 39 * 9);
        for (int i = 0; i < 60; i++) {
            Checks.is("sign", smith.written(0, 0, 6 * 39 * 9 - 1 - i), i % 9 < 6 ? "109989".charAt(i % 9) : ' ');
        }
    }

    private static void wrong() {
        InvoiceSmith smith = new InvoiceSmith();
        Checks.fails("none yet", Checks.INDEX, () -> smith.length(0, 0));
        Checks.read(smith, 0, "ab");
        Checks.fails("no invoice yet", Checks.INDEX, () -> smith.written(0, 0, 0));
        Checks.makeOneLine(smith, 0, 0, 1, 1);
        for (int wrong : new int[] {-1, 1, 6, 7, 30, 31, Integer.MIN_VALUE, Integer.MAX_VALUE}) {
            Checks.fails("written, invoice", Checks.INDEX, () -> smith.written(wrong, 0, 0));
            Checks.fails("written, template", Checks.INDEX, () -> smith.written(0, wrong, 0));
            Checks.fails("length, invoice", Checks.INDEX, () -> smith.length(wrong, 0));
            Checks.fails("length, template", Checks.INDEX, () -> smith.length(0, wrong));
        }
        Checks.fails("place", Checks.INDEX, () -> smith.written(0, 0, -1));
        Checks.fails("place far below 0", Checks.INDEX, () -> smith.written(0, 0, Integer.MIN_VALUE));
        Checks.is("first", smith.written(0, 0, 0), 'a');
        Checks.is("second", smith.written(0, 0, 1), 'b');
        Checks.is("behind", smith.written(0, 0, 2), ' ');
        Checks.is("length", smith.length(0, 0), 2);
    }
}
