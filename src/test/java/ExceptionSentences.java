import java.util.ArrayList;
import java.util.List;
import java.util.concurrent.Callable;
import java.util.function.Supplier;

/** The sentences on exceptions, the constants and the last call, each with a test of its own. */
final class ExceptionSentences {
    private static final int[] BELOW = {Integer.MIN_VALUE, -1};

    /** A call that must be refused, and how. */
    private record Refused(String name, Class<?> due, Callable<?> call) {
    }

    private ExceptionSentences() {
    }

    static void tell(Document document) {
        String heading = "Invoices, notes";
        document.says(heading, "A call that throws an exception changes nothing.",
                ExceptionSentences::changesNothing);
        document.says(heading,
                "If several exceptions apply, the one that is named first in the throws clause is thrown.",
                ExceptionSentences::namedFirst);
        document.says(heading,
                "IndexOutOfBoundsException: there is no such template, place, kind, client, invoice, note or telling.",
                ExceptionSentences::noSuch);
        document.says(heading, "The constants: NONE = -1: There is none.", ExceptionSentences::none);
        document.says(heading, "BY_LINE = 0, BY_KIND = 1, BY_ALL = 2: Ways of rounding.", ExceptionSentences::ways);
        document.says("What it is", "An object is used for at most 512 calls after it has been made;",
                ExceptionSentences::calls512);
    }

    // ---- objects to refuse calls of

    /** Two of most things, nothing at its limit. */
    private static InvoiceSmith usual() {
        InvoiceSmith smith = new InvoiceSmith();
        Checks.read(smith, 0, "a{n}");
        Checks.read(smith, 1, "{*{k}{q}{p}*}");
        smith.client(3, 1);
        smith.round(1, 2);
        smith.rate(1, 0, 10, 0);
        Checks.makeOneLine(smith, 3, 0, 2, 100);
        smith.pass(6);
        smith.rate(1, 0, 20, 0);
        smith.rate(1, 2, 5, 4);
        smith.settle(1);
        Checks.makeOneLine(smith, 3, 2, 3, 100);
        smith.rate(1, 2, 8, 5);
        smith.settle(1);
        smith.line(1, 4, 7);
        smith.line(3, 5, 9);
        Checks.typeText(smith, "page{n}");
        return smith;
    }

    /** All of everything that there can be. */
    private static InvoiceSmith full() {
        InvoiceSmith smith = new InvoiceSmith();
        for (int i = 0; i < 6; i++) {
            Checks.read(smith, i, "t{n}" + i);
        }
        for (int i = 0; i < 30; i++) {
            Checks.makeOneLine(smith, i % 10, i % 4, 1, 100);
        }
        for (int i = 0; i < 60; i++) {
            smith.rate(0, i % 4, i, 0);
            if (i % 8 == 3) {
                smith.settle(0);
            }
        }
        for (int i = 0; i < 6; i++) {
            smith.line(i % 4, 1, i + 1);
        }
        Checks.typeText(smith, "s".repeat(160));
        return smith;
    }

    /** All that can be seen of an object; what must be changed to be seen comes last. */
    private static String seen(InvoiceSmith smith) {
        StringBuilder out = new StringBuilder();
        int notes = smith.notes();
        for (int i = 0; i < notes; i++) {
            out.append(smith.note(i, 0)).append(',').append(smith.note(i, 1)).append(',').append(smith.note(i, 2));
            out.append(' ');
        }
        see(out, () -> smith.type(0));
        for (int place = 0; place < 4; place++) {
            int one = place;
            see(out, () -> smith.owed(one));
            for (int kind = 0; kind < 4; kind++) {
                int other = kind;
                see(out, () -> smith.telling(one, other, 9999));
            }
        }
        see(out, () -> smith.rate(0, 0, 0, 9999));
        for (int invoice = 0; invoice < 2; invoice++) {
            seeInvoice(out, smith, invoice);
        }
        see(out, () -> smith.pass(1));
        for (int client = 0; client < 10; client++) {
            int one = client;
            see(out, () -> smith.client(one, 0));
        }
        for (int place = 0; place < 4; place++) {
            int one = place;
            see(out, () -> smith.round(one, 0));
        }
        seePageAndDraft(out, smith);
        return out.toString();
    }

    private static void seeInvoice(StringBuilder out, InvoiceSmith smith, int invoice) {
        for (int what = 0; what < 8; what++) {
            int one = what;
            see(out, () -> smith.invoice(invoice, one));
        }
        see(out, () -> smith.taxAnew(invoice));
        see(out, () -> smith.used(invoice, 0));
        for (int template = 0; template < 6; template++) {
            int one = template;
            see(out, () -> smith.length(invoice, one));
            see(out, () -> smith.written(invoice, one, 1));
        }
    }

    /** The page is read as template 0; what is left of the draft, line by line, as it shrinks. */
    private static void seePageAndDraft(StringBuilder out, InvoiceSmith smith) {
        see(out, () -> smith.template(0));
        see(out, () -> smith.length(0, 0));
        see(out, () -> smith.written(0, 0, 2));
        smith.type(Checks.pack("{*{k}{q}"));
        smith.type(Checks.pack("{p}*}"));
        see(out, () -> smith.template(0));
        int[] last = {0};
        see(out, () -> last[0] = smith.make(9));
        for (int place = 0; place < 20; place++) {
            int one = place;
            see(out, () -> smith.written(last[0], 0, one));
        }
        see(out, () -> smith.strike(0));
    }

    private static void see(StringBuilder out, Callable<?> call) {
        try {
            out.append(call.call());
        } catch (Exception e) {
            out.append(e.getClass().getSimpleName());
        }
        out.append(' ');
    }

    // ---- calls to be refused

    private static List<Refused> refusedAlways(InvoiceSmith smith) {
        List<Refused> all = new ArrayList<>();
        all.add(new Refused("type", Checks.ARGUMENT, () -> smith.type(31)));
        all.add(new Refused("type, the second sign", Checks.ARGUMENT, () -> smith.type(0x7F61)));
        all.add(new Refused("type, behind 0", Checks.ARGUMENT, () -> smith.type(0x610061)));
        all.add(new Refused("template", Checks.INDEX, () -> smith.template(-1)));
        all.add(new Refused("template", Checks.INDEX, () -> smith.template(7)));
        all.add(new Refused("pass", Checks.ARGUMENT, () -> smith.pass(0)));
        all.add(new Refused("pass", Checks.ARGUMENT, () -> smith.pass(100)));
        all.add(new Refused("rate, place", Checks.INDEX, () -> smith.rate(4, 0, 1, 1)));
        all.add(new Refused("rate, kind", Checks.INDEX, () -> smith.rate(0, 4, 1, 1)));
        all.add(new Refused("rate, hundredths", Checks.ARGUMENT, () -> smith.rate(0, 0, 101, 1)));
        all.add(new Refused("rate, from", Checks.ARGUMENT, () -> smith.rate(0, 0, 1, 10000)));
        all.add(new Refused("telling", Checks.INDEX, () -> smith.telling(0, 4, 0)));
        all.add(new Refused("telling", Checks.ARGUMENT, () -> smith.telling(0, 0, 10000)));
        all.add(new Refused("round, place", Checks.INDEX, () -> smith.round(4, 1)));
        all.add(new Refused("round, way", Checks.ARGUMENT, () -> smith.round(1, 3)));
        all.add(new Refused("client", Checks.INDEX, () -> smith.client(10, 2)));
        all.add(new Refused("client, place", Checks.INDEX, () -> smith.client(3, 4)));
        all.add(new Refused("line, kind", Checks.INDEX, () -> smith.line(4, 1, 1)));
        all.add(new Refused("line, quantity", Checks.ARGUMENT, () -> smith.line(0, 100, 1)));
        all.add(new Refused("line, price", Checks.ARGUMENT, () -> smith.line(0, 1, 10000)));
        all.add(new Refused("strike", Checks.INDEX, () -> smith.strike(-1)));
        all.add(new Refused("strike", Checks.INDEX, () -> smith.strike(6)));
        all.add(new Refused("make", Checks.INDEX, () -> smith.make(10)));
        all.add(new Refused("settle", Checks.INDEX, () -> smith.settle(4)));
        all.add(new Refused("owed", Checks.INDEX, () -> smith.owed(4)));
        for (int wrong : BELOW) {
            all.add(new Refused("invoice", Checks.INDEX, () -> smith.invoice(wrong, 0)));
            all.add(new Refused("taxAnew", Checks.INDEX, () -> smith.taxAnew(wrong)));
            all.add(new Refused("used", Checks.INDEX, () -> smith.used(wrong, 0)));
            all.add(new Refused("written", Checks.INDEX, () -> smith.written(wrong, 0, 0)));
            all.add(new Refused("length", Checks.INDEX, () -> smith.length(wrong, 0)));
            all.add(new Refused("note", Checks.INDEX, () -> smith.note(wrong, 0)));
        }
        return all;
    }

    private static List<Refused> refusedByUsual(InvoiceSmith smith) {
        List<Refused> all = refusedAlways(smith);
        all.add(new Refused("a template too far", Checks.INDEX, () -> smith.template(3)));
        all.add(new Refused("no such line", Checks.INDEX, () -> smith.strike(2)));
        all.add(new Refused("no such invoice", Checks.INDEX, () -> smith.invoice(2, 0)));
        all.add(new Refused("what", Checks.ARGUMENT, () -> smith.invoice(1, 8)));
        all.add(new Refused("no line used", Checks.INDEX, () -> smith.used(1, 1)));
        all.add(new Refused("no such template", Checks.INDEX, () -> smith.written(1, 2, 0)));
        all.add(new Refused("no such place", Checks.INDEX, () -> smith.written(1, 1, -1)));
        all.add(new Refused("what of a note", Checks.ARGUMENT, () -> smith.note(1, 3)));
        return all;
    }

    private static List<Refused> refusedByFull(InvoiceSmith smith) {
        List<Refused> all = refusedAlways(smith);
        all.add(new Refused("a full page", Checks.STATE, () -> smith.type('a')));
        all.add(new Refused("a seventh template", Checks.STATE, () -> smith.template(6)));
        all.add(new Refused("61 tellings", Checks.STATE, () -> smith.rate(0, 0, 100, 0)));
        all.add(new Refused("a seventh line", Checks.STATE, () -> smith.line(0, 1, 1)));
        all.add(new Refused("31 invoices", Checks.STATE, () -> smith.make(0)));
        return all;
    }

    private static List<Refused> refusedByNew(InvoiceSmith smith) {
        List<Refused> all = refusedAlways(smith);
        all.add(new Refused("a template too far", Checks.INDEX, () -> smith.template(1)));
        all.add(new Refused("an empty draft", Checks.STATE, () -> smith.make(0)));
        all.add(new Refused("no line to strike", Checks.INDEX, () -> smith.strike(0)));
        all.add(new Refused("no invoice", Checks.INDEX, () -> smith.invoice(0, 0)));
        all.add(new Refused("no note", Checks.INDEX, () -> smith.note(0, 0)));
        return all;
    }

    // ---- the sentences

    private static void changesNothing() {
        InvoiceSmith usual = usual();
        leaves(usual, ExceptionSentences::usual, refusedByUsual(usual));
        InvoiceSmith full = full();
        leaves(full, ExceptionSentences::full, refusedByFull(full));
        InvoiceSmith fresh = new InvoiceSmith();
        leaves(fresh, InvoiceSmith::new, refusedByNew(fresh));
    }

    private static void leaves(InvoiceSmith refuser, Supplier<InvoiceSmith> alike, List<Refused> calls) {
        for (Refused refused : calls) {
            Checks.fails(refused.name, refused.due, refused.call);
        }
        Checks.is("behind " + calls.size() + " refused calls", seen(refuser), seen(alike.get()));
    }

    /** Every pair, and all three, of the exceptions that a call can have cause for at once. */
    private static void namedFirst() {
        InvoiceSmith full = full();
        Checks.fails("type: sign, full", Checks.ARGUMENT, () -> full.type(31));
        Checks.fails("type: sign behind one, full", Checks.ARGUMENT, () -> full.type(0x1F61));
        Checks.fails("type: behind 0, full", Checks.ARGUMENT, () -> full.type(0x610061));
        Checks.fails("template: none such, full", Checks.INDEX, () -> full.template(7));
        Checks.fails("rate: place, full", Checks.INDEX, () -> full.rate(-1, 0, 0, 0));
        Checks.fails("rate: kind, full", Checks.INDEX, () -> full.rate(0, -1, 0, 0));
        Checks.fails("rate: hundredths, full", Checks.ARGUMENT, () -> full.rate(0, 0, -1, 0));
        Checks.fails("rate: from, full", Checks.ARGUMENT, () -> full.rate(0, 0, 0, -1));
        Checks.fails("rate: kind, from, full", Checks.INDEX, () -> full.rate(0, 4, 0, 10000));
        Checks.fails("line: kind, full", Checks.INDEX, () -> full.line(4, 1, 1));
        Checks.fails("line: quantity, full", Checks.ARGUMENT, () -> full.line(0, 0, 1));
        Checks.fails("line: price, full", Checks.ARGUMENT, () -> full.line(0, 1, 0));
        Checks.fails("line: kind, price, full", Checks.INDEX, () -> full.line(-1, 1, 0));
        Checks.fails("make: client, full", Checks.INDEX, () -> full.make(10));

        InvoiceSmith fresh = new InvoiceSmith();
        Checks.fails("rate: place, hundredths", Checks.INDEX, () -> fresh.rate(4, 0, 101, 0));
        Checks.fails("rate: place, from", Checks.INDEX, () -> fresh.rate(4, 0, 0, 10000));
        Checks.fails("rate: kind, hundredths", Checks.INDEX, () -> fresh.rate(0, 4, 101, 0));
        Checks.fails("rate: kind, from", Checks.INDEX, () -> fresh.rate(0, 4, 0, 10000));
        Checks.fails("telling: place, day", Checks.INDEX, () -> fresh.telling(4, 0, 10000));
        Checks.fails("telling: kind, day", Checks.INDEX, () -> fresh.telling(0, 4, 10000));
        Checks.fails("round: place, way", Checks.INDEX, () -> fresh.round(4, 3));
        Checks.fails("line: kind, quantity", Checks.INDEX, () -> fresh.line(4, 0, 1));
        Checks.fails("line: kind, price", Checks.INDEX, () -> fresh.line(4, 1, 0));
        Checks.fails("make: client, empty", Checks.INDEX, () -> fresh.make(-1));
        Checks.fails("invoice: none such, what", Checks.INDEX, () -> fresh.invoice(0, 8));
        Checks.fails("invoice: below 0, what", Checks.INDEX, () -> fresh.invoice(-1, -1));
        Checks.fails("note: none such, what", Checks.INDEX, () -> fresh.note(0, 3));
        Checks.fails("note: below 0, what", Checks.INDEX, () -> fresh.note(-1, -1));
    }

    /** No call takes the number of a telling. */
    private static void noSuch() {
        InvoiceSmith usual = usual();
        for (int wrong : new int[] {Integer.MIN_VALUE, -1, 2, 3, 6, 7, 30, 31, 40, Integer.MAX_VALUE}) {
            if (wrong != 2) {
                Checks.fails("template", Checks.INDEX, () -> usual.template(wrong));
            }
            Checks.fails("written, template", Checks.INDEX, () -> usual.written(0, wrong, 0));
            Checks.fails("length, template", Checks.INDEX, () -> usual.length(0, wrong));
            Checks.fails("invoice", Checks.INDEX, () -> usual.invoice(wrong, 0));
            Checks.fails("note", Checks.INDEX, () -> usual.note(wrong, 0));
            if (wrong < 0 || wrong > 3) {
                Checks.fails("place", Checks.INDEX, () -> usual.settle(wrong));
                Checks.fails("kind", Checks.INDEX, () -> usual.telling(0, wrong, 0));
            }
            if (wrong < 0 || wrong > 9) {
                Checks.fails("client", Checks.INDEX, () -> usual.make(wrong));
            }
        }
    }

    private static void none() {
        Checks.is("NONE", InvoiceSmith.NONE, -1);
        Checks.is("none told", new InvoiceSmith().telling(0, 0, 0), -1);
    }

    private static void ways() {
        Checks.is("BY_LINE", InvoiceSmith.BY_LINE, 0);
        Checks.is("BY_KIND", InvoiceSmith.BY_KIND, 1);
        Checks.is("BY_ALL", InvoiceSmith.BY_ALL, 2);
    }

    /** The last two of 512 calls answer as any, behind 510 others. */
    private static void calls512() {
        InvoiceSmith smith = new InvoiceSmith();
        Checks.makeOneLine(smith, 0, 0, 99, 9999);
        for (int calls = 2; calls < 510; calls += 2) {
            smith.type(Checks.pack("{*{a9}*}"));
            Checks.is("call " + (calls + 2), smith.template(0), 2);
        }
        Checks.is("call 511", smith.length(0, 0), 9);
        Checks.is("call 512", smith.written(0, 0, 8), '1');
    }
}
