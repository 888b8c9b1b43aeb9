/** Promises 1, 2 and 3: a new object, type, and what template answers. */
public final class PageTest {
    public static void main(String[] args) {
        newObject();
        typing();
        typingWrong();
        typingFull();
        plainTemplates();
        fields();
        loops();
        choices();
        depth();
        numbers();
        templatesAnew();
        templatesWrong();
        Checks.end("PageTest");
    }

    private static void newObject() {
        InvoiceSmith smith = new InvoiceSmith();
        Checks.is("new page", smith.type(0), 0);
        Checks.is("new notes", smith.notes(), 0);
        Checks.fails("new template", Checks.INDEX, () -> smith.template(1));
        Checks.fails("new invoice", Checks.INDEX, () -> smith.invoice(0, 0));
        Checks.fails("new draft", Checks.STATE, () -> smith.make(0));
        Checks.fails("new note", Checks.INDEX, () -> smith.note(0, 0));
        for (int place = 0; place < 4; place++) {
            Checks.is("new owed", smith.owed(place), 0);
            Checks.is("new settle", smith.settle(place), 0);
            for (int kind = 0; kind < 4; kind++) {
                Checks.is("new telling", smith.telling(place, kind, 9999), InvoiceSmith.NONE);
            }
            Checks.is("new way", smith.round(place, InvoiceSmith.BY_LINE), InvoiceSmith.BY_LINE);
        }
        for (int client = 0; client < 10; client++) {
            Checks.is("new place", smith.client(client, 0), 0);
        }
        Checks.is("new day", smith.pass(1), 1);
        InvoiceSmith other = new InvoiceSmith();
        other.type(Checks.pack("abc"));
        Checks.is("objects are apart", smith.type(0), 0);
    }

    private static void typing() {
        InvoiceSmith smith = new InvoiceSmith();
        Checks.is("none", smith.type(0), 0);
        Checks.is("one", smith.type('a'), 1);
        Checks.is("eight", smith.type(Checks.pack("bcdefghi")), 9);
        Checks.is("lowest", smith.type(32), 10);
        Checks.is("highest", smith.type(126), 11);
        Checks.is("none more", smith.type(0), 11);
        Checks.is("highest, eight times", smith.type(0x7E7E7E7E7E7E7E7EL), 19);
        Checks.is("read", smith.template(0), 0);
        smith.line(0, 1, 1);
        smith.make(0);
        Checks.is("lowest bits come first", Checks.write(smith, 0, 0), "abcdefghi ~~~~~~~~~");
        Checks.is("page is empty behind what reads it", smith.type(0), 0);
    }

    private static void typingWrong() {
        InvoiceSmith smith = new InvoiceSmith();
        smith.type('a');
        long[] wrong = {
            31, 127, 1, 255, 128, -1, Long.MIN_VALUE, Long.MAX_VALUE, 0x6100, 0x610061, 0x6100000000000000L,
            0x0100000000000000L, 0x61611F61, 0x61617F61, 0x8061616161616161L, 0x7F61616161616161L, 0x1F61616161616161L,
            0x6100616161616161L, 0xFF00L, 0x0061006161616161L,
        };
        for (long signs : wrong) {
            Checks.fails("type " + Long.toHexString(signs), Checks.ARGUMENT, () -> smith.type(signs));
        }
        Checks.is("nothing was typed", smith.type(0), 1);
    }

    private static void typingFull() {
        InvoiceSmith smith = new InvoiceSmith();
        for (int i = 1; i <= 19; i++) {
            Checks.is("eight more", smith.type(Checks.pack("aaaaaaaa")), 8 * i);
        }
        Checks.is("seven more", smith.type(Checks.pack("aaaaaaa")), 159);
        Checks.fails("two too many", Checks.STATE, () -> smith.type(Checks.pack("bb")));
        Checks.fails("wrong before too many", Checks.ARGUMENT, () -> smith.type(0x1F62));
        Checks.is("the last", smith.type('b'), 160);
        Checks.is("none more", smith.type(0), 160);
        Checks.fails("one too many", Checks.STATE, () -> smith.type('c'));
        Checks.fails("wrong", Checks.ARGUMENT, () -> smith.type(127));
        Checks.is("a full page", smith.template(0), 0);
        Checks.makeOneLine(smith, 0, 0, 1, 1);
        Checks.is("a full page, written", smith.length(0, 0), 160);
        Checks.is("its last sign", smith.written(0, 0, 159), 'b');
        Checks.is("the sign ahead", smith.written(0, 0, 158), 'a');
        Checks.is("room again", smith.type('a'), 1);

        InvoiceSmith fields = new InvoiceSmith();
        StringBuilder text = new StringBuilder();
        for (int i = 0; i < 53; i++) {
            text.append("{n}");
        }
        Checks.is("53 fields", Checks.read(fields, 0, text + "{"), -161);
        Checks.is("53 fields", Checks.read(fields, 0, text + "."), 53);
    }

    private static void plainTemplates() {
        Checks.parts("", 0);
        Checks.parts("a", 0);
        Checks.parts(" ~!\"*?:<=>+-09", 0);
        Checks.faults("}", 0);
        Checks.faults("|", 0);
        Checks.faults("ab}", 2);
        Checks.faults("a|b", 1);
        Checks.faults("*}", 1);
        Checks.faults("a{", 2);
        Checks.faults("{}", 1);
        Checks.faults("{{", 1);
        Checks.faults("{|", 1);
        Checks.faults("{:", 1);
        Checks.faults("{ n}", 1);
    }

    private static void fields() {
        for (char name : "ncdlstg".toCharArray()) {
            Checks.parts("{" + name + "}", 1);
            Checks.parts("{*{" + name + "}*}", 2);
            Checks.parts("{?" + name + "=" + name + ":}", 1);
        }
        for (char name : "ikqpax".toCharArray()) {
            Checks.faults("{" + name + "}", 1);
            Checks.parts("{*{" + name + "}*}", 2);
            Checks.faults("{?" + name + "=0:}", 2);
            Checks.faults("{?0=" + name + ":}", 4);
            Checks.faults("{?0=0-" + name + ":}", 6);
            Checks.parts("{*{?" + name + "=" + name + ":}*}", 2);
            Checks.faults("{*a*}{" + name + "}", 6);
            Checks.faults("{?0=0:{*a*}{" + name + "}}", 12);
            Checks.faults("{?0=0:{*a*}|{" + name + "}}", 13);
            Checks.parts("{*{?0=0:{" + name + "}|{" + name + "}}*}", 4);
        }
        for (char name : "befhjmoruvwyzNA0 !".toCharArray()) {
            Checks.faults("{" + name + "}", 1);
            Checks.faults("{*{" + name + "}*}", 3);
        }
        for (char width : "123456789".toCharArray()) {
            Checks.parts("{n" + width + "}", 1);
        }
        Checks.faults("{n0}", 2);
        Checks.faults("{n:}", 2);
        Checks.faults("{n/}", 2);
        Checks.faults("{n10}", 3);
        Checks.faults("{n", 2);
        Checks.faults("{n9", 3);
        Checks.faults("{n 9}", 2);
        Checks.faults("{nn}", 2);
        Checks.faults("{1}", 1);
        Checks.parts("{n}{c}{d}", 3);
    }

    private static void loops() {
        Checks.parts("{**}", 1);
        Checks.parts("{*a*}", 1);
        Checks.parts("{***}", 1);
        Checks.parts("{****}", 1);
        Checks.parts("{*a*}*", 1);
        Checks.parts("{*a*}{*b*}", 2);
        Checks.parts("{*a*b*c*}", 1);
        Checks.parts("{*a*{i}*}", 2);
        Checks.faults("{*", 2);
        Checks.faults("{*}", 2);
        Checks.faults("{*a", 3);
        Checks.faults("{*a*", 4);
        Checks.faults("{*a}", 3);
        Checks.faults("{*a|b*}", 3);
        Checks.faults("{*a* }", 5);
        Checks.faults("{*a*}}", 5);
        Checks.faults("{*a*}*}", 6);
        Checks.faults("{*{*a*}*}", 3);
        Checks.faults("{*{?0=0:{*a*}}*}", 9);
        Checks.parts("{?0=0:{*a*}|{*b*}}", 3);
    }

    private static void choices() {
        Checks.parts("{?n<c:}", 1);
        Checks.parts("{?n>c:a}", 1);
        Checks.parts("{?n=c:a|b}", 1);
        Checks.parts("{?n=c:|b}", 1);
        Checks.parts("{?n=c:a|}", 1);
        Checks.parts("{?n=c:|}", 1);
        Checks.parts("{?n=0:*}", 1);
        Checks.parts("{?n=0:a*|b*}", 1);
        Checks.parts("{?n+1-2+c=d-3+4:{n}|{c}{d}}", 4);
        Checks.parts("{*{?i=1:**}*}", 2);
        Checks.parts("{*{?i=1:*|*}*}", 2);
        Checks.parts("{*{?i=1:{?i=2:*}*}**}", 3);
        Checks.faults("{?", 2);
        Checks.faults("{?}", 2);
        Checks.faults("{?-1=0:a}", 2);
        Checks.faults("{?+1=0:a}", 2);
        Checks.faults("{?<1:a}", 2);
        Checks.faults("{?n", 3);
        Checks.faults("{?n:a}", 3);
        Checks.faults("{?nn<1:a}", 3);
        Checks.faults("{?1n<1:a}", 3);
        Checks.faults("{?n1<1:a}", 3);
        Checks.faults("{?n+<1:a}", 4);
        Checks.faults("{?n+-1<1:a}", 4);
        Checks.faults("{?n*1<1:a}", 3);
        Checks.faults("{?n<", 4);
        Checks.faults("{?n<:a}", 4);
        Checks.faults("{?n<=1:a}", 4);
        Checks.faults("{?n<1", 5);
        Checks.faults("{?n<1<2:a}", 5);
        Checks.faults("{?n<1}", 5);
        Checks.faults("{?n<1|a}", 5);
        Checks.faults("{?n<1-", 6);
        Checks.faults("{?n<1:", 6);
        Checks.faults("{?n<1:a", 7);
        Checks.faults("{?n<1:a|", 8);
        Checks.faults("{?n<1:a|b", 9);
        Checks.faults("{?n<1:a|b|c}", 9);
        Checks.faults("{?n<1:a|{}", 9);
        Checks.faults("{?n=0:x*}}", 9);
        Checks.faults("{?n=0: {*a}}", 10);
        Checks.faults("{*{?i=1:a*}", 11);
    }

    private static void numbers() {
        Checks.parts("{?0=0:}", 1);
        Checks.parts("{?000000=999999:}", 1);
        Checks.parts("{?1+999999<n-123456:}", 1);
        Checks.faults("{?1234567=0:}", 8);
        Checks.faults("{?0=0000000:}", 10);
        Checks.faults("{?n+1234567=0:}", 10);
        Checks.faults("{?12345", 7);
    }

    private static String nested(int deep, String core) {
        StringBuilder text = new StringBuilder();
        for (int i = 0; i < deep; i++) {
            text.append("{?0=0:");
        }
        text.append(core);
        for (int i = 0; i < deep; i++) {
            text.append('}');
        }
        return text.toString();
    }

    private static void depth() {
        Checks.parts(nested(5, "{n}"), 6);
        Checks.faults(nested(6, "{n}"), 31);
        Checks.parts(nested(4, "{*{i}*}"), 6);
        Checks.faults(nested(5, "{*{i}*}"), 31);
        Checks.parts(nested(5, "a") + nested(5, "b"), 10);
        Checks.parts("{*" + nested(4, "{i}") + "*}", 6);
        Checks.faults("{*" + nested(5, "{i}") + "*}", 27);
        Checks.faults("{*" + nested(4, "{*{i}*}") + "*}", 27);
        Checks.parts("{?0=0:|" + nested(4, "a") + "}", 5);
        Checks.faults("{?0=0:|" + nested(5, "a") + "}", 32);
    }

    private static void templatesAnew() {
        InvoiceSmith smith = new InvoiceSmith();
        Checks.makeOneLine(smith, 0, 0, 1, 1);
        Checks.is("new", Checks.read(smith, 0, "a{n}"), 1);
        Checks.is("written", Checks.write(smith, 0, 0), "a0");
        Checks.is("anew", Checks.read(smith, 0, "bc"), 0);
        Checks.is("written anew", Checks.write(smith, 0, 0), "bc");
        Checks.is("fault", Checks.read(smith, 0, "xyz{"), -5);
        Checks.is("page is empty behind a fault", smith.type(0), 0);
        Checks.is("template is as it was", Checks.write(smith, 0, 0), "bc");
        Checks.is("fault of a new one", Checks.read(smith, 1, "{"), -2);
        Checks.fails("no new one", Checks.INDEX, () -> smith.length(0, 1));
        Checks.is("a second", Checks.read(smith, 1, "d"), 0);
        Checks.is("first", Checks.write(smith, 0, 0), "bc");
        Checks.is("second", Checks.write(smith, 0, 1), "d");
        Checks.is("empty page", smith.template(0), 0);
        Checks.is("empty template", smith.length(0, 0), 0);
        Checks.is("second still", Checks.write(smith, 0, 1), "d");
    }

    private static void templatesWrong() {
        InvoiceSmith smith = new InvoiceSmith();
        Checks.makeOneLine(smith, 0, 0, 1, 1);
        for (int i = 0; i < 6; i++) {
            int next = i + 1;
            smith.type('a' + i);
            Checks.fails("below 0", Checks.INDEX, () -> smith.template(-1));
            Checks.fails("far below 0", Checks.INDEX, () -> smith.template(Integer.MIN_VALUE));
            Checks.fails("behind a new one", Checks.INDEX, () -> smith.template(next));
            Checks.fails("far behind", Checks.INDEX, () -> smith.template(Integer.MAX_VALUE));
            Checks.is("page stays", smith.type(0), 1);
            Checks.is("a new one", smith.template(i), 0);
        }
        smith.type('z');
        Checks.fails("a seventh", Checks.STATE, () -> smith.template(6));
        Checks.fails("an eighth", Checks.INDEX, () -> smith.template(7));
        Checks.is("page stays", smith.type(0), 1);
        Checks.is("the last one anew", smith.template(5), 0);
        for (int i = 0; i < 6; i++) {
            Checks.is("each", Checks.write(smith, 0, i), i == 5 ? "z" : String.valueOf((char) ('a' + i)));
        }
    }
}
