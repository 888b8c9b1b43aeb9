/** The sentences on new objects, on the page and on the numbers of templates, each with a test of its own. */
final class PageSentences {
    private static final int MOST_SIGNS = 160;
    private static final int MOST_TEMPLATES = 6;

    private PageSentences() {
    }

    static void tell(Document document) {
        terms(document, "The page, templates");
        newObject(document, "Promise 1");
        type(document, "Promise 2");
        template(document, "Promise 3");
    }

    private static void terms(Document document, String heading) {
        document.says(heading, "There is a page of at most 160 signs,", PageSentences::pageOf160);
        document.says(heading, "codes 32 to 126;", PageSentences::codes);
        document.says(heading, "it is empty behind what reads it.", PageSentences::emptyBehindReading);
        document.says(heading, "Templates are numbered from 0, at most 6;", PageSentences::sixTemplates);
        document.says(heading, "a template can be told anew, for invoices written from then on.",
                PageSentences::toldAnew);
    }

    private static void newObject(Document document, String heading) {
        document.says(heading, "An empty page,", PageSentences::newPage);
        document.says(heading, "no templates,", PageSentences::newTemplates);
        document.says(heading, "no rates;", PageSentences::newRates);
        document.says(heading, "the day 0.", PageSentences::newDay);
    }

    private static void type(Document document, String heading) {
        document.says(heading, "Types signs behind the page.", PageSentences::behindThePage);
        document.says(heading, "signs: each in 8 bits, from the lowest ones on,", PageSentences::lowestFirst);
        document.says(heading, "up to 8 bits of 0 (0 types none)", PageSentences::upToBitsOf0);
        document.says(heading, "Returns how many signs the page has then.", PageSentences::signsThen);
        document.says(heading, "Throws IllegalArgumentException if a sign is out of range,",
                PageSentences::signOutOfRange);
        document.says(heading, "or something is behind 8 bits of 0", PageSentences::behindBitsOf0);
        document.says(heading, "Throws IllegalStateException if there would be more than 160",
                PageSentences::moreThan160);
    }

    private static void template(Document document, String heading) {
        document.says(heading, "Reads the page as a template.", PageSentences::readsThePage);
        document.says(heading, "template: one that there is,", PageSentences::oneThatThereIs);
        document.says(heading, "or as many as there are, for a new one", PageSentences::asManyAsThereAre);
        document.says(heading, "Returns how many PARTs it has, those within others and these as well, but signs;",
                PageSentences::howManyParts);
        document.says(heading, "-1 less the place of the FAULT,", PageSentences::lessThePlace);
        document.says(heading, "and the template is as it was.", PageSentences::asItWas);
        document.says(heading, "Throws IndexOutOfBoundsException as told (the page stays)",
                PageSentences::noSuchTemplate);
        document.says(heading, "Throws IllegalStateException if there are 6, and a new one is told (the page stays)",
                PageSentences::seventhTemplate);
    }

    private static InvoiceSmith withInvoice() {
        InvoiceSmith smith = new InvoiceSmith();
        Checks.makeOneLine(smith, 0, 0, 1, 1);
        return smith;
    }

    private static InvoiceSmith withTemplates(int count) {
        InvoiceSmith smith = withInvoice();
        for (int i = 0; i < count; i++) {
            smith.type('a' + i);
            smith.template(i);
        }
        return smith;
    }

    private static InvoiceSmith withSigns(int count) {
        InvoiceSmith smith = withInvoice();
        Checks.typeText(smith, "s".repeat(count));
        return smith;
    }

    private static String readAndWrite(InvoiceSmith smith) {
        smith.template(0);
        return Checks.write(smith, 0, 0);
    }

    // ---- terms

    private static void pageOf160() {
        InvoiceSmith smith = withInvoice();
        for (int i = 1; i <= MOST_SIGNS; i++) {
            Checks.is("sign " + i, smith.type(i < MOST_SIGNS ? 'a' : 'z'), i);
        }
        Checks.fails("sign 161", Checks.STATE, () -> smith.type('b'));
        Checks.is("written", readAndWrite(smith), "a".repeat(159) + "z");
    }

    private static void codes() {
        for (int code = 1; code < 256; code++) {
            InvoiceSmith smith = withInvoice();
            int sign = code;
            if (code < 32 || code > 126) {
                Checks.fails("code " + code, Checks.ARGUMENT, () -> smith.type(sign));
            } else {
                Checks.is("code " + code, smith.type(sign), 1);
            }
        }
    }

    private static void emptyBehindReading() {
        InvoiceSmith smith = withInvoice();
        Checks.read(smith, 0, "abc");
        Checks.is("behind a template", smith.type(0), 0);
        Checks.read(smith, 0, "abcd");
        Checks.is("behind one told anew", smith.type(0), 0);
        Checks.read(smith, 0, "abc}");
        Checks.is("behind a FAULT at its end", smith.type(0), 0);
        Checks.read(smith, 0, "}abc");
        Checks.is("behind a FAULT at its beginning", smith.type(0), 0);
        Checks.read(smith, 1, "{");
        Checks.is("behind a FAULT of a new one", smith.type(0), 0);
        Checks.read(smith, 0, "");
        Checks.is("behind an empty one", smith.type(0), 0);
        Checks.typeText(smith, "s".repeat(MOST_SIGNS));
        smith.template(0);
        Checks.is("behind a full one", smith.type(0), 0);
        smith.type('x');
        Checks.is("nothing of the former ones", readAndWrite(smith), "x");
    }

    private static void sixTemplates() {
        InvoiceSmith smith = withInvoice();
        for (int i = 0; i < MOST_TEMPLATES; i++) {
            smith.type('a' + i);
            Checks.is("template " + i, smith.template(i), 0);
        }
        for (int i = 0; i < MOST_TEMPLATES; i++) {
            Checks.is("template " + i, Checks.write(smith, 0, i), String.valueOf((char) ('a' + i)));
        }
        Checks.fails("a seventh", Checks.STATE, () -> smith.template(6));
        Checks.fails("none below 0", Checks.INDEX, () -> smith.template(-1));
    }

    private static void toldAnew() {
        InvoiceSmith smith = withTemplates(MOST_TEMPLATES);
        for (int i = 0; i < MOST_TEMPLATES; i++) {
            Checks.is("ahead", Checks.write(smith, 0, i), String.valueOf((char) ('a' + i)));
            Checks.is("anew", Checks.read(smith, i, "{n}" + i), 1);
            Checks.is("an invoice made ahead", Checks.write(smith, 0, i), "0" + i);
        }
        Checks.makeOneLine(smith, 0, 0, 1, 1);
        for (int i = 0; i < MOST_TEMPLATES; i++) {
            Checks.is("an invoice made then", Checks.write(smith, 1, i), "1" + i);
        }
        Checks.read(smith, 3, "");
        Checks.is("anew, with none", Checks.write(smith, 0, 3), "");
    }

    // ---- promise 1

    private static void newPage() {
        Checks.is("type(0)", new InvoiceSmith().type(0), 0);
        Checks.is("the first sign", new InvoiceSmith().type('a'), 1);
        Checks.is("read", new InvoiceSmith().template(0), 0);
    }

    private static void newTemplates() {
        InvoiceSmith smith = withInvoice();
        Checks.fails("template 0 writes nothing", Checks.INDEX, () -> smith.length(0, 0));
        Checks.fails("template 1 cannot be told", Checks.INDEX, () -> smith.template(1));
        Checks.is("template 0 is a new one", smith.template(0), 0);
    }

    private static void newRates() {
        InvoiceSmith smith = new InvoiceSmith();
        for (int place = 0; place < 4; place++) {
            for (int kind = 0; kind < 4; kind++) {
                Checks.is("the first day", smith.telling(place, kind, 0), InvoiceSmith.NONE);
                Checks.is("the last day", smith.telling(place, kind, 9999), InvoiceSmith.NONE);
            }
        }
        Checks.is("the first one", smith.rate(3, 3, 1, 1), 0);
    }

    private static void newDay() {
        InvoiceSmith smith = withInvoice();
        Checks.is("an invoice made at once", smith.invoice(0, 1), 0);
        Checks.is("the next day", smith.pass(1), 1);
    }

    // ---- promise 2

    private static void behindThePage() {
        InvoiceSmith smith = withInvoice();
        smith.type('a');
        smith.type(Checks.pack("bc"));
        smith.type(0);
        smith.type(Checks.pack("defghijk"));
        smith.type('l');
        Checks.is("in the order of the calls", readAndWrite(smith), "abcdefghijkl");
    }

    private static void lowestFirst() {
        InvoiceSmith smith = withInvoice();
        smith.type(0x6261L);
        smith.type(0x6A69686766656463L);
        Checks.is("lowest bits first", readAndWrite(smith), "abcdefghij");
    }

    private static void upToBitsOf0() {
        for (int count = 0; count <= 8; count++) {
            InvoiceSmith smith = withInvoice();
            String signs = "abcdefgh".substring(0, count);
            Checks.is("as many as there are", smith.type(Checks.pack(signs)), count);
            Checks.is("these", readAndWrite(smith), signs);
        }
        InvoiceSmith full = withSigns(MOST_SIGNS);
        Checks.is("none behind a full page", full.type(0), MOST_SIGNS);
    }

    private static void signsThen() {
        InvoiceSmith smith = new InvoiceSmith();
        Checks.is("none", smith.type(0), 0);
        for (int i = 1; i <= 20; i++) {
            Checks.is("eight more", smith.type(Checks.pack("abcdefgh")), 8 * i);
        }
        smith.template(0);
        Checks.is("read ahead", smith.type(Checks.pack("abc")), 3);
    }

    /** Each code at each of the eight places, among signs in range. */
    private static void signOutOfRange() {
        for (int place = 0; place < 8; place++) {
            for (int code = 1; code < 256; code++) {
                InvoiceSmith smith = new InvoiceSmith();
                long others = 0x6161616161616161L & ~(255L << 8 * place);
                long signs = others | (long) code << 8 * place;
                String what = "code " + code + " at " + place;
                if (code < 32 || code > 126) {
                    Checks.fails(what, Checks.ARGUMENT, () -> smith.type(signs));
                    Checks.is("none is typed", smith.type(0), 0);
                } else {
                    Checks.is(what, smith.type(signs), 8);
                }
            }
        }
        Checks.fails("-1", Checks.ARGUMENT, () -> new InvoiceSmith().type(-1));
        Checks.fails("the least", Checks.ARGUMENT, () -> new InvoiceSmith().type(Long.MIN_VALUE));
        Checks.fails("the greatest", Checks.ARGUMENT, () -> new InvoiceSmith().type(Long.MAX_VALUE));
    }

    /** One sign, and only one, behind 8 bits of 0 that are at a lower place. */
    private static void behindBitsOf0() {
        for (int zero = 0; zero < 7; zero++) {
            for (int place = zero + 1; place < 8; place++) {
                InvoiceSmith smith = new InvoiceSmith();
                long ahead = Checks.pack("abcdefg".substring(0, zero));
                long signs = ahead | (long) 'z' << 8 * place;
                Checks.fails("0 at " + zero + ", a sign at " + place, Checks.ARGUMENT, () -> smith.type(signs));
                long bit = ahead | 1L << 8 * place;
                Checks.fails("0 at " + zero + ", a bit at " + place, Checks.ARGUMENT, () -> smith.type(bit));
                Checks.is("none is typed", smith.type(0), 0);
            }
        }
        Checks.fails("the highest bit alone", Checks.ARGUMENT, () -> new InvoiceSmith().type(Long.MIN_VALUE));
    }

    private static void moreThan160() {
        for (int there = 150; there <= MOST_SIGNS; there++) {
            for (int more = 0; more <= 8; more++) {
                InvoiceSmith smith = withSigns(there);
                long signs = Checks.pack("tttttttt".substring(0, more));
                int then = there + more;
                if (then > MOST_SIGNS) {
                    Checks.fails(there + " and " + more, Checks.STATE, () -> smith.type(signs));
                    Checks.is("none is typed", readAndWrite(smith), "s".repeat(there));
                } else {
                    Checks.is(there + " and " + more, smith.type(signs), then);
                }
            }
        }
    }

    // ---- promise 3

    private static void readsThePage() {
        InvoiceSmith smith = withInvoice();
        Checks.is("none", smith.template(0), 0);
        Checks.is("none, written", Checks.write(smith, 0, 0), "");
        Checks.is("all of it", Checks.read(smith, 0, "a{n}b"), 1);
        Checks.is("all of it, written", Checks.write(smith, 0, 0), "a0b");
        String full = "{n}".repeat(53) + ".";
        Checks.is("a full one", Checks.read(smith, 0, full), 53);
        Checks.is("a full one, written", Checks.write(smith, 0, 0), "0".repeat(53) + ".");
    }

    private static void oneThatThereIs() {
        for (int there = 1; there <= MOST_TEMPLATES; there++) {
            for (int number = 0; number < there; number++) {
                InvoiceSmith smith = withTemplates(there);
                Checks.is("read", Checks.read(smith, number, "new"), 0);
                for (int i = 0; i < there; i++) {
                    String due = i == number ? "new" : String.valueOf((char) ('a' + i));
                    Checks.is("template " + i + " of " + there, Checks.write(smith, 0, i), due);
                }
            }
        }
    }

    private static void asManyAsThereAre() {
        for (int there = 0; there < MOST_TEMPLATES; there++) {
            InvoiceSmith smith = withTemplates(there);
            int next = there;
            Checks.fails("not yet", Checks.INDEX, () -> smith.length(0, next));
            Checks.is("a new one", Checks.read(smith, next, "new"), 0);
            Checks.is("a new one, written", Checks.write(smith, 0, next), "new");
            Checks.fails("one more alone", Checks.INDEX, () -> smith.length(0, next + 1));
        }
    }

    private static void howManyParts() {
        Checks.parts("", 0);
        Checks.parts("signs are none", 0);
        Checks.parts("{n}", 1);
        Checks.parts("{**}", 1);
        Checks.parts("{?0=0:}", 1);
        Checks.parts("{n}{*a*}{?0=0:b|c}", 3);
        Checks.parts("{*{i}{k}*}", 3);
        Checks.parts("{?0=0:{n}|{c}{d}}", 4);
        Checks.parts("{?0=0:{?0=0:{?0=0:{?0=0:{*{i}*}}}}}", 6);
        Checks.parts("{n}".repeat(53), 53);
    }

    private static void lessThePlace() {
        Checks.is("at the first sign", Checks.readAlone("}"), -1);
        Checks.is("at the second sign", Checks.readAlone("a}"), -2);
        Checks.is("at the last sign of a full page", Checks.readAlone("a".repeat(159) + "}"), -160);
        Checks.is("at the end of a full page", Checks.readAlone("a".repeat(159) + "{"), -161);
    }

    private static void asItWas() {
        InvoiceSmith smith = withTemplates(2);
        Checks.is("FAULT", Checks.read(smith, 0, "xyz{n}{q}"), -8);
        Checks.is("as it was", Checks.write(smith, 0, 0), "a");
        Checks.is("FAULT", Checks.read(smith, 1, "}"), -1);
        Checks.is("as it was", Checks.write(smith, 0, 1), "b");
        Checks.is("FAULT of a new one", Checks.read(smith, 2, "xyz}"), -4);
        Checks.fails("there is none", Checks.INDEX, () -> smith.length(0, 2));
        Checks.fails("nor one behind it", Checks.INDEX, () -> smith.template(3));
        Checks.is("a new one yet", Checks.read(smith, 2, "c"), 0);
        Checks.is("each", Checks.write(smith, 0, 0) + Checks.write(smith, 0, 1) + Checks.write(smith, 0, 2), "abc");
    }

    private static void noSuchTemplate() {
        for (int there = 0; there <= MOST_TEMPLATES; there++) {
            InvoiceSmith smith = withTemplates(there);
            smith.type('z');
            for (int number : new int[] {Integer.MIN_VALUE, -1, there + 1, there + 2, Integer.MAX_VALUE}) {
                Checks.fails(number + " of " + there, Checks.INDEX, () -> smith.template(number));
                Checks.is("the page stays", smith.type(0), 1);
            }
            smith.template(0);
            Checks.is("the page stays", Checks.write(smith, 0, 0), "z");
        }
    }

    private static void seventhTemplate() {
        InvoiceSmith smith = withTemplates(MOST_TEMPLATES);
        smith.type('z');
        Checks.fails("a seventh", Checks.STATE, () -> smith.template(6));
        Checks.is("the page stays", smith.type(0), 1);
        Checks.fails("one that would be at FAULT", Checks.STATE, () -> {
            smith.type('}');
            return smith.template(6);
        });
        Checks.is("the page stays", smith.type(0), 2);
        Checks.is("then it is read by another one", smith.template(5), -2);
        InvoiceSmith five = withTemplates(MOST_TEMPLATES - 1);
        Checks.is("a sixth", five.template(5), 0);
    }
}
