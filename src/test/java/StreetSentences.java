/** What the document promises of a new object and of streets: promises 1 to 6. */
final class StreetSentences {
    private StreetSentences() {
    }

    static void all(Sentences is) {
        is.section("Promise 1: A new object");
        is.test("Creates a town without streets and organs, at the hour 0.", StreetSentences::newTown);

        is.section("Promise 2: build");
        is.test("Returns its number.", StreetSentences::buildReturnsItsNumber);
        is.test("Throws `IllegalArgumentException` if pitches is not 3 to 20", StreetSentences::buildNotThreeToTwenty);
        is.test("Throws `IllegalStateException` if there are 6", StreetSentences::buildIfThereAreSix);

        is.section("Promise 3: setPassers");
        is.test("Sets the passers at each pitch of a street in an hour of the day.", StreetSentences::setPassersOfAnHour);
        is.test("Returns the passers before.", StreetSentences::setPassersReturnsThoseBefore);
        is.test("Throws `IndexOutOfBoundsException` if there is no such street, or hour is not 0 to 23",
            StreetSentences::setPassersNoStreetOrHour);
        is.test("Throws `IllegalArgumentException` if passers is not 0 to 99", StreetSentences::setPassersNotZeroTo99);

        is.section("Promise 4: setTaste");
        is.test("Sets the taste of a street for a tune.", StreetSentences::setTasteOfATune);
        is.test("Returns the taste before.", StreetSentences::setTasteReturnsThatBefore);
        is.test("Throws `IndexOutOfBoundsException` if there is no such street, or tune is not 0 to 5",
            StreetSentences::setTasteNoStreetOrTune);
        is.test("Throws `IllegalArgumentException` if taste is not 0 to 9", StreetSentences::setTasteNotZeroToNine);

        is.section("Promise 5: street");
        is.test("`what`: 0 its pitches,", StreetSentences::streetPitches);
        is.test("1 the passers at a pitch in this hour,", StreetSentences::streetPassersInThisHour);
        is.test("2 organs that stand there,", StreetSentences::streetOrgansThatStand);
        is.test("3 complaints in it now,", StreetSentences::streetComplaintsNow);
        is.test("4 coins that were given there in all,", StreetSentences::streetCoinsInAll);
        is.test("5 how often one was banished from it,", StreetSentences::streetHowOftenBanished);
        is.test("6 the pitches where organs drown each other now, 7 those where one is heard", StreetSentences::streetDrownedAndHeard);
        is.test("Throws `IndexOutOfBoundsException` if there is no such street, or what is not 0 to 7",
            StreetSentences::streetNoStreetOrWhat);

        is.section("Promise 6: ear");
        is.test("`isTaste`: whether the taste is meant, otherwise the weariness", StreetSentences::earTasteOrWeariness);
        is.test("Throws `IndexOutOfBoundsException` if there is no such street, or tune is not 0 to 5", StreetSentences::earNoStreetOrTune);
    }

    private static void newTown() {
        OrganCensus x = Towns.empty();
        for (int what = 0; what <= 7; what++) {
            Check.same("count " + what, x.count(what), 0);
        }
        Check.same("no street", Check.outcome(() -> x.street(0, 0)), "IndexOutOfBoundsException");
        Check.same("no organ", Check.outcome(() -> x.organ(0, 0)), "IndexOutOfBoundsException");
        Check.same("an hour of it", x.pass(1), 0);
        Check.same("the hour then", x.count(0), 1);
        OrganCensus other = Towns.empty();
        Check.same("another object has its own hour", other.count(0), 0);
        Check.same("and its own streets", other.build(3), 0);
        Check.same("the first has none", x.count(1), 0);
        Check.alike("two new objects", Towns.of(3), Towns.of(3));
    }

    private static void buildReturnsItsNumber() {
        OrganCensus x = Towns.empty();
        int[] pitches = {3, 20, 4, 19, 10, 7};
        for (int s = 0; s < 6; s++) {
            Check.same("the number", x.build(pitches[s]), s);
        }
        for (int s = 0; s < 6; s++) {
            Check.same("pitches of the street " + s, x.street(s, 0), pitches[s]);
        }
        OrganCensus later = Towns.of(3);
        later.pass(30);
        Check.same("of one that is built later", later.build(3), 1);
        Check.same("nothing was there", later.street(1, 1) + later.street(1, 2) + later.street(1, 4), 0);
    }

    private static void buildNotThreeToTwenty() {
        for (int wrong : Check.outside(3, 20)) {
            Check.refused("build(" + wrong + ") of the first", Towns::empty, Check.ARGUMENT, x -> x.build(wrong));
            Check.refused("build(" + wrong + ") of the fourth", Towns::busy, Check.ARGUMENT, x -> x.build(wrong));
            Check.refused("build(" + wrong + ") of a seventh", Towns::full, Check.ARGUMENT, x -> x.build(wrong));
        }
        Check.refused("build(0)", Towns::busy, Check.ARGUMENT, x -> x.build(0));
        Check.taken("build(3)", Towns::busy, 3, x -> x.build(3));
        Check.taken("build(20)", Towns::busy, 3, x -> x.build(20));
    }

    private static void buildIfThereAreSix() {
        Check.refused("the least of a seventh", Towns::full, Check.STATE, x -> x.build(3));
        Check.refused("the greatest of a seventh", Towns::full, Check.STATE, x -> x.build(20));
        Check.taken("the sixth", () -> Towns.of(3, 3, 3, 3, 3), 5, x -> x.build(3));
        Check.refused("a seventh behind six empty ones", () -> Towns.of(3, 3, 3, 3, 3, 3), Check.STATE, x -> x.build(3));
    }

    private static void setPassersOfAnHour() {
        OrganCensus x = Towns.of(3, 4);
        x.setPassers(1, 0, 5);
        x.setPassers(1, 23, 7);
        x.setPassers(0, 23, 1);
        Check.same("in the hour 0", x.street(1, 1), 5);
        x.pass(1);
        Check.same("not in the hour 1", x.street(1, 1), 0);
        x.pass(22);
        Check.same("in the hour 23", x.street(1, 1), 7);
        Check.same("in the hour 23 in the other street", x.street(0, 1), 1);
        x.pass(1);
        Check.same("in the hour 24 as in the hour 0", x.street(1, 1), 5);
        x.setPassers(1, 0, 8);
        Check.same("set in this very hour", x.street(1, 1), 8);
    }

    private static void setPassersReturnsThoseBefore() {
        OrganCensus x = Towns.of(3, 4);
        Check.same("none at first", x.setPassers(1, 23, 99), 0);
        Check.same("the greatest", x.setPassers(1, 23, 7), 99);
        Check.same("of another hour", x.setPassers(1, 22, 1), 0);
        Check.same("of another street", x.setPassers(0, 23, 1), 0);
        Check.same("once more", x.setPassers(1, 23, 0), 7);
        Check.same("the least", x.setPassers(1, 23, 0), 0);
    }

    private static void setPassersNoStreetOrHour() {
        Check.refused("nothing is built", Towns::empty, Check.INDEX, x -> x.setPassers(0, 0, 5));
        Check.refused("behind the last of six", Towns::full, Check.INDEX, x -> x.setPassers(6, 0, 5));
        for (int wrong : Check.outside(0, 2)) {
            Check.refused("street " + wrong, Towns::busy, Check.INDEX, x -> x.setPassers(wrong, 0, 5));
        }
        for (int wrong : Check.outside(0, 23)) {
            Check.refused("hour " + wrong, Towns::busy, Check.INDEX, x -> x.setPassers(0, wrong, 5));
        }
        Check.taken("the first street and hour", Towns::full, 99, x -> x.setPassers(0, 0, 5));
        Check.taken("the last street and hour", Towns::full, 99, x -> x.setPassers(5, 23, 5));
    }

    private static void setPassersNotZeroTo99() {
        for (int wrong : Check.outside(0, 99)) {
            Check.refused("passers " + wrong, Towns::full, Check.ARGUMENT, x -> x.setPassers(5, 23, wrong));
        }
        Check.taken("none", Towns::full, 99, x -> x.setPassers(5, 23, 0));
        Check.taken("99", Towns::full, 99, x -> x.setPassers(5, 23, 99));
    }

    private static void setTasteOfATune() {
        OrganCensus x = Towns.of(3, 4);
        x.setTaste(1, 5, 9);
        x.setTaste(1, 0, 0);
        int[] due = {0, 5, 5, 5, 5, 9};
        for (int tune = 0; tune < 6; tune++) {
            Check.same("taste for the tune " + tune, x.ear(1, tune, true), due[tune]);
            Check.same("taste of the other street", x.ear(0, tune, true), 5);
            Check.same("weariness", x.ear(1, tune, false), 0);
        }
    }

    private static void setTasteReturnsThatBefore() {
        OrganCensus x = Towns.of(3, 4);
        for (int tune = 0; tune < 6; tune++) {
            Check.same("at first", x.setTaste(1, tune, 9), 5);
            Check.same("the greatest", x.setTaste(1, tune, 0), 9);
            Check.same("the least", x.setTaste(1, tune, tune), 0);
        }
        for (int tune = 0; tune < 6; tune++) {
            Check.same("of each tune", x.setTaste(1, tune, 1), tune);
            Check.same("of the other street", x.setTaste(0, tune, 1), 5);
        }
    }

    private static void setTasteNoStreetOrTune() {
        Check.refused("nothing is built", Towns::empty, Check.INDEX, x -> x.setTaste(0, 0, 5));
        Check.refused("behind the last of six", Towns::full, Check.INDEX, x -> x.setTaste(6, 0, 5));
        for (int wrong : Check.outside(0, 2)) {
            Check.refused("street " + wrong, Towns::busy, Check.INDEX, x -> x.setTaste(wrong, 0, 5));
        }
        for (int wrong : Check.outside(0, 5)) {
            Check.refused("tune " + wrong, Towns::busy, Check.INDEX, x -> x.setTaste(0, wrong, 5));
        }
        Check.taken("the first street and tune", Towns::full, 9, x -> x.setTaste(0, 0, 5));
        Check.taken("the last street and tune", Towns::full, 9, x -> x.setTaste(5, 5, 5));
    }

    private static void setTasteNotZeroToNine() {
        for (int wrong : Check.outside(0, 9)) {
            Check.refused("taste " + wrong, Towns::full, Check.ARGUMENT, x -> x.setTaste(5, 5, wrong));
        }
        Check.taken("taste 0", Towns::full, 9, x -> x.setTaste(5, 5, 0));
        Check.taken("taste 9", Towns::full, 9, x -> x.setTaste(5, 5, 9));
    }

    private static void streetPitches() {
        OrganCensus x = Towns.of(3, 20, 4);
        Check.same("the least", x.street(0, 0), 3);
        Check.same("the most", x.street(1, 0), 20);
        Check.same("of the last", x.street(2, 0), 4);
    }

    private static void streetPassersInThisHour() {
        OrganCensus x = Towns.of(3, 3);
        for (int hour = 0; hour < 24; hour++) {
            x.setPassers(1, hour, 99 - hour);
        }
        for (int hour = 0; hour < 50; hour++) {
            Check.same("in the hour " + hour, x.street(1, 1), 99 - hour % 24);
            Check.same("of the other street", x.street(0, 1), 0);
            x.pass(1);
        }
    }

    private static void streetOrgansThatStand() {
        OrganCensus x = Towns.of(3, 9);
        Check.same("no organ", x.street(1, 2), 0);
        for (int i = 0; i < 8; i++) {
            x.addOrgan(1, i, 1);
            Check.same("so many", x.street(1, 2), i + 1);
            Check.same("in the other street", x.street(0, 2), 0);
        }
        x.send(0, 0, 0);
        Check.same("without one that left", x.street(1, 2), 7);
        Check.same("without one that comes", x.street(0, 2), 0);
        x.send(1, 1, 8);
        Check.same("without one on its way along it", x.street(1, 2), 6);
        x.pass(2);
        Check.same("with one that came", x.street(0, 2), 1);
        Check.same("with one that came along it", x.street(1, 2), 7);
    }

    private static void streetComplaintsNow() {
        OrganCensus x = Towns.of(3, 9);
        Check.same("no organ", x.street(1, 3), 0);
        x.addOrgan(1, 4, 5);
        x.addOrgan(1, 0, 2);
        Check.same("before an hour", x.street(1, 3), 0);
        // 5 at the pitch 4 against 2 at the pitch 0: drowned at 0 (1, 2) and at 1 (2, 1).
        x.pass(1);
        Check.same("of two at two pitches", x.street(1, 3), 4);
        x.pass(1);
        Check.same("after two hours", x.street(1, 3), 8);
        Check.same("of the other street", x.street(0, 3), 0);
        x.pass(1);
        Check.same("after the constables", x.street(1, 3), 0);
    }

    private static void streetCoinsInAll() {
        OrganCensus x = Towns.of(4, 9);
        Towns.passersAllDay(x, 0, 20);
        x.setPassers(1, 0, 31);
        x.addOrgan(0, 0, 3);
        x.addOrgan(1, 4, 5);
        Check.same("before an hour", x.street(0, 4), 0);
        x.pass(1);
        // 3 pitches of 20 * 5 / 10, and 9 of 31 * 5 / 10.
        Check.same("given in the first", x.street(0, 4), 30);
        Check.same("given in the second", x.street(1, 4), 135);
        x.send(0, 1, 0);
        x.pass(2);
        Check.same("they stay with the street", x.street(0, 4), 30);
        Check.same("they do not go with the organ", x.street(1, 4), 135);
        x.send(0, 0, 1);
        // Rested for two hours while it came and for two while it went: worth 5, at four pitches.
        x.pass(3);
        Check.same("more in the first", x.street(0, 4), 70);
        Check.same("both organs' coins are the streets' coins", x.count(4), x.street(0, 4) + x.street(1, 4));
    }

    private static void streetHowOftenBanished() {
        OrganCensus x = Towns.rivals(5, 3);
        Check.same("before an hour", x.street(0, 5), 0);
        x.pass(1);
        Check.same("once", x.street(0, 5), 1);
        Check.same("not from the other", x.street(1, 5), 0);
        x.pass(30);
        Check.same("still once, when it is over", x.street(0, 5), 1);
        x.send(0, 0, 2);
        x.pass(3);
        Check.same("twice", x.street(0, 5), 2);
    }

    private static void streetDrownedAndHeard() {
        OrganCensus x = Towns.of(3, 9);
        checkPitches("no organ", x, 0, 0);
        x.addOrgan(1, 4, 5);
        checkPitches("one that sounds at all nine", x, 0, 9);
        x.addOrgan(1, 0, 2);
        checkPitches("both at 0 and at 1", x, 2, 7);
        x.addOrgan(1, 4, 5);
        checkPitches("two as loud at all nine", x, 9, 0);
        x.send(2, 0, 0);
        checkPitches("one has left", x, 2, 7);
        x.send(0, 0, 2);
        checkPitches("of loudness 2 at the first pitch", x, 0, 2);
        x.send(1, 1, 8);
        checkPitches("none stands", x, 0, 0);
        x.pass(1);
        checkPitches("of loudness 2 at the last pitch", x, 0, 2);
        Check.same("in the other street", x.street(0, 6) + x.street(0, 7), 0);
        x.pass(1);
        // 5 at the pitch 0 and 5 at the pitch 2: 5 against 3, 4 against 4, 3 against 5.
        Check.same("drowned in the other street", x.street(0, 6), 1);
        Check.same("heard in the other street", x.street(0, 7), 2);
        OrganCensus rivals = Towns.rivals(5);
        Check.same("two that sound beyond both ends: drowned", rivals.street(0, 6), 5);
        Check.same("two that sound beyond both ends: heard", rivals.street(0, 7), 0);
        OrganCensus one = Towns.of(3);
        one.addOrgan(0, 1, 9);
        Check.same("one that sounds beyond both ends: drowned", one.street(0, 6), 0);
        Check.same("one that sounds beyond both ends: heard", one.street(0, 7), 3);
    }

    private static void checkPitches(String what, OrganCensus x, int drowned, int heard) {
        Check.same(what + ": drowned", x.street(1, 6), drowned);
        Check.same(what + ": heard", x.street(1, 7), heard);
    }

    private static void streetNoStreetOrWhat() {
        Check.refused("nothing is built", Towns::empty, Check.INDEX, x -> x.street(0, 0));
        Check.refused("behind the last of six", Towns::full, Check.INDEX, x -> x.street(6, 0));
        for (int wrong : Check.outside(0, 2)) {
            Check.refused("street " + wrong, Towns::busy, Check.INDEX, x -> x.street(wrong, 0));
        }
        for (int wrong : Check.outside(0, 7)) {
            Check.refused("what " + wrong, Towns::busy, Check.INDEX, x -> x.street(0, wrong));
        }
        Check.taken("the first of both", Towns::full, 20, x -> x.street(0, 0));
        Check.taken("the last of both", Towns::full, 12, x -> x.street(5, 7));
    }

    private static void earTasteOrWeariness() {
        OrganCensus x = Towns.of(3, 3);
        x.addOrgan(1, 0, 1);
        x.setBarrel(0, 4);
        x.setTaste(1, 3, 8);
        x.pass(1);
        Check.same("taste", x.ear(1, 3, true), 8);
        Check.same("weariness", x.ear(1, 3, false), 2);
        Check.same("taste of another tune", x.ear(1, 2, true), 5);
        Check.same("weariness of another tune", x.ear(1, 2, false), 0);
        Check.same("taste of the other street", x.ear(0, 3, true), 5);
        Check.same("weariness of the other street", x.ear(0, 3, false), 0);
    }

    private static void earNoStreetOrTune() {
        for (boolean isTaste : new boolean[] {true, false}) {
            Check.refused("nothing is built", Towns::empty, Check.INDEX, x -> x.ear(0, 0, isTaste));
            Check.refused("behind the last of six", Towns::full, Check.INDEX, x -> x.ear(6, 0, isTaste));
            for (int wrong : Check.outside(0, 2)) {
                Check.refused("street " + wrong, Towns::busy, Check.INDEX, x -> x.ear(wrong, 0, isTaste));
            }
            for (int wrong : Check.outside(0, 5)) {
                Check.refused("tune " + wrong, Towns::busy, Check.INDEX, x -> x.ear(0, wrong, isTaste));
            }
            Check.taken("the first of both", Towns::full, isTaste ? 9 : 0, x -> x.ear(0, 0, isTaste));
            Check.taken("the last of both", Towns::full, isTaste ? 9 : 0, x -> x.ear(5, 5, isTaste));
        }
    }
}
