/** What the document promises of organs: promises 7 to 11. */
final class OrganSentences {
    private OrganSentences() {
    }

    static void all(Sentences is) {
        is.section("Promise 7: addOrgan");
        is.test("Adds an organ.", OrganSentences::addOrganThere);
        is.test("Returns its number.", OrganSentences::addOrganReturnsItsNumber);
        is.test("Throws `IndexOutOfBoundsException` if there is no such street or pitch", OrganSentences::addOrganNoStreetOrPitch);
        is.test("Throws `IllegalArgumentException` if loudness is not 1 to 9", OrganSentences::addOrganNotOneToNine);
        is.test("Throws `IllegalStateException` if there are 8", OrganSentences::addOrganIfThereAreEight);

        is.section("Promise 8: setBarrel");
        is.test("it begins at its place 0, and the wear of all six tunes is 0.", OrganSentences::setBarrelBeginsAnew);
        is.test("Returns the barrel before.", OrganSentences::setBarrelReturnsThatBefore);
        is.test("Throws `IndexOutOfBoundsException` if there is no such organ", OrganSentences::setBarrelNoOrgan);
        is.test("Throws `IllegalArgumentException` if barrel has no such digits", OrganSentences::setBarrelNoSuchDigits);

        is.section("Promise 9: send");
        is.test("it is on its way for 2 hours for each street that it goes farther (the difference of their numbers),",
            OrganSentences::sendToAnotherStreet);
        is.test("and for the difference of the pitches / 5, if it is in the same street (so it may stand there at once).",
            OrganSentences::sendAlongTheStreet);
        is.test("One that is on its way turns round, and goes from where it was going to.", OrganSentences::sendTurnsRound);
        is.test("Returns for how many hours it is on its way.", OrganSentences::sendReturnsTheHours);
        is.test("Throws `IndexOutOfBoundsException` if there is no such organ, street or pitch", OrganSentences::sendNoOrganStreetOrPitch);
        is.test("Throws `IllegalStateException` if it is banished from this street", OrganSentences::sendIfItIsBanished);

        is.section("Promise 10: organ");
        is.test("`what`: 0 the street where it stands, or to which it goes, 1 the pitch, 2 the hours that it has still to go, 0 if it stands,",
            OrganSentences::organPlace);
        is.test("3 its loudness, 4 its coins,", OrganSentences::organLoudnessAndCoins);
        is.test("5 its barrel, 6 its place in the barrel, 7 the tune that comes next, 8 the wear of this,", OrganSentences::organBarrel);
        is.test("9 complaints that it has now, in all streets,", OrganSentences::organComplaintsInAllStreets);
        is.test("10 streets from which it is banished", OrganSentences::organStreetsOfItsBanishments);
        is.test("Throws `IndexOutOfBoundsException` if there is no such organ, or what is not 0 to 10", OrganSentences::organNoOrganOrWhat);

        is.section("Promise 11: banished");
        is.test("Returns for how many hours it is banished from it, 0 if it is not.", OrganSentences::banishedHours);
        is.test("Throws `IndexOutOfBoundsException` if there is no such organ or street", OrganSentences::banishedNoOrganOrStreet);
    }

    private static void addOrganThere() {
        OrganCensus x = Towns.of(3, 20, 4);
        x.addOrgan(1, 19, 9);
        int[] due = {1, 19, 0, 9, 0, 1, 0, 0, 0, 0, 0};
        for (int what = 0; what < due.length; what++) {
            Check.same("organ(0, " + what + ")", x.organ(0, what), due[what]);
        }
        for (int s = 0; s < 3; s++) {
            Check.same("banished from the street " + s, x.banished(0, s), 0);
        }
        Check.same("it stands there", x.street(1, 2), 1);
        Check.same("it is heard there", x.heard(1, 19), 0);
    }

    private static void addOrganReturnsItsNumber() {
        OrganCensus x = Towns.of(3, 20);
        for (int i = 0; i < 8; i++) {
            Check.same("the number", x.addOrgan(i % 2, i % 3, 8 - i), i);
        }
        for (int i = 0; i < 8; i++) {
            Check.same("street of the organ " + i, x.organ(i, 0), i % 2);
            Check.same("pitch of the organ " + i, x.organ(i, 1), i % 3);
            Check.same("loudness of the organ " + i, x.organ(i, 3), 8 - i);
        }
    }

    private static void addOrganNoStreetOrPitch() {
        Check.refused("nothing is built", Towns::empty, Check.INDEX, x -> x.addOrgan(0, 0, 1));
        for (int wrong : Check.outside(0, 2)) {
            Check.refused("street " + wrong, Towns::busy, Check.INDEX, x -> x.addOrgan(wrong, 0, 1));
        }
        for (int wrong : Check.outside(0, 7)) {
            Check.refused("pitch " + wrong + " of 8", Towns::busy, Check.INDEX, x -> x.addOrgan(0, wrong, 1));
        }
        for (int wrong : Check.outside(0, 3)) {
            Check.refused("pitch " + wrong + " of 4", Towns::busy, Check.INDEX, x -> x.addOrgan(2, wrong, 1));
        }
        Check.taken("the first of both", Towns::busy, 6, x -> x.addOrgan(0, 0, 1));
        Check.taken("the last of both", Towns::busy, 6, x -> x.addOrgan(2, 3, 1));
        Check.refused("behind the last of six", () -> Towns.of(3, 3, 3, 3, 3, 3), Check.INDEX, x -> x.addOrgan(6, 0, 1));
        Check.taken("the last of six", () -> Towns.of(3, 3, 3, 3, 3, 20), 0, x -> x.addOrgan(5, 19, 1));
    }

    private static void addOrganNotOneToNine() {
        for (int wrong : Check.outside(1, 9)) {
            Check.refused("loudness " + wrong + " of the first", Towns::small, Check.ARGUMENT, x -> x.addOrgan(0, 0, wrong));
            Check.refused("loudness " + wrong + " of the seventh", Towns::busy, Check.ARGUMENT, x -> x.addOrgan(0, 0, wrong));
        }
        Check.taken("loudness 1", Towns::busy, 6, x -> x.addOrgan(0, 0, 1));
        Check.taken("loudness 9", Towns::busy, 6, x -> x.addOrgan(0, 0, 9));
    }

    private static void addOrganIfThereAreEight() {
        Check.refused("a ninth at the first pitch", Towns::full, Check.STATE, x -> x.addOrgan(0, 0, 1));
        Check.refused("a ninth at the last pitch", Towns::full, Check.STATE, x -> x.addOrgan(5, 19, 9));
        OrganCensus x = Towns.busy();
        Check.same("the seventh", x.addOrgan(0, 0, 1), 6);
        Check.same("the eighth", x.addOrgan(0, 0, 1), 7);
        Check.same("a ninth", Check.outcome(() -> x.addOrgan(0, 0, 1)), "IllegalStateException");
        Check.same("eight", x.count(2), 8);
    }

    private static void setBarrelBeginsAnew() {
        OrganCensus x = Towns.of(3);
        x.addOrgan(0, 0, 4);
        x.setBarrel(0, 123456);
        x.pass(15);
        Check.same("place before", x.organ(0, 6), 3);
        Check.same("wear before", x.organ(0, 8), 2);
        x.setBarrel(0, 123456);
        Check.same("the same barrel, from its place 0", x.organ(0, 6), 0);
        for (int tune = 0; tune < 6; tune++) {
            Check.same("tune", x.organ(0, 7), tune);
            Check.same("wear of the tune " + tune, x.organ(0, 8), 0);
            x.pass(1);
        }
        Check.same("worn by then", x.organ(0, 8), 1);
        x.setBarrel(0, 61);
        x.setBarrel(0, 654321);
        for (int tune = 5; tune >= 0; tune--) {
            Check.same("tune of another barrel", x.organ(0, 7), tune);
            Check.same("wear of the tune " + tune, x.organ(0, 8), 0);
            x.pass(1);
        }
        x.pass(1);
        x.setBarrel(0, 2);
        Check.same("a shorter one, from its place 0", x.organ(0, 6), 0);
        Check.same("its tune", x.organ(0, 7), 1);
        way();
    }

    private static void way() {
        OrganCensus x = Towns.of(3, 3);
        x.addOrgan(0, 0, 4);
        x.addOrgan(0, 0, 4);
        x.send(0, 1, 2);
        x.setBarrel(0, 34);
        Check.same("of one on its way", x.organ(0, 5), 34);
        Check.same("it goes on", x.organ(0, 2), 2);
        Check.same("the other has its own", x.organ(1, 5), 1);
    }

    private static void setBarrelReturnsThatBefore() {
        OrganCensus x = Towns.of(3);
        x.addOrgan(0, 0, 4);
        x.addOrgan(0, 0, 4);
        Check.same("of a new organ", x.setBarrel(0, 61234561), 1);
        Check.same("of eight tunes", x.setBarrel(0, 6), 61234561);
        Check.same("of one tune", x.setBarrel(0, 352), 6);
        x.pass(5);
        Check.same("of one that was played", x.setBarrel(0, 352), 352);
        Check.same("of another organ", x.setBarrel(1, 5), 1);
    }

    private static void setBarrelNoOrgan() {
        Check.refused("no organ at all", Towns::small, Check.INDEX, x -> x.setBarrel(0, 1));
        Check.refused("nothing is built", Towns::empty, Check.INDEX, x -> x.setBarrel(0, 1));
        for (int wrong : Check.outside(0, 5)) {
            Check.refused("organ " + wrong, Towns::busy, Check.INDEX, x -> x.setBarrel(wrong, 1));
        }
        Check.refused("behind the last of eight", Towns::full, Check.INDEX, x -> x.setBarrel(8, 1));
        Check.taken("the first", Towns::full, 1, x -> x.setBarrel(0, 2));
        Check.taken("the last", Towns::full, 1, x -> x.setBarrel(7, 2));
    }

    private static void setBarrelNoSuchDigits() {
        int[] wrong = {0, 7, 8, 9, 10, 17, 70, 71, 106, 601, 100000, 11111110, 11111117, 71111111, 66666667, 66666670, 16666606,
            111111111, 116666666, 666666666, 1000000000, 1111111111, -1, -6, -123, -11111111, Integer.MIN_VALUE, Integer.MAX_VALUE};
        for (int barrel : wrong) {
            Check.refused("barrel " + barrel, Towns::busy, Check.ARGUMENT, x -> x.setBarrel(0, barrel));
        }
        int[] right = {1, 6, 11, 16, 61, 66, 123456, 1111111, 6666666, 11111111, 66666666, 12345612};
        for (int barrel : right) {
            Check.taken("barrel " + barrel, Towns::full, 1, x -> x.setBarrel(0, barrel));
        }
    }

    private static void sendToAnotherStreet() {
        OrganCensus x = Towns.of(20, 3, 12, 5, 3, 20);
        x.addOrgan(0, 0, 4);
        for (int s = 1; s < 6; s++) {
            OrganCensus up = Towns.of(20, 3, 12, 5, 3, 20);
            up.addOrgan(0, 19, 4);
            Check.same("from the street 0 to " + s, up.send(0, s, 2), 2 * s);
            OrganCensus down = Towns.of(20, 3, 12, 5, 3, 20);
            down.addOrgan(s, 0, 4);
            Check.same("from " + s + " to the street 0", down.send(0, 0, 19), 2 * s);
        }
        Check.same("to the next, whatever the pitches", x.send(0, 1, 2), 2);
        x.pass(1);
        Check.same("still on its way", x.street(1, 2), 0);
        x.pass(1);
        Check.same("it stands there after 2 hours", x.street(1, 2), 1);
    }

    private static void sendAlongTheStreet() {
        for (int to = 0; to < 20; to++) {
            for (int from : new int[] {0, 9, 19}) {
                OrganCensus x = Towns.of(3, 20);
                x.addOrgan(1, from, 4);
                int due = Math.abs(from - to) / 5;
                Check.same("from " + from + " to " + to, x.send(0, 1, to), due);
                Check.same("the pitch", x.organ(0, 1), to);
                Check.same("it stands there at once, or not", x.street(1, 2), due == 0 ? 1 : 0);
            }
        }
    }

    private static void sendTurnsRound() {
        OrganCensus x = Towns.of(20, 3, 12, 5);
        x.addOrgan(0, 0, 4);
        Check.same("to the street 2", x.send(0, 2, 11), 4);
        x.pass(1);
        Check.same("from there to 3", x.send(0, 3, 0), 2);
        Check.same("from there to 0", x.send(0, 0, 0), 6);
        x.pass(5);
        Check.same("an hour before the street 0, from there to its pitch 19", x.send(0, 0, 19), 3);
        Check.same("from there to its pitch 10", x.send(0, 0, 10), 1);
        Check.same("from there to its pitch 5", x.send(0, 0, 5), 1);
        Check.same("it does not stand", x.count(3), 0);
        Check.same("to where it goes", x.send(0, 0, 5), 0);
        Check.same("it stands there at once", x.count(3), 1);
    }

    private static void sendReturnsTheHours() {
        OrganCensus x = Towns.of(20, 3);
        x.addOrgan(0, 0, 4);
        int[][] ways = {{0, 4, 0}, {0, 14, 2}, {1, 2, 2}, {1, 0, 0}, {0, 19, 2}, {0, 4, 3}, {0, 0, 0}};
        for (int[] each : ways) {
            int hours = x.send(0, each[0], each[1]);
            Check.same("to " + each[0] + ", " + each[1], hours, each[2]);
            Check.same("told of it", x.organ(0, 2), each[2]);
        }
    }

    private static void sendNoOrganStreetOrPitch() {
        Check.refused("nothing is built", Towns::empty, Check.INDEX, x -> x.send(0, 0, 0));
        Check.refused("no organ at all", Towns::small, Check.INDEX, x -> x.send(0, 0, 0));
        for (int wrong : Check.outside(0, 5)) {
            Check.refused("organ " + wrong, Towns::busy, Check.INDEX, x -> x.send(wrong, 0, 0));
        }
        for (int wrong : Check.outside(0, 2)) {
            Check.refused("street " + wrong, Towns::busy, Check.INDEX, x -> x.send(5, wrong, 0));
        }
        for (int wrong : Check.outside(0, 3)) {
            Check.refused("pitch " + wrong + " of 4", Towns::busy, Check.INDEX, x -> x.send(5, 2, wrong));
        }
        Check.refused("behind the last of eight organs", Towns::full, Check.INDEX, x -> x.send(8, 0, 0));
        Check.refused("behind the last of six streets", Towns::full, Check.INDEX, x -> x.send(7, 6, 0));
        Check.refused("behind the last of twenty pitches", Towns::full, Check.INDEX, x -> x.send(7, 5, 20));
        Check.taken("the first of each", Towns::full, 2, x -> x.send(0, 0, 0));
        Check.taken("the last of each", Towns::full, 0, x -> x.send(7, 5, 19));
    }

    private static void sendIfItIsBanished() {
        Check.refused("from where it was", Towns::afterBanishment, Check.STATE, x -> x.send(0, 0, 0));
        Check.taken("elsewhere it may go", Towns::afterBanishment, 2, x -> x.send(0, 2, 0));
        Check.taken("where it stands", Towns::afterBanishment, 0, x -> x.send(0, 1, 3));
        Check.taken("the other one may", Towns::afterBanishment, 0, x -> x.send(1, 0, 0));
        Check.refused("in the hour of its leaving", () -> afterHours(1), Check.STATE, x -> x.send(0, 0, 4));
        Check.refused("in its last hour", () -> afterHours(24), Check.STATE, x -> x.send(0, 0, 0));
        Check.taken("behind its last hour", () -> afterHours(25), 2, x -> x.send(0, 0, 0));
        Check.refused("along the very street where it stands", OrganSentences::banishedWhereItStands, Check.STATE, x -> x.send(0, 0, 1));
        Check.refused("to the very pitch where it stands", OrganSentences::banishedWhereItStands, Check.STATE, x -> x.send(0, 0, 0));
    }

    private static OrganCensus afterHours(int hours) {
        OrganCensus x = Towns.rivals(5, 4, 3);
        x.pass(hours);
        return x;
    }

    private static OrganCensus banishedWhereItStands() {
        OrganCensus x = Towns.rivals(5);
        x.pass(3);
        return x;
    }

    private static void organPlace() {
        OrganCensus x = Towns.of(5, 20);
        x.addOrgan(1, 6, 2);
        int[] stands = {1, 6, 0};
        checkFacts("it stands", x, 0, stands);
        x.send(0, 1, 17);
        int[] along = {1, 17, 2};
        checkFacts("on its way along the street", x, 0, along);
        x.send(0, 0, 4);
        int[] across = {0, 4, 2};
        checkFacts("on its way to another street", x, 0, across);
        x.pass(1);
        int[] nearer = {0, 4, 1};
        checkFacts("an hour later", x, 0, nearer);
        x.pass(1);
        int[] there = {0, 4, 0};
        checkFacts("it stands there", x, 0, there);
    }

    /** What organ(0, ..) tells, from this number on. */
    private static void checkFacts(String what, OrganCensus x, int first, int[] due) {
        for (int i = 0; i < due.length; i++) {
            int number = first + i;
            Check.same(what + ": organ(0, " + number + ")", x.organ(0, number), due[i]);
        }
    }

    private static void organLoudnessAndCoins() {
        OrganCensus x = Towns.of(5, 20);
        Towns.passersAllDay(x, 1, 50);
        x.addOrgan(1, 6, 2);
        x.setBarrel(0, 15);
        checkFacts("at first", x, 3, new int[] {2, 0});
        x.pass(3);
        // 3 pitches an hour; worth 5, 5, then 5 - 1 as the tune 0 was played two hours before.
        checkFacts("after three hours", x, 3, new int[] {2, 75 + 75 + 60});
        x.send(0, 0, 0);
        x.pass(5);
        checkFacts("it keeps them", x, 3, new int[] {2, 210});
    }

    private static void organBarrel() {
        OrganCensus x = Towns.of(5);
        x.addOrgan(0, 0, 1);
        checkFacts("at first", x, 5, new int[] {1, 0, 0, 0});
        x.setBarrel(0, 155);
        checkFacts("at its first place", x, 5, new int[] {155, 0, 0, 0});
        x.pass(1);
        checkFacts("at its second place", x, 5, new int[] {155, 1, 4, 0});
        x.pass(1);
        checkFacts("at its last place", x, 5, new int[] {155, 2, 4, 1});
        x.pass(1);
        checkFacts("behind its last place", x, 5, new int[] {155, 0, 0, 1});
        x.pass(1);
        checkFacts("once more", x, 5, new int[] {155, 1, 4, 2});
    }

    private static void organComplaintsInAllStreets() {
        OrganCensus x = Towns.of(3, 4);
        x.addOrgan(0, 1, 9);
        x.addOrgan(0, 1, 9);
        x.addOrgan(1, 1, 9);
        Check.same("none at first", x.organ(0, 9), 0);
        x.pass(1);
        Check.same("3 in the street 0", x.organ(0, 9), 3);
        x.send(0, 1, 1);
        x.pass(3);
        Check.same("3 in the street 0 and 4 in the street 1", x.organ(0, 9), 7);
        Check.same("of one that stayed", x.organ(1, 9), 3);
        Check.same("of one in the street 1", x.organ(2, 9), 4);
        x.pass(1);
        Check.same("the organ 0 is banished from the street 1", x.banished(0, 1), 24);
        Check.same("those in the street 0 stay", x.organ(0, 9), 3);
        Check.same("those in the street 1 are gone", x.organ(2, 9), 0);
        OrganCensus six = Towns.of(3, 3, 3, 3, 3, 4);
        six.addOrgan(5, 1, 9);
        six.addOrgan(5, 1, 9);
        six.pass(1);
        Check.same("in the last of six streets", six.organ(1, 9), 4);
    }

    private static void organStreetsOfItsBanishments() {
        OrganCensus x = Towns.rivals(5, 5, 5, 5, 5, 5);
        Check.same("none at first", x.organ(0, 10), 0);
        for (int s = 0; s < 6; s++) {
            x.pass(1);
            Check.same("so many streets", x.organ(0, 10), s + 1);
            Check.same("of the other", x.organ(1, 10), 0);
            if (s < 5) {
                x.send(1, s + 1, 0);
                x.pass(2);
            }
        }
        // The hours of the banishments: 0, 3, 6, 9, 12 and 15; it is the hour 16 now.
        x.send(1, 0, 0);
        for (int s = 0; s < 6; s++) {
            x.pass(s == 0 ? 8 : 2);
            Check.same("the last hour of the street " + s, x.organ(0, 10), 6 - s);
            Check.same("its hours", x.banished(0, s), 1);
            x.pass(1);
            Check.same("behind it", x.organ(0, 10), 5 - s);
        }
    }

    private static void organNoOrganOrWhat() {
        Check.refused("nothing is built", Towns::empty, Check.INDEX, x -> x.organ(0, 0));
        Check.refused("no organ at all", Towns::small, Check.INDEX, x -> x.organ(0, 0));
        for (int wrong : Check.outside(0, 5)) {
            Check.refused("organ " + wrong, Towns::busy, Check.INDEX, x -> x.organ(wrong, 0));
        }
        for (int wrong : Check.outside(0, 10)) {
            Check.refused("what " + wrong, Towns::busy, Check.INDEX, x -> x.organ(0, wrong));
        }
        Check.refused("behind the last of eight", Towns::full, Check.INDEX, x -> x.organ(8, 0));
        Check.taken("the first of both", Towns::full, 0, x -> x.organ(0, 0));
        Check.taken("the last of both", Towns::full, 0, x -> x.organ(7, 10));
        Check.taken("the last organ", Towns::full, 19, x -> x.organ(7, 1));
    }

    private static void banishedHours() {
        OrganCensus x = Towns.rivals(5, 4, 3);
        for (int s = 0; s < 3; s++) {
            Check.same("not at first", x.banished(0, s), 0);
        }
        x.pass(1);
        for (int left = 24; left > 0; left--) {
            Check.same("hours", x.banished(0, 0), left);
            Check.same("from another street", x.banished(0, 1), 0);
            Check.same("another organ", x.banished(1, 0), 0);
            x.pass(1);
        }
        Check.same("over", x.banished(0, 0), 0);
        x.pass(1);
        Check.same("still 0", x.banished(0, 0), 0);
        x.build(3);
        Check.same("from a street of later", x.banished(0, 3), 0);
    }

    private static void banishedNoOrganOrStreet() {
        Check.refused("nothing is built", Towns::empty, Check.INDEX, x -> x.banished(0, 0));
        Check.refused("no organ at all", Towns::small, Check.INDEX, x -> x.banished(0, 0));
        for (int wrong : Check.outside(0, 5)) {
            Check.refused("organ " + wrong, Towns::busy, Check.INDEX, x -> x.banished(wrong, 0));
        }
        for (int wrong : Check.outside(0, 2)) {
            Check.refused("street " + wrong, Towns::busy, Check.INDEX, x -> x.banished(0, wrong));
        }
        Check.refused("behind the last of eight organs", Towns::full, Check.INDEX, x -> x.banished(8, 5));
        Check.refused("behind the last of six streets", Towns::full, Check.INDEX, x -> x.banished(7, 6));
        Check.taken("the first of both", Towns::full, 0, x -> x.banished(0, 0));
        Check.taken("the last of both", Towns::full, 0, x -> x.banished(7, 5));
    }
}
