/** What the document says of refused calls in general. */
final class RefusalSentences {
    private RefusalSentences() {
    }

    static void all(Sentences is) {
        is.section("Terms");
        is.test("A method that throws an exception changes nothing.", RefusalSentences::changesNothing);
        is.test("If several exceptions apply, the one that is named first is thrown.", RefusalSentences::theOneNamedFirst);
    }

    private static final Check.CallOn[] REFUSED = {
        x -> x.build(2), x -> x.build(21), x -> x.build(3),
        x -> x.setPassers(6, 0, 1), x -> x.setPassers(0, 24, 1), x -> x.setPassers(0, 0, 100), x -> x.setPassers(0, 0, -1),
        x -> x.setTaste(6, 0, 1), x -> x.setTaste(0, 6, 1), x -> x.setTaste(0, 0, 10), x -> x.setTaste(0, 0, -1),
        x -> x.street(6, 0), x -> x.street(0, 8), x -> x.ear(6, 0, true), x -> x.ear(0, 6, false),
        x -> x.addOrgan(6, 0, 1), x -> x.addOrgan(0, 20, 1), x -> x.addOrgan(0, 0, 0), x -> x.addOrgan(0, 0, 10), x -> x.addOrgan(0, 0, 1),
        x -> x.setBarrel(8, 1), x -> x.setBarrel(0, 0), x -> x.setBarrel(0, 7), x -> x.setBarrel(0, 111111111),
        x -> x.send(8, 0, 0), x -> x.send(0, 6, 0), x -> x.send(0, 0, 20), x -> x.send(6, 5, 0), x -> x.send(6, 5, 19),
        x -> x.organ(8, 0), x -> x.organ(0, 11), x -> x.banished(8, 0), x -> x.banished(0, 6), x -> x.heard(6, 0), x -> x.heard(0, 20),
        x -> x.pass(0), x -> x.pass(101), x -> x.count(-1), x -> x.count(8),
        x -> x.foresee(8, 1), x -> x.foresee(0, 0), x -> x.foresee(0, 101),
        x -> x.advise(8, 0, 1), x -> x.advise(0, 6, 1), x -> x.advise(0, 0, 0), x -> x.advise(0, 0, 25),
        x -> x.byteAt(-1), x -> x.byteAt(x.count(7)),
    };

    /** All refusals, one behind the other, in a town with all streets and organs, a banishment, complaints and a paper. */
    private static void changesNothing() {
        busyIsBusy();
        OrganCensus x = fullWithBanishment();
        Check.same("banished", x.banished(6, 5), 23);
        Check.isTrue("complaints", x.count(5) > 0);
        for (int i = 0; i < REFUSED.length; i++) {
            int number = i;
            String answer = Check.outcome(() -> REFUSED[number].answer(x));
            Check.isTrue("that the call " + i + " throws, answer " + answer, answer.endsWith("Exception"));
        }
        Check.alike("after all of them", x, fullWithBanishment());
        OrganCensus empty = Towns.empty();
        for (int i = 0; i < REFUSED.length; i++) {
            int number = i;
            if (i != 2) {
                String answer = Check.outcome(() -> REFUSED[number].answer(empty));
                Check.isTrue("that the call " + i + " throws where nothing is built, answer " + answer, answer.endsWith("Exception"));
            }
        }
        Check.alike("after all of them where nothing is built", empty, Towns.empty());
    }

    /** So that a change in it shows: most refusals are tried in this town. */
    private static void busyIsBusy() {
        OrganCensus x = Towns.busy();
        Check.isTrue("one on its way", x.count(3) < x.count(2));
        Check.isTrue("coins", x.count(4) > 0);
        Check.isTrue("complaints", x.count(5) > 0);
        Check.isTrue("a banishment", x.count(6) > 0);
        Check.isTrue("a paper", x.count(7) > 0);
    }

    private static OrganCensus fullWithBanishment() {
        OrganCensus x = Towns.full();
        x.pass(2);
        x.census();
        return x;
    }

    private static void theOneNamedFirst() {
        Check.refused("build: pitches before their number", Towns::full, Check.ARGUMENT, x -> x.build(2));
        Check.refused("build: more pitches", Towns::full, Check.ARGUMENT, x -> x.build(21));

        Check.refused("setPassers: street before passers", Towns::full, Check.INDEX, x -> x.setPassers(6, 0, 100));
        Check.refused("setPassers: hour before passers", Towns::full, Check.INDEX, x -> x.setPassers(0, 24, -1));
        Check.refused("setPassers: all three", Towns::empty, Check.INDEX, x -> x.setPassers(0, -1, 100));

        Check.refused("setTaste: street before taste", Towns::full, Check.INDEX, x -> x.setTaste(6, 0, 10));
        Check.refused("setTaste: tune before taste", Towns::full, Check.INDEX, x -> x.setTaste(0, 6, -1));
        Check.refused("setTaste: all three", Towns::empty, Check.INDEX, x -> x.setTaste(0, -1, 10));

        Check.refused("addOrgan: street before loudness", Towns::busy, Check.INDEX, x -> x.addOrgan(3, 0, 0));
        Check.refused("addOrgan: pitch before loudness", Towns::busy, Check.INDEX, x -> x.addOrgan(0, 8, 10));
        Check.refused("addOrgan: street before the organs' number", Towns::full, Check.INDEX, x -> x.addOrgan(6, 0, 1));
        Check.refused("addOrgan: pitch before the organs' number", Towns::full, Check.INDEX, x -> x.addOrgan(0, 20, 1));
        Check.refused("addOrgan: loudness before the organs' number", Towns::full, Check.ARGUMENT, x -> x.addOrgan(0, 0, 0));
        Check.refused("addOrgan: more loudness", Towns::full, Check.ARGUMENT, x -> x.addOrgan(5, 19, 10));
        Check.refused("addOrgan: all", Towns::full, Check.INDEX, x -> x.addOrgan(-1, -1, 10));

        Check.refused("setBarrel: organ before barrel", Towns::full, Check.INDEX, x -> x.setBarrel(8, 0));
        Check.refused("setBarrel: no organ at all", Towns::small, Check.INDEX, x -> x.setBarrel(0, 7));

        Check.refused("send: pitch before banishment", Towns::afterBanishment, Check.INDEX, x -> x.send(0, 0, 5));
        Check.refused("send: pitch -1 before banishment", Towns::afterBanishment, Check.INDEX, x -> x.send(0, 0, -1));
        Check.refused("send: banishment", Towns::afterBanishment, Check.STATE, x -> x.send(0, 0, 4));

        Check.refused("foresee: organ before hours", Towns::full, Check.INDEX, x -> x.foresee(8, 0));
        Check.refused("foresee: no organ at all", Towns::small, Check.INDEX, x -> x.foresee(0, 101));

        Check.refused("advise: organ before hours", Towns::full, Check.INDEX, x -> x.advise(8, 0, 0));
        Check.refused("advise: street before hours", Towns::full, Check.INDEX, x -> x.advise(0, 6, 25));
        Check.refused("advise: all three", Towns::empty, Check.INDEX, x -> x.advise(0, 0, 0));
    }
}
