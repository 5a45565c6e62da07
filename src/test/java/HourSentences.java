/** What the document says of an hour: its six steps, one behind the other. */
final class HourSentences {
    private HourSentences() {
    }

    static void all(Sentences is) {
        is.section("Terms");
        is.test("An hour goes like this, with all as it is at its beginning:", HourSentences::asAtItsBeginning);

        is.test("1. Organs that stand play the tune of their barrel that comes next.", HourSentences::playTheTuneThatComesNext);

        is.test("2. Coins, street by street, pitch by pitch: if an organ is heard there, it gets passers *", HourSentences::coinsOfEachPitch);
        is.test("passers * (taste of its tune in the street, less its weariness there,", HourSentences::coinsByTasteAndWeariness);
        is.test("less wear of the tune on its barrel / 10, at least 0) / 10.", HourSentences::coinsByWear);
        is.test("each of those that sound there loudest or 1 less has a complaint in this street", HourSentences::complaintsOfTheLoudest);
        is.test("(also where nobody passes).", HourSentences::complaintsWhereNobodyPasses);

        is.test("3. Weariness, in each street, tune by tune: 2 more (at most 9), if an organ that stands there played it in this hour",
            HourSentences::wearinessTwoMore);
        is.test("(however many did),", HourSentences::wearinessHoweverManyDid);
        is.test("otherwise 1 less (at least 0).", HourSentences::wearinessOneLess);

        is.test("4. Barrels: each organ that stands: the wear of the tune that it played is 1 more (at most 90);",
            HourSentences::wearOneMore);
        is.test("its place in the barrel is the next one, behind the last one 0.", HourSentences::placeBehindTheLast);

        is.test("5. Constables, street by street: if all organs together have 10 complaints or more in it,",
            HourSentences::tenComplaintsInAStreet);
        is.test("the one with the most", HourSentences::theOneWithTheMost);
        is.test("(of several the one with the smallest number)", HourSentences::theOneWithTheSmallestNumber);
        is.test("is banished from it for 24 hours from now on;", HourSentences::banishedForADay);
        is.test("then all complaints in this street are 0", HourSentences::complaintsAreZeroThen);
        is.test("(till then they stay, also of those that have left it).", HourSentences::complaintsStayTillThen);
        is.test("One that does not stand in the street from which it is banished goes on as it was.",
            HourSentences::banishedFromElsewhere);
        is.test("One that is banished from the street where it stands leaves: it is on its way, for 2 hours, to the pitch 0 of the next street",
            HourSentences::leavesForTheNextStreet);
        is.test("(behind the last one the street 0)", HourSentences::leavesBehindTheLastStreet);
        is.test("from which it is not banished;", HourSentences::leavesPastTheBanished);
        is.test("if there is none, it goes to the pitch 0 of the very same street.", HourSentences::leavesForTheVerySameStreet);

        is.test("6. Ways: each organ that was on its way at the beginning of the hour has an hour less to go;",
            HourSentences::anHourLessToGo);
        is.test("with none left it stands there.", HourSentences::withNoneLeftItStands);
        is.test("Banishments (but those of this hour) are an hour shorter.", HourSentences::banishmentsAnHourShorter);
        is.test("The hour is 1 greater.", HourSentences::theHourIsOneGreater);
    }

    private static void asAtItsBeginning() {
        OrganCensus x = Towns.of(3, 3);
        Towns.passersAllDay(x, 0, 10);
        x.addOrgan(0, 0, 1);
        // Taste 5, less 0, 2, 4 and 6: the weariness before that of the hour itself.
        int[] coins = {5, 3, 1, 0};
        for (int due : coins) {
            Check.same("coins by the weariness at the beginning", x.pass(1), due);
        }
        OrganCensus arrives = Towns.of(3, 3);
        Towns.passersAllDay(arrives, 1, 10);
        arrives.addOrgan(0, 0, 1);
        arrives.send(0, 1, 0);
        Check.same("on its way at the beginning of two hours", arrives.pass(2), 0);
        Check.same("it stands, and played nothing", arrives.count(3) + arrives.organ(0, 8), 1);
        Check.same("it stands at the beginning", arrives.pass(1), 5);
        // The loud one is heard at 3 to 15, the first at 0, the last at 18 and 19; else they drown: 8 complaints an hour.
        OrganCensus leaves = loudOneInTheMiddle();
        leaves.setPassers(0, 1, 10);
        leaves.pass(1);
        Check.same("one that is banished in this hour gets its coins, as do both others", leaves.pass(1), 13 * 3 + 3 + 2 * 3);
        Check.same("the banished one", leaves.organ(1, 4), 39);
        Check.same("is banished now", leaves.banished(1, 0), 24);
        // What is banished in the hour from a street before is no refuge any more from one behind it.
        OrganCensus both = oldComplaints(0, 1);
        both.pass(1);
        Check.same("banished from the street where it was", both.banished(0, 0), 24);
        Check.same("and then from the one where it stands", both.banished(0, 1), 24);
        Check.same("so it stays in this one", both.organ(0, 0), 1);
        OrganCensus other = oldComplaints(1, 0);
        other.pass(1);
        Check.same("banished from where it stands", other.banished(0, 0), 24);
        Check.same("and then from where it was", other.banished(0, 1), 24);
        Check.same("it went to there before that", other.organ(0, 0), 1);
        Check.same("and goes on", other.organ(0, 2), 2);
    }

    /** Of 20 pitches, with organs of loudness 3, 9 and 3. */
    private static OrganCensus loudOneInTheMiddle() {
        OrganCensus x = Towns.of(20);
        x.addOrgan(0, 0, 3);
        x.addOrgan(0, 9, 9);
        x.addOrgan(0, 18, 3);
        return x;
    }

    /** Two that drown each other, with 4 complaints each in one street, stand in the other; in the first one two quiet ones begin. */
    private static OrganCensus oldComplaints(int old, int now) {
        OrganCensus x = old == 0 ? Towns.of(4, 5) : Towns.of(5, 4);
        x.addOrgan(old, 1, 9);
        x.addOrgan(old, 1, 9);
        x.pass(1);
        x.send(0, now, 2);
        x.send(1, now, 2);
        x.pass(2);
        x.addOrgan(old, 0, 1);
        x.addOrgan(old, 0, 1);
        Check.same("old complaints", x.street(old, 3), 8);
        Check.same("none yet where they stand", x.street(now, 3), 0);
        return x;
    }

    private static void playTheTuneThatComesNext() {
        OrganCensus x = Towns.of(20, 3);
        x.addOrgan(0, 0, 1);
        x.setBarrel(0, 31);
        x.pass(1);
        Check.same("the tune 2 was heard", x.ear(0, 2, false), 2);
        Check.same("the tune 0 was not", x.ear(0, 0, false), 0);
        x.pass(1);
        Check.same("then the tune 0 was", x.ear(0, 0, false), 2);
        x.send(0, 0, 19);
        x.pass(3);
        Check.same("one on its way plays nothing: its place", x.organ(0, 6), 0);
        Check.same("its wear", x.organ(0, 8), 1);
        Check.same("no ear is wearier", x.ear(0, 2, false) + x.ear(0, 0, false), 0);
        x.pass(1);
        Check.same("then it plays again", x.ear(0, 2, false), 2);
    }

    private static void coinsOfEachPitch() {
        OrganCensus x = Towns.of(10, 5);
        x.setPassers(0, 0, 40);
        x.setPassers(0, 1, 39);
        x.setPassers(1, 1, 99);
        x.setTaste(0, 0, 9);
        x.addOrgan(0, 2, 3);
        x.addOrgan(1, 0, 1);
        // 5 pitches of 40 * 9 / 10.
        Check.same("the first hour", x.pass(1), 180);
        // 5 pitches of 39 * (9 - 2) / 10 = 27, and 99 * (5 - 2) / 10 = 29.
        Check.same("the second hour", x.pass(1), 5 * 27 + 29);
        Check.same("the first organ", x.organ(0, 4), 180 + 135);
        Check.same("the second organ", x.organ(1, 4), 29);
        OrganCensus shared = Towns.of(20);
        shared.setPassers(0, 0, 10);
        shared.addOrgan(0, 4, 3);
        shared.addOrgan(0, 8, 3);
        shared.addOrgan(0, 15, 1);
        // 2 to 5 hear the organ 0, 7 to 10 the organ 1, 15 the organ 2; at 6 nobody gets anything.
        Check.same("coins of a street of several", shared.pass(1), 4 * 5 + 4 * 5 + 5);
        Check.same("of the organ 0", shared.organ(0, 4), 20);
        Check.same("of the organ 1", shared.organ(1, 4), 20);
        Check.same("of the organ 2", shared.organ(2, 4), 5);
        OrganCensus drowned = Towns.rivals(5);
        drowned.setPassers(0, 0, 99);
        Check.same("where none is heard", drowned.pass(1), 0);
    }

    private static void coinsByTasteAndWeariness() {
        int[][] tastes = {{99, 9, 89}, {99, 0, 0}, {0, 9, 0}, {1, 9, 0}, {2, 5, 1}, {2, 4, 0}, {10, 1, 1}, {9, 1, 0}, {12, 9, 10}};
        for (int[] each : tastes) {
            OrganCensus x = Towns.of(3);
            x.setPassers(0, 0, each[0]);
            x.setTaste(0, 0, each[1]);
            x.addOrgan(0, 0, 1);
            Check.same(each[0] + " passers, taste " + each[1], x.pass(1), each[2]);
        }
        int[][] weariness = {{8, 1, 6}, {3, 1, 1}, {2, 1, 0}, {1, 1, 0}, {0, 1, 0}, {9, 4, 1}, {8, 4, 0}, {9, 5, 0}, {0, 5, 0}};
        for (int[] each : weariness) {
            OrganCensus x = Towns.of(3, 3);
            Towns.passersAllDay(x, 0, 10);
            x.setTaste(0, 0, 0);
            x.addOrgan(0, 0, 1);
            x.pass(each[1]);
            x.setTaste(0, 0, each[0]);
            Check.same("taste " + each[0] + ", played for hours: " + each[1], x.pass(1), each[2]);
        }
        OrganCensus there = Towns.of(3, 3);
        Towns.passersAllDay(there, 1, 10);
        there.setTaste(1, 0, 7);
        there.addOrgan(0, 0, 1);
        there.pass(9);
        there.addOrgan(1, 0, 1);
        Check.same("weary of it in another street", there.pass(1), 7);
        OrganCensus tunes = Towns.of(3);
        Towns.passersAllDay(tunes, 0, 10);
        tunes.addOrgan(0, 0, 1);
        tunes.setBarrel(0, 65);
        tunes.setTaste(0, 5, 8);
        tunes.setTaste(0, 4, 6);
        Check.same("the taste of its tune", tunes.pass(1), 8);
        Check.same("of its next tune, without the weariness of the other", tunes.pass(1), 6);
        Check.same("of the first again, played and rested", tunes.pass(1), 8 - 1);
    }

    private static void coinsByWear() {
        int[][] wear = {{9, 9, 9}, {10, 9, 8}, {19, 9, 8}, {20, 9, 7}, {79, 9, 2}, {80, 9, 1}, {89, 9, 1}, {90, 9, 0}, {95, 9, 0}, {80, 8, 0}, {90, 0, 0}};
        for (int[] each : wear) {
            OrganCensus x = Towns.of(3, 3);
            Towns.passersAllDay(x, 1, 10);
            x.setTaste(1, 0, each[1]);
            x.addOrgan(0, 0, 1);
            x.pass(each[0]);
            x.send(0, 1, 0);
            x.pass(2);
            Check.same("played " + each[0] + " times, taste " + each[1], x.pass(1), each[2]);
        }
        OrganCensus tunes = Towns.of(3, 3);
        Towns.passersAllDay(tunes, 1, 10);
        tunes.addOrgan(0, 0, 1);
        tunes.addOrgan(0, 2, 1);
        tunes.setBarrel(0, 1111112);
        tunes.pass(13);
        tunes.send(0, 1, 0);
        tunes.pass(2);
        Check.same("the tune 1, worn once, not the tune 0", tunes.pass(1), 5);
        Check.same("the tune 0, worn 12 times", tunes.pass(1), 4);
        tunes.send(1, 1, 2);
        tunes.pass(2);
        tunes.setBarrel(1, 3);
        Check.same("the wear of a new barrel", tunes.foresee(1, 1), 5);
    }

    private static void complaintsOfTheLoudest() {
        OrganCensus x = Towns.of(3, 3);
        x.addOrgan(0, 0, 5);
        x.addOrgan(0, 0, 4);
        x.addOrgan(0, 0, 3);
        x.addOrgan(1, 0, 5);
        x.pass(1);
        Check.same("the loudest, at three pitches", x.organ(0, 9), 3);
        Check.same("1 less", x.organ(1, 9), 3);
        Check.same("2 less", x.organ(2, 9), 0);
        Check.same("alone in another street", x.organ(3, 9), 0);
        Check.same("in this street", x.street(0, 3), 6);
        Check.same("in the other", x.street(1, 3), 0);
        OrganCensus quiet = Towns.of(4);
        quiet.addOrgan(0, 0, 1);
        quiet.addOrgan(0, 1, 1);
        quiet.addOrgan(0, 0, 1);
        quiet.pass(1);
        Check.same("as loud", quiet.organ(0, 9), 1);
        Check.same("1 less than 1 does not sound there", quiet.organ(1, 9), 0);
        Check.same("as loud, behind it", quiet.organ(2, 9), 1);
        OrganCensus heard = Towns.of(3);
        heard.addOrgan(0, 0, 9);
        heard.addOrgan(0, 0, 7);
        heard.pass(5);
        Check.same("where one is heard", heard.count(5), 0);
        OrganCensus behind = Towns.of(3);
        behind.addOrgan(0, 0, 7);
        behind.addOrgan(0, 0, 8);
        behind.addOrgan(0, 0, 9);
        behind.pass(1);
        Check.same("2 less than the loudest, 1 less than the next", behind.organ(0, 9), 0);
        Check.same("1 less", behind.organ(1, 9), 3);
        Check.same("the loudest", behind.organ(2, 9), 3);
    }

    private static void complaintsWhereNobodyPasses() {
        OrganCensus x = Towns.rivals(4);
        Check.same("nobody passes", x.street(0, 1), 0);
        x.pass(1);
        Check.same("complaints", x.street(0, 3), 8);
        OrganCensus y = Towns.rivals(4);
        y.setPassers(0, 0, 99);
        y.pass(1);
        Check.same("as many where somebody passes", y.street(0, 3), 8);
    }

    private static void wearinessTwoMore() {
        OrganCensus x = Towns.of(20, 3);
        x.addOrgan(0, 0, 1);
        int[] even = {2, 4, 6, 8, 9, 9, 9};
        for (int due : even) {
            x.pass(1);
            Check.same("played in each hour", x.ear(0, 0, false), due);
        }
        OrganCensus y = Towns.of(20, 3);
        y.addOrgan(0, 0, 1);
        y.setBarrel(0, 121111);
        int[] odd = {2, 1, 3, 5, 7, 9, 9};
        for (int due : odd) {
            y.pass(1);
            Check.same("not played in the second hour", y.ear(0, 0, false), due);
        }
        OrganCensus drowned = Towns.rivals(4);
        drowned.setBarrel(1, 6);
        drowned.pass(1);
        Check.same("one that is not heard played it too", drowned.ear(0, 0, false), 2);
        Check.same("so did the other", drowned.ear(0, 5, false), 2);
        OrganCensus way = Towns.of(20, 3);
        way.addOrgan(0, 0, 1);
        way.send(0, 1, 0);
        way.pass(1);
        Check.same("one on its way did not, here", way.ear(0, 0, false), 0);
        Check.same("nor there", way.ear(1, 0, false), 0);
    }

    private static void wearinessHoweverManyDid() {
        OrganCensus x = Towns.of(20);
        for (int i = 0; i < 8; i++) {
            x.addOrgan(0, 2 * i, 1);
        }
        x.setBarrel(7, 2);
        x.pass(1);
        Check.same("seven played it", x.ear(0, 0, false), 2);
        Check.same("one played it", x.ear(0, 1, false), 2);
        Check.same("none played it", x.ear(0, 2, false), 0);
    }

    private static void wearinessOneLess() {
        OrganCensus x = Towns.of(20, 3);
        x.addOrgan(0, 0, 1);
        x.pass(6);
        Check.same("weary", x.ear(0, 0, false), 9);
        x.setBarrel(0, 2);
        int[] rested = {8, 7, 6, 5, 4, 3, 2, 1, 0, 0, 0};
        for (int due : rested) {
            x.pass(1);
            Check.same("not played", x.ear(0, 0, false), due);
            Check.same("never played", x.ear(0, 5, false), 0);
        }
    }

    private static void wearOneMore() {
        OrganCensus x = Towns.of(3, 3);
        x.addOrgan(0, 0, 1);
        x.addOrgan(1, 0, 1);
        for (int due = 1; due <= 90; due++) {
            x.pass(1);
            Check.same("played so many times", x.organ(0, 8), due);
        }
        x.pass(1);
        Check.same("played 91 times", x.organ(0, 8), 90);
        x.setBarrel(1, 112);
        x.pass(2);
        Check.same("of its next tune, not played yet", x.organ(1, 8), 0);
        x.pass(1);
        Check.same("of the one played twice", x.organ(1, 8), 2);
        x.pass(2);
        Check.same("of the one played once", x.organ(1, 8), 1);
        Check.same("100 hours at once", manyHours().organ(0, 8), 90);
    }

    private static OrganCensus manyHours() {
        OrganCensus x = Towns.of(3);
        x.addOrgan(0, 0, 1);
        x.pass(100);
        return x;
    }

    private static void placeBehindTheLast() {
        int[][] rows = {{4, 1}, {45, 2}, {121, 3}, {1234561, 7}, {12345612, 8}};
        for (int[] each : rows) {
            OrganCensus x = Towns.of(3);
            x.addOrgan(0, 0, 1);
            x.setBarrel(0, each[0]);
            for (int hour = 0; hour < 2 * each[1] + 1; hour++) {
                Check.same("place in the barrel " + each[0], x.organ(0, 6), hour % each[1]);
                x.pass(1);
            }
        }
        OrganCensus way = Towns.of(3, 3);
        way.addOrgan(0, 0, 1);
        way.setBarrel(0, 12);
        way.pass(1);
        way.send(0, 1, 0);
        way.pass(2);
        Check.same("of one on its way", way.organ(0, 6), 1);
    }

    private static void tenComplaintsInAStreet() {
        OrganCensus nine = Towns.of(3);
        for (int i = 0; i < 3; i++) {
            nine.addOrgan(0, 1, 9);
        }
        nine.pass(1);
        Check.same("9 complaints", nine.street(0, 3), 9);
        Check.same("bring no constables", nine.count(6), 0);
        OrganCensus ten = Towns.rivals(5);
        ten.pass(1);
        Check.same("10 complaints bring them", ten.count(6), 1);
        nine.pass(1);
        Check.same("18 complaints bring them", nine.count(6), 1);
        OrganCensus two = Towns.of(4, 3);
        for (int i = 0; i < 4; i++) {
            two.addOrgan(i / 2, 1, 9);
        }
        two.pass(1);
        Check.same("14 complaints in two streets", two.count(5), 14);
        Check.same("bring none", two.count(6), 0);
        two.pass(1);
        Check.same("16 in the one and 12 in the other bring them to both", two.count(6), 2);
        Check.same("in the first street", two.street(0, 5), 1);
        Check.same("in the second street", two.street(1, 5), 1);
    }

    private static void theOneWithTheMost() {
        OrganCensus x = loudOneInTheMiddle();
        x.pass(1);
        Check.same("of the first", x.organ(0, 9), 2);
        Check.same("of the middle one", x.organ(1, 9), 4);
        Check.same("of the last", x.organ(2, 9), 2);
        x.pass(1);
        Check.same("the middle one is banished", x.banished(1, 0), 24);
        Check.same("it alone", x.count(6), 1);
        OrganCensus last = Towns.of(20, 20);
        for (int i = 0; i < 5; i++) {
            last.addOrgan(1, 4 * i, 1);
        }
        last.addOrgan(0, 0, 3);
        last.addOrgan(0, 18, 3);
        last.addOrgan(0, 9, 9);
        last.pass(2);
        Check.same("the last of eight is banished", last.banished(7, 0), 24);
        Check.same("it alone of eight", last.count(6), 1);
    }

    private static void theOneWithTheSmallestNumber() {
        OrganCensus x = Towns.of(5, 5);
        x.addOrgan(1, 2, 9);
        for (int i = 0; i < 7; i++) {
            x.addOrgan(0, 2, 9);
        }
        x.pass(1);
        Check.same("the organ 1 of 1 to 7", x.banished(1, 0), 24);
        Check.same("it alone", x.count(6), 1);
        OrganCensus y = Towns.of(20);
        y.addOrgan(0, 0, 3);
        y.addOrgan(0, 18, 3);
        for (int i = 0; i < 6; i++) {
            y.addOrgan(0, 9, 9);
        }
        y.pass(1);
        Check.same("the organ 2 of 2 to 7", y.banished(2, 0), 24);
        Check.same("it alone", y.count(6), 1);
    }

    private static void banishedForADay() {
        OrganCensus x = Towns.rivals(5, 4);
        x.pass(1);
        for (int left = 24; left >= 1; left--) {
            Check.same("hours left", x.banished(0, 0), left);
            Check.same("it may not be sent there", Check.outcome(() -> x.send(0, 0, 0)), "IllegalStateException");
            x.pass(1);
        }
        Check.same("over", x.banished(0, 0), 0);
        Check.same("it may be sent there", x.send(0, 0, 0), 2);
        OrganCensus again = Towns.rivals(5);
        again.pass(3);
        Check.same("back, with 22 hours left", again.banished(0, 0), 22);
        // Loudness 9 at the pitch 0 against 9 at the pitch 2: drowned at 1 alone, 2 complaints an hour.
        again.pass(4);
        Check.same("18 left", again.banished(0, 0), 18);
        again.pass(1);
        Check.same("banished anew, for 24 from now on", again.banished(0, 0), 24);
        Check.same("told as the second time", again.street(0, 5), 2);
    }

    private static void complaintsAreZeroThen() {
        OrganCensus x = Towns.of(5, 4);
        x.addOrgan(0, 2, 9);
        x.addOrgan(0, 2, 9);
        x.addOrgan(1, 2, 9);
        x.addOrgan(1, 2, 9);
        x.pass(1);
        Check.same("of the banished one", x.organ(0, 9), 0);
        Check.same("of the other", x.organ(1, 9), 0);
        Check.same("of the street", x.street(0, 3), 0);
        Check.same("of another street they stay", x.street(1, 3), 8);
        OrganCensus left = oldComplaints(0, 1);
        left.pass(1);
        Check.same("of those that have left it, too", left.organ(1, 9), 0);
        Check.same("of all", left.count(5), 0);
    }

    private static void complaintsStayTillThen() {
        OrganCensus x = Towns.rivals(4, 20);
        x.pass(1);
        x.send(0, 1, 0);
        x.send(1, 1, 19);
        x.pass(100);
        Check.same("of a street that they left", x.street(0, 3), 8);
        Check.same("told of the first", x.organ(0, 9), 4);
        Check.same("told of the second", x.organ(1, 9), 4);
        x.addOrgan(0, 0, 1);
        x.addOrgan(0, 0, 1);
        x.pass(1);
        Check.same("with 2 more they are 10: one that left is banished", x.banished(0, 0), 24);
    }

    private static void banishedFromElsewhere() {
        OrganCensus stands = Towns.rivals(4, 20);
        stands.pass(1);
        stands.send(0, 1, 2);
        stands.send(1, 1, 19);
        stands.pass(2);
        stands.addOrgan(0, 0, 1);
        stands.addOrgan(0, 0, 1);
        stands.pass(1);
        Check.same("banished from where it was", stands.banished(0, 0), 24);
        checkPlace("one that stands elsewhere", stands, 1, 2, 0);
        OrganCensus way = Towns.rivals(4, 20);
        way.pass(1);
        way.send(0, 1, 4);
        way.send(1, 1, 19);
        way.addOrgan(0, 0, 1);
        way.addOrgan(0, 0, 1);
        way.pass(1);
        Check.same("banished from where it was", way.banished(0, 0), 24);
        checkPlace("one on its way elsewhere", way, 1, 4, 1);
        OrganCensus back = Towns.rivals(4, 20);
        back.pass(1);
        back.send(0, 1, 4);
        back.send(0, 0, 3);
        back.send(1, 1, 19);
        back.addOrgan(0, 0, 1);
        back.addOrgan(0, 0, 1);
        back.pass(1);
        Check.same("banished from where it goes", back.banished(0, 0), 24);
        checkPlace("one on its way to this very street", back, 0, 3, 1);
        back.pass(1);
        checkPlace("it stands there in the end", back, 0, 3, 0);
        Check.same("though it is banished", back.banished(0, 0), 23);
        Check.same("told among those that stand there", back.street(0, 2), 3);
    }

    private static void checkPlace(String what, OrganCensus x, int street, int pitch, int hours) {
        Check.same(what + ": street", x.organ(0, 0), street);
        Check.same(what + ": pitch", x.organ(0, 1), pitch);
        Check.same(what + ": hours to go", x.organ(0, 2), hours);
    }

    private static void leavesForTheNextStreet() {
        OrganCensus x = Towns.rivals(5, 20, 5);
        x.pass(1);
        checkPlace("it leaves", x, 1, 0, 2);
        Check.same("it stands nowhere", x.count(3), 1);
        x.pass(1);
        checkPlace("an hour later", x, 1, 0, 1);
        x.pass(1);
        checkPlace("two hours later", x, 1, 0, 0);
        Check.same("the other stayed", x.organ(1, 0) + x.organ(1, 2), 0);
    }

    private static void leavesBehindTheLastStreet() {
        OrganCensus x = Towns.of(5, 5, 5, 5, 5, 5);
        x.addOrgan(5, 2, 9);
        x.addOrgan(5, 2, 9);
        x.pass(1);
        checkPlace("behind the last of six", x, 0, 0, 2);
        OrganCensus two = Towns.of(5, 5);
        two.addOrgan(1, 2, 9);
        two.addOrgan(1, 2, 9);
        two.pass(1);
        checkPlace("behind the last of two", two, 0, 0, 2);
        // Banished from the street 0 first, then from the last one.
        OrganCensus past = Towns.rivals(5, 5, 5);
        past.pass(1);
        past.send(0, 2, 2);
        past.send(1, 2, 2);
        past.pass(5);
        Check.same("banished from the last one", past.banished(0, 2), 24);
        checkPlace("behind the last one past the street 0", past, 1, 0, 2);
    }

    private static void leavesPastTheBanished() {
        // Banished from the street 1 in the hour 0; both meet in the street 0 in the hour 24, or in the next.
        for (int late = 0; late < 2; late++) {
            OrganCensus x = Towns.of(5, 5, 5);
            x.addOrgan(1, 2, 9);
            x.addOrgan(1, 2, 9);
            x.pass(1);
            x.send(0, 0, 2);
            x.send(1, 2, 2);
            x.pass(19 + late);
            Check.same("from the street 2 to 0", x.send(1, 0, 2), 4);
            x.pass(4);
            Check.same("hours left from the street 1", x.banished(0, 1), 1 - late);
            x.pass(1);
            Check.same("banished from the street 0", x.banished(0, 0), 24);
            checkPlace(late == 0 ? "past the street 1 in the last hour" : "to the street 1 behind the last hour", x, late == 0 ? 2 : 1, 0, 2);
        }
    }

    private static void leavesForTheVerySameStreet() {
        OrganCensus one = Towns.rivals(5);
        one.pass(1);
        checkPlace("of one street", one, 0, 0, 2);
        one.pass(2);
        checkPlace("it comes back", one, 0, 0, 0);
        Check.same("banished though it stands there", one.banished(0, 0), 22);
        // Each third hour both are banished from the street where they stand, until there is none left.
        OrganCensus x = Towns.rivals(5, 5, 5, 5, 5, 5);
        for (int s = 0; s < 6; s++) {
            x.pass(1);
            Check.same("banished from the street " + s, x.banished(0, s), 24);
            Check.same("from so many streets", x.organ(0, 10), s + 1);
            checkPlace("from the street " + s, x, s < 5 ? s + 1 : 5, 0, 2);
            if (s < 5) {
                x.send(1, s + 1, 0);
            }
            x.pass(2);
        }
        Check.same("it stands in the last one", x.street(5, 2), 2);
        x.pass(1);
        Check.same("banished from it once more", x.street(5, 5), 2);
        checkPlace("from the very same street", x, 5, 0, 2);
    }

    private static void anHourLessToGo() {
        OrganCensus x = Towns.of(20, 3, 3);
        x.addOrgan(0, 0, 1);
        x.send(0, 2, 0);
        for (int left = 4; left >= 0; left--) {
            checkPlace("on its way", x, 2, 0, left);
            x.pass(1);
        }
        checkPlace("it stands", x, 2, 0, 0);
        OrganCensus leaves = Towns.rivals(5, 5);
        leaves.pass(1);
        checkPlace("one that left in this hour was not on its way at its beginning", leaves, 1, 0, 2);
    }

    private static void withNoneLeftItStands() {
        OrganCensus x = Towns.of(20, 3);
        Towns.passersAllDay(x, 0, 10);
        x.addOrgan(0, 0, 1);
        Check.same("an hour's way", x.send(0, 0, 5), 1);
        Check.same("it does not stand", x.count(3), 0);
        Check.same("it is not heard there yet", x.heard(0, 5), -1);
        Check.same("no coins in this hour", x.pass(1), 0);
        Check.same("it stands", x.count(3), 1);
        Check.same("it is heard there", x.heard(0, 5), 0);
        Check.same("coins in the next hour", x.pass(1), 5);
    }

    private static void banishmentsAnHourShorter() {
        OrganCensus x = Towns.rivals(5, 5, 5);
        x.pass(1);
        Check.same("that of this hour is not", x.banished(0, 0), 24);
        x.pass(1);
        Check.same("that of the hour before is", x.banished(0, 0), 23);
        x.send(0, 2, 2);
        x.send(1, 2, 2);
        x.pass(5);
        Check.same("of two, the older", x.banished(0, 0), 18);
        Check.same("and that of this hour", x.banished(0, 2), 24);
        x.pass(17);
        Check.same("its last hour", x.banished(0, 0), 1);
        Check.same("two banishments", x.count(6), 2);
        x.pass(1);
        Check.same("over", x.banished(0, 0), 0);
        Check.same("one banishment", x.count(6), 1);
        x.pass(100);
        Check.same("no less than 0", x.banished(0, 0), 0);
        Check.same("nor the other", x.banished(0, 2), 0);
    }

    private static void theHourIsOneGreater() {
        OrganCensus x = Towns.empty();
        for (int hour = 0; hour < 50; hour++) {
            Check.same("the hour", x.count(0), hour);
            x.pass(1);
        }
        x.pass(100);
        Check.same("a hundred more", x.count(0), 150);
    }
}
