/** What the document says of a town before its hours: numbers and time, streets, organs, barrels, who is heard. */
final class TownSentences {
    private TownSentences() {
    }

    static void all(Sentences is) {
        is.section("What it is");
        is.test("An object is used for at most 512 calls after it has been made", TownSentences::callNumber512);

        is.section("Terms");
        is.test("All numbers are whole, and / is cut towards 0.", TownSentences::divisionIsCut);
        is.test("Time is told in hours, from 0; the hour h is that of the day with the number h by the remainder of 24.",
            TownSentences::hourOfTheDay);

        is.test("There are at most 6, numbered from 0 in the order of their building;", TownSentences::atMostSixStreets);
        is.test("each has 3 to 20 pitches, numbered from 0 along it;", TownSentences::threeToTwentyPitches);
        is.test("for each hour of the day passers, 0 to 99 at each pitch (0, at first);", TownSentences::passersOfAStreet);
        is.test("and for each of 6 tunes, 0 to 5, a taste, 0 to 9 (5, at first), and weariness, 0 to 9 (0, at first).",
            TownSentences::tasteAndWearinessOfAStreet);

        is.test("There are at most 8, numbered likewise;", TownSentences::atMostEightOrgans);
        is.test("each has a loudness, 1 to 9, coins (0, at first), a barrel, a row of 1 to 8 tunes, a place in it (0, at first), "
            + "and wear for each tune, 0 to 90 (0, at first).", TownSentences::whatAnOrganHas);
        is.test("It stands at a pitch, or is on its way to one for some hours yet.", TownSentences::standsOrIsOnItsWay);
        is.test("Several can stand at one pitch.", TownSentences::severalAtOnePitch);
        is.test("A barrel is told as a decimal number of 1 to 8 digits from 1 to 6, the first tune highest (1 for the tune 0, and so on);",
            TownSentences::barrelAsANumber);
        is.test("a new organ has the barrel 1.", TownSentences::barrelOfANewOrgan);

        is.test("An organ that stands in a street sounds at a pitch of it with its loudness less the distance "
            + "(the difference of both pitches), if this is greater than 0.", TownSentences::loudnessLessTheDistance);
        is.test("At a pitch the loudest of those that sound there is heard;", TownSentences::theLoudestIsHeard);
        is.test("but if another one sounds there only 1 less, or as loud, they drown each other: none is heard.",
            TownSentences::drownedByOneLessOrAsLoud);
        is.test("An organ can be banished from a street for some hours.", TownSentences::banishedForSomeHours);

        is.test("The paper is a row of bytes, at first empty, which census writes.", TownSentences::paperAtFirstEmpty);
    }

    private static void callNumber512() {
        OrganCensus x = Towns.of(3);
        x.addOrgan(0, 0, 1);
        for (int call = 3; call <= 511; call++) {
            x.pass(100);
        }
        Check.same("the call 512, after 509 times 100 hours", x.count(0), 50900);
        OrganCensus y = Towns.of(3);
        y.setPassers(0, 50900 % 24, 77);
        for (int call = 3; call <= 511; call++) {
            y.pass(100);
        }
        Check.same("the call 512, in the hour 20 of a day", y.street(0, 1), 77);
        greatestCoins();
    }

    private static void greatestCoins() {
        OrganCensus x = Towns.full();
        long sum = 0;
        // 6 calls of build, 6 times 24 of setPassers, 6 times 6 of setTaste and 8 of addOrgan are behind it.
        for (int call = 195; call <= 511; call++) {
            if (call % 40 == 0) {
                x.setBarrel(call / 40 % 8, 12345612);
            } else {
                sum += x.pass(100);
            }
        }
        Check.same("the call 512, coins of 30900 hours", x.count(4), sum);
    }

    private static void divisionIsCut() {
        OrganCensus x = Towns.of(3, 20);
        x.setTaste(0, 0, 7);
        x.setPassers(0, 0, 35);
        x.addOrgan(0, 1, 2);
        // 35 * 7 / 10 is 24, and a half is cut at each of three pitches.
        Check.same("coins at three pitches", x.pass(1), 72);
        x.addOrgan(1, 9, 1);
        Check.same("9 pitches / 5", x.send(1, 1, 0), 1);
        Check.same("-4 pitches / 5", x.send(1, 1, 4), 0);
        Check.same("19 pitches / 5", x.send(1, 1, 0) + x.send(1, 1, 19), 3);
    }

    private static void hourOfTheDay() {
        OrganCensus x = Towns.of(3);
        x.setPassers(0, 0, 40);
        x.setPassers(0, 23, 60);
        x.addOrgan(0, 0, 1);
        // Each tune rests for five hours, and none is worn by 10 in two days: all are worth 5.
        x.setBarrel(0, 123456);
        for (int day = 0; day < 2; day++) {
            Check.same("the hour", x.count(0), 24 * day);
            Check.same("passers in the first hour", x.street(0, 1), 40);
            Check.same("coins in the first hour", x.pass(1), 20);
            Check.same("passers in the second", x.street(0, 1), 0);
            Check.same("coins from the second to the last but one", x.pass(22), 0);
            Check.same("passers in the hour 23", x.street(0, 1), 60);
            Check.same("coins in the hour 23", x.pass(1), 30);
        }
        Check.same("the hour", x.count(0), 48);
        Check.same("coins in the hour 48", x.pass(1), 20);
    }

    private static void atMostSixStreets() {
        OrganCensus x = Towns.empty();
        Check.same("none at first", x.count(1), 0);
        for (int s = 0; s < 6; s++) {
            Check.same("the number", x.build(10 + s), s);
            Check.same("so many streets", x.count(1), s + 1);
        }
        for (int s = 0; s < 6; s++) {
            Check.same("pitches of the street " + s, x.street(s, 0), 10 + s);
        }
        Check.refused("a seventh", Towns::full, Check.STATE, y -> y.build(3));
    }

    private static void threeToTwentyPitches() {
        for (int pitches : new int[] {3, 20}) {
            OrganCensus x = Towns.of(pitches);
            Check.same("pitches", x.street(0, 0), pitches);
            Check.same("an organ at the first", x.addOrgan(0, 0, 1), 0);
            Check.same("an organ at the last", x.addOrgan(0, pitches - 1, 1), 1);
            Check.same("heard at the first", x.heard(0, 0), 0);
            Check.same("heard at the last", x.heard(0, pitches - 1), 1);
            Check.same("before the first", Check.outcome(() -> x.heard(0, -1)), "IndexOutOfBoundsException");
            Check.same("behind the last", Check.outcome(() -> x.heard(0, pitches)), "IndexOutOfBoundsException");
        }
    }

    private static void passersOfAStreet() {
        OrganCensus x = Towns.of(3, 3);
        for (int hour = 0; hour < 24; hour++) {
            Check.same("at first, in the hour " + hour, x.setPassers(1, hour, 99), 0);
        }
        x.addOrgan(1, 1, 2);
        // 99 * 5 / 10 at each of three pitches.
        Check.same("99 at each pitch", x.pass(1), 3 * 49);
        Check.same("none in the other street", x.street(0, 1), 0);
        x.setPassers(1, 1, 0);
        Check.same("none at any pitch", x.pass(1), 0);
    }

    private static void tasteAndWearinessOfAStreet() {
        OrganCensus x = Towns.of(3, 20);
        for (int tune = 0; tune < 6; tune++) {
            Check.same("taste at first", x.ear(1, tune, true), 5);
            Check.same("weariness at first", x.ear(1, tune, false), 0);
        }
        for (int tune = 0; tune < 6; tune++) {
            x.setTaste(1, tune, tune % 2 == 0 ? 0 : 9);
            x.addOrgan(1, 3 * tune, 1);
            x.setBarrel(tune, tune + 1);
        }
        x.pass(5);
        for (int tune = 0; tune < 6; tune++) {
            Check.same("the least and the greatest taste", x.ear(1, tune, true), tune % 2 == 0 ? 0 : 9);
            Check.same("the greatest weariness", x.ear(1, tune, false), 9);
            Check.same("weariness of the other street", x.ear(0, tune, false), 0);
        }
    }

    private static void atMostEightOrgans() {
        OrganCensus x = Towns.of(3, 5);
        Check.same("none at first", x.count(2), 0);
        for (int i = 0; i < 8; i++) {
            Check.same("the number", x.addOrgan(i % 2, 2, 1 + i), i);
            Check.same("so many organs", x.count(2), i + 1);
        }
        for (int i = 0; i < 8; i++) {
            Check.same("loudness of the organ " + i, x.organ(i, 3), 1 + i);
        }
        Check.refused("a ninth", Towns::full, Check.STATE, y -> y.addOrgan(0, 0, 1));
    }

    private static void whatAnOrganHas() {
        OrganCensus x = Towns.of(3, 20);
        x.addOrgan(1, 19, 9);
        int[] due = {1, 19, 0, 9, 0, 1, 0, 0, 0, 0, 0};
        for (int what = 0; what < due.length; what++) {
            Check.same("organ(0, " + what + ") at first", x.organ(0, what), due[what]);
        }
        x.addOrgan(0, 0, 1);
        Check.same("the least loudness", x.organ(1, 3), 1);
        x.setBarrel(0, 2);
        x.setBarrel(1, 12345616);
        x.pass(7);
        Check.same("place in a row of 1", x.organ(0, 6), 0);
        Check.same("place in a row of 8", x.organ(1, 6), 7);
        Check.same("its last tune", x.organ(1, 7), 5);
        Check.same("wear of the tune 5", x.organ(1, 8), 1);
        x.pass(100);
        Check.same("the greatest wear", x.organ(0, 8), 90);
    }

    private static void standsOrIsOnItsWay() {
        OrganCensus x = Towns.of(3, 3, 3, 3, 3, 3);
        x.addOrgan(0, 0, 1);
        Check.same("stands", x.count(3), 1);
        Check.same("the farthest way", x.send(0, 5, 2), 10);
        for (int left = 10; left > 0; left--) {
            Check.same("hours yet", x.organ(0, 2), left);
            Check.same("does not stand there", x.street(5, 2), 0);
            Check.same("nor where it was", x.street(0, 2), 0);
            x.pass(1);
        }
        Check.same("no hour yet", x.organ(0, 2), 0);
        Check.same("stands there", x.street(5, 2), 1);
    }

    private static void severalAtOnePitch() {
        OrganCensus x = Towns.of(3);
        for (int i = 0; i < 8; i++) {
            x.addOrgan(0, 2, 1);
            Check.same("heard", x.heard(0, 2), i == 0 ? 0 : -2);
        }
        Check.same("all eight stand there", x.street(0, 2), 8);
        x.pass(1);
        Check.same("each has a complaint", x.count(5), 8);
        Check.same("the last one too", x.organ(7, 9), 1);
    }

    private static void barrelAsANumber() {
        OrganCensus x = Towns.of(3);
        x.addOrgan(0, 0, 1);
        int[] barrels = {1, 6, 16, 61, 352, 11111111, 66666666, 12345612, 65432165};
        for (int barrel : barrels) {
            x.setBarrel(0, barrel);
            Check.same("the number", x.organ(0, 5), barrel);
            String digits = String.valueOf(barrel);
            for (int place = 0; place < digits.length(); place++) {
                Check.same("place in " + barrel, x.organ(0, 6), place);
                Check.same("tune of " + barrel + " at " + place, x.organ(0, 7), digits.charAt(place) - '1');
                x.pass(1);
            }
            Check.same("place behind the last of " + barrel, x.organ(0, 6), 0);
        }
    }

    private static void barrelOfANewOrgan() {
        OrganCensus x = Towns.of(3);
        for (int i = 0; i < 8; i++) {
            x.addOrgan(0, 0, 1);
            Check.same("barrel of the organ " + i, x.organ(i, 5), 1);
            Check.same("its tune", x.organ(i, 7), 0);
            Check.same("told as the barrel before", x.setBarrel(i, 23), 1);
        }
    }

    private static void loudnessLessTheDistance() {
        int[] loudnesses = {1, 3, 9};
        for (int loudness : loudnesses) {
            OrganCensus x = Towns.of(20, 20);
            x.addOrgan(0, 9, loudness);
            for (int pitch = 0; pitch < 20; pitch++) {
                boolean sounds = loudness - Math.abs(pitch - 9) > 0;
                Check.same("loudness " + loudness + " at 9, heard at " + pitch, x.heard(0, pitch), sounds ? 0 : -1);
                Check.same("in another street", x.heard(1, pitch), -1);
            }
        }
        OrganCensus ends = Towns.of(20);
        ends.addOrgan(0, 0, 9);
        ends.addOrgan(0, 19, 9);
        Check.same("8 away", ends.heard(0, 8), 0);
        Check.same("9 away", ends.heard(0, 9), -1);
        Check.same("9 away, from the other end", ends.heard(0, 10), -1);
        Check.same("8 away, from the other end", ends.heard(0, 11), 1);
        ends.send(0, 0, 5);
        Check.same("one on its way does not sound where it was", ends.heard(0, 0), -1);
        Check.same("nor where it goes", ends.heard(0, 5), -1);
    }

    private static void theLoudestIsHeard() {
        OrganCensus x = Towns.of(20);
        x.addOrgan(0, 4, 3);
        x.addOrgan(0, 8, 3);
        x.addOrgan(0, 4, 5);
        // 5 against 3 at the pitch 4: 2 more is enough. At 7 both sound with 2, at 8 it is 1 against 3.
        int[] due = {2, 2, 2, 2, 2, 2, 2, -2, 1, 1, 1, -1};
        for (int pitch = 0; pitch < due.length; pitch++) {
            Check.same("three organs, at " + pitch, x.heard(0, pitch), due[pitch]);
        }
        OrganCensus last = Towns.of(3);
        for (int i = 0; i < 7; i++) {
            last.addOrgan(0, 0, 1 + i);
        }
        last.addOrgan(0, 0, 9);
        Check.same("the last of eight", last.heard(0, 0), 7);
    }

    private static void drownedByOneLessOrAsLoud() {
        int[][] loudnesses = {{5, 5, -2}, {5, 4, -2}, {4, 5, -2}, {5, 3, 0}, {3, 5, 1}, {1, 1, -2}, {2, 1, -2}, {3, 1, 0}, {9, 8, -2}};
        for (int[] each : loudnesses) {
            OrganCensus x = Towns.of(3);
            x.addOrgan(0, 1, each[0]);
            x.addOrgan(0, 1, each[1]);
            Check.same("of " + each[0] + " and " + each[1], x.heard(0, 1), each[2]);
        }
        OrganCensus three = Towns.of(3);
        three.addOrgan(0, 0, 5);
        three.addOrgan(0, 0, 5);
        Check.same("two as loud", three.heard(0, 0), -2);
        three.addOrgan(0, 0, 7);
        Check.same("two as loud, and one of 2 more", three.heard(0, 0), 2);
        three.addOrgan(0, 0, 8);
        Check.same("and one of 1 more than that", three.heard(0, 0), -2);
        OrganCensus beside = Towns.of(3);
        beside.addOrgan(0, 0, 1);
        beside.addOrgan(0, 1, 1);
        Check.same("one that sounds there with 0 drowns none", beside.heard(0, 0), 0);
        Check.same("nor does the other", beside.heard(0, 1), 1);
        Check.same("none sounds", beside.heard(0, 2), -1);
    }

    private static void banishedForSomeHours() {
        OrganCensus x = Towns.rivals(5, 4);
        Check.same("not at first", x.banished(0, 0), 0);
        x.pass(1);
        Check.same("hours", x.banished(0, 0), 24);
        Check.same("not from another street", x.banished(0, 1), 0);
        Check.same("not another organ", x.banished(1, 0), 0);
        x.pass(23);
        Check.same("the last hour", x.banished(0, 0), 1);
        x.pass(1);
        Check.same("no more", x.banished(0, 0), 0);
    }

    private static void paperAtFirstEmpty() {
        OrganCensus x = Towns.fresh();
        x.pass(30);
        x.digest();
        x.mean();
        x.foresee(0, 5);
        Check.same("bytes before census", x.count(7), 0);
        Check.same("the first byte", Check.outcome(() -> x.byteAt(0)), "IndexOutOfBoundsException");
        int bytes = x.census();
        Check.isTrue("census writes it", bytes > 0);
        Check.same("bytes then", x.count(7), bytes);
        x.pass(30);
        Check.same("nothing else does", x.count(7), bytes);
    }
}
