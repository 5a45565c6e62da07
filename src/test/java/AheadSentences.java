import java.math.BigInteger;
import java.util.ArrayList;
import java.util.List;

/** What the document promises of looking ahead and of the census: promises 15 to 20. */
final class AheadSentences {
    private AheadSentences() {
    }

    static void all(Sentences is) {
        is.section("Promise 15: foresee");
        is.test("`hours`: how many, 1 to 100 Returns how many coins it gets in so many hours", AheadSentences::foreseeCoins);
        is.test("(nothing is changed).", AheadSentences::foreseeChangesNothing);
        is.test("Throws `IndexOutOfBoundsException` if there is no such organ", AheadSentences::foreseeNoOrgan);
        is.test("Throws `IllegalArgumentException` if hours is not 1 to 100", AheadSentences::foreseeNotOneTo100);

        is.section("Promise 16: advise");
        is.test("if it was there at once (nothing left to go; all else of it as it is):", AheadSentences::adviseAtOnce);
        is.test("where it gets the most coins in so many hours;", AheadSentences::adviseTheMostCoins);
        is.test("of several the first one.", AheadSentences::adviseOfSeveralTheFirst);
        is.test("(Whether it is banished does not matter for standing there now; all else goes on as told.)", AheadSentences::adviseOneThatIsBanished);
        is.test("Returns this pitch (nothing is changed).", AheadSentences::adviseChangesNothing);
        is.test("Throws `IndexOutOfBoundsException` if there is no such organ or street", AheadSentences::adviseNoOrganOrStreet);
        is.test("Throws `IllegalArgumentException` if hours is not 1 to 24", AheadSentences::adviseNotOneTo24);

        is.section("Promise 17: census");
        is.test("Writes the census on the paper, in the place of what was there:", AheadSentences::censusInThePlaceOfTheLast);
        is.test("the line \"street organs coins\" (all lines end with a line end, 10);", AheadSentences::censusOfAnEmptyTown);
        is.test("for each street its number, the organs that stand there, and the coins that were given there;", AheadSentences::censusOfStreets);
        is.test("then the line \"organ coins tune\"; for each organ its number, its coins, and the tune that comes next.",
            AheadSentences::censusOfOrgans);
        is.test("Between the words and numbers of a line one blank stands.", AheadSentences::censusBlanks);
        is.test("Returns how many bytes.", AheadSentences::censusReturnsTheBytes);

        is.section("Promise 18: byteAt");
        is.test("Returns the byte there.", AheadSentences::byteThere);
        is.test("Throws `IndexOutOfBoundsException` if there is no such place", AheadSentences::byteAtNoPlace);

        is.section("Promise 19: mean");
        is.test("Returns the mean of the coins of all organs; 0 if there are none.", AheadSentences::meanOfTheCoins);

        is.section("Promise 20: digest");
        is.test("A number d starts with 587;", AheadSentences::digestOfAnEmptyTown);
        is.test("for each of the following numbers x, d becomes d * 31 + x, which wraps around as a 64-bit integer:", AheadSentences::digestWrapsAround);
        is.test("what count() tells; for each street what street() tells, and for each tune its taste and its weariness; "
            + "for each organ what organ() tells, and for how many hours it is banished from each street (all in their order); "
            + "the bytes of the paper.", AheadSentences::digestOfAllThatIsTold);
    }

    private static void foreseeCoins() {
        for (int i = 0; i < 6; i++) {
            for (int hours : new int[] {1, 2, 24, 25, 99, 100}) {
                OrganCensus x = Towns.busy();
                OrganCensus y = Towns.busy();
                int had = y.organ(i, 4);
                y.pass(hours);
                Check.same("organ " + i + " in hours: " + hours, x.foresee(i, hours), y.organ(i, 4) - had);
            }
        }
        for (int i = 0; i < 8; i++) {
            for (int hours : new int[] {1, 5, 30, 100}) {
                OrganCensus x = mixed();
                OrganCensus y = mixed();
                int had = y.organ(i, 4);
                y.pass(hours);
                Check.same("all is built: organ " + i + " in hours: " + hours, x.foresee(i, hours), y.organ(i, 4) - had);
            }
        }
        // One that arrives within the time gets coins from then on.
        OrganCensus z = Towns.of(3, 3);
        Towns.passersAllDay(z, 1, 20);
        z.addOrgan(0, 0, 1);
        z.send(0, 1, 0);
        Check.same("still on its way", z.foresee(0, 2), 0);
        Check.same("it stands there", z.foresee(0, 3), 10);
        z.build(3);
        z.addOrgan(2, 0, 1);
        Check.same("a street and an organ of later", z.foresee(1, 9), 0);
        foreseeThatItLeaves();
        // 17 pitches, and one tune for a hundred hours: worth 9, 7, 5, 3 and 1, then nothing.
        Check.same("the least hours", lonely().foresee(0, 1), 17 * 89);
        Check.same("the most hours", lonely().foresee(0, 100), 17 * (89 + 69 + 49 + 29 + 9));
    }

    /** Banished from the last of six streets, it will be banished from the one before that, and go past it to the street 0. */
    private static void foreseeThatItLeaves() {
        OrganCensus x = Towns.of(5, 5, 5, 5, 5, 5);
        Towns.passersAllDay(x, 0, 10);
        x.addOrgan(5, 2, 9);
        x.addOrgan(5, 2, 9);
        x.pass(1);
        Check.same("banished from the last one", x.banished(0, 5), 24);
        x.send(0, 4, 2);
        x.send(1, 4, 2);
        x.pass(8);
        Check.same("drowned, and two hours on its way", x.foresee(0, 3), 0);
        Check.same("heard at five pitches of the street 0", x.foresee(0, 4), 25);
    }

    /** The full town with eight barrels of several tunes, of which the last street likes the last one less; three hours later. */
    private static OrganCensus mixed() {
        OrganCensus x = Towns.full();
        int[] barrels = {16, 265, 3612, 46, 5, 654321, 6, 61626364};
        for (int i = 0; i < 8; i++) {
            x.setBarrel(i, barrels[i]);
            x.setTaste(5, 5, 7);
        }
        x.pass(3);
        return x;
    }

    /** One organ of loudness 9 in the middle of a street of 20 pitches, with 99 passers and a taste of 9. */
    private static OrganCensus lonely() {
        OrganCensus x = Towns.of(20);
        Towns.passersAllDay(x, 0, 99);
        x.setTaste(0, 0, 9);
        x.addOrgan(0, 10, 9);
        return x;
    }

    private static void foreseeChangesNothing() {
        OrganCensus x = Towns.busy();
        x.foresee(0, 1);
        x.foresee(5, 100);
        Check.alike("two looks ahead in a busy town", x, Towns.busy());
        OrganCensus y = Towns.full();
        y.foresee(7, 100);
        Check.alike("a look ahead in a full town", y, Towns.full());
        OrganCensus twice = Towns.busy();
        int coins = twice.foresee(3, 50);
        Check.same("the same once more", twice.foresee(3, 50), coins);
    }

    private static void foreseeNoOrgan() {
        Check.refused("nothing is built", Towns::empty, Check.INDEX, x -> x.foresee(0, 1));
        Check.refused("no organ at all", Towns::small, Check.INDEX, x -> x.foresee(0, 1));
        for (int wrong : Check.outside(0, 5)) {
            Check.refused("organ " + wrong, Towns::busy, Check.INDEX, x -> x.foresee(wrong, 1));
        }
        Check.refused("behind the last of eight", Towns::full, Check.INDEX, x -> x.foresee(8, 1));
        Check.taken("the first", Towns::full, 17 * 89, x -> x.foresee(0, 1));
        // It stands at the last pitch, beside one as loud.
        Check.taken("the last", Towns::full, 0, x -> x.foresee(7, 1));
    }

    private static void foreseeNotOneTo100() {
        for (int wrong : Check.outside(1, 100)) {
            Check.refused("hours " + wrong, Towns::busy, Check.ARGUMENT, x -> x.foresee(0, wrong));
        }
        Check.refused("0 hours in a full town", Towns::full, Check.ARGUMENT, x -> x.foresee(7, 0));
        Check.taken("1 hour", AheadSentences::lonely, 17 * 89, x -> x.foresee(0, 1));
        Check.taken("100 hours", AheadSentences::lonely, 17 * 245, x -> x.foresee(0, 100));
    }

    private static void adviseAtOnce() {
        OrganCensus x = Towns.of(10, 12);
        Towns.passersAllDay(x, 0, 30);
        Towns.passersAllDay(x, 1, 30);
        x.addOrgan(0, 5, 2);
        x.addOrgan(1, 2, 5);
        // The other sounds down to 1 at the pitch 6: from the pitch 8 on, three pitches are free.
        Check.same("in another street, for one hour", x.advise(0, 1, 1), 8);
        x.send(0, 1, 3);
        Check.same("one on its way", x.advise(0, 1, 1), 8);
        Check.same("back where it was", x.advise(0, 0, 24), 1);
        asIfItStoodThere();
        allElseAsItIs();
    }

    /** Along a street of five pitches it is sent at once, so that each pitch can be tried. */
    private static void asIfItStoodThere() {
        for (int start = 0; start < 5; start++) {
            for (int hours : new int[] {1, 2, 7, 24}) {
                int best = 0;
                int most = -1;
                for (int pitch = 0; pitch < 5; pitch++) {
                    OrganCensus tried = narrowTown(start);
                    tried.send(1, 0, pitch);
                    int had = tried.organ(1, 4);
                    tried.pass(hours);
                    if (tried.organ(1, 4) - had > most) {
                        most = tried.organ(1, 4) - had;
                        best = pitch;
                    }
                }
                Check.same("begun at " + start + ", hours: " + hours, narrowTown(start).advise(1, 0, hours), best);
            }
        }
    }

    private static OrganCensus narrowTown(int start) {
        OrganCensus x = Towns.of(5, 6);
        for (int hour = 0; hour < 24; hour++) {
            x.setPassers(0, hour, 10 + 7 * hour % 60);
            x.setPassers(1, hour, 3 * hour);
        }
        x.addOrgan(0, start, 3);
        x.addOrgan(0, 2, 2);
        x.addOrgan(0, 4 - start, 1);
        x.setBarrel(0, 132);
        x.setBarrel(1, 25);
        x.pass(2);
        return x;
    }

    private static void allElseAsItIs() {
        // Its next tune is worth nothing here, the one behind it is: at the pitch 0 it is heard at two, at 1 at three.
        OrganCensus x = Towns.of(3, 6);
        x.setPassers(1, 1, 50);
        x.setTaste(1, 0, 0);
        x.addOrgan(0, 0, 2);
        x.setBarrel(0, 21);
        x.pass(1);
        Check.same("by its place in the barrel, no coins: the first", x.advise(0, 1, 1), 0);
        x.setBarrel(0, 21);
        Check.same("by another place", x.advise(0, 1, 1), 1);
        // Worn by 50, the tune is worth nothing.
        OrganCensus worn = Towns.of(3, 6);
        Towns.passersAllDay(worn, 1, 50);
        worn.addOrgan(0, 0, 2);
        worn.pass(50);
        Check.same("by its wear of 50", worn.advise(0, 1, 1), 0);
        worn.setBarrel(0, 1);
        Check.same("without wear", worn.advise(0, 1, 1), 1);
    }

    private static void adviseTheMostCoins() {
        OrganCensus first = Towns.of(3);
        first.setPassers(0, 0, 10);
        first.addOrgan(0, 1, 1);
        first.addOrgan(0, 2, 2);
        // The other sounds with 2 at 2 and with 1 at 1.
        Check.same("the first pitch", first.advise(0, 0, 1), 0);
        OrganCensus last = Towns.of(20);
        last.setPassers(0, 0, 10);
        last.addOrgan(0, 5, 1);
        last.addOrgan(0, 0, 9);
        last.addOrgan(0, 10, 9);
        // From 0 to 8, and from 2 to 18: 19 alone is free.
        Check.same("the last pitch", last.advise(0, 0, 1), 19);
        OrganCensus behind = Towns.of(19, 3);
        Towns.passersAllDay(behind, 0, 10);
        behind.addOrgan(0, 18, 2);
        behind.addOrgan(0, 9, 9);
        behind.setBarrel(0, 23456);
        // At 0 and at 18 it is heard at one pitch, and banished after five hours: it would not be from behind the last pitch.
        Check.same("none behind the last pitch", behind.advise(0, 0, 6), 0);
        OrganCensus all = Towns.full();
        // 2 beside the other it is louder by 2 on its own side: at the pitches 0 to 8, more than from 12 to 19.
        Check.same("of the last organ in a full town", all.advise(7, 4, 1), 8);
        OrganCensus later = Towns.of(4, 4);
        later.setPassers(0, 2, 10);
        later.addOrgan(0, 3, 2);
        later.addOrgan(1, 2, 9);
        later.send(1, 0, 3);
        // The loud one comes to the pitch 3 for the hour 2; from then on the quiet one is heard nowhere.
        Check.same("in two hours nobody passes", later.advise(0, 0, 2), 0);
        Check.same("in three hours it is not heard beside the loud one", later.advise(0, 0, 3), 0);
        later.setPassers(0, 1, 10);
        Check.same("before that it is heard at three pitches", later.advise(0, 0, 3), 1);
    }

    private static void adviseOfSeveralTheFirst() {
        OrganCensus none = Towns.of(6);
        none.addOrgan(0, 3, 2);
        Check.same("no coins at any pitch", none.advise(0, 0, 24), 0);
        OrganCensus x = Towns.of(10, 12);
        Towns.passersAllDay(x, 0, 30);
        Towns.passersAllDay(x, 1, 30);
        x.addOrgan(0, 5, 2);
        // Heard at three pitches from 1 to the last but one, at both ends at two.
        Check.same("of 1 to 8", x.advise(0, 0, 1), 1);
        Check.same("of 1 to 10", x.advise(0, 1, 24), 1);
        OrganCensus quiet = Towns.of(20);
        Towns.passersAllDay(quiet, 0, 99);
        quiet.addOrgan(0, 19, 1);
        Check.same("of all twenty", quiet.advise(0, 0, 24), 0);
    }

    private static void adviseOneThatIsBanished() {
        OrganCensus x = Towns.of(20);
        Towns.passersAllDay(x, 0, 50);
        x.addOrgan(0, 9, 3);
        x.addOrgan(0, 9, 3);
        x.pass(1);
        Check.same("banished", x.banished(0, 0), 24);
        // The other sounds from 7 to 11; at the pitch 2 it is heard at 5 pitches, before that at fewer.
        Check.same("from where it is banished", x.advise(0, 0, 1), 2);
        Check.same("it may not be sent there", Check.outcome(() -> x.send(0, 0, 2)), "IllegalStateException");
        allElseGoesOn();
    }

    /** The loud one sounds from 1 to 17. At 18 and at 19 the quiet one is heard at two pitches; at 18 they drown each other at 17. */
    private static void allElseGoesOn() {
        OrganCensus x = Towns.of(20, 3);
        Towns.passersAllDay(x, 0, 10);
        x.addOrgan(0, 18, 2);
        x.addOrgan(0, 9, 9);
        x.setBarrel(0, 23456);
        x.pass(5);
        Check.same("banished for 10 complaints in five hours", x.banished(0, 0), 24);
        Check.same("for five hours 18 is as good as 19", x.advise(0, 0, 5), 18);
        Check.same("for six it is not: it would be banished anew, and leave", x.advise(0, 0, 6), 19);
        OrganCensus y = Towns.of(10, 12);
        Towns.passersAllDay(y, 0, 30);
        Towns.passersAllDay(y, 1, 30);
        y.addOrgan(1, 3, 2);
        y.addOrgan(1, 2, 5);
        // From 8 on it is heard at three pitches, and at 7 at two; but there it has complaints, and leaves for fresh ears in time.
        Check.same("for five hours", y.advise(0, 1, 5), 8);
        Check.same("for a day", y.advise(0, 1, 24), 7);
    }

    private static void adviseChangesNothing() {
        OrganCensus x = Towns.busy();
        x.advise(0, 0, 1);
        x.advise(5, 2, 24);
        Check.alike("advised twice in a busy town", x, Towns.busy());
        OrganCensus y = Towns.full();
        y.advise(7, 0, 24);
        Check.alike("advised in a full town", y, Towns.full());
        OrganCensus z = Towns.afterBanishment();
        z.advise(0, 0, 24);
        Check.alike("advised of one that is banished", z, Towns.afterBanishment());
        OrganCensus twice = Towns.busy();
        int pitch = twice.advise(3, 1, 20);
        Check.same("the same once more", twice.advise(3, 1, 20), pitch);
    }

    private static void adviseNoOrganOrStreet() {
        Check.refused("nothing is built", Towns::empty, Check.INDEX, x -> x.advise(0, 0, 1));
        Check.refused("no organ at all", Towns::small, Check.INDEX, x -> x.advise(0, 0, 1));
        for (int wrong : Check.outside(0, 5)) {
            Check.refused("organ " + wrong, Towns::busy, Check.INDEX, x -> x.advise(wrong, 0, 1));
        }
        for (int wrong : Check.outside(0, 2)) {
            Check.refused("street " + wrong, Towns::busy, Check.INDEX, x -> x.advise(0, wrong, 1));
        }
        Check.refused("behind the last of eight organs", Towns::full, Check.INDEX, x -> x.advise(8, 5, 1));
        Check.refused("behind the last of six streets", Towns::full, Check.INDEX, x -> x.advise(7, 6, 1));
        // Alone it is heard at 17 pitches from 8 to 11, elsewhere at fewer.
        Check.taken("the first of both", Towns::full, 8, x -> x.advise(0, 0, 1));
        // Beside the others at 10 and 19 it is heard at 0 to 8.
        Check.taken("the last of both", Towns::full, 8, x -> x.advise(7, 5, 1));
    }

    private static void adviseNotOneTo24() {
        for (int wrong : Check.outside(1, 24)) {
            Check.refused("hours " + wrong, Towns::busy, Check.ARGUMENT, x -> x.advise(0, 0, wrong));
        }
        Check.refused("0 hours in a full town", Towns::full, Check.ARGUMENT, x -> x.advise(7, 5, 0));
        Check.taken("1 hour", AheadSentences::lonely, 8, x -> x.advise(0, 0, 1));
        Check.taken("24 hours", AheadSentences::lonely, 8, x -> x.advise(0, 0, 24));
    }

    private static void censusInThePlaceOfTheLast() {
        OrganCensus x = Towns.of(3);
        x.census();
        Check.same("a first one", Towns.paper(x), "street organs coins\n0 0 0\norgan coins tune\n");
        x.build(3);
        x.addOrgan(1, 0, 1);
        Check.same("it stays till the next one", Towns.paper(x), "street organs coins\n0 0 0\norgan coins tune\n");
        x.census();
        String due = "street organs coins\n0 0 0\n1 1 0\norgan coins tune\n0 0 0\n";
        Check.same("a second one", Towns.paper(x), due);
        Check.same("the same once more", x.census(), due.length());
        Check.same("of the same", Towns.paper(x), due);
    }

    private static void censusOfAnEmptyTown() {
        OrganCensus x = Towns.empty();
        Check.same("bytes", x.census(), 37);
        Check.same("nothing is built", Towns.paper(x), "street organs coins\norgan coins tune\n");
        Check.same("the line end of the first line", x.byteAt(19), 10);
        Check.same("the line end of the second line", x.byteAt(36), 10);
    }

    private static void censusOfStreets() {
        OrganCensus x = Towns.of(4, 20, 3, 3, 3, 3);
        Towns.passersAllDay(x, 1, 99);
        Towns.passersAllDay(x, 5, 20);
        x.addOrgan(1, 10, 9);
        x.addOrgan(0, 0, 1);
        x.addOrgan(5, 2, 1);
        x.addOrgan(3, 0, 1);
        x.send(1, 2, 0);
        x.pass(1);
        x.send(3, 4, 0);
        // 17 pitches of 99 * 5 / 10, and one of 20 * 5 / 10; both that are on their way stand nowhere.
        x.census();
        Check.same("six streets", Towns.paper(x).split("organ coins tune")[0],
            "street organs coins\n0 0 0\n1 1 833\n2 0 0\n3 0 0\n4 0 0\n5 1 10\n");
        OrganCensus all = Towns.of(3);
        for (int i = 0; i < 8; i++) {
            all.addOrgan(0, 0, 1);
        }
        all.census();
        Check.same("eight organs", Towns.paper(all).split("\n")[1], "0 8 0");
    }

    private static void censusOfOrgans() {
        OrganCensus x = Towns.of(4, 20);
        Towns.passersAllDay(x, 1, 99);
        x.addOrgan(1, 10, 9);
        x.addOrgan(0, 0, 1);
        x.setBarrel(1, 64);
        x.pass(1);
        x.addOrgan(0, 2, 2);
        x.setBarrel(2, 6);
        x.send(2, 1, 3);
        x.census();
        String due = "street organs coins\n0 1 0\n1 1 833\norgan coins tune\n0 833 0\n1 0 3\n2 0 5\n";
        Check.same("the tunes 0, 3 and 5", Towns.paper(x), due);
        for (int i = 3; i < 8; i++) {
            x.addOrgan(0, 0, 1);
        }
        x.census();
        Check.same("lines with all eight", Towns.paper(x).split("\n").length, 12);
        Check.isTrue("the last one", Towns.paper(x).endsWith("\n7 0 0\n"));
    }

    private static void censusBlanks() {
        // Passers, taste, organs at a pitch each, and the coins of the street.
        int[][] towns = {{10, 9, 1, 9}, {20, 5, 1, 10}, {55, 6, 3, 99}, {50, 5, 4, 100}};
        for (int[] each : towns) {
            OrganCensus x = Towns.of(20);
            x.setPassers(0, 0, each[0]);
            x.setTaste(0, 0, each[1]);
            for (int i = 0; i < each[2]; i++) {
                x.addOrgan(0, 4 * i, 1);
            }
            x.pass(1);
            x.census();
            Check.same("the street", Towns.paper(x).split("\n")[1], "0 " + each[2] + " " + each[3]);
            Check.same("the whole", Towns.paper(x), told(x));
        }
        OrganCensus busy = Towns.busy();
        busy.census();
        Check.same("a busy town", Towns.paper(busy), told(busy));
        OrganCensus full = Towns.full();
        full.pass(100);
        full.census();
        Check.same("a full town", Towns.paper(full), told(full));
    }

    /** The census by what street() and organ() tell. */
    private static String told(OrganCensus x) {
        StringBuilder text = new StringBuilder("street organs coins\n");
        for (int s = 0; s < x.count(1); s++) {
            text.append(s + " " + x.street(s, 2) + " " + x.street(s, 4) + "\n");
        }
        text.append("organ coins tune\n");
        for (int i = 0; i < x.count(2); i++) {
            text.append(i + " " + x.organ(i, 4) + " " + x.organ(i, 7) + "\n");
        }
        return text.toString();
    }

    private static void censusReturnsTheBytes() {
        OrganCensus empty = Towns.empty();
        Check.same("nothing is built", empty.census(), 37);
        OrganCensus streets = Towns.of(3, 3, 3, 3, 3, 3);
        Check.same("six streets without organs", streets.census(), 37 + 6 * 6);
        OrganCensus full = Towns.full();
        Check.same("all is built", full.census(), 37 + 6 * 6 + 8 * 6);
        full.pass(100);
        Check.same("with coins", full.census(), Towns.paper(full).length());
        Check.same("told by count", full.count(7), Towns.paper(full).length());
    }

    private static void byteThere() {
        OrganCensus x = Towns.of(3);
        int bytes = x.census();
        String due = "street organs coins\n0 0 0\norgan coins tune\n";
        Check.same("bytes", bytes, due.length());
        for (int i = 0; i < bytes; i++) {
            Check.same("byte " + i, x.byteAt(i), due.charAt(i));
        }
        x.addOrgan(0, 0, 1);
        x.pass(5);
        Check.same("it stays till the next census", x.byteAt(22), '0');
        x.census();
        Check.same("of the next census", x.byteAt(22), '1');
    }

    private static void byteAtNoPlace() {
        for (int wrong : new int[] {0, 1, -1, Integer.MIN_VALUE, Integer.MAX_VALUE}) {
            Check.refused("place " + wrong + " of an empty paper", Towns::empty, Check.INDEX, x -> x.byteAt(wrong));
            Check.refused("place " + wrong + " of a full town's empty paper", Towns::full, Check.INDEX, x -> x.byteAt(wrong));
        }
        for (int wrong : Check.outside(0, 36)) {
            Check.refused("place " + wrong + " of 37", AheadSentences::censusOfNothing, Check.INDEX, x -> x.byteAt(wrong));
        }
        Check.taken("the first", AheadSentences::censusOfNothing, 's', x -> x.byteAt(0));
        Check.taken("the last", AheadSentences::censusOfNothing, 10, x -> x.byteAt(36));
        OrganCensus x = Towns.full();
        x.pass(100);
        int bytes = x.census();
        Check.same("the last of a full town", x.byteAt(bytes - 1), 10);
        Check.same("the place behind it", Check.outcome(() -> x.byteAt(bytes)), "IndexOutOfBoundsException");
    }

    private static OrganCensus censusOfNothing() {
        OrganCensus x = Towns.empty();
        x.census();
        return x;
    }

    private static void meanOfTheCoins() {
        Check.same("nothing is built", Towns.empty().mean(), 0.0);
        OrganCensus x = Towns.of(3, 3, 3);
        Check.same("no organ", x.mean(), 0.0);
        x.setPassers(0, 0, 20);
        x.setPassers(1, 0, 22);
        x.addOrgan(0, 0, 1);
        Check.same("no coins", x.mean(), 0.0);
        x.addOrgan(1, 0, 1);
        x.pass(1);
        // 10 and 11, and for the others nothing.
        double[] due = {10.5, 7.0, 5.25, 4.2, 3.5, 3.0, 2.625};
        for (int organs = 2; organs <= 8; organs++) {
            Check.same("of organs: " + organs, x.mean(), due[organs - 2]);
            if (organs < 8) {
                x.addOrgan(2, 0, 1);
            }
        }
        x.send(0, 2, 0);
        Check.same("of one on its way, too", x.mean(), 2.625);
        OrganCensus one = Towns.of(3);
        one.setPassers(0, 0, 99);
        one.setTaste(0, 0, 9);
        one.addOrgan(0, 0, 1);
        one.pass(1);
        Check.same("of one", one.mean(), 89.0);
        one.addOrgan(0, 2, 1);
        one.addOrgan(0, 2, 1);
        Check.same("of three", one.mean(), 89.0 / 3);
    }

    private static void digestOfAnEmptyTown() {
        long d = 587;
        for (int what = 0; what <= 7; what++) {
            d = d * 31;
        }
        Check.same("nothing is built", Towns.empty().digest(), d);
        OrganCensus x = Towns.empty();
        x.pass(7);
        // The hour is the first of eight numbers.
        Check.same("seven hours later", x.digest(), d + 7 * 31L * 31 * 31 * 31 * 31 * 31 * 31);
    }

    private static void digestWrapsAround() {
        OrganCensus[] towns = {censusOfNothing(), Towns.of(3), Towns.busy(), Towns.full()};
        for (OrganCensus x : towns) {
            BigInteger d = BigInteger.valueOf(587);
            for (int number : numbers(x)) {
                d = d.multiply(BigInteger.valueOf(31)).add(BigInteger.valueOf(number));
            }
            Check.isTrue("more than 64 bits", d.bitLength() > 64);
            Check.same("streets: " + x.count(1), x.digest(), d.longValue());
        }
    }

    private static void digestOfAllThatIsTold() {
        OrganCensus x = Towns.fresh();
        for (int hour = 0; hour < 60; hour++) {
            long d = 587;
            for (int number : numbers(x)) {
                d = d * 31 + number;
            }
            Check.same("in the hour " + hour, x.digest(), d);
            Check.same("once more", x.digest(), d);
            if (hour % 7 == 3) {
                x.setBarrel(hour % 6, 654);
                x.census();
            }
            x.pass(1);
        }
    }

    private static List<Integer> numbers(OrganCensus x) {
        List<Integer> all = new ArrayList<>();
        for (int what = 0; what <= 7; what++) {
            all.add(x.count(what));
        }
        for (int s = 0; s < x.count(1); s++) {
            for (int what = 0; what <= 7; what++) {
                all.add(x.street(s, what));
            }
            for (int tune = 0; tune < 6; tune++) {
                all.add(x.ear(s, tune, true));
                all.add(x.ear(s, tune, false));
            }
        }
        for (int i = 0; i < x.count(2); i++) {
            for (int what = 0; what <= 10; what++) {
                all.add(x.organ(i, what));
            }
            for (int s = 0; s < x.count(1); s++) {
                all.add(x.banished(i, s));
            }
        }
        for (int i = 0; i < x.count(7); i++) {
            all.add(x.byteAt(i));
        }
        return all;
    }
}
