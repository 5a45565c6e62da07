/** What the document promises of hours: promises 12 to 14. */
final class PassSentences {
    private PassSentences() {
    }

    static void all(Sentences is) {
        is.section("Promise 12: heard");
        is.test("Returns the organ that is heard there now; -1 if none sounds there, -2 if they drown each other.", PassSentences::heardNow);
        is.test("Throws `IndexOutOfBoundsException` if there is no such street or pitch", PassSentences::heardNoStreetOrPitch);

        is.section("Promise 13: pass");
        is.test("Lets hours go by.", PassSentences::passHours);
        is.test("Returns how many coins were given in them.", PassSentences::passReturnsTheCoins);
        is.test("Throws `IllegalArgumentException` if hours is not 1 to 100", PassSentences::passNotOneTo100);

        is.section("Promise 14: count");
        is.test("`what`: 0 the hour, 1 streets, 2 organs, 3 organs that stand,", PassSentences::countTown);
        is.test("4 coins of all, 5 complaints now,", PassSentences::countCoinsAndComplaints);
        is.test("6 banishments now (pairs of an organ and a street),", PassSentences::countBanishmentsNow);
        is.test("7 bytes of the paper", PassSentences::countBytes);
        is.test("Throws `IndexOutOfBoundsException` if what is not 0 to 7", PassSentences::countWhat);
    }

    private static void heardNow() {
        OrganCensus x = Towns.of(20, 3);
        Check.same("no organ", x.heard(0, 0), -1);
        x.addOrgan(0, 4, 3);
        int[] alone = {-1, -1, 0, 0, 0, 0, 0, -1};
        for (int pitch = 0; pitch < alone.length; pitch++) {
            Check.same("alone, at " + pitch, x.heard(0, pitch), alone[pitch]);
        }
        x.addOrgan(0, 8, 3);
        // 6 lies between both with 1 each; 5 hears 2 of the organ 0 alone.
        int[] both = {-1, -1, 0, 0, 0, 0, -2, 1, 1, 1, 1, -1};
        for (int pitch = 0; pitch < both.length; pitch++) {
            Check.same("two, at " + pitch, x.heard(0, pitch), both[pitch]);
        }
        x.send(0, 0, 7);
        Check.same("now they drown each other", x.heard(0, 8), -2);
        x.send(0, 1, 0);
        Check.same("one has left", x.heard(0, 6), 1);
        Check.same("it is not there yet", x.heard(1, 0), -1);
        x.pass(2);
        Check.same("now it is", x.heard(1, 0), 0);
        OrganCensus last = Towns.full();
        Check.same("the first pitch of all", last.heard(0, 0), -1);
        Check.same("the second", last.heard(0, 2), 0);
        Check.same("the last pitch of all", last.heard(5, 19), -2);
    }

    private static void heardNoStreetOrPitch() {
        Check.refused("nothing is built", Towns::empty, Check.INDEX, x -> x.heard(0, 0));
        for (int wrong : Check.outside(0, 2)) {
            Check.refused("street " + wrong, Towns::busy, Check.INDEX, x -> x.heard(wrong, 0));
        }
        for (int wrong : Check.outside(0, 7)) {
            Check.refused("pitch " + wrong + " of 8", Towns::busy, Check.INDEX, x -> x.heard(0, wrong));
        }
        for (int wrong : Check.outside(0, 3)) {
            Check.refused("pitch " + wrong + " of 4", Towns::busy, Check.INDEX, x -> x.heard(2, wrong));
        }
        Check.refused("behind the last of six streets", Towns::full, Check.INDEX, x -> x.heard(6, 0));
        Check.refused("behind the last of twenty pitches", Towns::full, Check.INDEX, x -> x.heard(5, 20));
        Check.taken("the first of both", Towns::small, -1, x -> x.heard(0, 0));
        Check.taken("the last of both", Towns::full, -2, x -> x.heard(5, 19));
    }

    private static void passHours() {
        OrganCensus x = Towns.fresh();
        x.pass(1);
        Check.same("an hour", x.count(0), 1);
        x.pass(100);
        Check.same("a hundred hours", x.count(0), 101);
        OrganCensus atOnce = Towns.fresh();
        OrganCensus oneByOne = Towns.fresh();
        int coins = 0;
        for (int i = 0; i < 100; i++) {
            coins += oneByOne.pass(1);
        }
        Check.same("as many coins at once as one by one", atOnce.pass(100), coins);
        Check.alike("at once as one by one", atOnce, oneByOne);
    }

    private static void passReturnsTheCoins() {
        Check.same("nothing is built", Towns.empty().pass(100), 0);
        Check.same("no organ", Towns.of(3, 20).pass(100), 0);
        OrganCensus x = Towns.of(3, 3);
        Towns.passersAllDay(x, 0, 10);
        x.addOrgan(0, 0, 1);
        x.addOrgan(1, 0, 1);
        // 5 and 3, then 1 and nothing more: those of these hours alone.
        Check.same("of two hours", x.pass(2), 8);
        Check.same("of a hundred", x.pass(100), 1);
        Check.same("of one", x.pass(1), 0);
        OrganCensus all = Towns.full();
        // In five streets one is heard at 17 pitches, with 89 coins each.
        // In the last one it is heard from 2 to 13, and all three drown each other at 14 and 15, two of them behind.
        Check.same("of all streets and organs", all.pass(1), (5 * 17 + 12) * 89);
        Check.same("in all", all.count(4), (5 * 17 + 12) * 89);
    }

    private static void passNotOneTo100() {
        for (int wrong : Check.outside(1, 100)) {
            Check.refused("pass(" + wrong + ") where nothing is built", Towns::empty, Check.ARGUMENT, x -> x.pass(wrong));
            Check.refused("pass(" + wrong + ")", Towns::busy, Check.ARGUMENT, x -> x.pass(wrong));
        }
        Check.taken("pass(1)", Towns::empty, 0, x -> x.pass(1));
        Check.taken("pass(100)", Towns::empty, 0, x -> x.pass(100));
    }

    private static void countTown() {
        OrganCensus x = Towns.empty();
        checkCounts("nothing is built", x, 0, 0, 0, 0);
        x.pass(100);
        checkCounts("a hundred hours later", x, 0, 100, 0, 0);
        for (int s = 0; s < 6; s++) {
            x.build(5);
            checkCounts("a street more", x, 0, 100, s + 1, 0, 0);
        }
        for (int i = 0; i < 8; i++) {
            x.addOrgan(i % 6, 2, 1);
            checkCounts("an organ more", x, 0, 100, 6, i + 1, i + 1);
        }
        x.send(0, 5, 0);
        checkCounts("one on its way", x, 0, 100, 6, 8, 7);
        for (int i = 1; i < 8; i++) {
            x.send(i, i < 6 ? 0 : 3, i % 5);
        }
        checkCounts("all on their way", x, 0, 100, 6, 8, 0);
        x.pass(10);
        checkCounts("all stand", x, 0, 110, 6, 8, 8);
    }

    private static void checkCounts(String what, OrganCensus x, int first, int... due) {
        for (int i = 0; i < due.length; i++) {
            Check.same(what + ": count " + (first + i), x.count(first + i), due[i]);
        }
    }

    private static void countCoinsAndComplaints() {
        OrganCensus x = Towns.of(4, 20);
        Towns.passersAllDay(x, 1, 10);
        x.addOrgan(0, 1, 9);
        x.addOrgan(0, 1, 9);
        x.addOrgan(1, 0, 2);
        x.addOrgan(1, 19, 1);
        checkCounts("before an hour", x, 4, 0, 0);
        x.pass(1);
        // 3 pitches of 5; two complaints at each of four pitches.
        checkCounts("after an hour", x, 4, 15, 8);
        x.pass(1);
        // 3 pitches of 3.
        checkCounts("after the constables", x, 4, 24, 0);
        OrganCensus two = Towns.of(3, 3);
        for (int i = 0; i < 4; i++) {
            two.addOrgan(i % 2, 0, 9);
        }
        two.pass(1);
        checkCounts("complaints in two streets", two, 4, 0, 12);
    }

    private static void countBanishmentsNow() {
        OrganCensus x = Towns.rivals(5, 5, 5);
        x.addOrgan(1, 2, 9);
        x.addOrgan(1, 2, 9);
        Check.same("none at first", x.count(6), 0);
        x.pass(1);
        Check.same("two organs, from one street each", x.count(6), 2);
        OrganCensus one = Towns.rivals(5, 5, 5, 5, 5, 5);
        for (int s = 0; s < 6; s++) {
            one.pass(1);
            Check.same("one organ, from so many streets", one.count(6), s + 1);
            one.send(1, Math.min(s + 1, 5), 0);
            one.pass(2);
        }
        one.pass(1);
        Check.same("the same pair once more", one.count(6), 6);
        OrganCensus over = Towns.rivals(5, 3);
        over.pass(24);
        Check.same("in its last hour", over.count(6), 1);
        over.pass(1);
        Check.same("behind it", over.count(6), 0);
    }

    private static void countBytes() {
        OrganCensus x = Towns.empty();
        Check.same("an empty paper", x.count(7), 0);
        int bytes = x.census();
        Check.same("nothing is built", x.count(7), bytes);
        OrganCensus y = Towns.full();
        y.pass(100);
        bytes = y.census();
        Check.same("all is built", y.count(7), bytes);
        Check.same("its bytes", y.count(7), Towns.paper(y).length());
    }

    private static void countWhat() {
        for (int wrong : Check.outside(0, 7)) {
            Check.refused("count(" + wrong + ") where nothing is built", Towns::empty, Check.INDEX, x -> x.count(wrong));
            Check.refused("count(" + wrong + ")", Towns::busy, Check.INDEX, x -> x.count(wrong));
        }
        Check.taken("count(0)", Towns::full, 0, x -> x.count(0));
        Check.taken("count(7)", Towns::full, 0, x -> x.count(7));
    }
}
