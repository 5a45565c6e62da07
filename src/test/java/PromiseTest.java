/** Each promise by worked examples: ordinary inputs, the edges, and wrong inputs. */
public final class PromiseTest {
    private static final Class<?> INDEX = IndexOutOfBoundsException.class;
    private static final Class<?> ARGUMENT = IllegalArgumentException.class;
    private static final Class<?> STATE = IllegalStateException.class;
    private static final int[] FAR = {Integer.MIN_VALUE, -1000, -1, 1000, Integer.MAX_VALUE};

    public static void main(String[] args) {
        promise1NewObject();
        promise2Build();
        promise3SetPassers();
        promise4SetTaste();
        promise5Street();
        promise6Ear();
        promise7AddOrgan();
        promise8SetBarrel();
        promise9Send();
        promise9Banished();
        promise10Organ();
        promise11Banished();
        promise12Heard();
        promise13Coins();
        promise13Ears();
        promise13Barrels();
        promise13Complaints();
        promise13Constables();
        promise13Refuge();
        promise13OldComplaints();
        promise13TwoBanishmentsInAnHour();
        promise13Ways();
        promise13Wrong();
        promise14Count();
        promise15Foresee();
        promise16Advise();
        promise17Census();
        promise18ByteAt();
        promise19Mean();
        promise20Digest();
        fullTown();
        Check.end("PromiseTest");
    }

    /** A town with streets of these pitches. */
    private static OrganCensus town(int... pitches) {
        OrganCensus x = new OrganCensus();
        for (int each : pitches) {
            x.build(each);
        }
        return x;
    }

    private static void setAllPassers(OrganCensus x, int street, int passers) {
        for (int hour = 0; hour < 24; hour++) {
            x.setPassers(street, hour, passers);
        }
    }

    private static String paper(OrganCensus x) {
        StringBuilder text = new StringBuilder();
        for (int i = 0; i < x.count(7); i++) {
            text.append((char) x.byteAt(i));
        }
        return text.toString();
    }

    private static void promise1NewObject() {
        OrganCensus x = new OrganCensus();
        for (int what = 0; what <= 7; what++) {
            Check.same("1: count " + what, x.count(what), 0);
        }
        Check.refused("1: street", x, INDEX, () -> x.street(0, 0));
        Check.refused("1: organ", x, INDEX, () -> x.organ(0, 0));
        Check.refused("1: heard", x, INDEX, () -> x.heard(0, 0));
        Check.refused("1: byteAt", x, INDEX, () -> x.byteAt(0));
        Check.same("1: an hour of an empty town", x.pass(1), 0);
        Check.same("1: the hour then", x.count(0), 1);
        OrganCensus other = new OrganCensus();
        Check.same("1: another object has its own hour", other.count(0), 0);
        Check.same("1: and its own streets", other.build(3), 0);
        Check.same("1: not those of the first", x.count(1), 0);
    }

    private static void promise2Build() {
        OrganCensus x = new OrganCensus();
        for (int wrong : new int[] {2, 21, 0}) {
            Check.refused("2: build(" + wrong + ")", x, ARGUMENT, () -> x.build(wrong));
        }
        for (int wrong : FAR) {
            Check.refused("2: build(" + wrong + ")", x, ARGUMENT, () -> x.build(wrong));
        }
        int[] pitches = {3, 20, 4, 19, 10, 7};
        for (int s = 0; s < 6; s++) {
            Check.same("2: the number", x.build(pitches[s]), s);
            Check.same("2: streets", x.count(1), s + 1);
        }
        for (int s = 0; s < 6; s++) {
            Check.same("2: pitches", x.street(s, 0), pitches[s]);
        }
        Check.refused("2: a seventh", x, STATE, () -> x.build(3));
        Check.refused("2: a seventh of 2 pitches", x, ARGUMENT, () -> x.build(2));
    }

    private static void promise3SetPassers() {
        OrganCensus x = town(3, 4);
        Check.same("3: before", x.setPassers(1, 23, 99), 0);
        Check.same("3: before", x.setPassers(1, 23, 7), 99);
        Check.same("3: none", x.setPassers(1, 0, 0), 0);
        Check.same("3: the other street", x.setPassers(0, 23, 1), 0);
        Check.same("3: not in this hour", x.street(1, 1), 0);
        x.pass(23);
        Check.same("3: in the hour 23", x.street(1, 1), 7);
        Check.same("3: there too", x.street(0, 1), 1);
        x.pass(24);
        Check.same("3: a day later", x.street(1, 1), 7);
        Check.refused("3: no street", x, INDEX, () -> x.setPassers(2, 0, 100));
        Check.refused("3: hour 24", x, INDEX, () -> x.setPassers(0, 24, -1));
        Check.refused("3: hour -1", x, INDEX, () -> x.setPassers(0, -1, 5));
        Check.refused("3: 100", x, ARGUMENT, () -> x.setPassers(0, 23, 100));
        Check.refused("3: -1", x, ARGUMENT, () -> x.setPassers(0, 23, -1));
        for (int far : FAR) {
            Check.refused("3: street " + far, x, INDEX, () -> x.setPassers(far, 0, 5));
            Check.refused("3: hour " + far, x, INDEX, () -> x.setPassers(0, far, 5));
            Check.refused("3: passers " + far, x, ARGUMENT, () -> x.setPassers(0, 23, far));
        }
        Check.same("3: as it was", x.setPassers(0, 23, 2), 1);
    }

    private static void promise4SetTaste() {
        OrganCensus x = town(3, 4);
        Check.same("4: at first", x.setTaste(1, 5, 9), 5);
        Check.same("4: before", x.setTaste(1, 5, 0), 9);
        Check.same("4: before", x.setTaste(1, 5, 4), 0);
        Check.same("4: the other street", x.ear(0, 5, true), 5);
        Check.same("4: another tune", x.ear(1, 4, true), 5);
        Check.refused("4: no street", x, INDEX, () -> x.setTaste(2, 0, 10));
        Check.refused("4: tune 6", x, INDEX, () -> x.setTaste(0, 6, 10));
        Check.refused("4: tune -1", x, INDEX, () -> x.setTaste(0, -1, 5));
        Check.refused("4: taste 10", x, ARGUMENT, () -> x.setTaste(0, 0, 10));
        Check.refused("4: taste -1", x, ARGUMENT, () -> x.setTaste(0, 0, -1));
        for (int far : FAR) {
            Check.refused("4: street " + far, x, INDEX, () -> x.setTaste(far, 0, 5));
            Check.refused("4: tune " + far, x, INDEX, () -> x.setTaste(0, far, 5));
            Check.refused("4: taste " + far, x, ARGUMENT, () -> x.setTaste(0, 0, far));
        }
    }

    private static void promise5Street() {
        OrganCensus x = town(4, 9);
        x.setPassers(1, 0, 31);
        setAllPassers(x, 0, 20);
        x.addOrgan(1, 4, 5);
        x.addOrgan(1, 4, 5);
        x.addOrgan(0, 0, 3);
        x.addOrgan(1, 0, 2);
        Check.same("5: pitches", x.street(1, 0), 9);
        Check.same("5: passers", x.street(1, 1), 31);
        Check.same("5: organs that stand", x.street(1, 2), 3);
        Check.same("5: complaints", x.street(1, 3), 0);
        Check.same("5: coins", x.street(1, 4), 0);
        Check.same("5: banished", x.street(1, 5), 0);
        // At 0 both loud ones sound with 1 and the quiet one with 2.
        Check.same("5: drowned pitches", x.street(1, 6), 9);
        Check.same("5: heard pitches", x.street(1, 7), 0);
        Check.same("5: heard in the other", x.street(0, 7), 3);
        x.send(1, 0, 0);
        Check.same("5: one left", x.street(1, 2), 2);
        Check.same("5: it does not stand there yet", x.street(0, 2), 1);
        // 5 at pitch 4 against 2 at pitch 0: drowned at 0 (1, 2) and at 1 (2, 1).
        Check.same("5: drowned now", x.street(1, 6), 2);
        Check.same("5: heard now", x.street(1, 7), 7);
        x.pass(1);
        // 7 pitches of 31 * 5 / 10.
        Check.same("5: coins given", x.street(1, 4), 105);
        // 3 pitches of 20 * 5 / 10.
        Check.same("5: coins given in the other", x.street(0, 4), 30);
        Check.same("5: complaints of two at two", x.street(1, 3), 4);
        Check.same("5: no passers in the next hour", x.street(1, 1), 0);
        x.pass(2);
        // 4 complaints each hour: 12 after the third one.
        Check.same("5: banished once", x.street(1, 5), 1);
        Check.same("5: no complaint is left", x.street(1, 3), 0);
        Check.refused("5: no street", x, INDEX, () -> x.street(2, 0));
        Check.refused("5: what 8", x, INDEX, () -> x.street(0, 8));
        Check.refused("5: what -1", x, INDEX, () -> x.street(0, -1));
        for (int far : FAR) {
            Check.refused("5: street " + far, x, INDEX, () -> x.street(far, 0));
            Check.refused("5: what " + far, x, INDEX, () -> x.street(0, far));
        }
    }

    private static void promise6Ear() {
        OrganCensus x = town(3, 3);
        x.addOrgan(1, 0, 1);
        x.setBarrel(0, 4);
        x.setTaste(1, 3, 8);
        x.pass(1);
        Check.same("6: taste", x.ear(1, 3, true), 8);
        Check.same("6: weariness", x.ear(1, 3, false), 2);
        Check.same("6: of another tune", x.ear(1, 2, false), 0);
        Check.same("6: taste at first", x.ear(1, 5, true), 5);
        Check.same("6: of the other street", x.ear(0, 3, false), 0);
        Check.refused("6: no street", x, INDEX, () -> x.ear(2, 0, true));
        Check.refused("6: tune 6", x, INDEX, () -> x.ear(0, 6, false));
        Check.refused("6: tune -1", x, INDEX, () -> x.ear(0, -1, true));
        for (int far : FAR) {
            Check.refused("6: street " + far, x, INDEX, () -> x.ear(far, 0, true));
            Check.refused("6: tune " + far, x, INDEX, () -> x.ear(0, far, false));
        }
    }

    private static void promise7AddOrgan() {
        OrganCensus x = town(3, 20);
        Check.refused("7: no street", x, INDEX, () -> x.addOrgan(2, 0, 0));
        Check.refused("7: no pitch", x, INDEX, () -> x.addOrgan(0, 3, 0));
        Check.refused("7: pitch -1", x, INDEX, () -> x.addOrgan(0, -1, 1));
        Check.refused("7: loudness 0", x, ARGUMENT, () -> x.addOrgan(0, 0, 0));
        Check.refused("7: loudness 10", x, ARGUMENT, () -> x.addOrgan(0, 0, 10));
        for (int far : FAR) {
            Check.refused("7: street " + far, x, INDEX, () -> x.addOrgan(far, 0, 1));
            Check.refused("7: pitch " + far, x, INDEX, () -> x.addOrgan(0, far, 1));
            Check.refused("7: loudness " + far, x, ARGUMENT, () -> x.addOrgan(0, 0, far));
        }
        Check.same("7: the number", x.addOrgan(1, 19, 9), 0);
        int[] due = {1, 19, 0, 9, 0, 1, 0, 0, 0, 0, 0};
        for (int what = 0; what < due.length; what++) {
            Check.same("7: organ(0, " + what + ")", x.organ(0, what), due[what]);
        }
        for (int i = 1; i < 8; i++) {
            Check.same("7: the number", x.addOrgan(0, 2, i), i);
            Check.same("7: its loudness", x.organ(i, 3), i);
        }
        Check.same("7: organs", x.count(2), 8);
        Check.refused("7: a ninth", x, STATE, () -> x.addOrgan(0, 0, 1));
        Check.refused("7: a ninth of loudness 10", x, ARGUMENT, () -> x.addOrgan(0, 0, 10));
        Check.refused("7: a ninth at no pitch", x, INDEX, () -> x.addOrgan(0, 3, 10));
    }

    private static void promise8SetBarrel() {
        OrganCensus x = town(3);
        x.addOrgan(0, 0, 4);
        Check.same("8: before", x.setBarrel(0, 61234561), 1);
        Check.same("8: before", x.setBarrel(0, 66666666), 61234561);
        Check.same("8: before", x.setBarrel(0, 352), 66666666);
        int[] tunes = {2, 4, 1, 2, 4};
        for (int tune : tunes) {
            Check.same("8: the first tune is the highest digit", x.organ(0, 7), tune);
            x.pass(1);
        }
        Check.same("8: place", x.organ(0, 6), 2);
        x.setBarrel(0, 352);
        Check.same("8: from place 0", x.organ(0, 6), 0);
        Check.same("8: tune", x.organ(0, 7), 2);
        Check.same("8: without wear", x.organ(0, 8), 0);
        x.setBarrel(0, 123456);
        for (int i = 0; i < 6; i++) {
            Check.same("8: no wear of the tune " + i, x.organ(0, 8), 0);
            x.pass(1);
        }
        int[] wrong = {0, 7, 8, 9, 10, 17, 71, 106, 601, 111111111, 116666666, 1000000000, -1, -123, 66666667, 16666606};
        for (int barrel : wrong) {
            Check.refused("8: barrel " + barrel, x, ARGUMENT, () -> x.setBarrel(0, barrel));
        }
        for (int far : FAR) {
            Check.refused("8: barrel " + far, x, ARGUMENT, () -> x.setBarrel(0, far));
            Check.refused("8: organ " + far, x, INDEX, () -> x.setBarrel(far, 1));
        }
        Check.refused("8: no organ", x, INDEX, () -> x.setBarrel(1, 0));
        Check.same("8: as it was", x.organ(0, 5), 123456);
        x.setBarrel(0, 6);
        Check.same("8: the tune 5", x.organ(0, 7), 5);
    }

    private static void promise9Send() {
        OrganCensus x = town(20, 3, 12, 5);
        x.addOrgan(0, 0, 4);
        Check.same("9: 4 pitches", x.send(0, 0, 4), 0);
        Check.same("9: it stands there", x.street(0, 2), 1);
        Check.same("9: at the pitch", x.organ(0, 1), 4);
        Check.same("9: 15 pitches", x.send(0, 0, 19), 3);
        Check.same("9: none stands", x.count(3), 0);
        Check.same("9: the pitch to which it goes", x.organ(0, 1), 19);
        Check.same("9: turns round, from the pitch 19", x.send(0, 0, 10), 1);
        Check.same("9: hours to go", x.organ(0, 2), 1);
        x.pass(1);
        Check.same("9: stands", x.organ(0, 2), 0);
        Check.same("9: down by 5", x.send(0, 0, 5), 1);
        Check.same("9: to where it goes", x.send(0, 0, 5), 0);
        Check.same("9: two streets", x.send(0, 2, 11), 4);
        Check.same("9: the street", x.organ(0, 0), 2);
        Check.same("9: turns round, from street 2", x.send(0, 3, 0), 2);
        Check.same("9: back three", x.send(0, 0, 0), 6);
        Check.same("9: the pitches of another street count nothing", x.send(0, 1, 2), 2);
        Check.refused("9: no organ", x, INDEX, () -> x.send(1, 0, 0));
        Check.refused("9: no street", x, INDEX, () -> x.send(0, 4, 0));
        Check.refused("9: no pitch", x, INDEX, () -> x.send(0, 1, 3));
        for (int far : FAR) {
            Check.refused("9: organ " + far, x, INDEX, () -> x.send(far, 0, 0));
            Check.refused("9: street " + far, x, INDEX, () -> x.send(0, far, 0));
            Check.refused("9: pitch " + far, x, INDEX, () -> x.send(0, 0, far));
        }
        Check.same("9: still on its way to street 1", x.organ(0, 0), 1);
    }

    private static void promise9Banished() {
        OrganCensus x = twoBanishing(5, 4);
        x.pass(1);
        Check.same("9: banished", x.banished(0, 0), 24);
        Check.refused("9: banished from it", x, STATE, () -> x.send(0, 0, 0));
        Check.refused("9: no pitch of it", x, INDEX, () -> x.send(0, 0, 5));
        Check.same("9: elsewhere it may go", x.send(0, 1, 3), 0);
        Check.same("9: the other may come", x.send(1, 0, 0), 0);
        x.pass(23);
        Check.same("9: the last hour", x.banished(0, 0), 1);
        Check.refused("9: still banished", x, STATE, () -> x.send(0, 0, 0));
        x.pass(1);
        Check.same("9: not any longer", x.send(0, 0, 0), 2);
    }

    /** Two organs as loud at one pitch of the street 0: they drown each other at all of its pitches, up to 8 away. */
    private static OrganCensus twoBanishing(int... pitches) {
        OrganCensus x = town(pitches);
        x.addOrgan(0, 2, 9);
        x.addOrgan(0, 2, 9);
        return x;
    }

    private static void promise10Organ() {
        OrganCensus x = town(5, 20, 3);
        setAllPassers(x, 1, 50);
        x.addOrgan(1, 6, 2);
        x.setBarrel(0, 15);
        x.pass(3);
        // 3 pitches a hour; worth 5, 5, then 5 - 1 as the tune 0 was played two hours ago.
        int[] due = {1, 6, 0, 2, 75 + 75 + 60, 15, 1, 4, 1, 0, 0};
        for (int what = 0; what < due.length; what++) {
            Check.same("10: organ(0, " + what + ")", x.organ(0, what), due[what]);
        }
        x.send(0, 1, 17);
        Check.same("10: hours to go", x.organ(0, 2), 2);
        x.pass(1);
        Check.same("10: one to go", x.organ(0, 2), 1);
        Check.same("10: it did not play on its way", x.organ(0, 6), 1);
        OrganCensus y = twoBanishing(4, 4);
        y.pass(1);
        Check.same("10: complaints", y.organ(1, 9), 4);
        y.pass(1);
        Check.same("10: all are gone", y.organ(1, 9), 0);
        Check.same("10: streets of its banishments", y.organ(0, 10), 1);
        Check.same("10: of the other", y.organ(1, 10), 0);
        Check.refused("10: no organ", x, INDEX, () -> x.organ(1, 0));
        Check.refused("10: what 11", x, INDEX, () -> x.organ(0, 11));
        Check.refused("10: what -1", x, INDEX, () -> x.organ(0, -1));
        for (int far : FAR) {
            Check.refused("10: organ " + far, x, INDEX, () -> x.organ(far, 0));
            Check.refused("10: what " + far, x, INDEX, () -> x.organ(0, far));
        }
        complaintsInTwoStreets();
    }

    private static void complaintsInTwoStreets() {
        OrganCensus x = town(3, 4);
        x.addOrgan(0, 1, 9);
        x.addOrgan(0, 1, 9);
        x.addOrgan(1, 1, 9);
        x.pass(1);
        Check.same("10: in the street 0", x.organ(0, 9), 3);
        x.send(0, 1, 1);
        x.pass(3);
        Check.same("10: 3 in the street 0 and 4 in the street 1", x.organ(0, 9), 7);
        Check.same("10: those of one that left stay", x.street(0, 3), 6);
    }

    private static void promise11Banished() {
        OrganCensus x = twoBanishing(5, 4, 3);
        for (int s = 0; s < 3; s++) {
            Check.same("11: not yet", x.banished(0, s), 0);
        }
        x.pass(1);
        for (int left = 24; left > 0; left--) {
            Check.same("11: hours left", x.banished(0, 0), left);
            Check.same("11: banishments", x.count(6), 1);
            x.pass(1);
        }
        Check.same("11: over", x.banished(0, 0), 0);
        Check.same("11: none", x.count(6), 0);
        x.pass(1);
        Check.same("11: still 0", x.banished(0, 0), 0);
        Check.same("11: from another street", x.banished(0, 1), 0);
        Check.same("11: another organ", x.banished(1, 0), 0);
        Check.refused("11: no organ", x, INDEX, () -> x.banished(2, 0));
        Check.refused("11: no street", x, INDEX, () -> x.banished(0, 3));
        for (int far : FAR) {
            Check.refused("11: organ " + far, x, INDEX, () -> x.banished(far, 0));
            Check.refused("11: street " + far, x, INDEX, () -> x.banished(0, far));
        }
    }

    private static void promise12Heard() {
        OrganCensus x = town(20, 3);
        Check.same("12: nobody", x.heard(0, 0), -1);
        x.addOrgan(0, 4, 3);
        int[] alone = {-1, -1, 0, 0, 0, 0, 0, -1};
        for (int pitch = 0; pitch < alone.length; pitch++) {
            Check.same("12: alone, at " + pitch, x.heard(0, pitch), alone[pitch]);
        }
        x.addOrgan(0, 8, 3);
        // 6 lies between both with 1 each; 5 hears 2 of the organ 0 alone.
        int[] both = {-1, -1, 0, 0, 0, 0, -2, 1, 1, 1, 1, -1};
        for (int pitch = 0; pitch < both.length; pitch++) {
            Check.same("12: two, at " + pitch, x.heard(0, pitch), both[pitch]);
        }
        x.addOrgan(0, 4, 5);
        // 5 against 3 at the pitch 4: 2 more is enough. At 7 both sound with 2, at 8 it is 1 against 3.
        int[] louder = {2, 2, 2, 2, 2, 2, 2, -2, 1, 1, 1, -1};
        for (int pitch = 0; pitch < louder.length; pitch++) {
            Check.same("12: three, at " + pitch, x.heard(0, pitch), louder[pitch]);
        }
        Check.same("12: another street", x.heard(1, 2), -1);
        x.addOrgan(1, 0, 1);
        Check.same("12: as low as 1", x.heard(1, 0), 3);
        Check.same("12: one away", x.heard(1, 1), -1);
        x.send(2, 1, 0);
        Check.same("12: one on its way is not heard", x.heard(1, 0), 3);
        Check.same("12: nor where it was", x.heard(0, 4), 0);
        Check.refused("12: no street", x, INDEX, () -> x.heard(2, 0));
        Check.refused("12: no pitch", x, INDEX, () -> x.heard(1, 3));
        for (int far : FAR) {
            Check.refused("12: street " + far, x, INDEX, () -> x.heard(far, 0));
            Check.refused("12: pitch " + far, x, INDEX, () -> x.heard(0, far));
        }
    }

    private static void promise13Coins() {
        OrganCensus x = town(10, 5);
        x.setPassers(0, 0, 40);
        x.setPassers(0, 1, 39);
        x.setPassers(1, 1, 99);
        x.setTaste(0, 0, 9);
        x.addOrgan(0, 2, 3);
        x.addOrgan(1, 0, 1);
        // 5 pitches of 40 * 9 / 10.
        Check.same("13: the first hour", x.pass(1), 180);
        // 5 pitches of 39 * (9 - 2) / 10 = 27, and 99 * (5 - 2) / 10 = 29.
        Check.same("13: the second hour", x.pass(1), 5 * 27 + 29);
        Check.same("13: the first organ", x.organ(0, 4), 180 + 135);
        Check.same("13: the second organ", x.organ(1, 4), 29);
        Check.same("13: street 0", x.street(0, 4), 315);
        Check.same("13: street 1", x.street(1, 4), 29);
        Check.same("13: the hour", x.count(0), 2);
        Check.same("13: nobody passes", x.pass(22), 0);
        // Weariness of the tune 0 is 9 now, so the worth would be below 0 in street 1.
        Check.same("13: worth nothing", x.pass(1), 0);
    }

    private static void promise13Ears() {
        OrganCensus x = town(20, 3);
        x.addOrgan(0, 0, 1);
        x.addOrgan(0, 10, 1);
        x.addOrgan(0, 15, 1);
        x.setBarrel(2, 2);
        int[] weary = {2, 4, 6, 8, 9, 9};
        for (int due : weary) {
            x.pass(1);
            Check.same("13: two that play one tune tire as one", x.ear(0, 0, false), due);
            Check.same("13: the tune 1", x.ear(0, 1, false), due);
            Check.same("13: the tune 2", x.ear(0, 2, false), 0);
        }
        x.send(0, 1, 0);
        x.send(1, 1, 2);
        int[] rested = {8, 7, 6, 5, 4, 3, 2, 1, 0, 0};
        for (int due : rested) {
            x.pass(1);
            Check.same("13: not played", x.ear(0, 0, false), due);
        }
        // 2 hours on their way, 8 hours there.
        Check.same("13: where they stand now", x.ear(1, 0, false), 9);
    }

    private static void promise13Barrels() {
        OrganCensus x = town(20, 3);
        setAllPassers(x, 0, 99);
        x.addOrgan(0, 0, 1);
        x.setBarrel(0, 121);
        int[] places = {1, 2, 0, 1};
        for (int due : places) {
            x.pass(1);
            Check.same("13: place", x.organ(0, 6), due);
        }
        // Played: tunes 0, 1, 0, 0; next is the tune 1.
        Check.same("13: wear of the tune 1", x.organ(0, 8), 1);
        x.pass(1);
        Check.same("13: wear of the tune 0", x.organ(0, 8), 3);
        x.setBarrel(0, 3);
        x.pass(89);
        Check.same("13: wear 89", x.organ(0, 8), 89);
        x.pass(1);
        Check.same("13: wear 90", x.organ(0, 8), 90);
        x.pass(10);
        Check.same("13: no more", x.organ(0, 8), 90);
        OrganCensus y = town(3);
        setAllPassers(y, 0, 10);
        y.addOrgan(0, 0, 1);
        y.setTaste(0, 0, 9);
        y.setBarrel(0, 123456);
        // Each tune once in 6 hours, so that the ears are rested: the tune 0 gets 9 in its hour.
        y.pass(54);
        Check.same("13: worn 9 times", y.organ(0, 8), 9);
        Check.same("13: wear below 10 costs nothing", y.pass(1), 9);
        y.pass(5);
        Check.same("13: worn 10 times", y.organ(0, 8), 10);
        Check.same("13: it costs 1", y.pass(1), 8);
    }

    private static void promise13Complaints() {
        OrganCensus x = town(3);
        x.addOrgan(0, 0, 5);
        x.addOrgan(0, 0, 4);
        x.addOrgan(0, 0, 3);
        x.pass(1);
        Check.same("13: the loudest", x.organ(0, 9), 3);
        Check.same("13: 1 less", x.organ(1, 9), 3);
        Check.same("13: 2 less", x.organ(2, 9), 0);
        Check.same("13: no coins", x.count(4), 0);
        OrganCensus y = town(4);
        y.addOrgan(0, 0, 1);
        y.addOrgan(0, 1, 1);
        y.addOrgan(0, 0, 1);
        y.pass(1);
        Check.same("13: at one pitch", y.organ(0, 9), 1);
        Check.same("13: sounds 0 there, though 1 less", y.organ(1, 9), 0);
        Check.same("13: at one pitch", y.organ(2, 9), 1);
    }

    private static void promise13Constables() {
        OrganCensus nine = town(3);
        for (int i = 0; i < 3; i++) {
            nine.addOrgan(0, 1, 9);
        }
        nine.pass(1);
        Check.same("13: 9 complaints bring none", nine.count(5), 9);
        Check.same("13: none is banished", nine.count(6), 0);
        nine.pass(1);
        Check.same("13: 18 bring them", nine.count(6), 1);
        Check.same("13: the smallest number", nine.banished(0, 0), 24);
        Check.same("13: all complaints are 0", nine.count(5), 0);
        OrganCensus ten = twoBanishing(5);
        ten.setPassers(0, 0, 99);
        ten.pass(1);
        Check.same("13: 10 are enough", ten.banished(0, 0), 24);
        Check.same("13: told by the street", ten.street(0, 5), 1);
        Check.same("13: no other street: the same", ten.organ(0, 0), 0);
        Check.same("13: at the pitch 0", ten.organ(0, 1), 0);
        Check.same("13: in 2 hours", ten.organ(0, 2), 2);
        Check.same("13: the other stands", ten.street(0, 2), 1);
        ten.pass(2);
        Check.same("13: both stand", ten.street(0, 2), 2);
        Check.same("13: 22 hours are left", ten.banished(0, 0), 22);
        // Loudness 9 at the pitch 0 against 9 at the pitch 2: drowned at 1 alone.
        ten.pass(5);
        Check.same("13: banished anew, for 24 hours from now", ten.banished(0, 0), 24);
        Check.same("13: counted again", ten.street(0, 5), 2);
        OrganCensus most = town(4);
        most.addOrgan(0, 0, 8);
        most.addOrgan(0, 1, 8);
        most.addOrgan(0, 2, 9);
        // Sounds 8 7 6 5, 7 8 7 6, 7 8 9 8: all are near the loudest at 0 and at 1; the organ 2 is heard at 2 and 3.
        most.pass(1);
        Check.same("13: first", most.organ(0, 9), 2);
        Check.same("13: second", most.organ(1, 9), 2);
        Check.same("13: third", most.organ(2, 9), 2);
        most.pass(1);
        Check.same("13: of several the first", most.banished(0, 0), 24);
        OrganCensus last = town(5);
        last.addOrgan(0, 0, 3);
        last.addOrgan(0, 4, 9);
        last.addOrgan(0, 4, 9);
        last.pass(1);
        Check.same("13: the one with the most", last.banished(1, 0), 24);
        Check.same("13: not the one with none", last.banished(0, 0), 0);
        OrganCensus middle = town(20);
        middle.addOrgan(0, 0, 3);
        middle.addOrgan(0, 9, 9);
        middle.addOrgan(0, 18, 3);
        // The loud one drowns at 1 and 2 with the first, at 16 and 17 with the last.
        middle.pass(1);
        Check.same("13: of the first", middle.organ(0, 9), 2);
        Check.same("13: of the middle one", middle.organ(1, 9), 4);
        Check.same("13: of the last", middle.organ(2, 9), 2);
        middle.pass(1);
        Check.same("13: the middle one has the most", middle.banished(1, 0), 24);
        Check.same("13: it alone", middle.count(6), 1);
    }

    private static void promise13Refuge() {
        OrganCensus x = twoBanishing(5, 5, 5);
        x.addOrgan(1, 2, 9);
        x.addOrgan(2, 2, 9);
        x.pass(1);
        Check.same("13: to the next street", x.organ(0, 0), 1);
        Check.same("13: to the pitch 0", x.organ(0, 1), 0);
        Check.same("13: the hour of its leaving does not count", x.organ(0, 2), 2);
        x.pass(2);
        Check.same("13: it stands there", x.organ(0, 2), 0);
        OrganCensus end = town(5, 5, 5);
        end.addOrgan(2, 2, 9);
        end.addOrgan(2, 2, 9);
        end.pass(1);
        Check.same("13: behind the last street the street 0", end.organ(0, 0), 0);
        Check.same("13: of the third street", end.banished(0, 2), 24);
        refugeOfOneBanishedElsewhere();
    }

    private static void refugeOfOneBanishedElsewhere() {
        OrganCensus x = town(5, 5, 5);
        x.addOrgan(1, 2, 9);
        x.addOrgan(1, 2, 9);
        x.pass(1);
        Check.same("13: from street 1 to street 2", x.organ(0, 0), 2);
        x.send(0, 0, 2);
        x.send(1, 0, 2);
        x.pass(4);
        Check.same("13: both stand in the street 0, and played there", x.street(0, 5), 0);
        Check.same("13: they stand", x.street(0, 2), 2);
        x.pass(1);
        Check.same("13: banished from the street 0", x.banished(0, 0), 24);
        Check.same("13: past the street 1, from which it is banished too", x.organ(0, 0), 2);
        Check.same("13: hours left of the first", x.banished(0, 1), 19);
        // Its third banishment, with all three streets told: it stays in the very same one.
        x.send(0, 2, 2);
        x.send(1, 2, 2);
        x.pass(4);
        Check.same("13: in street 2", x.street(2, 2), 2);
        x.pass(1);
        Check.same("13: banished from all three", x.organ(0, 10), 3);
        Check.same("13: to the very same street", x.organ(0, 0), 2);
        Check.same("13: to its pitch 0", x.organ(0, 1), 0);
        Check.same("13: on its way", x.organ(0, 2), 2);
    }

    private static void promise13OldComplaints() {
        // Complaints stay when an organ leaves, and are what gets it banished later, wherever it is.
        OrganCensus x = town(3, 5, 5);
        x.addOrgan(0, 1, 9);
        x.addOrgan(0, 1, 9);
        x.pass(1);
        Check.same("13: 6 complaints", x.street(0, 3), 6);
        x.send(0, 1, 2);
        x.addOrgan(0, 1, 9);
        x.addOrgan(1, 2, 9);
        // Street 0: 6 more in each hour; the organ 1 has the most then.
        x.pass(1);
        Check.same("13: the organ 1 has 6 of 12", x.banished(1, 0), 24);
        Check.same("13: all are 0, of the one that left too", x.organ(0, 9), 0);
        OrganCensus y = town(4, 20);
        y.addOrgan(0, 1, 9);
        y.addOrgan(0, 1, 9);
        y.pass(1);
        y.send(0, 1, 4);
        y.send(1, 1, 19);
        y.addOrgan(0, 0, 1);
        y.addOrgan(0, 0, 1);
        Check.same("13: 8 complaints of those that left", y.street(0, 3), 8);
        y.pass(1);
        Check.same("13: 10 in all: the one that left is banished", y.banished(0, 0), 24);
        Check.same("13: it goes on to where it went", y.organ(0, 0), 1);
        Check.same("13: to the pitch 4", y.organ(0, 1), 4);
        Check.same("13: an hour less", y.organ(0, 2), 1);
    }

    /** Of the street 0 first, so that it is no refuge any more from the street 1; not the other way round. */
    private static void promise13TwoBanishmentsInAnHour() {
        OrganCensus x = eightOldComplaints(0, 1);
        x.pass(1);
        Check.same("13: banished from the street where it was", x.banished(0, 0), 24);
        Check.same("13: and from where it stands", x.banished(0, 1), 24);
        Check.same("13: it stays in this street", x.organ(0, 0), 1);
        Check.same("13: on its way", x.organ(0, 2), 2);
        OrganCensus y = eightOldComplaints(1, 0);
        y.pass(1);
        Check.same("13: banished from where it stands", y.banished(0, 0), 24);
        Check.same("13: and from where it was", y.banished(0, 1), 24);
        Check.same("13: it goes on to where it went in this hour", y.organ(0, 0), 1);
        Check.same("13: as it was", y.organ(0, 2), 2);
    }

    /** Two that drown each other, with 4 complaints each in one street, stand in the other; in the first one two quiet ones begin. */
    private static OrganCensus eightOldComplaints(int old, int now) {
        OrganCensus x = old == 0 ? town(4, 5) : town(5, 4);
        x.addOrgan(old, 1, 9);
        x.addOrgan(old, 1, 9);
        x.pass(1);
        x.send(0, now, 2);
        x.send(1, now, 2);
        x.pass(2);
        x.addOrgan(old, 0, 1);
        x.addOrgan(old, 0, 1);
        Check.same("13: old complaints", x.street(old, 3), 8);
        Check.same("13: none yet where they stand", x.street(now, 3), 0);
        return x;
    }

    private static void promise13Ways() {
        OrganCensus x = town(20, 3, 3);
        setAllPassers(x, 0, 10);
        setAllPassers(x, 2, 10);
        x.addOrgan(0, 0, 1);
        x.send(0, 2, 0);
        for (int left = 3; left >= 0; left--) {
            Check.same("13: nothing on its way", x.pass(1), 0);
            Check.same("13: hours to go", x.organ(0, 2), left);
            Check.same("13: it does not turn", x.organ(0, 6) + x.organ(0, 8), 0);
        }
        Check.same("13: it stands", x.count(3), 1);
        Check.same("13: and plays", x.pass(1), 5);
        Check.same("13: it plays its tune", x.organ(0, 8), 1);
    }

    private static void promise13Wrong() {
        OrganCensus x = twoBanishing(5, 4);
        x.setPassers(0, 0, 30);
        Check.refused("13: 0 hours", x, ARGUMENT, () -> x.pass(0));
        Check.refused("13: 101 hours", x, ARGUMENT, () -> x.pass(101));
        for (int far : FAR) {
            Check.refused("13: hours " + far, x, ARGUMENT, () -> x.pass(far));
        }
        x.pass(100);
        Check.same("13: 100 hours", x.count(0), 100);
        hoursAtOnceOrOneByOne();
    }

    private static void hoursAtOnceOrOneByOne() {
        OrganCensus x = busyTown();
        OrganCensus y = busyTown();
        int sum = 0;
        for (int i = 0; i < 60; i++) {
            sum += y.pass(1);
        }
        Check.same("13: as many coins", x.pass(60), sum);
        Check.same("13: the same state", x.digest(), y.digest());
        Check.same("13: all coins", x.count(4), sum);
    }

    private static OrganCensus busyTown() {
        OrganCensus x = town(8, 13, 4);
        for (int s = 0; s < 3; s++) {
            for (int hour = 0; hour < 24; hour++) {
                x.setPassers(s, hour, (hour * 7 + s * 31) % 100);
            }
            for (int tune = 0; tune < 6; tune++) {
                x.setTaste(s, tune, (tune * 3 + s * 5) % 10);
            }
        }
        int[] barrels = {12, 345, 6, 61, 2543, 4};
        for (int i = 0; i < 6; i++) {
            x.addOrgan(i % 3, i % 4, 9 - i);
            x.setBarrel(i, barrels[i]);
        }
        return x;
    }

    private static void promise14Count() {
        OrganCensus x = town(4, 20);
        setAllPassers(x, 1, 10);
        x.addOrgan(0, 1, 9);
        x.addOrgan(0, 1, 9);
        x.addOrgan(1, 0, 2);
        x.addOrgan(1, 19, 1);
        x.send(3, 1, 0);
        x.pass(1);
        // 2 pitches of 5.
        int[] due = {1, 2, 4, 3, 10, 8, 0, 0};
        for (int what = 0; what < due.length; what++) {
            Check.same("14: count " + what, x.count(what), due[what]);
        }
        x.pass(1);
        // 2 pitches of 3; one is banished and on its way, as is the sent one.
        int[] later = {2, 2, 4, 2, 16, 0, 1, 0};
        for (int what = 0; what < later.length; what++) {
            Check.same("14: count " + what + " later", x.count(what), later[what]);
        }
        int bytes = x.census();
        Check.same("14: bytes", x.count(7), bytes);
        Check.refused("14: what 8", x, INDEX, () -> x.count(8));
        for (int far : FAR) {
            Check.refused("14: what " + far, x, INDEX, () -> x.count(far));
        }
    }

    private static void promise15Foresee() {
        OrganCensus x = busyTown();
        x.pass(3);
        x.census();
        long before = x.digest();
        for (int i = 0; i < 6; i++) {
            for (int hours : new int[] {1, 2, 25, 100}) {
                OrganCensus y = busyTown();
                y.pass(3);
                int had = y.organ(i, 4);
                y.pass(hours);
                Check.same("15: foresee " + i + " in " + hours, x.foresee(i, hours), y.organ(i, 4) - had);
            }
        }
        Check.same("15: nothing is changed", x.digest(), before);
        OrganCensus y = busyTown();
        y.pass(3);
        y.census();
        Check.same("15: nor what comes", x.pass(100), y.pass(100));
        Check.same("15: at all", x.digest(), y.digest());
        Check.refused("15: no organ", x, INDEX, () -> x.foresee(6, 0));
        Check.refused("15: 0 hours", x, ARGUMENT, () -> x.foresee(0, 0));
        Check.refused("15: 101 hours", x, ARGUMENT, () -> x.foresee(0, 101));
        for (int far : FAR) {
            Check.refused("15: organ " + far, x, INDEX, () -> x.foresee(far, 0));
            Check.refused("15: hours " + far, x, ARGUMENT, () -> x.foresee(0, far));
        }
        // One that arrives within the time gets coins from then on.
        OrganCensus z = town(3, 3);
        setAllPassers(z, 1, 20);
        z.addOrgan(0, 0, 1);
        z.send(0, 1, 0);
        Check.same("15: still on its way", z.foresee(0, 2), 0);
        Check.same("15: it stands there", z.foresee(0, 3), 10);
        z.build(3);
        z.addOrgan(2, 0, 1);
        Check.same("15: a street and an organ of later", z.foresee(1, 9), 0);
    }

    private static void promise16Advise() {
        OrganCensus x = town(10, 12);
        setAllPassers(x, 0, 30);
        setAllPassers(x, 1, 30);
        x.addOrgan(0, 5, 2);
        // Heard at three pitches from 1 on, at the pitch 0 at two.
        Check.same("16: of several the first", x.advise(0, 0, 1), 1);
        Check.same("16: in another street, at once", x.advise(0, 1, 24), 1);
        x.addOrgan(1, 2, 5);
        long before = x.digest();
        // The other sounds down to 1 at the pitch 6: from the pitch 8 on, three pitches are free.
        Check.same("16: away from another", x.advise(0, 1, 1), 8);
        x.send(0, 1, 3);
        Check.same("16: one on its way too", x.advise(0, 1, 1), 8);
        Check.same("16: back where it was", x.advise(0, 0, 24), 1);
        x.send(0, 0, 5);
        x.pass(2);
        OrganCensus none = town(6);
        none.addOrgan(0, 3, 2);
        Check.same("16: no coins at all: the first", none.advise(0, 0, 24), 0);
        Check.isTrue("16: another state by then", x.digest() != before);
        long now = x.digest();
        x.advise(0, 1, 24);
        x.advise(1, 1, 24);
        Check.same("16: nothing is changed", x.digest(), now);
        Check.refused("16: no organ", x, INDEX, () -> x.advise(2, 0, 0));
        Check.refused("16: no street", x, INDEX, () -> x.advise(0, 2, 25));
        Check.refused("16: 0 hours", x, ARGUMENT, () -> x.advise(0, 0, 0));
        Check.refused("16: 25 hours", x, ARGUMENT, () -> x.advise(0, 0, 25));
        for (int far : FAR) {
            Check.refused("16: organ " + far, x, INDEX, () -> x.advise(far, 0, 1));
            Check.refused("16: street " + far, x, INDEX, () -> x.advise(0, far, 1));
            Check.refused("16: hours " + far, x, ARGUMENT, () -> x.advise(0, 0, far));
        }
        adviseOfABanished();
    }

    private static void adviseOfABanished() {
        OrganCensus x = twoBanishing(5, 5);
        setAllPassers(x, 0, 50);
        x.pass(1);
        x.send(1, 1, 4);
        Check.same("16: banished from it", x.banished(0, 0), 24);
        Check.same("16: it counts nothing", x.advise(0, 0, 2), 0);
        OrganCensus y = town(20);
        setAllPassers(y, 0, 50);
        y.addOrgan(0, 9, 3);
        y.addOrgan(0, 9, 3);
        y.pass(1);
        Check.same("16: banished", y.banished(0, 0), 24);
        // The other sounds from 7 to 11; at the pitch 2 it is heard at 5 pitches, before that at fewer.
        Check.same("16: where it may not be sent", y.advise(0, 0, 1), 2);
    }

    private static void promise17Census() {
        OrganCensus x = new OrganCensus();
        Check.same("17: bytes", x.census(), 37);
        Check.same("17: an empty town", paper(x), "street organs coins\norgan coins tune\n");
        x.build(4);
        x.build(20);
        setAllPassers(x, 1, 99);
        x.addOrgan(1, 10, 9);
        x.addOrgan(0, 0, 1);
        x.setBarrel(1, 64);
        x.send(1, 0, 3);
        Check.same("17: the paper stays", x.count(7), 37);
        x.pass(1);
        x.addOrgan(0, 2, 2);
        x.send(2, 1, 3);
        // 17 pitches of 99 * 5 / 10.
        String due = "street organs coins\n0 1 0\n1 1 833\norgan coins tune\n0 833 0\n1 0 3\n2 0 0\n";
        Check.same("17: bytes", x.census(), due.length());
        Check.same("17: the paper", paper(x), due);
        OrganCensus y = busyTown();
        y.pass(100);
        y.census();
        int length = y.count(7);
        Check.same("17: in the place of what was there", y.census(), length);
        StringBuilder text = new StringBuilder("street organs coins\n");
        for (int s = 0; s < 3; s++) {
            text.append(s + " " + y.street(s, 2) + " " + y.street(s, 4) + "\n");
        }
        text.append("organ coins tune\n");
        for (int i = 0; i < 6; i++) {
            text.append(i + " " + y.organ(i, 4) + " " + y.organ(i, 7) + "\n");
        }
        Check.same("17: a busy town", paper(y), text.toString());
    }

    private static void promise18ByteAt() {
        OrganCensus x = town(3);
        Check.refused("18: an empty paper", x, INDEX, () -> x.byteAt(0));
        int length = x.census();
        Check.same("18: the first", x.byteAt(0), 's');
        Check.same("18: a blank", x.byteAt(6), ' ');
        Check.same("18: a line end", x.byteAt(19), 10);
        Check.same("18: a number", x.byteAt(20), '0');
        Check.same("18: the last", x.byteAt(length - 1), 10);
        Check.refused("18: behind the last", x, INDEX, () -> x.byteAt(length));
        for (int far : FAR) {
            Check.refused("18: byteAt " + far, x, INDEX, () -> x.byteAt(far));
        }
    }

    private static void promise19Mean() {
        OrganCensus x = town(3, 3, 3);
        Check.same("19: no organs", x.mean(), 0.0);
        x.setPassers(0, 0, 20);
        x.setPassers(1, 0, 22);
        x.addOrgan(0, 0, 1);
        Check.same("19: no coins", x.mean(), 0.0);
        x.addOrgan(1, 0, 1);
        x.pass(1);
        // 10 and 11.
        Check.same("19: two organs", x.mean(), 10.5);
        x.addOrgan(2, 0, 1);
        Check.same("19: three organs", x.mean(), 7.0);
        x.addOrgan(2, 0, 1);
        x.addOrgan(2, 0, 1);
        x.addOrgan(2, 0, 1);
        x.addOrgan(2, 0, 1);
        Check.same("19: seven organs", x.mean(), 3.0);
        x.addOrgan(2, 0, 1);
        Check.same("19: eight organs", x.mean(), 2.625);
    }

    private static void promise20Digest() {
        OrganCensus x = new OrganCensus();
        long d = 587;
        for (int i = 0; i < 8; i++) {
            d *= 31;
        }
        Check.same("20: an empty town", x.digest(), d);
        Check.same("20: by what is told", x.digest(), digestByWhatIsTold(x));
        x.census();
        Check.same("20: with bytes", x.digest(), digestByWhatIsTold(x));
        OrganCensus y = busyTown();
        for (int i = 0; i < 30; i++) {
            Check.same("20: hour " + i, y.digest(), digestByWhatIsTold(y));
            y.pass(1);
            if (i % 7 == 3) {
                y.census();
            }
        }
        Check.same("20: nothing is changed", y.digest(), y.digest());
    }

    /** All limits at once: the last street, pitch and organ, and numbers as great as they get. */
    private static void fullTown() {
        OrganCensus x = town(20, 20, 20, 20, 20, 20);
        for (int s = 0; s < 6; s++) {
            setAllPassers(x, s, 99);
            for (int tune = 0; tune < 6; tune++) {
                x.setTaste(s, tune, 9);
            }
            x.addOrgan(s, 10, 9);
        }
        x.addOrgan(5, 19, 9);
        x.addOrgan(5, 19, 9);
        // In five streets one is heard at 17 pitches, with 89 coins each.
        // In the last one it is heard from 2 to 13, and all three drown each other at 14 and 15, two of them behind.
        Check.same("full: heard in the last street", x.street(5, 7), 12);
        Check.same("full: drowned there", x.street(5, 6), 6);
        // 2 beside the other it is louder by 2 on its own side: at the pitches 0 to 8, more than from 12 to 19.
        Check.same("full: the pitch to stand at", x.advise(7, 4, 1), 8);
        Check.same("full: an hour", x.pass(1), (5 * 17 + 12) * 89);
        Check.same("full: the last but one is banished", x.banished(6, 5), 24);
        Check.same("full: it goes to the street 0", x.organ(6, 0), 0);
        int sum = x.count(4);
        for (int i = 0; i < 200; i++) {
            for (int o = 0; o < 8 && i % 20 == 0; o++) {
                x.setBarrel(o, 12345612);
            }
            int coins = x.foresee(7, 100);
            int had = x.organ(7, 4);
            sum += x.pass(100);
            Check.same("full: foreseen", x.organ(7, 4) - had, coins);
        }
        Check.same("full: the hour", x.count(0), 20001);
        Check.same("full: all coins", x.count(4), sum);
        Check.isTrue("full: great numbers", sum > 1000000);
        Check.same("full: bytes", x.census(), paper(x).length());
        Check.same("full: the last line end", x.byteAt(x.count(7) - 1), 10);
        Check.same("full: lines", paper(x).split("\n").length, 16);
        Check.same("full: digest", x.digest(), digestByWhatIsTold(x));
    }

    private static long digestByWhatIsTold(OrganCensus x) {
        long d = 587;
        for (int what = 0; what <= 7; what++) {
            d = d * 31 + x.count(what);
        }
        for (int s = 0; s < x.count(1); s++) {
            for (int what = 0; what <= 7; what++) {
                d = d * 31 + x.street(s, what);
            }
            for (int tune = 0; tune < 6; tune++) {
                d = d * 31 + x.ear(s, tune, true);
                d = d * 31 + x.ear(s, tune, false);
            }
        }
        for (int i = 0; i < x.count(2); i++) {
            for (int what = 0; what <= 10; what++) {
                d = d * 31 + x.organ(i, what);
            }
            for (int s = 0; s < x.count(1); s++) {
                d = d * 31 + x.banished(i, s);
            }
        }
        for (int i = 0; i < x.count(7); i++) {
            d = d * 31 + x.byteAt(i);
        }
        return d;
    }
}
