/** Towns that several tests begin with. */
final class Towns {
    private Towns() {
    }

    static OrganCensus empty() {
        return new OrganCensus();
    }

    /** Streets of these pitches, without organs. */
    static OrganCensus of(int... pitches) {
        OrganCensus x = new OrganCensus();
        for (int each : pitches) {
            x.build(each);
        }
        return x;
    }

    /** A street of three pitches, without organs. */
    static OrganCensus small() {
        return of(3);
    }

    static void passersAllDay(OrganCensus x, int street, int passers) {
        for (int hour = 0; hour < 24; hour++) {
            x.setPassers(street, hour, passers);
        }
    }

    /** Two organs as loud at the pitch 2 of the street 0: they drown each other at all of its pitches, up to 8 away. */
    static OrganCensus rivals(int... pitches) {
        OrganCensus x = of(pitches);
        x.addOrgan(0, 2, 9);
        x.addOrgan(0, 2, 9);
        return x;
    }

    /** Streets of 8, 13 and 4 pitches and six organs, in whose first hour nothing has been yet. */
    static OrganCensus fresh() {
        OrganCensus x = of(8, 13, 4);
        for (int s = 0; s < 3; s++) {
            for (int hour = 0; hour < 24; hour++) {
                x.setPassers(s, hour, (hour * 7 + s * 31) % 100);
            }
            for (int tune = 0; tune < 6; tune++) {
                x.setTaste(s, tune, (tune * 3 + s * 5) % 10);
            }
        }
        int[] barrels = {12, 345, 6, 61, 2543, 4};
        for (int i = 0; i < 6; i++) {
            x.addOrgan(i % 3, i % 4, 9 - i);
            x.setBarrel(i, barrels[i]);
        }
        return x;
    }

    /** The fresh town in the midst of things: one banished from two streets, another on its way, complaints, a paper. */
    static OrganCensus busy() {
        OrganCensus x = fresh();
        x.pass(3);
        x.send(5, 0, 7);
        x.pass(5);
        x.census();
        x.send(4, 2, 3);
        return x;
    }

    /** All streets with all pitches, all organs, all passers, the best tastes, before the first hour. */
    static OrganCensus full() {
        OrganCensus x = of(20, 20, 20, 20, 20, 20);
        for (int s = 0; s < 6; s++) {
            passersAllDay(x, s, 99);
            for (int tune = 0; tune < 6; tune++) {
                x.setTaste(s, tune, 9);
            }
            x.addOrgan(s, 10, 9);
        }
        x.addOrgan(5, 19, 9);
        x.addOrgan(5, 19, 9);
        return x;
    }

    /** Two hours after the first banishment: the organ 0 is banished from the street 0, and stands in the street 1. */
    static OrganCensus afterBanishment() {
        OrganCensus x = rivals(5, 4, 3);
        x.pass(3);
        return x;
    }

    static String paper(OrganCensus x) {
        StringBuilder text = new StringBuilder();
        for (int i = 0; i < x.count(7); i++) {
            text.append((char) x.byteAt(i));
        }
        return text.toString();
    }
}
