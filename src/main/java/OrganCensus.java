import java.util.Arrays;

/** A census of barrel organs. */
public final class OrganCensus {
    private static final int MAX_STREETS = 6;
    private static final int MAX_ORGANS = 8;
    private static final int MIN_PITCHES = 3;
    private static final int MAX_PITCHES = 20;
    private static final int TUNES = 6;
    private static final int DAY = 24;
    private static final int MAX_PASSERS = 99;
    private static final int FIRST_TASTE = 5;
    private static final int MAX_TASTE = 9;
    private static final int MAX_WEARINESS = 9;
    private static final int MAX_LOUDNESS = 9;
    private static final int MAX_WEAR = 90;
    private static final int BARREL_PLACES = 8;
    private static final int FIRST_BARREL = 1;

    private static final int HOURS_A_STREET = 2;
    private static final int PITCHES_AN_HOUR = 5;
    private static final int COMPLAINTS_FOR_CONSTABLES = 10;
    private static final int BANISHED_HOURS = 24;
    private static final int LEAVING_HOURS = 2;
    private static final int MAX_PASS_HOURS = 100;
    private static final int MAX_ADVISE_HOURS = 24;

    private static final int NOBODY = -1;
    private static final int DROWNED = -2;

    private static final int STREET_FACTS = 8;
    private static final int ORGAN_FACTS = 11;
    private static final int COUNTS = 8;
    private static final int COUNT_OF_BYTES = 7;

    private static final String STREETS_HEAD = "street organs coins";
    private static final String ORGANS_HEAD = "organ coins tune";
    private static final int PAPER_BYTES = 320;
    private static final int LINE_END = 10;
    private static final long DIGEST_START = 587;

    private final Town town;
    // Looking ahead is done here, so that the town itself stays as it is.
    private final Town trial;
    private final Paper paper;

    public OrganCensus() {
        town = new Town();
        trial = new Town();
        paper = new Paper();
    }

    // ---- streets

    public int build(int pitches) throws IllegalArgumentException, IllegalStateException {
        checkRange(pitches, MIN_PITCHES, MAX_PITCHES);
        if (town.streetCount >= MAX_STREETS) {
            throw new IllegalStateException("no more streets");
        }
        return town.newStreet(pitches);
    }

    public int setPassers(int street, int hour, int passers) throws IndexOutOfBoundsException, IllegalArgumentException {
        checkStreet(street);
        checkIndex(hour, DAY);
        checkRange(passers, 0, MAX_PASSERS);
        int[] row = town.streets[street].passersByHour;
        int before = row[hour];
        row[hour] = passers;
        return before;
    }

    public int setTaste(int street, int tune, int taste) throws IndexOutOfBoundsException, IllegalArgumentException {
        checkStreet(street);
        checkIndex(tune, TUNES);
        checkRange(taste, 0, MAX_TASTE);
        int[] row = town.streets[street].tastes;
        int before = row[tune];
        row[tune] = taste;
        return before;
    }

    public int street(int street, int what) throws IndexOutOfBoundsException {
        checkStreet(street);
        checkIndex(what, STREET_FACTS);
        return town.streetFact(street, what);
    }

    public int ear(int street, int tune, boolean isTaste) throws IndexOutOfBoundsException {
        checkStreet(street);
        checkIndex(tune, TUNES);
        Street place = town.streets[street];
        return isTaste ? place.tastes[tune] : place.weariness[tune];
    }

    // ---- organs

    public int addOrgan(int street, int pitch, int loudness) throws IndexOutOfBoundsException, IllegalArgumentException, IllegalStateException {
        checkPitch(street, pitch);
        checkRange(loudness, 1, MAX_LOUDNESS);
        if (town.organCount >= MAX_ORGANS) {
            throw new IllegalStateException("no more organs");
        }
        return town.newOrgan(street, pitch, loudness);
    }

    public int setBarrel(int organ, int barrel) throws IndexOutOfBoundsException, IllegalArgumentException {
        checkOrgan(organ);
        if (!isBarrel(barrel)) {
            throw new IllegalArgumentException("not a barrel");
        }
        int before = town.organs[organ].barrel;
        town.organs[organ].putBarrel(barrel);
        return before;
    }

    public int send(int organ, int street, int pitch) throws IndexOutOfBoundsException, IllegalStateException {
        checkOrgan(organ);
        checkPitch(street, pitch);
        Organ one = town.organs[organ];
        if (one.banishedHours[street] > 0) {
            throw new IllegalStateException("banished from this street");
        }
        int hours = one.hoursTo(street, pitch);
        one.moveTo(street, pitch, hours);
        return hours;
    }

    public int organ(int organ, int what) throws IndexOutOfBoundsException {
        checkOrgan(organ);
        checkIndex(what, ORGAN_FACTS);
        return town.organs[organ].fact(what);
    }

    public int banished(int organ, int street) throws IndexOutOfBoundsException {
        checkOrgan(organ);
        checkStreet(street);
        return town.organs[organ].banishedHours[street];
    }

    // ---- hours

    public int heard(int street, int pitch) throws IndexOutOfBoundsException {
        checkPitch(street, pitch);
        return town.whoIsHeard(street, pitch);
    }

    public int pass(int hours) throws IllegalArgumentException {
        checkRange(hours, 1, MAX_PASS_HOURS);
        int given = 0;
        for (int i = 0; i < hours; i++) {
            given += town.passHour();
        }
        return given;
    }

    public int count(int what) throws IndexOutOfBoundsException {
        checkIndex(what, COUNTS);
        return what == COUNT_OF_BYTES ? paper.length : town.countOf(what);
    }

    // ---- looking ahead, and the census

    public int foresee(int organ, int hours) throws IndexOutOfBoundsException, IllegalArgumentException {
        checkOrgan(organ);
        checkRange(hours, 1, MAX_PASS_HOURS);
        trial.copyFrom(town);
        return trial.coinsGot(organ, hours);
    }

    public int advise(int organ, int street, int hours) throws IndexOutOfBoundsException, IllegalArgumentException {
        checkOrgan(organ);
        checkStreet(street);
        checkRange(hours, 1, MAX_ADVISE_HOURS);
        int best = 0;
        int most = -1;
        for (int pitch = 0; pitch < town.streets[street].pitches; pitch++) {
            trial.copyFrom(town);
            trial.organs[organ].moveTo(street, pitch, 0);
            int coins = trial.coinsGot(organ, hours);
            if (coins > most) {
                most = coins;
                best = pitch;
            }
        }
        return best;
    }

    public int census() {
        paper.length = 0;
        paper.writeText(STREETS_HEAD);
        paper.writeByte(LINE_END);
        for (int s = 0; s < town.streetCount; s++) {
            paper.writeLine(s, town.standingIn(s), town.streets[s].coins);
        }
        paper.writeText(ORGANS_HEAD);
        paper.writeByte(LINE_END);
        for (int i = 0; i < town.organCount; i++) {
            paper.writeLine(i, town.organs[i].coins, town.organs[i].nextTune());
        }
        return paper.length;
    }

    public int byteAt(int index) throws IndexOutOfBoundsException {
        checkIndex(index, paper.length);
        return paper.bytes[index];
    }

    public double mean() {
        if (town.organCount == 0) {
            return 0;
        }
        return (double) town.coinsOfAll() / town.organCount;
    }

    public long digest() {
        long d = DIGEST_START;
        for (int what = 0; what < COUNTS; what++) {
            d = mix(d, count(what));
        }
        for (int s = 0; s < town.streetCount; s++) {
            d = mixStreet(d, s);
        }
        for (int i = 0; i < town.organCount; i++) {
            d = mixOrgan(d, i);
        }
        for (int i = 0; i < paper.length; i++) {
            d = mix(d, paper.bytes[i]);
        }
        return d;
    }

    private long mixStreet(long start, int s) {
        long d = start;
        for (int what = 0; what < STREET_FACTS; what++) {
            d = mix(d, town.streetFact(s, what));
        }
        for (int tune = 0; tune < TUNES; tune++) {
            d = mix(d, town.streets[s].tastes[tune]);
            d = mix(d, town.streets[s].weariness[tune]);
        }
        return d;
    }

    private long mixOrgan(long start, int i) {
        long d = start;
        for (int what = 0; what < ORGAN_FACTS; what++) {
            d = mix(d, town.organs[i].fact(what));
        }
        for (int s = 0; s < town.streetCount; s++) {
            d = mix(d, town.organs[i].banishedHours[s]);
        }
        return d;
    }

    private static long mix(long d, int x) {
        return d * 31 + x;
    }

    private void checkStreet(int street) {
        checkIndex(street, town.streetCount);
    }

    private void checkPitch(int street, int pitch) {
        checkStreet(street);
        checkIndex(pitch, town.streets[street].pitches);
    }

    private void checkOrgan(int organ) {
        checkIndex(organ, town.organCount);
    }

    private static void checkIndex(int index, int end) {
        if (index < 0 || index >= end) {
            throw new IndexOutOfBoundsException("no such number");
        }
    }

    private static void checkRange(int value, int least, int greatest) {
        if (value < least || value > greatest) {
            throw new IllegalArgumentException("out of its range");
        }
    }

    private static boolean isBarrel(int barrel) {
        int digits = 0;
        for (int rest = barrel; rest > 0; rest /= 10) {
            int digit = rest % 10;
            if (digit < 1 || digit > TUNES) {
                return false;
            }
            digits++;
        }
        return digits >= 1 && digits <= BARREL_PLACES;
    }

    private static final class Street {
        final int[] passersByHour = new int[DAY];
        final int[] tastes = new int[TUNES];
        final int[] weariness = new int[TUNES];
        int pitches;
        int coins;
        int banishments;

        Street() {
            Arrays.fill(tastes, FIRST_TASTE);
        }

        void copyFrom(Street other) {
            System.arraycopy(other.passersByHour, 0, passersByHour, 0, DAY);
            System.arraycopy(other.tastes, 0, tastes, 0, TUNES);
            System.arraycopy(other.weariness, 0, weariness, 0, TUNES);
            pitches = other.pitches;
            coins = other.coins;
            banishments = other.banishments;
        }

        void tire(int tune, boolean played) {
            if (played) {
                weariness[tune] = Math.min(MAX_WEARINESS, weariness[tune] + 2);
            } else {
                weariness[tune] = Math.max(0, weariness[tune] - 1);
            }
        }
    }

    private static final class Organ {
        final int[] tunes = new int[BARREL_PLACES];
        final int[] wear = new int[TUNES];
        final int[] complaints = new int[MAX_STREETS];
        final int[] banishedHours = new int[MAX_STREETS];
        int street;
        int pitch;
        int hoursToGo;
        int loudness;
        int coins;
        int barrel;
        int barrelLength;
        int place;

        void copyFrom(Organ other) {
            System.arraycopy(other.tunes, 0, tunes, 0, BARREL_PLACES);
            System.arraycopy(other.wear, 0, wear, 0, TUNES);
            System.arraycopy(other.complaints, 0, complaints, 0, MAX_STREETS);
            System.arraycopy(other.banishedHours, 0, banishedHours, 0, MAX_STREETS);
            street = other.street;
            pitch = other.pitch;
            hoursToGo = other.hoursToGo;
            loudness = other.loudness;
            coins = other.coins;
            barrel = other.barrel;
            barrelLength = other.barrelLength;
            place = other.place;
        }

        void putBarrel(int number) {
            barrel = number;
            barrelLength = 0;
            for (int rest = number; rest > 0; rest /= 10) {
                barrelLength++;
            }
            int rest = number;
            for (int i = Math.min(barrelLength, BARREL_PLACES) - 1; i >= 0; i--) {
                tunes[i] = rest % 10 - 1;
                rest /= 10;
            }
            place = 0;
            Arrays.fill(wear, 0);
        }

        void moveTo(int newStreet, int newPitch, int hours) {
            street = newStreet;
            pitch = newPitch;
            hoursToGo = hours;
        }

        int hoursTo(int newStreet, int newPitch) {
            if (newStreet == street) {
                return Math.abs(newPitch - pitch) / PITCHES_AN_HOUR;
            }
            return HOURS_A_STREET * Math.abs(newStreet - street);
        }

        boolean standsIn(int someStreet) {
            return hoursToGo == 0 && street == someStreet;
        }

        int soundAt(int someStreet, int somePitch) {
            if (!standsIn(someStreet)) {
                return 0;
            }
            return Math.max(0, loudness - Math.abs(somePitch - pitch));
        }

        int nextTune() {
            return place >= 0 && place < BARREL_PLACES ? tunes[place] : 0;
        }

        int nextWear() {
            int tune = nextTune();
            return tune >= 0 && tune < TUNES ? wear[tune] : 0;
        }

        void turn() {
            int tune = nextTune();
            if (tune >= 0 && tune < TUNES) {
                wear[tune] = Math.min(MAX_WEAR, wear[tune] + 1);
            }
            place = place + 1 < barrelLength ? place + 1 : 0;
        }

        void anHourLess() {
            if (hoursToGo > 0) {
                hoursToGo--;
            }
            for (int s = 0; s < MAX_STREETS; s++) {
                if (banishedHours[s] > 0) {
                    banishedHours[s]--;
                }
            }
        }

        int complaintsInAll() {
            int sum = 0;
            for (int s = 0; s < MAX_STREETS; s++) {
                sum += complaints[s];
            }
            return sum;
        }

        int banishedStreets() {
            int streets = 0;
            for (int s = 0; s < MAX_STREETS; s++) {
                if (banishedHours[s] > 0) {
                    streets++;
                }
            }
            return streets;
        }

        int fact(int what) {
            switch (what) {
                case 0: return street;
                case 1: return pitch;
                case 2: return hoursToGo;
                case 3: return loudness;
                case 4: return coins;
                case 5: return barrel;
                case 6: return place;
                case 7: return nextTune();
                case 8: return nextWear();
                case 9: return complaintsInAll();
                default: return banishedStreets();
            }
        }
    }

    private static final class Town {
        final Street[] streets = new Street[MAX_STREETS];
        final Organ[] organs = new Organ[MAX_ORGANS];
        int streetCount;
        int organCount;
        int hour;

        Town() {
            for (int s = 0; s < MAX_STREETS; s++) {
                streets[s] = new Street();
            }
            for (int i = 0; i < MAX_ORGANS; i++) {
                organs[i] = new Organ();
            }
        }

        void copyFrom(Town other) {
            streetCount = other.streetCount;
            organCount = other.organCount;
            hour = other.hour;
            for (int s = 0; s < streetCount; s++) {
                streets[s].copyFrom(other.streets[s]);
            }
            for (int i = 0; i < organCount; i++) {
                organs[i].copyFrom(other.organs[i]);
            }
        }

        int newStreet(int pitches) {
            streets[streetCount].pitches = pitches;
            streetCount++;
            return streetCount - 1;
        }

        int newOrgan(int street, int pitch, int loudness) {
            Organ one = organs[organCount];
            one.moveTo(street, pitch, 0);
            one.loudness = loudness;
            one.putBarrel(FIRST_BARREL);
            organCount++;
            return organCount - 1;
        }

        int whoIsHeard(int street, int pitch) {
            int who = NOBODY;
            int loudest = 0;
            int second = 0;
            for (int i = 0; i < organCount; i++) {
                int sound = organs[i].soundAt(street, pitch);
                if (sound > loudest) {
                    second = loudest;
                    loudest = sound;
                    who = i;
                } else if (sound > second) {
                    second = sound;
                }
            }
            return second > 0 && second >= loudest - 1 ? DROWNED : who;
        }

        int coinsGot(int organ, int hours) {
            int before = organs[organ].coins;
            for (int i = 0; i < hours; i++) {
                passHour();
            }
            return organs[organ].coins - before;
        }

        int passHour() {
            int given = 0;
            for (int s = 0; s < streetCount; s++) {
                given += giveCoins(s);
            }
            for (int s = 0; s < streetCount; s++) {
                tireEars(s);
            }
            turnBarrels();
            for (int s = 0; s < streetCount; s++) {
                callConstables(s);
            }
            for (int i = 0; i < organCount; i++) {
                organs[i].anHourLess();
            }
            hour++;
            return given;
        }

        int giveCoins(int s) {
            // Where none stands, none sounds: spares the walk along the pitches.
            if (standingIn(s) == 0) {
                return 0;
            }
            int given = 0;
            for (int pitch = 0; pitch < streets[s].pitches; pitch++) {
                int who = whoIsHeard(s, pitch);
                if (who == DROWNED) {
                    complain(s, pitch);
                } else if (who >= 0) {
                    int coins = coinsFor(organs[who], streets[s]);
                    organs[who].coins += coins;
                    given += coins;
                }
            }
            streets[s].coins += given;
            return given;
        }

        int coinsFor(Organ player, Street place) {
            int tune = player.nextTune();
            if (tune < 0 || tune >= TUNES) {
                return 0;
            }
            int worth = place.tastes[tune] - place.weariness[tune] - player.wear[tune] / 10;
            return passersNow(place) * Math.max(0, worth) / 10;
        }

        int passersNow(Street place) {
            // An hour counted beyond an int's end is below 0: % would be, too.
            return place.passersByHour[Math.floorMod(hour, DAY)];
        }

        void complain(int s, int pitch) {
            int loudest = 0;
            for (int i = 0; i < organCount; i++) {
                loudest = Math.max(loudest, organs[i].soundAt(s, pitch));
            }
            for (int i = 0; i < organCount; i++) {
                int sound = organs[i].soundAt(s, pitch);
                if (sound > 0 && sound >= loudest - 1) {
                    organs[i].complaints[s]++;
                }
            }
        }

        void tireEars(int s) {
            for (int tune = 0; tune < TUNES; tune++) {
                streets[s].tire(tune, isPlayed(s, tune));
            }
        }

        boolean isPlayed(int s, int tune) {
            for (int i = 0; i < organCount; i++) {
                if (organs[i].standsIn(s) && organs[i].nextTune() == tune) {
                    return true;
                }
            }
            return false;
        }

        void turnBarrels() {
            for (int i = 0; i < organCount; i++) {
                if (organs[i].hoursToGo == 0) {
                    organs[i].turn();
                }
            }
        }

        void callConstables(int s) {
            if (complaintsIn(s) < COMPLAINTS_FOR_CONSTABLES) {
                return;
            }
            int worst = 0;
            for (int i = 1; i < organCount; i++) {
                if (organs[i].complaints[s] > organs[worst].complaints[s]) {
                    worst = i;
                }
            }
            banish(organs[worst], s);
            for (int i = 0; i < organCount; i++) {
                organs[i].complaints[s] = 0;
            }
        }

        void banish(Organ one, int s) {
            // Each gets an hour more than it is told, as the end of this hour,
            // which does not count for either, takes one from all.
            one.banishedHours[s] = BANISHED_HOURS + 1;
            streets[s].banishments++;
            if (one.standsIn(s)) {
                one.moveTo(refugeFrom(one, s), 0, LEAVING_HOURS + 1);
            }
        }

        int refugeFrom(Organ one, int s) {
            int next = s;
            for (int i = 1; i < streetCount; i++) {
                next = next + 1 < streetCount ? next + 1 : 0;
                if (one.banishedHours[next] == 0) {
                    return next;
                }
            }
            return s;
        }

        int standingIn(int s) {
            int standing = 0;
            for (int i = 0; i < organCount; i++) {
                if (organs[i].standsIn(s)) {
                    standing++;
                }
            }
            return standing;
        }

        int complaintsIn(int s) {
            int sum = 0;
            for (int i = 0; i < organCount; i++) {
                sum += organs[i].complaints[s];
            }
            return sum;
        }

        int drownedPitches(int s) {
            int pitches = 0;
            for (int pitch = 0; pitch < streets[s].pitches; pitch++) {
                if (whoIsHeard(s, pitch) == DROWNED) {
                    pitches++;
                }
            }
            return pitches;
        }

        int heardPitches(int s) {
            int pitches = 0;
            for (int pitch = 0; pitch < streets[s].pitches; pitch++) {
                if (whoIsHeard(s, pitch) >= 0) {
                    pitches++;
                }
            }
            return pitches;
        }

        int streetFact(int s, int what) {
            switch (what) {
                case 0: return streets[s].pitches;
                case 1: return passersNow(streets[s]);
                case 2: return standingIn(s);
                case 3: return complaintsIn(s);
                case 4: return streets[s].coins;
                case 5: return streets[s].banishments;
                case 6: return drownedPitches(s);
                default: return heardPitches(s);
            }
        }

        int standingOfAll() {
            int sum = 0;
            for (int s = 0; s < streetCount; s++) {
                sum += standingIn(s);
            }
            return sum;
        }

        int coinsOfAll() {
            int sum = 0;
            for (int i = 0; i < organCount; i++) {
                sum += organs[i].coins;
            }
            return sum;
        }

        int complaintsOfAll() {
            int sum = 0;
            for (int s = 0; s < streetCount; s++) {
                sum += complaintsIn(s);
            }
            return sum;
        }

        int banishmentsOfAll() {
            int sum = 0;
            for (int i = 0; i < organCount; i++) {
                sum += organs[i].banishedStreets();
            }
            return sum;
        }

        int countOf(int what) {
            switch (what) {
                case 0: return hour;
                case 1: return streetCount;
                case 2: return organCount;
                case 3: return standingOfAll();
                case 4: return coinsOfAll();
                case 5: return complaintsOfAll();
                default: return banishmentsOfAll();
            }
        }
    }

    private static final class Paper {
        final byte[] bytes = new byte[PAPER_BYTES];
        int length;

        void writeByte(int sign) {
            if (length >= 0 && length < PAPER_BYTES) {
                bytes[length] = (byte) sign;
                length++;
            }
        }

        void writeText(String text) {
            for (int i = 0; i < text.length(); i++) {
                writeByte(text.charAt(i));
            }
        }

        void writeLine(int first, int second, int third) {
            writeNumber(first);
            writeByte(' ');
            writeNumber(second);
            writeByte(' ');
            writeNumber(third);
            writeByte(LINE_END);
        }

        void writeNumber(int number) {
            long power = 1;
            for (int rest = number / 10; rest > 0; rest /= 10) {
                power *= 10;
            }
            for (; power > 0; power /= 10) {
                writeByte((int) ('0' + number / power % 10));
            }
        }
    }
}
