import java.util.ArrayList;
import java.util.List;

/** Promises 10 to 12 against a second reader, over many drawn texts: some that have no FAULT, most with signs changed. */
public final class TextsTest {
    /** Where a text can't go on. */
    private static final class Stop extends RuntimeException {
        private static final long serialVersionUID = 1L;
        final int place;

        Stop(int place) {
            super(null, null, false, false);
            this.place = place;
        }
    }

    /** The second reader: sign by sign, each one out of those that may stand there. */
    private static final class Second {
        final String text;
        int place = 0;
        int rooms = 1;
        int last = 12;
        final List<int[]> doors = new ArrayList<>();
        final List<int[]> walkers = new ArrayList<>();
        final List<int[]> events = new ArrayList<>();

        Second(String text) {
            this.text = text;
        }

        char take(String these) {
            if (place == text.length() || these.indexOf(text.charAt(place)) < 0) throw new Stop(place);
            return text.charAt(place++);
        }

        int figure(int from, int to) {
            return take("0123456789".substring(from, Math.max(from, to + 1))) - '0';
        }

        boolean more() {
            while (place < text.length() && text.charAt(place) == ' ') place++;
            return place < text.length();
        }

        boolean figureNext() {
            return place < text.length() && "0123456789".indexOf(text.charAt(place)) >= 0;
        }

        int minute(int from, int to) {
            int t = figure(0, 9);
            if (figureNext()) t = 10 * t + figure(0, 9);
            if (t < from || t > to) throw new Stop(place);
            return t;
        }

        void house() {
            more();
            take("r");
            rooms = figure(1, 6);
            while (more()) {
                int letter = place;
                char item = take("dDmw");
                if (item == 'm') last = minute(1, 30);
                else if (item == 'w') walker(letter);
                else door(letter, item == 'D' ? 1 : 0);
            }
        }

        void door(int letter, int board) {
            if (doors.size() == 8) throw new Stop(letter);
            int a = figure(0, rooms - 1);
            take("-");
            int b = figure(0, rooms - 1);
            if (a == b) throw new Stop(place - 1);
            doors.add(new int[] {Math.min(a, b), Math.max(a, b), board});
        }

        void walker(int letter) {
            if (walkers.size() == 3) throw new Stop(letter);
            int pace = figure(1, 2);
            take(":");
            int begin = 0;
            if (place < text.length() && text.charAt(place) == '*') {
                place++;
                begin = (1 << rooms) - 1;
            } else {
                int room = figure(0, rooms - 1);
                begin = 1 << room;
                while (figureNext()) {
                    room = figure(room + 1, rooms - 1);
                    begin |= 1 << room;
                }
            }
            walkers.add(new int[] {pace, begin});
        }

        void night(Second house) {
            while (more()) {
                char item = take("synx");
                if (item == 's' || item == 'x') ofDoor(house, item == 's');
                else ofRoom(house, item == 'y');
            }
        }

        void ofDoor(Second house, boolean sound) {
            int d = figure(0, house.doors.size() - 1);
            if (sound && house.doors.get(d)[2] == 0) throw new Stop(place - 1);
            take("@");
            int t = minute(0, house.last - 1);
            if (sound) {
                events.add(new int[] {1, d, 0, t});
                return;
            }
            take("-");
            events.add(new int[] {5, d, minute(t, house.last - 1), t});
        }

        void ofRoom(Second house, boolean seen) {
            int r = figure(0, house.rooms - 1);
            int w = -1;
            if (take(seen ? "@/" : "@") == '/') {
                w = figure(0, house.walkers.size() - 1);
                take("@");
            }
            int kind = !seen ? 4 : w >= 0 ? 3 : 2;
            events.add(new int[] {kind, r, Math.max(w, 0), minute(0, house.last)});
        }
    }

    private static long seed = 20261120L;

    private static int draw(int n) {
        seed = seed * 6364136223846793005L + 1442695040888963407L;
        return (int) ((seed >>> 33) % n);
    }

    private static String blanks() {
        return " ".repeat(Math.max(0, draw(4) - 1));
    }

    private static String drawHouse() {
        int rooms = 1 + draw(6);
        StringBuilder text = new StringBuilder(blanks()).append('r').append(rooms);
        int items = draw(10);
        for (int i = 0; i < items; i++) {
            text.append(blanks());
            int a = draw(rooms);
            int kind = draw(6);
            if (kind < 3 && rooms > 1) {
                text.append(draw(2) == 0 ? 'd' : 'D').append(a).append('-').append((a + 1 + draw(rooms - 1)) % rooms);
            } else if (kind == 3) {
                text.append('m').append(1 + draw(30));
            } else {
                text.append('w').append(1 + draw(2)).append(':');
                if (draw(3) == 0) text.append('*');
                else for (int r = a; r < rooms; r += 1 + draw(3)) text.append(r);
            }
        }
        return text.append(blanks()).toString();
    }

    private static String drawNight(Second house) {
        StringBuilder text = new StringBuilder(blanks());
        int items = draw(7);
        for (int i = 0; i < items; i++) {
            int kind = draw(5);
            int t = draw(house.last);
            int r = draw(house.rooms);
            int d = house.doors.isEmpty() ? 0 : draw(house.doors.size());
            if (kind == 0) text.append('s').append(d).append('@').append(t);
            if (kind == 1) text.append('y').append(r).append('@').append(t + draw(2));
            if (kind == 2) text.append('y').append(r).append('/').append(draw(3)).append('@').append(t + draw(2));
            if (kind == 3) text.append('n').append(r).append('@').append(t + draw(2));
            if (kind == 4) text.append('x').append(d).append('@').append(t).append('-').append(t + draw(house.last - t));
            text.append(blanks());
        }
        return text.toString();
    }

    private static String changed(String text) {
        StringBuilder signs = new StringBuilder(text);
        String some = "rdDmw:*-0123456789syn@x/ q\u0080\u00ff\u0000";
        for (int i = draw(3); i > 0; i--) {
            int at = draw(signs.length() + 1);
            int how = draw(4);
            if (how == 0) signs.insert(at, some.charAt(draw(some.length())));
            else if (how == 1) signs.setLength(at);
            else if (how == 2 && at < signs.length()) signs.deleteCharAt(at);
            else if (at < signs.length()) signs.setCharAt(at, some.charAt(draw(some.length())));
        }
        return signs.length() > 80 ? signs.substring(0, 80) : signs.toString();
    }

    private static int place(Second reader, Second house) {
        try {
            if (house == null) reader.house();
            else reader.night(house);
        } catch (Stop stop) {
            return stop.place;
        }
        return -9;
    }

    private static void dueItem(CreakBoards x, String what, int answer, int want) {
        Check.due(what, answer, 1);
        Check.due(what + " asked()", x.asked(), want);
    }

    private static void dueHouse(CreakBoards x, String what, Second house) {
        int[] counts = {house.rooms, house.doors.size(), house.walkers.size(), house.last, 0};
        for (int i = 0; i < counts.length; i++) Check.due("count(" + i + ") of " + what, x.count(i), counts[i]);
        for (int d = 0; d < house.doors.size(); d++) {
            for (int i = 0; i < 3; i++) dueItem(x, "door(" + d + ", " + i + ") of " + what, x.door(d, i), house.doors.get(d)[i]);
        }
        for (int w = 0; w < house.walkers.size(); w++) {
            for (int i = 0; i < 2; i++) dueItem(x, "walker(" + w + ", " + i + ") of " + what, x.walker(w, i), house.walkers.get(w)[i]);
        }
    }

    /** A NIGHT comes to the EVENTS that there are; back() takes it away again. */
    private static boolean dueNight(CreakBoards x, String text, Second house, int ahead) {
        Second night = new Second(text);
        int want = place(night, house);
        String what = "'" + text + "' in '" + house.text + "'";
        Make.text(x, 3, text);
        Check.due("fault of " + what, x.fault(3, true), want);
        int came = night.events.size();
        Check.due("night of " + what, x.night(3), want != -9 ? -4 : came);
        Check.due("EVENTS behind " + what, x.count(4), want != -9 ? ahead : ahead + came);
        if (want != -9) return false;
        for (int e = 0; e < came; e++) {
            for (int i = 0; i < 4; i++) dueItem(x, "told(" + (ahead + e) + ", " + i + ") of " + what, x.told(ahead + e, i), night.events.get(e)[i]);
        }
        x.back(ahead);
        return true;
    }

    public static void main(String[] args) {
        int houses = 0;
        int nights = 0;
        for (int n = 0; n < 6000; n++) {
            CreakBoards x = new CreakBoards();
            String text = changed(drawHouse());
            Second house = new Second(text);
            int want = place(house, null);
            Make.text(x, 2, text);
            Check.due("fault of '" + text + "'", x.fault(2, false), want);
            Check.due("house of '" + text + "'", x.house(2), want != -9 ? -4 : house.doors.size());
            if (want != -9) continue;
            houses++;
            dueHouse(x, "'" + text + "'", house);
            int ahead = draw(3);
            for (int e = 0; e < ahead; e++) x.event(4, 0, 0, 0);
            for (int i = 0; i < 12; i++) nights += dueNight(x, changed(drawNight(house)), house, ahead) ? 1 : 0;
        }
        System.out.println(houses + " of 6000 texts are houses, " + nights + " of " + 12 * houses + " are nights in them");
        Check.yes("enough texts without a FAULT", houses > 1000 && nights > 1000 && nights < 11 * houses);
        Check.end("TextsTest");
    }
}
