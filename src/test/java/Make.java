/** Makes objects with a HOUSE and a NIGHT out of Java texts. */
final class Make {
    private Make() {
    }

    static void text(CreakBoards x, int t, String signs) {
        x.text(t, signs.length());
        for (int i = 0; i < signs.length(); i++) x.put(t, i, signs.charAt(i));
    }

    static CreakBoards house(String house) {
        CreakBoards x = new CreakBoards();
        text(x, 0, house);
        if (x.house(0) < 0) throw new IllegalArgumentException("no house: " + house);
        return x;
    }

    static CreakBoards night(String house, String... nights) {
        CreakBoards x = house(house);
        for (String night : nights) {
            text(x, 1, night);
            if (x.night(1) < 0) throw new IllegalArgumentException("no night: " + night);
        }
        return x;
    }
}
