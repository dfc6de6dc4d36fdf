/** Texts come to a room 24 signs a call; the tests that tell many of them stand on this. */
abstract class Letters {

    static void tell(WishRoom room, String text) {
        for (int from = 0; from < text.length(); from += 24) {
            long[] parts = new long[3];
            for (int i = 0; i < 24 && from + i < text.length(); i++) {
                parts[i / 8] |= (long) text.charAt(from + i) << 56 - 8 * (i % 8);
            }
            room.feed(parts[0], parts[1], parts[2]);
        }
    }

    static int law(WishRoom room, String text) {
        tell(room, text);
        return room.law();
    }

    static int wish(WishRoom room, int person, String text) {
        tell(room, text);
        return room.wish(person);
    }

    static int ground(WishRoom room, int wish, String text) {
        tell(room, text);
        return room.ground(wish);
    }
}
