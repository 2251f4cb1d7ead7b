/**
 * What a call answers depends on how names lie and what the clue is now, whatever the text told: a desk
 * that deeds brought there answers as one whose text tells it so.
 */
final class Moved {
    private static final int WAYS = 16;
    private static final String[] LAWS = {
        "", "next:found+clue;", "stops:tries=1 and clue<5;", "next:found+clue*tries;stops:clue=me+7;"};

    private Moved() {
    }

    /** One call upon an object. */
    interface Call {
        long on(DrawerNames desk);
    }

    static void alike(Call... calls) {
        for (int way = 0; way < WAYS; way++) {
            for (int i = 0; i < calls.length; i++) {
                DrawerNames moved = moved(way);
                Checks.due("call " + i + " of what was moved by way " + way, calls[i].on(moved),
                        calls[i].on(told(way, moved(way))));
            }
        }
    }

    private static String text(int way, String more) {
        String nights = way % 3 == 0 ? "night 0 3;night 3 0;" : "night 0 1;night 1 2;night 2 0;";
        return "desk drawers 4 opens " + (1 + way % 3) + ";" + LAWS[way % LAWS.length] + nights + more;
    }

    /** A desk that deeds brought from its text's row and clue to others. */
    private static DrawerNames moved(int way) {
        DrawerNames desk = Checks.at(text(way, "name 0 1;name 1 0;clue " + (way + 4) % 10 + ";"));
        Checks.fill(desk, 3, 2, -1, way % 4);
        Checks.fill(desk, 2, 2, way % 16);
        Checks.fill(desk, 1, 2, 0, 112, 113, 19);
        desk.swap(way % 4, (way + 1) % 4);
        desk.nights(1 + way);
        desk.swap(way % 3, 3);
        desk.clue(way % 10);
        return desk;
    }

    private static DrawerNames told(int way, DrawerNames desk) {
        StringBuilder names = new StringBuilder("clue " + way % 10 + ";");
        for (int d = 0; d < 4; d++) {
            names.append("name ").append(d).append(' ').append(desk.drawer(d, 0)).append(';');
        }
        DrawerNames same = Checks.at(text(way, names.toString()));
        Checks.fill(same, 3, 2, -1, way % 4);
        Checks.fill(same, 2, 2, way % 16);
        Checks.fill(same, 1, 2, 0, 112, 113, 19);
        return same;
    }
}
