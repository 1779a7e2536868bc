/** Promises 22 and 23: images that are kept and gone back to. */
public final class ImagesTest {
    private static final Due due = new Due("ImagesTest");

    public static void main(String[] args) {
        wrongImages();
        keepAndGoBack();
        twoImages();
        emptyImage();
        imagesAreCopies();
        spellsOfAnImage();
        keepLeavesAllElse();
        goBackForgets();
        due.end();
    }

    private static void wrongImages() {
        HopMeet x = new HopMeet();
        for (int i : new int[] {-1, 2, 3, Integer.MIN_VALUE, Integer.MAX_VALUE}) {
            due.unknown("keep(" + i + ")", x.keep(i));
            due.unknown("goBack(" + i + ")", x.goBack(i));
        }
        due.not("goBack(0)", x.goBack(0));
        due.not("goBack(1)", x.goBack(1));
        x.user(0, 0, 0, 0);
        x.run(4);
        due.not("goBack(0)", x.goBack(0));
        due.is("what is refused changes nothing: slots", x.told(5), 4);
        due.is("what is refused changes nothing: undo", x.told(8), 1);
        due.is("keep(1)", x.keep(1), 1);
        due.not("goBack(0) where 1 was kept", x.goBack(0));
        due.is("goBack(1)", x.goBack(1), 1);
    }

    private static void keepAndGoBack() {
        HopMeet x = new HopMeet();
        x.channels(7);
        x.user(3, 97, 98, 199);
        x.user(1, 5, 6, 7);
        x.open(1, 100);
        x.shut(1, 6, 1500, 500);
        x.shut(-1, 2, 3, 4);
        due.is("keep(0)", x.keep(0), 2);
        x.channels(3);
        due.is("goBack(0)", x.goBack(0), 2);
        int[] told = {7, 11, 2, 2, 100, 0, 2, 0, 0};
        for (int what = 0; what < told.length; what++) {
            due.is("told(" + what + ")", x.told(what), told[what]);
        }
        int[][] of = {{3, 97, 98, 199, 127, 0, 1}, {1, 5, 6, 7, 100, 1, 1}};
        for (int u = 0; u < 2; u++) {
            for (int what = 0; what < 7; what++) {
                due.is("userOf(" + u + ", " + what + ")", x.userOf(u, what), of[u][what]);
            }
        }
        due.is("a spell of one: slot 1502 points at 6", x.why(1, 1502), 0);
        x.set(1, 0, 2);
        x.set(1, 1, 6);
        due.is("a spell of one, ahead", x.why(1, 1499), 0);
        due.is("a spell of one, from", x.why(1, 1500), 3);
        due.is("a spell of one, to", x.why(1, 1999), 3);
        due.is("a spell of one, behind", x.why(1, 2000), 0);
        x.set(0, 0, 2);
        x.set(0, 1, 2);
        x.set(0, 3, 0);
        due.is("a spell of all", x.why(0, 2), 0);
        due.is("a spell of all", x.why(0, 3), 3);
        due.is("a spell of all", x.why(0, 6), 3);
        due.is("a spell of all", x.why(0, 7), 0);
    }

    private static void twoImages() {
        HopMeet x = new HopMeet();
        x.user(0, 1, 0, 0);
        x.keep(0);
        x.user(0, 2, 0, 0);
        x.keep(1);
        x.user(0, 3, 0, 0);
        due.is("goBack(0)", x.goBack(0), 1);
        due.is("goBack(1)", x.goBack(1), 2);
        due.is("START", x.userOf(1, 1), 2);
        due.is("goBack(0) again", x.goBack(0), 1);
        x.user(0, 4, 0, 0);
        x.user(0, 5, 0, 0);
        due.is("keep(0) anew", x.keep(0), 3);
        x.channels(4);
        due.is("goBack(0)", x.goBack(0), 3);
        due.is("START", x.userOf(2, 1), 5);
    }

    private static void emptyImage() {
        HopMeet x = new HopMeet();
        due.is("keep(0) with no users", x.keep(0), 0);
        x.shut(-1, 0, 0, 1);
        x.user(0, 0, 0, 0);
        due.is("goBack(0)", x.goBack(0), 0);
        due.is("users", x.told(2), 0);
        due.is("spells", x.told(3), 0);
        due.is("groups", x.told(6), 0);
        due.not("run(1)", x.run(1));
        HopMeet y = new HopMeet();
        y.shut(-1, 0, 0, 1);
        y.keep(1);
        y.channels(4);
        y.goBack(1);
        due.is("spells with no users are kept too", y.told(3), 1);
    }

    private static void imagesAreCopies() {
        HopMeet x = new HopMeet();
        x.user(1, 1, 1, 1);
        x.keep(0);
        x.set(0, 1, 50);
        x.open(0, 3);
        x.undo();
        x.drift(3);
        due.is("goBack(0)", x.goBack(0), 1);
        due.is("START", x.userOf(0, 1), 1);
        due.is("OPEN", x.userOf(0, 4), 15);
        x.set(0, 1, 60);
        due.is("goBack(0): the image stays as it was", x.goBack(0), 1);
        due.is("START", x.userOf(0, 1), 1);
    }

    private static void spellsOfAnImage() {
        HopMeet x = new HopMeet();
        x.user(2, 1, 0, 0);
        x.shut(0, 1, 10, 5);
        x.shut(-1, 1, 20, 6);
        x.keep(0);
        x.channels(4);
        x.user(2, 1, 0, 0);
        x.shut(-1, 2, 700, 400);
        x.shut(0, 3, 800, 300);
        due.is("goBack(0)", x.goBack(0), 1);
        int[] slots = {9, 10, 14, 15, 19, 20, 25, 26, 700, 800};
        int[] why = {0, 3, 3, 0, 0, 3, 3, 0, 0, 0};
        for (int i = 0; i < slots.length; i++) {
            due.is("why(0, " + slots[i] + ")", x.why(0, slots[i]), why[i]);
        }
        x.user(2, 1, 0, 0);
        due.is("a spell of another one", x.why(1, 10), 0);
        due.is("a spell of all", x.why(1, 25), 3);
    }

    private static void keepLeavesAllElse() {
        HopMeet x = new HopMeet();
        x.user(2, 0, 0, 0);
        x.user(2, 0, 0, 0);
        x.run(6);
        due.is("keep(0)", x.keep(0), 2);
        due.is("slots", x.told(5), 6);
        due.is("groups", x.told(6), 1);
        due.is("undo", x.told(8), 2);
        due.is("undo()", x.undo(), 1);
        due.is("keep(1) once more", x.keep(1), 1);
        due.is("goBack(0)", x.goBack(0), 2);
    }

    private static void goBackForgets() {
        HopMeet x = new HopMeet();
        x.user(2, 0, 0, 0);
        x.user(2, 0, 0, 0);
        x.keep(0);
        x.set(0, 1, 3);
        x.run(6);
        due.is("goBack(0)", x.goBack(0), 2);
        due.is("nothing can be undone", x.told(8), 0);
        due.not("undo()", x.undo());
        due.is("slots", x.told(5), 0);
        due.is("groups", x.told(6), 2);
        x.set(0, 1, 9);
        due.is("told(8)", x.told(8), 1);
        due.is("undo()", x.undo(), 0);
        due.is("START", x.userOf(0, 1), 0);
    }
}
