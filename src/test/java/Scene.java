/** An object made ready for a call, the same each time, so that a twin tells what a call has left as it was. */
interface Scene {
    TouchedLamps make();

    /** A new object. */
    Scene FRESH = TouchedLamps::new;

    /**
     * ROWS, TEXTS, no LAMPS. ROWS: 0 three ints, 1 empty, 2 missing, 3 forty (of which the first is no BUTTON),
     * 4 two pairs, 5 three ints that are no pairs. TEXTS: 0 a WALL, 1 one with a FAULT, 2 empty, 3 missing.
     */
    Scene BARE = () -> {
        TouchedLamps x = new TouchedLamps();
        Due.write(x, 0, Due.MIXED);
        Due.write(x, 1, "l0 x");
        x.text(2, 0);
        Due.lay(x, 0, 5, -7, 8);
        x.row(1, 0);
        x.row(3, 40);
        x.lay(3, 0, 9);
        x.lay(3, 39, 3);
        Due.lay(x, 4, 0, 1, 4, 0);
        Due.lay(x, 5, 9, 2, 9);
        x.at(2, 0);
        x.tear(2);
        x.at(0, 3);
        x.mean(1);
        x.row(0, -1);
        x.row(0, -1);
        x.at(0, 1);
        return x;
    };

    /**
     * The same with a WALL: 4 DEEDS (2 of them PRESSES), STEPS 1 0 0 1 2 1 1 1 0, LAMP 8 BROKEN, 217 SHOWS;
     * kept in place 0 with 2 DEEDS, in place 2 with 3, not in place 1; a FINDING, a number told by asked(), upper().
     */
    Scene LIT = () -> {
        TouchedLamps x = BARE.make();
        x.wall(0);
        x.press(4);
        x.crack(5);
        x.keep(0);
        x.undo(1);
        x.set(1, 2);
        x.press(0);
        x.keep(2);
        x.crack(8);
        x.mark(0, 1);
        x.mid(0, 7);
        x.at(0, 1);
        return x;
    };

    /** The same with 40 DEEDS, as LAMP 7 is BROKEN and mended. */
    Scene FULL = () -> {
        TouchedLamps x = LIT.make();
        for (int deed = 4; deed < 40; deed++) {
            x.crack(7);
        }
        return x;
    };

    /** A WALL by a text alone. */
    static Scene of(String wall) {
        return () -> {
            TouchedLamps x = new TouchedLamps();
            Due.write(x, 0, wall);
            x.wall(0);
            return x;
        };
    }

    /** This scene, and a ROW with these ints. */
    default Scene withRow(int r, int... values) {
        return () -> {
            TouchedLamps x = make();
            Due.lay(x, r, values);
            return x;
        };
    }

    /** This scene, and so many DEEDS more by which nothing else is otherwise, if they are even. */
    default Scene withDeeds(int many) {
        return () -> {
            TouchedLamps x = make();
            for (int deed = 0; deed < many; deed++) {
                x.crack(0);
            }
            return x;
        };
    }
}
