/** Objects that were used before, each call of which makes the same one anew. */
final class States {
    private static final String TREE = "f1 ab d1900-1920? e5b\n+s2 c e2b\n++u3 d\n+++i4 e e1b\n+s2 f d1950\n++u3 g\n+i9 h\n";

    static FindingAid empty() {
        return new FindingAid();
    }

    static FindingAid emptyButTold() {
        FindingAid x = new FindingAid();
        Due.read(x, "f1 a d");
        Due.tell(x, "f1 a\n+s2 b\n");
        return x;
    }

    /** Of everything something: and half a text is told. */
    static FindingAid used() {
        FindingAid x = Due.of(TREE);
        for (int kind = 0; kind < 4; kind++) {
            x.restrict(kind, kind, 99 - kind);
            x.name(1, 996 + kind);
        }
        x.name(0, 1);
        x.name(2, 1);
        x.move(2, 4);
        x.move(5, 1);
        x.move(2, 1);
        Due.merge(x, "f1 z d1900 e6b\n+s2 c e2b\n++u3 q e9999p\n+i9 k d1000-2999?\n");
        x.take(2);
        x.print();
        x.published(3, false);
        x.published(4, false);
        x.published(6, false);
        Due.read(x, "f1 abc d1900-1899\n");
        Due.tell(x, "f7 seven\n+s8 eight d1900");
        return x;
    }

    /** Levels 0 .. 7 go down to depth 7; 8 has depth 1, with 9 under it and 10 under that. */
    static FindingAid deep() {
        return Due.of(ReadTest.deep(7) + "+f2 a\n++f1 a\n+++f1 a\n+s3 b\n+u4 c\n+i5 d\n+i6 e\n");
    }

    static FindingAid full() {
        FindingAid x = Due.of("f1 a e1b\n" + "+u3 b e2b\n".repeat(98) + "+i9999 abcdefghijklmnop d1000-2999? e9999p\n");
        for (int heading = 1; heading <= 4; heading++) {
            x.name(0, heading);
            x.name(99, heading);
        }
        for (int under : new int[] {1, 98, 2, 97, 3, 96, 4}) {
            x.move(99, under);
        }
        return x;
    }

    static FindingAid readAnew() {
        FindingAid x = Due.of("f1 a\n+s2 b\n");
        Due.merge(x, "f1 y d1900\n+s2 z e1b\n");
        x.take(1);
        Due.read(x, "f1 m\n+s2 n\n");
        return x;
    }

    static FindingAid usedAndRead() {
        FindingAid x = used();
        Due.read(x, "");
        return x;
    }
}
