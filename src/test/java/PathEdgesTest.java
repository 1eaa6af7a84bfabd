/** The edges that the document names of the DRAFT, PATHS and TARGETS: promises 2 to 6. */
public final class PathEdgesTest {
    private static final Due due = new Due();
    private static final String SIXTEEN = "0123456789abcdef";
    private static final String FORTY = "0123456789012345678901234567890123456789";

    public static void main(String[] args) {
        draftOfMost160();
        draftTakesBytesAlone();
        refusedPutChangesNothing();
        draftIsEmptyAfterPath();
        draftIsEmptyAfterTarget();
        earlierDraftsAreForgotten();
        partsThatArePassedOver();
        noPartIsLeft();
        firstByteParts();
        colonBehindALetter();
        upAlone();
        everyByteInAPart();
        lastByteOfAPart();
        keptWords();
        keptWordsWithDigit();
        keptWordsEnd();
        rule8AsksEachPart();
        bytesOfAPart();
        partsOfAPath();
        sixtyPaths();
        refusedPathsDoNotCount();
        pathRefusalsThatMeet();
        partNoneSuch();
        pathsStayWhatTheyAre();
        meetsAsManyParts();
        meetsLettersAlone();
        meetsNoSuchPaths();
        targetOf1To40();
        targetIsNotJudgedAsAPath();
        fortyTargets();
        targetRefusalsThatMeet();
        objectsAreApart();
        due.end();
    }

    private static void isPath(int rules, String text, int want) {
        Box x = new Box(rules);
        due.is("rules " + rules + ", path \"" + text + "\"", x.path(text), want);
        due.is("PATHS after \"" + text + "\"", x.told(2), want == 0 ? 1 : 0);
    }

    /** The text is a PATH, and its parts, joined by bars, are these. */
    private static void hasParts(int rules, String text, String want) {
        Box x = new Box(rules);
        due.is("rules " + rules + ", path \"" + text + "\"", x.path(text), 0);
        String[] parts = want.split("\\|");
        for (int k = 0; k < parts.length; k++) {
            for (int i = 0; i < parts[k].length(); i++) {
                due.is("byte " + i + " of part " + k + " of \"" + text + "\"", x.part(0, k, i), parts[k].charAt(i));
            }
            due.is("the end of part " + k + " of \"" + text + "\"", x.part(0, k, parts[k].length()), -1);
        }
        due.is("the parts of \"" + text + "\" end", x.part(0, parts.length, 0), -1);
    }

    private static String times(int count, String text) {
        return text.repeat(count);
    }

    /** "how many it has. -5: it would have more than 160". */
    private static void draftOfMost160() {
        Box x = new Box(0);
        for (int n = 1; n <= 160; n++) {
            due.is("put number " + n, x.put(46), n);
        }
        due.is("put number 161", x.put(46), -5);
        due.is("put number 161 again", x.put(46), -5);
        due.is("160 dots are a part that is too long", x.path(), -5);
        due.is("the first put after it", x.put(46), 1);
        due.is("that dot alone is in the draft", x.path(), -1);
        Box y = new Box(0);
        y.draft(times(159, "/"));
        due.is("the 160th byte", y.put('a'), 160);
        due.is("the 160th byte counts: it is the only part", y.path(), -2);
        y.draft(times(160, "/"));
        due.is("the 161st byte", y.put('a'), -5);
        due.is("the 161st byte does not count: no part", y.path(), -1);
    }

    /** "or b is not 0 .. 255". */
    private static void draftTakesBytesAlone() {
        for (int b : new int[] {-1, 256, 257, 303, -209, 65536, Integer.MIN_VALUE, Integer.MAX_VALUE}) {
            due.is("put(" + b + ")", new Box(0).put(b), -5);
        }
        for (int b : new int[] {0, 1, 31, 46, 47, 92, 127, 128, 254, 255}) {
            due.is("put(" + b + ")", new Box(0).put(b), 1);
        }
    }

    private static void refusedPutChangesNothing() {
        Box x = new Box(0);
        x.put('a');
        due.is("put(-1)", x.put(-1), -5);
        due.is("put(256 + 47)", x.put(256 + 47), -5);
        due.is("the next put", x.put('b'), 2);
        due.is("path", x.path(), 0);
        due.is("its first byte", x.part(0, 0, 0), 'a');
        due.is("its second byte", x.part(0, 0, 1), 'b');
        due.is("no third byte", x.part(0, 0, 2), -1);
        Box y = new Box(0);
        y.draft("/" + times(159, "a"));
        due.is("put when full", y.put(0), -5);
        due.is("the first byte is still there", y.path(), -2);
    }

    /** "The DRAFT is a PATH, and empty then, whatever it answers". */
    private static void draftIsEmptyAfterPath() {
        String[] texts = {"a", ".", "/a", "..", "\u0001", SIXTEEN + "g"};
        int[] answers = {0, -1, -2, -3, -4, -5};
        for (int n = 0; n < texts.length; n++) {
            Box x = new Box(0);
            due.is("path \"" + texts[n] + "\"", x.path(texts[n]), answers[n]);
            due.is("a path at once after " + answers[n], x.path(), -1);
            due.is("a target at once after " + answers[n], x.target(), -1);
            due.is("a put after " + answers[n], x.put('a'), 1);
        }
    }

    /** "The DRAFT is a TARGET, and empty then, whatever it answers". */
    private static void draftIsEmptyAfterTarget() {
        String[] texts = {"a", FORTY + "a"};
        for (int n = 0; n < texts.length; n++) {
            Box x = new Box(0);
            due.is("target \"" + texts[n] + "\"", x.target(texts[n]), -n);
            due.is("a target at once after it", x.target(), -1);
            due.is("a path at once after it", x.path(), -1);
            due.is("a put after it", x.put('a'), 1);
        }
    }

    /** "empty then": no byte of an earlier DRAFT counts for a shorter one. */
    private static void earlierDraftsAreForgotten() {
        String[] earlier = {"c:", "/a", "..", "a/..", "\u0001\u0001", "0123456789abcdefg", "con", "x.", "a/b/c/d/e/f/g/h/i"};
        String[] later = {"c", "b", "a", "x", "co", "..."};
        for (String first : earlier) {
            for (String then : later) {
                Box x = new Box(0);
                x.path(first);
                int next = x.told(2);
                due.is("path \"" + then + "\" after path \"" + first + "\"", x.path(then), next);
                due.is("its first byte", x.part(next, 0, 0), then.charAt(0));
                due.is("its end", x.part(next, 0, then.length()), -1);
                due.is("no second part", x.part(next, 1, 0), -1);
                Box y = new Box(0);
                y.target(first);
                due.is("path \"" + then + "\" after target \"" + first + "\"", y.path(then), 0);
            }
        }
        Box x = new Box(0);
        x.takeFolder("a", 0);
        x.target("a/x/y");
        due.is("a link to a, after a longer target", x.takeLink("l", "a"), 5);
        due.is("it leads", x.lead(5), 4);
    }

    /** "parted to by byte 47 (and 92 by RULE 1), parts without bytes and the part . being passed over". */
    private static void partsThatArePassedOver() {
        hasParts(0, "a", "a");
        hasParts(0, "a/", "a");
        hasParts(0, "a//", "a");
        hasParts(0, "./a", "a");
        hasParts(0, ".//./a/./b/.", "a|b");
        hasParts(0, "a//b", "a|b");
        hasParts(0, ".a/b.", ".a|b.");
        hasParts(0, "...", "...");
        hasParts(0, "a\\b", "a\\b");
        hasParts(0, ".\\a", ".\\a");
        hasParts(62, "a\\b", "a\\b");
        hasParts(1, "a\\b", "a|b");
        hasParts(1, ".\\a\\/.\\b\\", "a|b");
        hasParts(0, "a[b]c", "a[b]c");
        hasParts(1, "a[b]c", "a[b]c");
        hasParts(1, "a.b0", "a.b0");
    }

    /** "-1 no part is left (or no bytes)". */
    private static void noPartIsLeft() {
        for (String text : new String[] {"", ".", "./", "./.", ".//.", "/", "//", "/."}) {
            isPath(0, text, -1);
            isPath(63, text, -1);
        }
        for (String text : new String[] {"\\", ".\\", "\\.", "./\\."}) {
            isPath(1, text, -1);
        }
        isPath(0, "\\", 0);
        isPath(0, ".\\", 0);
        isPath(0, " ", 0);
    }

    /** "-2 the first byte parts". */
    private static void firstByteParts() {
        isPath(0, "/a", -2);
        isPath(0, "//a", -2);
        isPath(0, "/./a", -2);
        isPath(1, "\\a", -2);
        isPath(1, "/a", -2);
        isPath(62, "\\a", 0);
        isPath(0, "a/", 0);
        isPath(0, ".//a", 0);
    }

    /** "or the second one is : behind a letter". */
    private static void colonBehindALetter() {
        for (int b = 32; b < 256; b++) {
            boolean letter = b >= 'A' && b <= 'Z' || b >= 'a' && b <= 'z';
            if (b != 127 && b != '/') {
                isPath(0, (char) b + ":", letter ? -2 : 0);
                isPath(0, (char) b + ":x/y", letter ? -2 : 0);
            }
        }
        isPath(0, "c", 0);
        isPath(0, ":", 0);
        isPath(0, "::", 0);
        isPath(0, ":c:", 0);
        isPath(0, "cc:", 0);
        isPath(0, "c;", 0);
        isPath(0, "c9", 0);
        isPath(0, "c/:", 0);
        isPath(0, "./c:", 0);
    }

    /** "-3 a part is ..". */
    private static void upAlone() {
        for (String text : new String[] {"..", "../a", "a/..", "a/../b", "./..", "..//", "a/b/c/d/e/f/g/.."}) {
            isPath(0, text, -3);
        }
        for (String text : new String[] {"...", "..a", "a..", ".a.", ". .", ".. ", " ..", "..\\a", "a\\.."}) {
            isPath(0, text, 0);
        }
        isPath(1, "..\\a", -3);
        isPath(1, "a\\..", -3);
    }

    /** "-4 a part has a byte below 32, or 127, or, by RULE 8: it has one of : * ? \" < > |". */
    private static void everyByteInAPart() {
        for (int b = 0; b < 256; b++) {
            if (b == '/') {
                continue;
            }
            boolean bad = b < 32 || b == 127;
            boolean badBy8 = bad || ":*?\"<>|".indexOf(b) >= 0;
            String inside = "xx" + (char) b + "x";
            isPath(0, inside, bad ? -4 : 0);
            isPath(55, inside, bad ? -4 : 0);
            isPath(8, inside, badBy8 ? -4 : 0);
            isPath(8, "y/" + (char) b + "x", badBy8 ? -4 : 0);
        }
    }

    /** "or ends with . or a blank". */
    private static void lastByteOfAPart() {
        for (int b = 33; b < 256; b++) {
            if (b != '/' && b != 127 && ":*?\"<>|".indexOf(b) < 0) {
                isPath(8, "x" + (char) b, b == '.' ? -4 : 0);
            }
        }
        for (String bad : new String[] {"x.", "x ", " ", "x. ", "x .", "...", "x./y", "x /y", "y/x.", "y/x ", ". "}) {
            isPath(8, bad, -4);
            isPath(55, bad, 0);
        }
        for (String fine : new String[] {".x", " x", "x.y", "x y", "x/.", "./x", ". x"}) {
            isPath(8, fine, 0);
        }
    }

    /** "or is, up to its first . (or its end), con prn aux nul ... whatever its letters are". */
    private static void keptWords() {
        for (String word : new String[] {"con", "prn", "aux", "nul"}) {
            for (int great = 0; great < 8; great++) {
                StringBuilder text = new StringBuilder();
                for (int i = 0; i < 3; i++) {
                    char c = word.charAt(i);
                    text.append((great >> i & 1) == 1 ? Character.toUpperCase(c) : c);
                }
                isPath(8, text.toString(), -4);
                isPath(8, text + ".x", -4);
                isPath(55, text.toString(), 0);
            }
            for (int i = 0; i < 3; i++) {
                isPath(8, word.substring(0, i) + "_" + word.substring(i + 1), 0);
            }
            isPath(8, word.substring(0, 2), 0);
            isPath(8, word + "1", 0);
        }
        isPath(8, "conprn", 0);
        isPath(8, "onp", 0);
    }

    /** "com or lpt and a digit 1 .. 9". */
    private static void keptWordsWithDigit() {
        for (String word : new String[] {"com", "LPT", "Com", "lPt", "coM"}) {
            isPath(8, word, 0);
            isPath(8, word + ".x", 0);
            isPath(8, word + "0", 0);
            isPath(8, word + ";", 0);
            isPath(8, word + "a", 0);
            isPath(8, word + "11", 0);
            for (char digit = '1'; digit <= '9'; digit++) {
                isPath(8, word + digit, -4);
                isPath(8, word + digit + ".x", -4);
                isPath(55, word + digit, 0);
            }
            isPath(8, word.substring(0, 2) + "1", 0);
            isPath(8, word.substring(1) + "1", 0);
        }
        isPath(8, "lpn1", 0);
        isPath(8, "lom1", 0);
        isPath(8, "cpt1", 0);
        isPath(8, "mlp1", 0);
    }

    private static void keptWordsEnd() {
        for (String word : new String[] {"con", "nul", "com1", "lpt9"}) {
            isPath(8, word + ".", -4);
            isPath(8, word + ".x", -4);
            isPath(8, word + "..x", -4);
            isPath(8, word + ".con.x", -4);
            isPath(8, word + "-", 0);
            isPath(8, word + "-.x", 0);
            isPath(8, word + " .x", 0);
            isPath(8, "." + word, 0);
            isPath(8, "x." + word, 0);
            isPath(8, " " + word, 0);
            isPath(8, "x" + word, 0);
        }
    }

    private static void rule8AsksEachPart() {
        for (String bad : new String[] {"con", "x.", "x ", "q?"}) {
            isPath(8, bad + "/a/b", -4);
            isPath(8, "a/" + bad + "/b", -4);
            isPath(8, "a/b/" + bad, -4);
            isPath(9, "a\\" + bad + "\\b", -4);
        }
    }

    /** "-5 a part has more than 16 bytes". */
    private static void bytesOfAPart() {
        isPath(0, SIXTEEN, 0);
        isPath(0, SIXTEEN + "g", -5);
        for (String text : new String[] {"%s/a/b", "a/%s/b", "a/b/%s"}) {
            isPath(0, String.format(text, SIXTEEN), 0);
            isPath(0, String.format(text, SIXTEEN + "g"), -5);
        }
        isPath(0, times(160, "a"), -5);
        isPath(0, times(8, SIXTEEN + "/"), 0);
        isPath(0, SIXTEEN + "\\" + SIXTEEN, -5);
        isPath(1, SIXTEEN + "\\" + SIXTEEN, 0);
    }

    /** "or there are more than 8". */
    private static void partsOfAPath() {
        isPath(0, "a/b/c/d/e/f/g/h", 0);
        isPath(0, "a/b/c/d/e/f/g/h/", 0);
        isPath(0, "a/b/c/d/e/f/g/h/.", 0);
        isPath(0, "./a//b/./c/d/e/f/g/h//", 0);
        isPath(0, "a/b/c/d/e/f/g/h/i", -5);
        isPath(0, times(80, "a/"), -5);
        isPath(0, times(79, "./") + "a", 0);
        isPath(0, "a\\b\\c\\d\\e\\f\\g\\h", 0);
        isPath(1, "a\\b\\c\\d\\e\\f\\g\\h", 0);
        isPath(1, "a\\b\\c\\d\\e\\f\\g\\h\\i", -5);
    }

    private static Box withSixtyPaths() {
        Box x = new Box(0);
        for (int n = 0; n < 60; n++) {
            due.is("path number " + n, x.path("a"), n);
        }
        return x;
    }

    /** "-6 there are 60 PATHS". */
    private static void sixtyPaths() {
        Box x = withSixtyPaths();
        due.is("told(2)", x.told(2), 60);
        due.is("path number 60", x.path("a"), -6);
        due.is("the draft is empty then", x.put('a'), 1);
        due.is("path number 60 again", x.path(), -6);
        due.is("told(2)", x.told(2), 60);
        due.is("the last one", x.part(59, 0, 0), 'a');
        due.is("none behind it", x.part(60, 0, 0), -1);
        due.is("find of the last one", x.find(59), -2);
        due.is("find of none", x.find(60), -7);
        due.is("a target is none of them", x.target("a"), 0);
    }

    private static void refusedPathsDoNotCount() {
        Box x = new Box(0);
        for (String text : new String[] {"", "/a", "..", "\u0001", SIXTEEN + "g"}) {
            due.holds("\"" + text + "\" is refused", x.path(text) < 0);
        }
        due.is("told(2)", x.told(2), 0);
        due.is("the first path", x.path("a"), 0);
        x.path("..");
        due.is("the second path", x.path("b"), 1);
        due.is("its byte", x.part(1, 0, 0), 'b');
    }

    /** "Refused, in this order": wherever two of them can meet, in whichever part they are. */
    private static void pathRefusalsThatMeet() {
        String nine = "a/b/c/d/e/f/g/h/i";
        String[] before2 = {"/", "//", "/."};
        String[] before3 = {"/..", "c:/..", "/a/..", "C:..", "/" + SIXTEEN + "g", "/" + nine, "c:/" + nine, "/\u0001", "c:\u0001"};
        String[] before4 = {"\u0001/..", "../\u0001", "a\u007f/..", nine + "/..", "../" + nine, SIXTEEN + "g/..", "../" + SIXTEEN + "g"};
        String[] before5 = {SIXTEEN + "\u0001", SIXTEEN + "g/\u0001", "\u0001/" + SIXTEEN + "g", nine + "/\u0001", "\u0001/" + nine};
        for (int rules : new int[] {0, 63}) {
            for (String text : before2) {
                isPath(rules, text, -1);
            }
            for (String text : before3) {
                isPath(rules, text, -2);
            }
            for (String text : before4) {
                isPath(rules, text, -3);
            }
            for (String text : before5) {
                isPath(rules, text, -4);
            }
        }
        isPath(8, "c:", -2);
        isPath(8, "..", -3);
        isPath(8, "con/..", -3);
        isPath(8, "../con", -3);
        isPath(8, "con." + SIXTEEN, -4);
        isPath(8, SIXTEEN + ".", -4);
        isPath(8, nine + "/nul", -4);
        Box x = withSixtyPaths();
        String[] before6 = {".", "/a", "..", "\u0001", SIXTEEN + "g"};
        for (int n = 0; n < before6.length; n++) {
            due.is("path \"" + before6[n] + "\" beyond 60", x.path(before6[n]), -1 - n);
        }
        due.is("nine parts beyond 60", x.path(nine), -5);
    }

    /** "Byte i of part k of a PATH; -1: none such". */
    private static void partNoneSuch() {
        Box x = new Box(0);
        due.is("part(0, 0, 0) without PATHS", x.part(0, 0, 0), -1);
        x.path("a/b/c/d/e/f/g/" + SIXTEEN);
        x.path("\u00ff");
        due.is("the first byte of all", x.part(0, 0, 0), 'a');
        due.is("the last byte of all", x.part(0, 7, 15), 'f');
        due.is("byte 255", x.part(1, 0, 0), 255);
        int[][] none = {{0, 7, 16}, {0, 8, 0}, {0, 0, 1}, {0, 0, -1}, {0, -1, 0}, {-1, 0, 0}, {2, 0, 0}, {1, 1, 0}, {1, 0, 1}};
        for (int[] at : none) {
            due.is("part(" + at[0] + ", " + at[1] + ", " + at[2] + ")", x.part(at[0], at[1], at[2]), -1);
        }
        for (int far : new int[] {Integer.MIN_VALUE, Integer.MAX_VALUE}) {
            due.is("path " + far, x.part(far, 0, 0), -1);
            due.is("part " + far, x.part(0, far, 0), -1);
            due.is("byte " + far, x.part(0, 0, far), -1);
        }
    }

    private static void pathsStayWhatTheyAre() {
        Box x = new Box(0);
        x.path("ab/c");
        x.path("xyz");
        x.target("uvw");
        x.draft("QQQQ");
        due.is("byte 0 of ab", x.part(0, 0, 0), 'a');
        due.is("byte 1 of ab", x.part(0, 0, 1), 'b');
        due.is("byte 0 of c", x.part(0, 1, 0), 'c');
        due.is("byte 0 of xyz", x.part(1, 0, 0), 'x');
    }

    private static void doMeet(int rules, String a, String b, int want) {
        Box x = new Box(rules);
        due.is("path " + a, x.path(a), 0);
        due.is("path " + b, x.path(b), 1);
        due.is("rules " + rules + ": " + a + " meets " + b, x.meets(0, 1), want);
        due.is("rules " + rules + ": " + b + " meets " + a, x.meets(1, 0), want);
    }

    /** "Whether two PATHS have as many parts, and each is the same as the other's". */
    private static void meetsAsManyParts() {
        for (int rules : new int[] {0, 2}) {
            doMeet(rules, "a", "a/b", 0);
            doMeet(rules, "b", "a/b", 0);
            doMeet(rules, "a/b/c/d/e/f/g", "a/b/c/d/e/f/g/h", 0);
            doMeet(rules, "a/b/c/d/e/f/g/h", "a/b/c/d/e/f/g/h", 1);
            doMeet(rules, "a/b/c/d/e/f/g/h", "a/b/c/d/e/f/g/x", 0);
            doMeet(rules, "a/b/c/d/e/f/g/h", "x/b/c/d/e/f/g/h", 0);
            doMeet(rules, "a/b/c/d/e/f/g/h", "a/b/c/d/x/f/g/h", 0);
            doMeet(rules, "ab/c", "a/bc", 0);
            doMeet(rules, "a/b", "b/a", 0);
            doMeet(rules, "a", "aa", 0);
            doMeet(rules, "./a//b/", "a/b", 1);
            doMeet(rules, SIXTEEN, SIXTEEN, 1);
            doMeet(rules, SIXTEEN, "0123456789abcdeg", 0);
        }
    }

    /** "or MEETS it by RULE 2": "names that differ only in great and small letters (A .. Z, a .. z)". */
    private static void meetsLettersAlone() {
        for (int b = 32; b < 256; b++) {
            int other = b ^ 32;
            boolean letter = b >= 'A' && b <= 'Z' || b >= 'a' && b <= 'z';
            if (b != '/' && b != 127 && other >= 32 && other != '/' && other != 127 && b != '.' && other != '.') {
                doMeet(2, "q" + (char) b, "q" + (char) other, letter ? 1 : 0);
                doMeet(52, "q" + (char) b, "q" + (char) other, 0);
            }
        }
        doMeet(2, "aBc/D", "AbC/d", 1);
        doMeet(2, "aBc/D", "AbC/e", 0);
        doMeet(18, "a", "A", 1);
        doMeet(16, "a", "A", 0);
    }

    /** "-7: no such PATHS". */
    private static void meetsNoSuchPaths() {
        Box x = new Box(0);
        due.is("meets(0, 0) without PATHS", x.meets(0, 0), -7);
        due.is("meets(-1, -1)", x.meets(-1, -1), -7);
        x.path("a");
        x.path("b");
        for (int none : new int[] {-1, 2, Integer.MIN_VALUE, Integer.MAX_VALUE}) {
            due.is("meets(0, " + none + ")", x.meets(0, none), -7);
            due.is("meets(" + none + ", 0)", x.meets(none, 0), -7);
            due.is("meets(" + none + ", " + none + ")", x.meets(none, none), -7);
        }
        due.is("meets(0, 1)", x.meets(0, 1), 0);
        due.is("meets(1, 1)", x.meets(1, 1), 1);
    }

    /** "A TARGET is the DRAFT, 1 to 40 bytes (else -1)". */
    private static void targetOf1To40() {
        Box x = new Box(0);
        due.is("no bytes", x.target(), -1);
        due.is("1 byte", x.target("a"), 0);
        due.is("40 bytes", x.target(FORTY), 1);
        due.is("41 bytes", x.target(FORTY + "0"), -1);
        due.is("41 bytes that part to none", x.target(times(41, "/")), -1);
        due.is("160 bytes", x.target(times(160, "a")), -1);
        due.is("40 bytes that part to none", x.target(times(40, "/")), 2);
        due.is("told(3)", x.told(3), 3);
    }

    private static void targetIsNotJudgedAsAPath() {
        Box x = new Box(63);
        String[] targets = {".", "/", "\\", "..", "../..", "c:", "\u0000\u001f\u007f\u00ff", "con", "x.", "q?", SIXTEEN + "ghi",
            "a/b/c/d/e/f/g/h/i/j"};
        for (int n = 0; n < targets.length; n++) {
            due.is("target \"" + targets[n] + "\"", x.target(targets[n]), n);
        }
        due.is("PATHS", x.told(2), 0);
    }

    /** "-6 there are 40". */
    private static void fortyTargets() {
        Box x = new Box(0);
        due.is("a refused one does not count", x.target(), -1);
        for (int n = 0; n < 40; n++) {
            due.is("target number " + n, x.target("a"), n);
        }
        due.is("told(3)", x.told(3), 40);
        due.is("target number 40", x.target("a"), -6);
        due.is("the draft is empty then", x.put('a'), 1);
        due.is("target number 40 again", x.target(), -6);
        due.is("told(3)", x.told(3), 40);
        x.path("l");
        due.is("a link to the last one", x.entry(2, 0, 39, 0), 0);
        due.is("a link to none", x.entry(2, 0, 40, 0), -7);
    }

    private static void targetRefusalsThatMeet() {
        Box x = new Box(0);
        for (int n = 0; n < 40; n++) {
            x.target("a");
        }
        due.is("no bytes beyond 40", x.target(), -1);
        due.is("41 bytes beyond 40", x.target(FORTY + "0"), -1);
        due.is("40 bytes beyond 40", x.target(FORTY), -6);
    }

    private static void objectsAreApart() {
        Box x = new Box(0);
        x.path("a");
        x.draft("b");
        Box y = new Box(0);
        due.is("the draft of another object", y.put('a'), 1);
        due.is("PATHS of another object", y.told(2), 0);
        due.is("the draft of this one", x.put('b'), 2);
        due.is("PATHS of this one", x.told(2), 1);
    }
}
