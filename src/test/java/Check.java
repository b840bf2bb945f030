/** Compares answers with those that are due, and ends a test. */
final class Check {
    private int wrong;

    /** Runs the lines of a script ("call = answer", empty ones left out) on a new desk. */
    void script(String title, String text) {
        TrialDesk desk = new TrialDesk();
        for (String line : text.split("\n")) {
            if (!line.isBlank()) {
                String[] sides = line.split("=");
                due(title + ": " + sides[0].trim(), Calls.answer(desk, sides[0]), sides[1].trim());
            }
        }
    }

    void due(String what, Object got, Object want) {
        if (!String.valueOf(got).equals(String.valueOf(want))) {
            wrong++;
            System.out.println(what + " answered " + got + ", due is " + want);
        }
    }

    void end() {
        System.out.println(wrong == 0 ? "all answers are as due" : wrong + " answers are not as due");
        if (wrong != 0) {
            System.exit(1);
        }
    }
}
