import java.util.Set;

/** Each sentence of the document that names an edge, with a test of its own that names the sentence. */
final class EdgesTest {
    /** Sentences that name no edge: what a call is for, what its arguments are called, or the plain answer. */
    private static final Set<String> WITHOUT_EDGE = Set.of(
            "A piano competition: works and programs under the rules of rounds, entrants in a stage order drawn by lots, "
                    + "slips, jurors who mark, abstain or may not mark, trimmed means, who goes on, tie rounds, what a juror "
                    + "would have to give, programs told by texts, and undo.",
            "what later calls answer is free.",
            "Let p be the places of the round.",
            "The constructor and the methods follow, a promise each: the signature, then what it does.",
            "- `work`: a work",
            "- `juror`: a juror",
            "- `entrant`: an entrant",
            "- `barred`: whether the juror is barred then",
            "- `value`: the new value",
            "Adds a work.",
            "Returns its number.",
            "Returns something about a work.",
            "Returns that number.",
            "Adds an entrant.",
            "Bars a juror from an entrant, or ends that.",
            "Sets something.",
            "Returns the previous one.",
            "Sets a rule of a round.",
            "Returns a rule of a round.",
            "Returns the rule.",
            "Gives an entrant the program of the text for a round;",
            "Empties a program.",
            "Returns a work of a program.",
            "Returns the work;",
            "Returns the flaw of a program.",
            "Begins round 0.",
            "The next player in the stage order plays.",
            "Returns the player.",
            "A juror marks a player who has played, or, in a tie round, a tied one.",
            "A juror abstains for a player who has played, or, in a tie round, for a tied one.",
            "Closes the round, or the tie round.",
            "An entrant withdraws: is out.",
            "Returns a number.",
            "Returns something about an entrant.",
            "Returns a mark.",
            "Returns the score;",
            "Returns a player by the stage order of the round.",
            "Returns the player;",
            "Returns how many;",
            "Returns the juror;",
            "Appends a character to the text.",
            "Empties the text.",
            "Returns the fault of the text as a program.",
            "Computes a checksum.",
            "Returns the checksum.");

    public static void main(String[] args) {
        WorksEntrantsJuryEdges.run();
        ProgramsEdges.run();
        StatesEdges.run();
        MarksEdges.run();
        WhoGoesOnEdges.run();
        TellingEdges.run();
        ThoughtEdges.run();
        TextsUndoEdges.run();
        Doc.eachIsNamed(WITHOUT_EDGE);
        Check.end();
    }
}
