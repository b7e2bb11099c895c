/** The kinds of messages by name, for the tests that name them. */
interface Kinds {
    int PREACCEPT = 0;
    int PREACCEPTOK = 1;
    int ACCEPT = 2;
    int ACCEPTOK = 3;
    int COMMIT = 4;
    int PREPARE = 5;
    int PROMISE = 6;
}
