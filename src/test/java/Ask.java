/** One answer of an object, or several added up. */
interface Ask {
    long of(Exchange x);
}
