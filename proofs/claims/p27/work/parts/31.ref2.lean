/-! the reference: marks taken, counts around cells and points, ways and loops -/
