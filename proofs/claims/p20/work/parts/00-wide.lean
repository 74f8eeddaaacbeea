abbrev yWide0 := @Bundle.ownAtomsX
