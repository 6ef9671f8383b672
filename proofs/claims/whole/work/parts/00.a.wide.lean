/-! A name of the library's rest (rows of arrays of arrays), told first: so the claim is read over the whole library from its first part on. -/
section ZWIDE
noncomputable abbrev zWide := @Jvm.Free.Multi.fill
end ZWIDE
