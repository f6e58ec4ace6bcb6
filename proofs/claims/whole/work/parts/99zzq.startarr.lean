/-! The classes of arrays at the start: of ints, longs, chars, booleans -/
theorem start_arr {args : Array Value} {s : State} {ty : FieldType} (h : (Cond.arrayClass ty).before args s = true) (hr : ∀ c : ClassId, s.vm.findClass ("[" ++ ty.toString) = some c → va_RA s c ty) : ∃ c : ClassId, ArrOfT s c ty ∧ va_RA s c ty := by
  obtain ⟨cA, kA, comp, hfind, hk, hkind⟩ := Cond.arrayClass_spec h
  exact ⟨cA, fun n z => ⟨fun k h => (by cases h), kA, hk, comp, hkind⟩, hr cA hfind⟩
theorem start_prim {args : Array Value} {s : State} (hts : ∀ w ∈ TG, w.before args s = true) : (∃ c : ClassId, ArrOfT s c .int ∧ va_RA s c .int) ∧ (∃ c : ClassId, ArrOfT s c .long ∧ va_RA s c .long) ∧ (∃ c : ClassId, ArrOfT s c .char ∧ va_RA s c .char) ∧ ∃ c : ClassId, ArrOfT s c .boolean ∧ va_RA s c .boolean :=
  ⟨start_arr (hts _ (tgk (by decide +kernel) rfl)) (fun _ h => h), start_arr (hts _ (tgk (by decide +kernel) rfl)) (fun _ h => h), start_arr (hts _ (tgk (by decide +kernel) rfl)) (fun _ h => h), start_arr (hts _ (tgk (by decide +kernel) rfl)) (fun _ h => h)⟩
