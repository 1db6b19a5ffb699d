/-! The law's start: what every call is given -/
theorem knowA {s : State} {args : Array Value} {ty : FieldType} (h : (Cond.arrayClass ty).before args s = true) (hra : ∀ cA, va_RA s cA ty = (s.vm.findClass ("[" ++ ty.toString) = some cA)) : ∃ cA : ClassId, ArrOfT s cA ty ∧ va_RA s cA ty := by
  obtain ⟨c, k, comp, h1, h2, h3⟩ := Cond.arrayClass_spec h
  exact ⟨c, fun n z => ⟨fun k h => (by cases h), k, h2, comp, h3⟩, by rw [hra]; exact h1⟩
theorem knowO {s : State} {args : Array Value} {C : String} (h : (Cond.arrayOver (.object C)).before args s = true) : ∃ cA : ClassId, ArrOfT s cA (.object C) ∧ va_RA s cA (.object C) := by
  obtain ⟨comp, c, k, f1, f2, f3, f4, f5⟩ := Cond.arrayOver_spec h
  exact ⟨c, fun n z => ⟨fun k h => (by cases h), k, f3, comp, f4⟩, k, comp, f3, f4, f1, f5⟩
theorem knowS {s : State} {args : Array Value} {k : Nat} {tx : String} {cur : Nat} (hcur : s.vm.findClass "EarlybirdDesk" = some cur) (h : (Cond.stringRef "EarlybirdDesk" k tx).before args s = true) : ∃ a : Nat, vk_R "EarlybirdDesk" k tx a s := by
  obtain ⟨-, -, -, a, -, -, -, -, -, hev⟩ := Cond.stringRef_spec hcur h
  exact ⟨a, vk_R.of h hev⟩
theorem eqi_tm {args : Array Value} {s : State} {tm : Term} {z : Int32} (h : (Cond.eq tm (.int z)).before args s = true) : tm.eval args s none [] s = some (.int z) := by
  cases hv : tm.eval args s none [] s with
  | none => simp [Cond.before, Cond.holds, Cond.value, hv] at h
  | some w =>
    have hz : (Term.int z).eval args s none [] s = some (.int z) := rfl
    simp only [Cond.before, Cond.holds, Cond.value, hv, hz] at h
    cases w <;> simp_all
set_option maxHeartbeats 4000000 in
set_option maxRecDepth 100000 in
theorem kG0 {s : State} {args : Array Value} (hts : ∀ w ∈ lw_tbl, w.before args s = true) (hgv : (Jvm.Cond.and given_1 narrow_1).before args s = true) : ∃ K : Ks, kGd K (fun q : Nat => s.heap.size ≤ q) s := by
  have hs := flat_of_before _ hgv
  have hA : ∀ a : Nat, a < s.heap.size → ¬ (fun q : Nat => s.heap.size ≤ q) a := fun a h => Nat.not_le.mpr h
  obtain ⟨c0, i0, k0⟩ := u_known (C := RJx4a65c) (T := TJx4a65c) (N := 3) (n := 3) hts inJx4a65c (hts (.instantiable RJx4a65c 3) (by decide +kernel))
  obtain ⟨c1, i1, k1⟩ := u_known (C := RX0) (T := TX0) (N := 10) (n := 10) hts inX0 (hts (.instantiable RX0 10) (by decide +kernel))
  obtain ⟨c2, i2, k2⟩ := u_known (C := RX1) (T := TX1) (N := 7) (n := 7) hts inX1 (hts (.instantiable RX1 7) (by decide +kernel))
  obtain ⟨aI, hI1, hI2⟩ := knowA (ty := .int) (hts (.arrayClass .int) (by decide +kernel)) (fun _ => rfl)
  obtain ⟨aO, hO1, hO2⟩ := knowO (C := "java/lang/Object") (hts (.arrayOver (.object "java/lang/Object")) (by decide +kernel))
  have hlen : (Term.length (.static "java/util/ArrayList" "DEFAULTCAPACITY_EMPTY_ELEMENTDATA" "[Ljava/lang/Object;")).eval args s none [] s = some (.int (Int32.ofNat 0)) := eqi_tm (hs (.eq (.length (.static "java/util/ArrayList" "DEFAULTCAPACITY_EMPTY_ELEMENTDATA" "[Ljava/lang/Object;")) (.int 0)) (by decide +kernel))
  obtain ⟨tE, hE1, hE2⟩ := va_Tof (tm := .static "java/util/ArrayList" "DEFAULTCAPACITY_EMPTY_ELEMENTDATA" "[Ljava/lang/Object;") (ty := .object "java/lang/Object") (N := 0) (f := fun _ => .null) (A := fun q : Nat => s.heap.size ≤ q) (by decide) (hs _ (by decide +kernel)) hlen (fun j hj => absurd hj (Nat.not_lt_zero _)) hA
  obtain ⟨mi, hmi⟩ := va_Mi.of (hs (.isRef (.mirror "[Ljava/lang/Object;")) (by decide +kernel))
  obtain ⟨s0, hs0⟩ := knowS (k := 155) (tx := "no such buyer") k2.2.1 (hts (.stringRef "EarlybirdDesk" 155 "no such buyer") (by decide +kernel))
  obtain ⟨s1, hs1⟩ := knowS (k := 160) (tx := "no such supplier") k2.2.1 (hts (.stringRef "EarlybirdDesk" 160 "no such supplier") (by decide +kernel))
  obtain ⟨s2, hs2⟩ := knowS (k := 164) (tx := "argument out of range") k2.2.1 (hts (.stringRef "EarlybirdDesk" 164 "argument out of range") (by decide +kernel))
  obtain ⟨s3, hs3⟩ := knowS (k := 169) (tx := "not possible now") k2.2.1 (hts (.stringRef "EarlybirdDesk" 169 "not possible now") (by decide +kernel))
  obtain ⟨s4, hs4⟩ := knowS (k := 172) (tx := "no such bill") k2.2.1 (hts (.stringRef "EarlybirdDesk" 172 "no such bill") (by decide +kernel))
  refine ⟨((fun k => [c0, c1, c2].getD k c0, fun k => [i0, i1, i2].getD k i0), (aI, aI, aO, aI, aI), (tE, mi), fun k => [s0, s1, s2, s3, s4].getD k 0), ⟨fun k q hq => ?_, fun k q hq => ?_⟩, fun q h => h, ⟨?_, ?_, ?_, hE2⟩, ⟨va_AO.of (hts (.arrayOver (.object "java/lang/Object")) (by decide +kernel)), hmi, va_Dc.of (hts (.declares ⟨"java/lang/Object", "getClass", "()Ljava/lang/Class;"⟩) (by decide +kernel))⟩, ⟨hs0, hs1, hs2, hs3, hs4⟩, va_Nw.of rfl (hts (.castable IOB IOB) (by decide +kernel)), va_Nw.of rfl (hts (.castable IAE IAE) (by decide +kernel)), ⟨va_Nw.of rfl (hts (.castable ISE ISE) (by decide +kernel)), va_Nw.of rfl (hts (.declares (Bundle.initS "java/lang/RuntimeException")) (by decide +kernel)), va_Nw.of rfl (hts (.declares (Bundle.initS "java/lang/Exception")) (by decide +kernel)), va_Nw.of rfl (hts (.declares (Bundle.initS Bundle.tN)) (by decide +kernel)), va_Nc.of (hs (.not (.castable IAE IOB)) (by decide +kernel)), va_Nc.of (hs (.not (.castable ISE IOB)) (by decide +kernel)), va_Nc.of (hs (.not (.castable ISE IAE)) (by decide +kernel))⟩, va_Nw.of rfl (hts (.castable RX0 "java/lang/Object") (by decide +kernel))⟩
  · match k, hq with
    | 0, hq => cases hq; exact k0
    | 1, hq => cases hq; exact k1
    | 2, hq => cases hq; exact k2
    | k + 3, hq => simp at hq
  · match k, hq with
    | 0, hq => cases hq; exact ⟨hI1, hI2⟩
    | 1, hq => cases hq; exact ⟨hI1, hI2⟩
    | 2, hq => cases hq; exact ⟨hO1, hO2⟩
    | 3, hq => cases hq; exact ⟨hI1, hI2⟩
    | 4, hq => cases hq; exact ⟨hI1, hI2⟩
    | k + 5, hq => simp at hq
  · exact vx_Zqof (hts (.laysStatic Bundle.tN "UNASSIGNED_STACK" Bundle.steD) (by decide +kernel)) (hts (.initialized Bundle.tN) (by decide +kernel)) (hs (.isRef (.static Bundle.tN "UNASSIGNED_STACK" Bundle.steD)) (by decide +kernel)) hA
  · exact vx_Zqof (hts (.laysStatic Bundle.tN "SUPPRESSED_SENTINEL" Bundle.listD) (by decide +kernel)) (hts (.initialized Bundle.tN) (by decide +kernel)) (hs (.isRef (.static Bundle.tN "SUPPRESSED_SENTINEL" Bundle.listD)) (by decide +kernel)) hA
  · exact va_Zref (hts (.laysStatic "java/util/ArrayList" "DEFAULTCAPACITY_EMPTY_ELEMENTDATA" "[Ljava/lang/Object;") (by decide +kernel)) (hts (.initialized "java/util/ArrayList") (by decide +kernel)) hE1 hA
