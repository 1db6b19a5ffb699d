/-! The law: its steps -/
theorem st_3 {M : Nat → Nat → Int32} {u : Nat} (h : M 6 u = 3 ∨ M 6 u = 4) : ¬ M 6 u < 3 := by rcases h with h | h <;> rw [h] <;> decide
theorem st_lt {td : Int32} {M : Nat → Nat → Int32} {u : Nat} (hb : bOk td M u) (h : ¬ (M 6 u = 3 ∨ M 6 u = 4)) : M 6 u < 3 := by
  rcases hb.2.2.1 with q | q | q | q | q
  · rw [q]; decide
  · rw [q]; decide
  · rw [q]; decide
  · exact absurd (Or.inl q) h
  · exact absurd (Or.inr q) h
theorem in_400 {x : Int32} (h : inR 1 400 x) : ∃ D : Nat, D ≤ 400 ∧ x = nI D := by
  have h' := inR_I.mp h
  have e1 : (1 : Int32).toInt = 1 := rfl
  have e4 : (400 : Int32).toInt = 400 := rfl
  obtain ⟨D, hD, e⟩ := nI_of (x := x) (by rw [i32_lt]; have e0 : (0 : Int32).toInt = 0 := rfl; omega)
  refine ⟨D, ?_, e⟩
  rw [e, nI_toInt hD] at h'
  omega
set_option maxHeartbeats 4000000 in
set_option maxRecDepth 100000 in
theorem q_today {p : Program} {l : Launch} {e : Env} {s : State} {m : MethodId} {args : Array Value} {below : List Frame} {meth : Method} {c : Code} {H : Heap} {locs : List Loc} {cells slots : Nat} {Q : State → Prop} {ls : Array Slot} {K : Ks} {A : Nat → Prop} {ad bad qm : Nat → Nat} {td th : Int32} {n : Nat} {M X : Nat → Nat → Int32} {w : va_W} {oj od : Nat} {g : Nat → Int64} {gd : Nat → UInt64} {b L i j : Nat} {xs : Nat → Int32} (h0 : LSt p l s m args c K A b L xs) (hE : DkE K ad bad td n M w) (hIv : Iv j td n M) (hP : va_P K.1 kCl (CW K qm oj od td n th M X w g gd) H) (hD : va_D A (CW K qm oj od td n th M X w g gd)) (hS : va_S A s.heap H locs) (hl : lv_has ls 8 [(0, .ref b), (1, .ref (ad 0)), (2, .ref (qm 0)), (3, .ref oj), (4, .ref od), (5, .int (nI i))]) (hi : i + 4 < L) (hcl : cells + 31 ≤ 601024) (hsl : slots + 1806 ≤ 7293034) (hj : j ≤ 100000) (kk : LEnd p l e s m args below meth c Q K A b ad qm oj od i j cells slots) : W p l e room_1 s m args below meth c H locs cells slots Q (F0 m 1333 ls []) := by
  obtain ⟨hx, hb, hml, hown, hts, hG, hX, hbl, hbA, hL, hlt⟩ := h0
  obtain ⟨rm, kq, idx, hDk⟩ := hE
  refine lv_aload_n hx hb dL_law_1333 rfl (lv_at hl 1 rfl) ?_
  refine kf_i (W2 := (oj, oJ K g) :: (od, oD K gd) :: Mfix K qm td (nI n) th M X) (va_runV (As := []) (rest := []) ⟨hx, hb, hml, hown, hts⟩ (c_X1_today hDk) (cwV 0 hts gL_law_X1_today rfl rfl rfl (by decide +kernel) ⟨(Nat.le_of_ble_eq_true rfl), (Nat.le_of_ble_eq_true rfl)⟩) (lpv (q0 := 0) hG hP hD hS hDk.x rfl) rfl rfl hl.1 rfl (lv_room (Nat.le_of_ble_eq_true rfl)) dL_law_1334 ⟨(by show _ ≤ 601024; omega), (by show _ ≤ 7293034; omega)⟩) hS hP hD (fun r w H locs hp hP hD hS => ?_)
  obtain ⟨hr, hDk⟩ := hp
  rw [hr]
  refine lv_aload_n hx hb dL_law_1337 rfl (lv_at hl 2 rfl) ?_
  have hP := P_perm hP pmM
  have hD := D_perm hD pmM
  refine kf_i (W2 := w ++ [(oj, oJ K g), (od, oD K gd)]) (va_runV (As := []) (rest := [.int td]) ⟨hx, hb, hml, hown, hts⟩ (c_X2_today0) (cwV 0 hts gL_law_X2_today rfl rfl rfl (by decide +kernel) ⟨(Nat.le_of_ble_eq_true rfl), (Nat.le_of_ble_eq_true rfl)⟩) (lpv (q0 := 0) hG hP hD hS rfl rfl) rfl rfl hl.1 rfl (lv_room (Nat.le_of_ble_eq_true rfl)) dL_law_1338 ⟨(by show _ ≤ 601024; omega), (by show _ ≤ 7293034; omega)⟩) hS hP hD (fun r1338 w9 H locs hp hP hD hS => ?_)
  obtain ⟨hr, hw⟩ := hp
  subst hw
  rw [hr]
  have hP := P_perm hP pmM'
  have hD := D_perm hD pmM'
  refine lv_icmp_eq (tgt := 1346) hx hb dL_law_1341 (by decide) (fun h1341 => ?_) (fun h1341 => False.elim (h1341 rfl))
  exact W.widen (k := cells + 31) (n := slots + 1806) (by omega) (by omega) (kk _ _ _ _ _ _ _ _ _ H locs ls ⟨_, _, _, hDk⟩ hIv.up hP hD hS (lv_sub hl [0, 1, 2, 3, 4, 5] rfl))
theorem q_none {p : Program} {l : Launch} {e : Env} {s : State} {m : MethodId} {args : Array Value} {below : List Frame} {meth : Method} {c : Code} {H : Heap} {locs : List Loc} {cells slots : Nat} {Q : State → Prop} {ls : Array Slot} {K : Ks} {A : Nat → Prop} {ad bad qm : Nat → Nat} {td th : Int32} {n : Nat} {M X : Nat → Nat → Int32} {w : va_W} {oj od : Nat} {g : Nat → Int64} {gd : Nat → UInt64} {b L i j : Nat} {xs : Nat → Int32} (h0 : LSt p l s m args c K A b L xs) (hE : DkE K ad bad td n M w) (hIv : Iv j td n M) (hP : va_P K.1 kCl (CW K qm oj od td n th M X w g gd) H) (hD : va_D A (CW K qm oj od td n th M X w g gd)) (hS : va_S A s.heap H locs) (hl : lv_has ls 8 [(0, .ref b), (1, .ref (ad 0)), (2, .ref (qm 0)), (3, .ref oj), (4, .ref od), (5, .int (nI i))]) (hi : i + 4 < L) (hcl : cells + 31 ≤ 601024) (hsl : slots + 1806 ≤ 7293034) (hj : j ≤ 100000) (kk : LEnd p l e s m args below meth c Q K A b ad qm oj od i j cells slots) : W p l e room_1 s m args below meth c H locs cells slots Q (F0 m 1346 ls []) :=
  W.widen (k := cells + 31) (n := slots + 1806) (by omega) (by omega) (kk _ _ _ _ _ _ _ _ _ H locs ls hE hIv.up hP hD hS hl)
theorem s_setBudget {p : Program} {l : Launch} {e : Env} {s : State} {m : MethodId} {args : Array Value} {below : List Frame} {meth : Method} {c : Code} {H : Heap} {locs : List Loc} {cells slots : Nat} {Q : State → Prop} {ls : Array Slot} {K : Ks} {A : Nat → Prop} {ad bad qm : Nat → Nat} {td th : Int32} {n : Nat} {M X : Nat → Nat → Int32} {w : va_W} {oj od : Nat} {g : Nat → Int64} {gd : Nat → UInt64} {b L i j : Nat} {xs : Nat → Int32} (h0 : LSt p l s m args c K A b L xs) (hE : DkE K ad bad td n M w) (hIv : Iv j td n M) (hP : va_P K.1 kCl (CW K qm oj od td n th M X w g gd) H) (hD : va_D A (CW K qm oj od td n th M X w g gd)) (hS : va_S A s.heap H locs) (hl : lv_has ls 8 [(0, .ref b), (1, .ref (ad 0)), (2, .ref (qm 0)), (3, .ref oj), (4, .ref od), (5, .int (nI i))]) (hi : i + 4 < L) (hcl : cells + 31 ≤ 601024) (hsl : slots + 1806 ≤ 7293034) (hj : j ≤ 100000) (kk : LEnd p l e s m args below meth c Q K A b ad qm oj od i j cells slots) : W p l e room_1 s m args below meth c H locs cells slots Q (F0 m 140 ls []) := by
  rcases ix_or (n := 4) (by decide) (xs (i + 1)) with ⟨v, hv, e1⟩ | hx4
  · by_cases hy : inR 0 100000000 (xs (i + 2))
    · exact q_setBudget h0 hE hIv hP hD hS hl hi hcl hsl hj kk hv hy e1 rfl
    · exact q_setBudget_tr h0 hE hIv hP hD hS hl hi hcl hsl hj kk hv hy e1 rfl
  · exact q_setBudget_tb h0 hE hIv hP hD hS hl hi hcl hsl hj kk hx4 rfl rfl
theorem s_setLimit {p : Program} {l : Launch} {e : Env} {s : State} {m : MethodId} {args : Array Value} {below : List Frame} {meth : Method} {c : Code} {H : Heap} {locs : List Loc} {cells slots : Nat} {Q : State → Prop} {ls : Array Slot} {K : Ks} {A : Nat → Prop} {ad bad qm : Nat → Nat} {td th : Int32} {n : Nat} {M X : Nat → Nat → Int32} {w : va_W} {oj od : Nat} {g : Nat → Int64} {gd : Nat → UInt64} {b L i j : Nat} {xs : Nat → Int32} (h0 : LSt p l s m args c K A b L xs) (hE : DkE K ad bad td n M w) (hIv : Iv j td n M) (hP : va_P K.1 kCl (CW K qm oj od td n th M X w g gd) H) (hD : va_D A (CW K qm oj od td n th M X w g gd)) (hS : va_S A s.heap H locs) (hl : lv_has ls 8 [(0, .ref b), (1, .ref (ad 0)), (2, .ref (qm 0)), (3, .ref oj), (4, .ref od), (5, .int (nI i))]) (hi : i + 4 < L) (hcl : cells + 31 ≤ 601024) (hsl : slots + 1806 ≤ 7293034) (hj : j ≤ 100000) (kk : LEnd p l e s m args below meth c Q K A b ad qm oj od i j cells slots) : W p l e room_1 s m args below meth c H locs cells slots Q (F0 m 208 ls []) := by
  rcases ix_or (n := 4) (by decide) (xs (i + 1)) with ⟨v, hv, e1⟩ | hx4
  · rcases ix_or (n := 8) (by decide) (xs (i + 2)) with ⟨u, hu, e2⟩ | hx8
    · by_cases hy : inR 0 100000000 (xs (i + 3))
      · exact q_setLimit h0 hE hIv hP hD hS hl hi hcl hsl hj kk hv hu hy e1 e2 rfl
      · exact q_setLimit_tr h0 hE hIv hP hD hS hl hi hcl hsl hj kk hv hu hy e1 e2 rfl
    · exact q_setLimit_ts h0 hE hIv hP hD hS hl hi hcl hsl hj kk hv hx8 e1 rfl rfl
  · exact q_setLimit_tb h0 hE hIv hP hD hS hl hi hcl hsl hj kk hx4 rfl rfl rfl
theorem s_bill {p : Program} {l : Launch} {e : Env} {s : State} {m : MethodId} {args : Array Value} {below : List Frame} {meth : Method} {c : Code} {H : Heap} {locs : List Loc} {cells slots : Nat} {Q : State → Prop} {ls : Array Slot} {K : Ks} {A : Nat → Prop} {ad bad qm : Nat → Nat} {td th : Int32} {n : Nat} {M X : Nat → Nat → Int32} {w : va_W} {oj od : Nat} {g : Nat → Int64} {gd : Nat → UInt64} {b L i j : Nat} {xs : Nat → Int32} (h0 : LSt p l s m args c K A b L xs) (hE : DkE K ad bad td n M w) (hIv : Iv j td n M) (hP : va_P K.1 kCl (CW K qm oj od td n th M X w g gd) H) (hD : va_D A (CW K qm oj od td n th M X w g gd)) (hS : va_S A s.heap H locs) (hl : lv_has ls 8 [(0, .ref b), (1, .ref (ad 0)), (2, .ref (qm 0)), (3, .ref oj), (4, .ref od), (5, .int (nI i))]) (hi : i + 4 < L) (hcl : cells + 31 ≤ 601024) (hsl : slots + 1806 ≤ 7293034) (hj : j ≤ 100000) (kk : LEnd p l e s m args below meth c Q K A b ad qm oj od i j cells slots) : W p l e room_1 s m args below meth c H locs cells slots Q (F0 m 288 ls []) := by
  rcases ix_or (n := 4) (by decide) (xs (i + 1)) with ⟨v, hv, e1⟩ | hx4
  · rcases ix_or (n := 8) (by decide) (xs (i + 2)) with ⟨u, hu, e2⟩ | hx8
    · by_cases hc : inR 1 1000000 (xs (i + 3))
      · by_cases hd : inR 1 360 (xs (i + 4))
        · by_cases h30 : n < 30
          · exact q_bill h0 hE hIv hP hD hS hl hi hcl hsl hj kk hv hu hc hd h30 e1 e2 rfl rfl
          · exact q_bill_tp h0 hE hIv hP hD hS hl hi hcl hsl hj kk hv hu hc hd (by have := hIv.1; omega) e1 e2 rfl rfl
        · exact q_bill_td h0 hE hIv hP hD hS hl hi hcl hsl hj kk hv hu hc hd e1 e2 rfl rfl
      · exact q_bill_tc h0 hE hIv hP hD hS hl hi hcl hsl hj kk hv hu hc e1 e2 rfl rfl
    · exact q_bill_ts h0 hE hIv hP hD hS hl hi hcl hsl hj kk hv hx8 e1 rfl rfl rfl
  · exact q_bill_tb h0 hE hIv hP hD hS hl hi hcl hsl hj kk hx4 rfl rfl rfl rfl
theorem s_approve {p : Program} {l : Launch} {e : Env} {s : State} {m : MethodId} {args : Array Value} {below : List Frame} {meth : Method} {c : Code} {H : Heap} {locs : List Loc} {cells slots : Nat} {Q : State → Prop} {ls : Array Slot} {K : Ks} {A : Nat → Prop} {ad bad qm : Nat → Nat} {td th : Int32} {n : Nat} {M X : Nat → Nat → Int32} {w : va_W} {oj od : Nat} {g : Nat → Int64} {gd : Nat → UInt64} {b L i j : Nat} {xs : Nat → Int32} (h0 : LSt p l s m args c K A b L xs) (hE : DkE K ad bad td n M w) (hIv : Iv j td n M) (hP : va_P K.1 kCl (CW K qm oj od td n th M X w g gd) H) (hD : va_D A (CW K qm oj od td n th M X w g gd)) (hS : va_S A s.heap H locs) (hl : lv_has ls 8 [(0, .ref b), (1, .ref (ad 0)), (2, .ref (qm 0)), (3, .ref oj), (4, .ref od), (5, .int (nI i))]) (hi : i + 4 < L) (hcl : cells + 31 ≤ 601024) (hsl : slots + 1806 ≤ 7293034) (hj : j ≤ 100000) (kk : LEnd p l e s m args below meth c Q K A b ad qm oj od i j cells slots) : W p l e room_1 s m args below meth c H locs cells slots Q (F0 m 380 ls []) := by
  rcases ix_or (n := n) (by have := hIv.1; omega) (xs (i + 1)) with ⟨u, hu, e1⟩ | hix
  · by_cases hst : M 6 u = 0 ∨ M 6 u = 2
    · by_cases hdue : M 5 u ≤ td
      · exact q_approve_p h0 hE hIv hP hD hS hl hi hcl hsl hj kk hu hst hdue e1
      · exact q_approve_a h0 hE hIv hP hD hS hl hi hcl hsl hj kk hu hst hdue e1
    · exact q_approve_tp h0 hE hIv hP hD hS hl hi hcl hsl hj kk hu hst e1
  · exact q_approve_tb h0 hE hIv hP hD hS hl hi hcl hsl hj kk hix rfl
theorem s_dispute {p : Program} {l : Launch} {e : Env} {s : State} {m : MethodId} {args : Array Value} {below : List Frame} {meth : Method} {c : Code} {H : Heap} {locs : List Loc} {cells slots : Nat} {Q : State → Prop} {ls : Array Slot} {K : Ks} {A : Nat → Prop} {ad bad qm : Nat → Nat} {td th : Int32} {n : Nat} {M X : Nat → Nat → Int32} {w : va_W} {oj od : Nat} {g : Nat → Int64} {gd : Nat → UInt64} {b L i j : Nat} {xs : Nat → Int32} (h0 : LSt p l s m args c K A b L xs) (hE : DkE K ad bad td n M w) (hIv : Iv j td n M) (hP : va_P K.1 kCl (CW K qm oj od td n th M X w g gd) H) (hD : va_D A (CW K qm oj od td n th M X w g gd)) (hS : va_S A s.heap H locs) (hl : lv_has ls 8 [(0, .ref b), (1, .ref (ad 0)), (2, .ref (qm 0)), (3, .ref oj), (4, .ref od), (5, .int (nI i))]) (hi : i + 4 < L) (hcl : cells + 31 ≤ 601024) (hsl : slots + 1806 ≤ 7293034) (hj : j ≤ 100000) (kk : LEnd p l e s m args below meth c Q K A b ad qm oj od i j cells slots) : W p l e room_1 s m args below meth c H locs cells slots Q (F0 m 443 ls []) := by
  rcases ix_or (n := n) (by have := hIv.1; omega) (xs (i + 1)) with ⟨u, hu, e1⟩ | hix
  · by_cases hst : M 6 u = 0 ∨ M 6 u = 1
    · exact q_dispute h0 hE hIv hP hD hS hl hi hcl hsl hj kk hu hst e1
    · exact q_dispute_tp h0 hE hIv hP hD hS hl hi hcl hsl hj kk hu hst e1
  · exact q_dispute_tb h0 hE hIv hP hD hS hl hi hcl hsl hj kk hix rfl
theorem s_note {p : Program} {l : Launch} {e : Env} {s : State} {m : MethodId} {args : Array Value} {below : List Frame} {meth : Method} {c : Code} {H : Heap} {locs : List Loc} {cells slots : Nat} {Q : State → Prop} {ls : Array Slot} {K : Ks} {A : Nat → Prop} {ad bad qm : Nat → Nat} {td th : Int32} {n : Nat} {M X : Nat → Nat → Int32} {w : va_W} {oj od : Nat} {g : Nat → Int64} {gd : Nat → UInt64} {b L i j : Nat} {xs : Nat → Int32} (h0 : LSt p l s m args c K A b L xs) (hE : DkE K ad bad td n M w) (hIv : Iv j td n M) (hP : va_P K.1 kCl (CW K qm oj od td n th M X w g gd) H) (hD : va_D A (CW K qm oj od td n th M X w g gd)) (hS : va_S A s.heap H locs) (hl : lv_has ls 8 [(0, .ref b), (1, .ref (ad 0)), (2, .ref (qm 0)), (3, .ref oj), (4, .ref od), (5, .int (nI i))]) (hi : i + 4 < L) (hcl : cells + 31 ≤ 601024) (hsl : slots + 1806 ≤ 7293034) (hj : j ≤ 100000) (kk : LEnd p l e s m args below meth c Q K A b ad qm oj od i j cells slots) : W p l e room_1 s m args below meth c H locs cells slots Q (F0 m 479 ls []) := by
  rcases ix_or (n := n) (by have := hIv.1; omega) (xs (i + 1)) with ⟨u, hu, e1⟩ | hix
  · by_cases hy : inR 1 (M 4 u - M 10 u) (xs (i + 2))
    · by_cases hst : M 6 u = 3 ∨ M 6 u = 4
      · exact q_note_p h0 hE hIv hP hD hS hl hi hcl hsl hj kk hu hy hst (st_3 hst) e1 rfl
      · exact q_note_u h0 hE hIv hP hD hS hl hi hcl hsl hj kk hu hy hst (st_lt (hIv.2.2.1 u hu) hst) e1 rfl
    · exact q_note_tr h0 hE hIv hP hD hS hl hi hcl hsl hj kk hu hy e1 rfl
  · exact q_note_tb h0 hE hIv hP hD hS hl hi hcl hsl hj kk hix rfl rfl
theorem s_state {p : Program} {l : Launch} {e : Env} {s : State} {m : MethodId} {args : Array Value} {below : List Frame} {meth : Method} {c : Code} {H : Heap} {locs : List Loc} {cells slots : Nat} {Q : State → Prop} {ls : Array Slot} {K : Ks} {A : Nat → Prop} {ad bad qm : Nat → Nat} {td th : Int32} {n : Nat} {M X : Nat → Nat → Int32} {w : va_W} {oj od : Nat} {g : Nat → Int64} {gd : Nat → UInt64} {b L i j : Nat} {xs : Nat → Int32} (h0 : LSt p l s m args c K A b L xs) (hE : DkE K ad bad td n M w) (hIv : Iv j td n M) (hP : va_P K.1 kCl (CW K qm oj od td n th M X w g gd) H) (hD : va_D A (CW K qm oj od td n th M X w g gd)) (hS : va_S A s.heap H locs) (hl : lv_has ls 8 [(0, .ref b), (1, .ref (ad 0)), (2, .ref (qm 0)), (3, .ref oj), (4, .ref od), (5, .int (nI i))]) (hi : i + 4 < L) (hcl : cells + 31 ≤ 601024) (hsl : slots + 1806 ≤ 7293034) (hj : j ≤ 100000) (kk : LEnd p l e s m args below meth c Q K A b ad qm oj od i j cells slots) : W p l e room_1 s m args below meth c H locs cells slots Q (F0 m 547 ls []) := by
  rcases ix_or (n := n) (by have := hIv.1; omega) (xs (i + 1)) with ⟨u, hu, e1⟩ | hix
  · exact q_state h0 hE hIv hP hD hS hl hi hcl hsl hj kk hu e1
  · exact q_state_tb h0 hE hIv hP hD hS hl hi hcl hsl hj kk hix rfl
theorem s_amount {p : Program} {l : Launch} {e : Env} {s : State} {m : MethodId} {args : Array Value} {below : List Frame} {meth : Method} {c : Code} {H : Heap} {locs : List Loc} {cells slots : Nat} {Q : State → Prop} {ls : Array Slot} {K : Ks} {A : Nat → Prop} {ad bad qm : Nat → Nat} {td th : Int32} {n : Nat} {M X : Nat → Nat → Int32} {w : va_W} {oj od : Nat} {g : Nat → Int64} {gd : Nat → UInt64} {b L i j : Nat} {xs : Nat → Int32} (h0 : LSt p l s m args c K A b L xs) (hE : DkE K ad bad td n M w) (hIv : Iv j td n M) (hP : va_P K.1 kCl (CW K qm oj od td n th M X w g gd) H) (hD : va_D A (CW K qm oj od td n th M X w g gd)) (hS : va_S A s.heap H locs) (hl : lv_has ls 8 [(0, .ref b), (1, .ref (ad 0)), (2, .ref (qm 0)), (3, .ref oj), (4, .ref od), (5, .int (nI i))]) (hi : i + 4 < L) (hcl : cells + 31 ≤ 601024) (hsl : slots + 1806 ≤ 7293034) (hj : j ≤ 100000) (kk : LEnd p l e s m args below meth c Q K A b ad qm oj od i j cells slots) : W p l e room_1 s m args below meth c H locs cells slots Q (F0 m 603 ls []) := by
  rcases ix_or (n := n) (by have := hIv.1; omega) (xs (i + 1)) with ⟨u, hu, e1⟩ | hix
  · exact q_amount h0 hE hIv hP hD hS hl hi hcl hsl hj kk hu e1
  · exact q_amount_tb h0 hE hIv hP hD hS hl hi hcl hsl hj kk hix rfl
theorem s_paid {p : Program} {l : Launch} {e : Env} {s : State} {m : MethodId} {args : Array Value} {below : List Frame} {meth : Method} {c : Code} {H : Heap} {locs : List Loc} {cells slots : Nat} {Q : State → Prop} {ls : Array Slot} {K : Ks} {A : Nat → Prop} {ad bad qm : Nat → Nat} {td th : Int32} {n : Nat} {M X : Nat → Nat → Int32} {w : va_W} {oj od : Nat} {g : Nat → Int64} {gd : Nat → UInt64} {b L i j : Nat} {xs : Nat → Int32} (h0 : LSt p l s m args c K A b L xs) (hE : DkE K ad bad td n M w) (hIv : Iv j td n M) (hP : va_P K.1 kCl (CW K qm oj od td n th M X w g gd) H) (hD : va_D A (CW K qm oj od td n th M X w g gd)) (hS : va_S A s.heap H locs) (hl : lv_has ls 8 [(0, .ref b), (1, .ref (ad 0)), (2, .ref (qm 0)), (3, .ref oj), (4, .ref od), (5, .int (nI i))]) (hi : i + 4 < L) (hcl : cells + 31 ≤ 601024) (hsl : slots + 1806 ≤ 7293034) (hj : j ≤ 100000) (kk : LEnd p l e s m args below meth c Q K A b ad qm oj od i j cells slots) : W p l e room_1 s m args below meth c H locs cells slots Q (F0 m 659 ls []) := by
  rcases ix_or (n := n) (by have := hIv.1; omega) (xs (i + 1)) with ⟨u, hu, e1⟩ | hix
  · exact q_paid h0 hE hIv hP hD hS hl hi hcl hsl hj kk hu e1
  · exact q_paid_tb h0 hE hIv hP hD hS hl hi hcl hsl hj kk hix rfl
theorem s_heldBack {p : Program} {l : Launch} {e : Env} {s : State} {m : MethodId} {args : Array Value} {below : List Frame} {meth : Method} {c : Code} {H : Heap} {locs : List Loc} {cells slots : Nat} {Q : State → Prop} {ls : Array Slot} {K : Ks} {A : Nat → Prop} {ad bad qm : Nat → Nat} {td th : Int32} {n : Nat} {M X : Nat → Nat → Int32} {w : va_W} {oj od : Nat} {g : Nat → Int64} {gd : Nat → UInt64} {b L i j : Nat} {xs : Nat → Int32} (h0 : LSt p l s m args c K A b L xs) (hE : DkE K ad bad td n M w) (hIv : Iv j td n M) (hP : va_P K.1 kCl (CW K qm oj od td n th M X w g gd) H) (hD : va_D A (CW K qm oj od td n th M X w g gd)) (hS : va_S A s.heap H locs) (hl : lv_has ls 8 [(0, .ref b), (1, .ref (ad 0)), (2, .ref (qm 0)), (3, .ref oj), (4, .ref od), (5, .int (nI i))]) (hi : i + 4 < L) (hcl : cells + 31 ≤ 601024) (hsl : slots + 1806 ≤ 7293034) (hj : j ≤ 100000) (kk : LEnd p l e s m args below meth c Q K A b ad qm oj od i j cells slots) : W p l e room_1 s m args below meth c H locs cells slots Q (F0 m 715 ls []) := by
  rcases ix_or (n := n) (by have := hIv.1; omega) (xs (i + 1)) with ⟨u, hu, e1⟩ | hix
  · exact q_heldBack h0 hE hIv hP hD hS hl hi hcl hsl hj kk hu e1
  · exact q_heldBack_tb h0 hE hIv hP hD hS hl hi hcl hsl hj kk hix rfl
theorem s_offer {p : Program} {l : Launch} {e : Env} {s : State} {m : MethodId} {args : Array Value} {below : List Frame} {meth : Method} {c : Code} {H : Heap} {locs : List Loc} {cells slots : Nat} {Q : State → Prop} {ls : Array Slot} {K : Ks} {A : Nat → Prop} {ad bad qm : Nat → Nat} {td th : Int32} {n : Nat} {M X : Nat → Nat → Int32} {w : va_W} {oj od : Nat} {g : Nat → Int64} {gd : Nat → UInt64} {b L i j : Nat} {xs : Nat → Int32} (h0 : LSt p l s m args c K A b L xs) (hE : DkE K ad bad td n M w) (hIv : Iv j td n M) (hP : va_P K.1 kCl (CW K qm oj od td n th M X w g gd) H) (hD : va_D A (CW K qm oj od td n th M X w g gd)) (hS : va_S A s.heap H locs) (hl : lv_has ls 8 [(0, .ref b), (1, .ref (ad 0)), (2, .ref (qm 0)), (3, .ref oj), (4, .ref od), (5, .int (nI i))]) (hi : i + 4 < L) (hcl : cells + 31 ≤ 601024) (hsl : slots + 1806 ≤ 7293034) (hj : j ≤ 100000) (kk : LEnd p l e s m args below meth c Q K A b ad qm oj od i j cells slots) : W p l e room_1 s m args below meth c H locs cells slots Q (F0 m 771 ls []) := by
  rcases ix_or (n := n) (by have := hIv.1; omega) (xs (i + 1)) with ⟨u, hu, e1⟩ | hix
  · by_cases hy : inR 0 5000 (xs (i + 2))
    · by_cases hst : M 6 u = 1 ∧ ¬ M 5 u ≤ td
      · exact q_offer h0 hE hIv hP hD hS hl hi hcl hsl hj kk hu hy hst e1 rfl
      · exact q_offer_tp h0 hE hIv hP hD hS hl hi hcl hsl hj kk hu hy hst e1 rfl
    · exact q_offer_tr h0 hE hIv hP hD hS hl hi hcl hsl hj kk hu hy e1 rfl
  · exact q_offer_tb h0 hE hIv hP hD hS hl hi hcl hsl hj kk hix rfl rfl
theorem s_takeBack {p : Program} {l : Launch} {e : Env} {s : State} {m : MethodId} {args : Array Value} {below : List Frame} {meth : Method} {c : Code} {H : Heap} {locs : List Loc} {cells slots : Nat} {Q : State → Prop} {ls : Array Slot} {K : Ks} {A : Nat → Prop} {ad bad qm : Nat → Nat} {td th : Int32} {n : Nat} {M X : Nat → Nat → Int32} {w : va_W} {oj od : Nat} {g : Nat → Int64} {gd : Nat → UInt64} {b L i j : Nat} {xs : Nat → Int32} (h0 : LSt p l s m args c K A b L xs) (hE : DkE K ad bad td n M w) (hIv : Iv j td n M) (hP : va_P K.1 kCl (CW K qm oj od td n th M X w g gd) H) (hD : va_D A (CW K qm oj od td n th M X w g gd)) (hS : va_S A s.heap H locs) (hl : lv_has ls 8 [(0, .ref b), (1, .ref (ad 0)), (2, .ref (qm 0)), (3, .ref oj), (4, .ref od), (5, .int (nI i))]) (hi : i + 4 < L) (hcl : cells + 31 ≤ 601024) (hsl : slots + 1806 ≤ 7293034) (hj : j ≤ 100000) (kk : LEnd p l e s m args below meth c Q K A b ad qm oj od i j cells slots) : W p l e room_1 s m args below meth c H locs cells slots Q (F0 m 839 ls []) := by
  rcases ix_or (n := n) (by have := hIv.1; omega) (xs (i + 1)) with ⟨u, hu, e1⟩ | hix
  · by_cases hst : ¬ M 7 u = -1 ∧ ¬ (M 6 u = 3 ∨ M 6 u = 4)
    · exact q_takeBack h0 hE hIv hP hD hS hl hi hcl hsl hj kk hu hst ⟨hst.1, st_lt (hIv.2.2.1 u hu) hst.2⟩ e1
    · exact q_takeBack_tp h0 hE hIv hP hD hS hl hi hcl hsl hj kk hu hst (fun z => hst ⟨z.1, fun z2 => st_3 z2 z.2⟩) e1
  · exact q_takeBack_tb h0 hE hIv hP hD hS hl hi hcl hsl hj kk hix rfl
theorem s_plan {p : Program} {l : Launch} {e : Env} {s : State} {m : MethodId} {args : Array Value} {below : List Frame} {meth : Method} {c : Code} {H : Heap} {locs : List Loc} {cells slots : Nat} {Q : State → Prop} {ls : Array Slot} {K : Ks} {A : Nat → Prop} {ad bad qm : Nat → Nat} {td th : Int32} {n : Nat} {M X : Nat → Nat → Int32} {w : va_W} {oj od : Nat} {g : Nat → Int64} {gd : Nat → UInt64} {b L i j : Nat} {xs : Nat → Int32} (h0 : LSt p l s m args c K A b L xs) (hE : DkE K ad bad td n M w) (hIv : Iv j td n M) (hP : va_P K.1 kCl (CW K qm oj od td n th M X w g gd) H) (hD : va_D A (CW K qm oj od td n th M X w g gd)) (hS : va_S A s.heap H locs) (hl : lv_has ls 8 [(0, .ref b), (1, .ref (ad 0)), (2, .ref (qm 0)), (3, .ref oj), (4, .ref od), (5, .int (nI i))]) (hi : i + 4 < L) (hcl : cells + 31 ≤ 601024) (hsl : slots + 1806 ≤ 7293034) (hj : j ≤ 100000) (kk : LEnd p l e s m args below meth c Q K A b ad qm oj od i j cells slots) : W p l e room_1 s m args below meth c H locs cells slots Q (F0 m 895 ls []) := by
  rcases ix_or (n := 4) (by decide) (xs (i + 1)) with ⟨v, hv, e1⟩ | hx4
  · exact q_plan h0 hE hIv hP hD hS hl hi hcl hsl hj kk hv e1
  · exact q_plan_tb h0 hE hIv hP hD hS hl hi hcl hsl hj kk hx4 rfl
theorem s_clear {p : Program} {l : Launch} {e : Env} {s : State} {m : MethodId} {args : Array Value} {below : List Frame} {meth : Method} {c : Code} {H : Heap} {locs : List Loc} {cells slots : Nat} {Q : State → Prop} {ls : Array Slot} {K : Ks} {A : Nat → Prop} {ad bad qm : Nat → Nat} {td th : Int32} {n : Nat} {M X : Nat → Nat → Int32} {w : va_W} {oj od : Nat} {g : Nat → Int64} {gd : Nat → UInt64} {b L i j : Nat} {xs : Nat → Int32} (h0 : LSt p l s m args c K A b L xs) (hE : DkE K ad bad td n M w) (hIv : Iv j td n M) (hP : va_P K.1 kCl (CW K qm oj od td n th M X w g gd) H) (hD : va_D A (CW K qm oj od td n th M X w g gd)) (hS : va_S A s.heap H locs) (hl : lv_has ls 8 [(0, .ref b), (1, .ref (ad 0)), (2, .ref (qm 0)), (3, .ref oj), (4, .ref od), (5, .int (nI i))]) (hi : i + 4 < L) (hcl : cells + 31 ≤ 601024) (hsl : slots + 1806 ≤ 7293034) (hj : j ≤ 100000) (kk : LEnd p l e s m args below meth c Q K A b ad qm oj od i j cells slots) : W p l e room_1 s m args below meth c H locs cells slots Q (F0 m 951 ls []) := by
  rcases ix_or (n := 4) (by decide) (xs (i + 1)) with ⟨v, hv, e1⟩ | hx4
  · exact q_clear h0 hE hIv hP hD hS hl hi hcl hsl hj kk hv e1
  · exact q_clear_tb h0 hE hIv hP hD hS hl hi hcl hsl hj kk hx4 rfl
theorem s_most {p : Program} {l : Launch} {e : Env} {s : State} {m : MethodId} {args : Array Value} {below : List Frame} {meth : Method} {c : Code} {H : Heap} {locs : List Loc} {cells slots : Nat} {Q : State → Prop} {ls : Array Slot} {K : Ks} {A : Nat → Prop} {ad bad qm : Nat → Nat} {td th : Int32} {n : Nat} {M X : Nat → Nat → Int32} {w : va_W} {oj od : Nat} {g : Nat → Int64} {gd : Nat → UInt64} {b L i j : Nat} {xs : Nat → Int32} (h0 : LSt p l s m args c K A b L xs) (hE : DkE K ad bad td n M w) (hIv : Iv j td n M) (hP : va_P K.1 kCl (CW K qm oj od td n th M X w g gd) H) (hD : va_D A (CW K qm oj od td n th M X w g gd)) (hS : va_S A s.heap H locs) (hl : lv_has ls 8 [(0, .ref b), (1, .ref (ad 0)), (2, .ref (qm 0)), (3, .ref oj), (4, .ref od), (5, .int (nI i))]) (hi : i + 4 < L) (hcl : cells + 31 ≤ 601024) (hsl : slots + 1806 ≤ 7293034) (hj : j ≤ 100000) (kk : LEnd p l e s m args below meth c Q K A b ad qm oj od i j cells slots) : W p l e room_1 s m args below meth c H locs cells slots Q (F0 m 1007 ls []) := by
  rcases ix_or (n := 4) (by decide) (xs (i + 1)) with ⟨v, hv, e1⟩ | hx4
  · by_cases hk12 : (gaL td M v n).length ≤ 12
    · exact q_most h0 hE hIv hP hD hS hl hi hcl hsl hj kk hv hk12 e1
    · exact q_most_tp h0 hE hIv hP hD hS hl hi hcl hsl hj kk hv (by omega) e1
  · exact q_most_tb h0 hE hIv hP hD hS hl hi hcl hsl hj kk hx4 rfl
theorem s_left {p : Program} {l : Launch} {e : Env} {s : State} {m : MethodId} {args : Array Value} {below : List Frame} {meth : Method} {c : Code} {H : Heap} {locs : List Loc} {cells slots : Nat} {Q : State → Prop} {ls : Array Slot} {K : Ks} {A : Nat → Prop} {ad bad qm : Nat → Nat} {td th : Int32} {n : Nat} {M X : Nat → Nat → Int32} {w : va_W} {oj od : Nat} {g : Nat → Int64} {gd : Nat → UInt64} {b L i j : Nat} {xs : Nat → Int32} (h0 : LSt p l s m args c K A b L xs) (hE : DkE K ad bad td n M w) (hIv : Iv j td n M) (hP : va_P K.1 kCl (CW K qm oj od td n th M X w g gd) H) (hD : va_D A (CW K qm oj od td n th M X w g gd)) (hS : va_S A s.heap H locs) (hl : lv_has ls 8 [(0, .ref b), (1, .ref (ad 0)), (2, .ref (qm 0)), (3, .ref oj), (4, .ref od), (5, .int (nI i))]) (hi : i + 4 < L) (hcl : cells + 31 ≤ 601024) (hsl : slots + 1806 ≤ 7293034) (hj : j ≤ 100000) (kk : LEnd p l e s m args below meth c Q K A b ad qm oj od i j cells slots) : W p l e room_1 s m args below meth c H locs cells slots Q (F0 m 1063 ls []) := by
  rcases ix_or (n := 4) (by decide) (xs (i + 1)) with ⟨v, hv, e1⟩ | hx4
  · rcases ix_or (n := 8) (by decide) (xs (i + 2)) with ⟨u, hu, e2⟩ | hx8
    · exact q_left h0 hE hIv hP hD hS hl hi hcl hsl hj kk hv hu e1 e2
    · exact q_left_ts h0 hE hIv hP hD hS hl hi hcl hsl hj kk hv hx8 e1 rfl
  · exact q_left_tb h0 hE hIv hP hD hS hl hi hcl hsl hj kk hx4 rfl rfl
theorem s_claim {p : Program} {l : Launch} {e : Env} {s : State} {m : MethodId} {args : Array Value} {below : List Frame} {meth : Method} {c : Code} {H : Heap} {locs : List Loc} {cells slots : Nat} {Q : State → Prop} {ls : Array Slot} {K : Ks} {A : Nat → Prop} {ad bad qm : Nat → Nat} {td th : Int32} {n : Nat} {M X : Nat → Nat → Int32} {w : va_W} {oj od : Nat} {g : Nat → Int64} {gd : Nat → UInt64} {b L i j : Nat} {xs : Nat → Int32} (h0 : LSt p l s m args c K A b L xs) (hE : DkE K ad bad td n M w) (hIv : Iv j td n M) (hP : va_P K.1 kCl (CW K qm oj od td n th M X w g gd) H) (hD : va_D A (CW K qm oj od td n th M X w g gd)) (hS : va_S A s.heap H locs) (hl : lv_has ls 8 [(0, .ref b), (1, .ref (ad 0)), (2, .ref (qm 0)), (3, .ref oj), (4, .ref od), (5, .int (nI i))]) (hi : i + 4 < L) (hcl : cells + 31 ≤ 601024) (hsl : slots + 1806 ≤ 7293034) (hj : j ≤ 100000) (kk : LEnd p l e s m args below meth c Q K A b ad qm oj od i j cells slots) : W p l e room_1 s m args below meth c H locs cells slots Q (F0 m 1131 ls []) := by
  rcases ix_or (n := 4) (by decide) (xs (i + 1)) with ⟨v, hv, e1⟩ | hx4
  · rcases ix_or (n := 8) (by decide) (xs (i + 2)) with ⟨u, hu, e2⟩ | hx8
    · exact q_claim h0 hE hIv hP hD hS hl hi hcl hsl hj kk hv hu e1 e2
    · exact q_claim_ts h0 hE hIv hP hD hS hl hi hcl hsl hj kk hv hx8 e1 rfl
  · exact q_claim_tb h0 hE hIv hP hD hS hl hi hcl hsl hj kk hx4 rfl rfl
theorem s_averageDiscount {p : Program} {l : Launch} {e : Env} {s : State} {m : MethodId} {args : Array Value} {below : List Frame} {meth : Method} {c : Code} {H : Heap} {locs : List Loc} {cells slots : Nat} {Q : State → Prop} {ls : Array Slot} {K : Ks} {A : Nat → Prop} {ad bad qm : Nat → Nat} {td th : Int32} {n : Nat} {M X : Nat → Nat → Int32} {w : va_W} {oj od : Nat} {g : Nat → Int64} {gd : Nat → UInt64} {b L i j : Nat} {xs : Nat → Int32} (h0 : LSt p l s m args c K A b L xs) (hE : DkE K ad bad td n M w) (hIv : Iv j td n M) (hP : va_P K.1 kCl (CW K qm oj od td n th M X w g gd) H) (hD : va_D A (CW K qm oj od td n th M X w g gd)) (hS : va_S A s.heap H locs) (hl : lv_has ls 8 [(0, .ref b), (1, .ref (ad 0)), (2, .ref (qm 0)), (3, .ref oj), (4, .ref od), (5, .int (nI i))]) (hi : i + 4 < L) (hcl : cells + 31 ≤ 601024) (hsl : slots + 1806 ≤ 7293034) (hj : j ≤ 100000) (kk : LEnd p l e s m args below meth c Q K A b ad qm oj od i j cells slots) : W p l e room_1 s m args below meth c H locs cells slots Q (F0 m 1199 ls []) := by
  rcases ix_or (n := 4) (by decide) (xs (i + 1)) with ⟨v, hv, e1⟩ | hx4
  · by_cases hz : adA M v n = 0
    · exact q_averageDiscount_tp h0 hE hIv hP hD hS hl hi hcl hsl hj kk hv hz e1
    · exact q_averageDiscount h0 hE hIv hP hD hS hl hi hcl hsl hj kk hv hz e1
  · exact q_averageDiscount_tb h0 hE hIv hP hD hS hl hi hcl hsl hj kk hx4 rfl
theorem s_pass {p : Program} {l : Launch} {e : Env} {s : State} {m : MethodId} {args : Array Value} {below : List Frame} {meth : Method} {c : Code} {H : Heap} {locs : List Loc} {cells slots : Nat} {Q : State → Prop} {ls : Array Slot} {K : Ks} {A : Nat → Prop} {ad bad qm : Nat → Nat} {td th : Int32} {n : Nat} {M X : Nat → Nat → Int32} {w : va_W} {oj od : Nat} {g : Nat → Int64} {gd : Nat → UInt64} {b L i j : Nat} {xs : Nat → Int32} (h0 : LSt p l s m args c K A b L xs) (hE : DkE K ad bad td n M w) (hIv : Iv j td n M) (hP : va_P K.1 kCl (CW K qm oj od td n th M X w g gd) H) (hD : va_D A (CW K qm oj od td n th M X w g gd)) (hS : va_S A s.heap H locs) (hl : lv_has ls 8 [(0, .ref b), (1, .ref (ad 0)), (2, .ref (qm 0)), (3, .ref oj), (4, .ref od), (5, .int (nI i))]) (hi : i + 4 < L) (hcl : cells + 31 ≤ 601024) (hsl : slots + 1806 ≤ 7293034) (hj : j ≤ 100000) (kk : LEnd p l e s m args below meth c Q K A b ad qm oj od i j cells slots) : W p l e room_1 s m args below meth c H locs cells slots Q (F0 m 1277 ls []) := by
  by_cases hy : inR 1 400 (xs (i + 1))
  · obtain ⟨D, hD4, hD5⟩ := in_400 hy
    exact q_pass h0 hE hIv hP hD hS hl hi hcl hsl hj kk hD4 (by rw [← hD5]; exact hy) hD5
  · exact q_pass_tr h0 hE hIv hP hD hS hl hi hcl hsl hj kk hy rfl
set_option maxHeartbeats 4000000 in
set_option maxRecDepth 100000 in
theorem law_step {p : Program} {l : Launch} {e : Env} {s : State} {m : MethodId} {args : Array Value} {below : List Frame} {meth : Method} {c : Code} {H : Heap} {locs : List Loc} {cells slots : Nat} {Q : State → Prop} {ls : Array Slot} {K : Ks} {A : Nat → Prop} {ad bad qm : Nat → Nat} {td th : Int32} {n : Nat} {M X : Nat → Nat → Int32} {w : va_W} {oj od : Nat} {g : Nat → Int64} {gd : Nat → UInt64} {b L i j : Nat} {xs : Nat → Int32} (h0 : LSt p l s m args c K A b L xs) (hE : DkE K ad bad td n M w) (hIv : Iv j td n M) (hP : va_P K.1 kCl (CW K qm oj od td n th M X w g gd) H) (hD : va_D A (CW K qm oj od td n th M X w g gd)) (hS : va_S A s.heap H locs) (hl : lv_has ls 8 [(0, .ref b), (1, .ref (ad 0)), (2, .ref (qm 0)), (3, .ref oj), (4, .ref od), (5, .int (nI i))]) (hi : i + 4 < L) (hcl : cells + 31 ≤ 601024) (hsl : slots + 1806 ≤ 7293034) (hj : j ≤ 100000) (kk : LEnd p l e s m args below meth c Q K A b ad qm oj od i j cells slots) : W p l e room_1 s m args below meth c H locs cells slots Q (F0 m 37 ls []) := by
  obtain ⟨hx, hb, hml, hown, hts, hG, hX, hbl, hbA, hL, hlt⟩ := id h0
  refine lv_aload_n hx hb dL_law_37 rfl (lv_at hl 0 rfl) ?_
  refine lv_iload hx hb dL_law_38 (lv_at hl 5 rfl) ?_
  refine lsld (j := i) (z := xs i) hx hb hX hbl hbA hS rfl (by omega) (by omega) rfl dL_law_40 ?_
  refine lv_bipush (v := 31) hx hb dL_law_41 (by decide) ?_
  refine lv_iand hx hb dL_law_43 ?_
  by_cases hr : 0 ≤ (xs i &&& 31).toInt ∧ (xs i &&& 31).toInt ≤ 19
  · rcases (show (xs i &&& 31).toInt = 0 ∨ (xs i &&& 31).toInt = 1 ∨ (xs i &&& 31).toInt = 2 ∨ (xs i &&& 31).toInt = 3 ∨ (xs i &&& 31).toInt = 4 ∨ (xs i &&& 31).toInt = 5 ∨ (xs i &&& 31).toInt = 6 ∨ (xs i &&& 31).toInt = 7 ∨ (xs i &&& 31).toInt = 8 ∨ (xs i &&& 31).toInt = 9 ∨ (xs i &&& 31).toInt = 10 ∨ (xs i &&& 31).toInt = 11 ∨ (xs i &&& 31).toInt = 12 ∨ (xs i &&& 31).toInt = 13 ∨ (xs i &&& 31).toInt = 14 ∨ (xs i &&& 31).toInt = 15 ∨ (xs i &&& 31).toInt = 16 ∨ (xs i &&& 31).toInt = 17 ∨ (xs i &&& 31).toInt = 18 ∨ (xs i &&& 31).toInt = 19 by omega) with hc | hc | hc | hc | hc | hc | hc | hc | hc | hc | hc | hc | hc | hc | hc | hc | hc | hc | hc | hc
    · refine lv_tableIn (off := 96) (tgt := 140) hx hb dL_law_44 (by omega) (by omega) (by rw [hc]; rfl) (by decide) ?_
      exact s_setBudget h0 hE hIv hP hD hS (lv_sub hl [0, 1, 2, 3, 4, 5] rfl) hi hcl hsl hj kk
    · refine lv_tableIn (off := 164) (tgt := 208) hx hb dL_law_44 (by omega) (by omega) (by rw [hc]; rfl) (by decide) ?_
      exact s_setLimit h0 hE hIv hP hD hS (lv_sub hl [0, 1, 2, 3, 4, 5] rfl) hi hcl hsl hj kk
    · refine lv_tableIn (off := 244) (tgt := 288) hx hb dL_law_44 (by omega) (by omega) (by rw [hc]; rfl) (by decide) ?_
      exact s_bill h0 hE hIv hP hD hS (lv_sub hl [0, 1, 2, 3, 4, 5] rfl) hi hcl hsl hj kk
    · refine lv_tableIn (off := 336) (tgt := 380) hx hb dL_law_44 (by omega) (by omega) (by rw [hc]; rfl) (by decide) ?_
      exact s_approve h0 hE hIv hP hD hS (lv_sub hl [0, 1, 2, 3, 4, 5] rfl) hi hcl hsl hj kk
    · refine lv_tableIn (off := 399) (tgt := 443) hx hb dL_law_44 (by omega) (by omega) (by rw [hc]; rfl) (by decide) ?_
      exact s_dispute h0 hE hIv hP hD hS (lv_sub hl [0, 1, 2, 3, 4, 5] rfl) hi hcl hsl hj kk
    · refine lv_tableIn (off := 435) (tgt := 479) hx hb dL_law_44 (by omega) (by omega) (by rw [hc]; rfl) (by decide) ?_
      exact s_note h0 hE hIv hP hD hS (lv_sub hl [0, 1, 2, 3, 4, 5] rfl) hi hcl hsl hj kk
    · refine lv_tableIn (off := 503) (tgt := 547) hx hb dL_law_44 (by omega) (by omega) (by rw [hc]; rfl) (by decide) ?_
      exact s_state h0 hE hIv hP hD hS (lv_sub hl [0, 1, 2, 3, 4, 5] rfl) hi hcl hsl hj kk
    · refine lv_tableIn (off := 559) (tgt := 603) hx hb dL_law_44 (by omega) (by omega) (by rw [hc]; rfl) (by decide) ?_
      exact s_amount h0 hE hIv hP hD hS (lv_sub hl [0, 1, 2, 3, 4, 5] rfl) hi hcl hsl hj kk
    · refine lv_tableIn (off := 615) (tgt := 659) hx hb dL_law_44 (by omega) (by omega) (by rw [hc]; rfl) (by decide) ?_
      exact s_paid h0 hE hIv hP hD hS (lv_sub hl [0, 1, 2, 3, 4, 5] rfl) hi hcl hsl hj kk
    · refine lv_tableIn (off := 671) (tgt := 715) hx hb dL_law_44 (by omega) (by omega) (by rw [hc]; rfl) (by decide) ?_
      exact s_heldBack h0 hE hIv hP hD hS (lv_sub hl [0, 1, 2, 3, 4, 5] rfl) hi hcl hsl hj kk
    · refine lv_tableIn (off := 727) (tgt := 771) hx hb dL_law_44 (by omega) (by omega) (by rw [hc]; rfl) (by decide) ?_
      exact s_offer h0 hE hIv hP hD hS (lv_sub hl [0, 1, 2, 3, 4, 5] rfl) hi hcl hsl hj kk
    · refine lv_tableIn (off := 795) (tgt := 839) hx hb dL_law_44 (by omega) (by omega) (by rw [hc]; rfl) (by decide) ?_
      exact s_takeBack h0 hE hIv hP hD hS (lv_sub hl [0, 1, 2, 3, 4, 5] rfl) hi hcl hsl hj kk
    · refine lv_tableIn (off := 851) (tgt := 895) hx hb dL_law_44 (by omega) (by omega) (by rw [hc]; rfl) (by decide) ?_
      exact s_plan h0 hE hIv hP hD hS (lv_sub hl [0, 1, 2, 3, 4, 5] rfl) hi hcl hsl hj kk
    · refine lv_tableIn (off := 907) (tgt := 951) hx hb dL_law_44 (by omega) (by omega) (by rw [hc]; rfl) (by decide) ?_
      exact s_clear h0 hE hIv hP hD hS (lv_sub hl [0, 1, 2, 3, 4, 5] rfl) hi hcl hsl hj kk
    · refine lv_tableIn (off := 963) (tgt := 1007) hx hb dL_law_44 (by omega) (by omega) (by rw [hc]; rfl) (by decide) ?_
      exact s_most h0 hE hIv hP hD hS (lv_sub hl [0, 1, 2, 3, 4, 5] rfl) hi hcl hsl hj kk
    · refine lv_tableIn (off := 1019) (tgt := 1063) hx hb dL_law_44 (by omega) (by omega) (by rw [hc]; rfl) (by decide) ?_
      exact s_left h0 hE hIv hP hD hS (lv_sub hl [0, 1, 2, 3, 4, 5] rfl) hi hcl hsl hj kk
    · refine lv_tableIn (off := 1087) (tgt := 1131) hx hb dL_law_44 (by omega) (by omega) (by rw [hc]; rfl) (by decide) ?_
      exact s_claim h0 hE hIv hP hD hS (lv_sub hl [0, 1, 2, 3, 4, 5] rfl) hi hcl hsl hj kk
    · refine lv_tableIn (off := 1155) (tgt := 1199) hx hb dL_law_44 (by omega) (by omega) (by rw [hc]; rfl) (by decide) ?_
      exact s_averageDiscount h0 hE hIv hP hD hS (lv_sub hl [0, 1, 2, 3, 4, 5] rfl) hi hcl hsl hj kk
    · refine lv_tableIn (off := 1233) (tgt := 1277) hx hb dL_law_44 (by omega) (by omega) (by rw [hc]; rfl) (by decide) ?_
      exact s_pass h0 hE hIv hP hD hS (lv_sub hl [0, 1, 2, 3, 4, 5] rfl) hi hcl hsl hj kk
    · refine lv_tableIn (off := 1289) (tgt := 1333) hx hb dL_law_44 (by omega) (by omega) (by rw [hc]; rfl) (by decide) ?_
      exact q_today h0 hE hIv hP hD hS (lv_sub hl [0, 1, 2, 3, 4, 5] rfl) hi hcl hsl hj kk
  · refine lv_tableOut (tgt := 1346) hx hb dL_law_44 (by omega) (by decide) ?_
    exact q_none h0 hE hIv hP hD hS hl hi hcl hsl hj kk
