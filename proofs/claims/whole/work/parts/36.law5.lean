/-! The law: its loop -/
set_option maxHeartbeats 4000000 in
set_option maxRecDepth 100000 in
theorem law_loop {p : Program} {l : Launch} {e : Env} {s : State} {m : MethodId} {args : Array Value} {below : List Frame} {meth : Method} {c : Code} {Q : State → Prop} {K : Ks} {A : Nat → Prop} {ad qm : Nat → Nat} {oj od : Nat} {b L : Nat} {xs : Nat → Int32} (h0 : LSt p l s m args c K A b L xs)
    (hend : ∀ (H : Heap) (locs : List Loc) (ls : Array Slot) (cells slots : Nat), va_S A s.heap H locs → cells ≤ 601024 → slots ≤ 7293034 → W p l e room_1 s m args below meth c H locs cells slots Q (F0 m 1352 ls [])) {c0 s0 : Nat} (hc0 : c0 ≤ 100) (hs0 : s0 ≤ 1000) :
    ∀ (d k : Nat), L < 5 * (k + d) + 5 → 5 * k ≤ L → ∀ (bad : Nat → Nat) (td : Int32) (n : Nat) (th : Int32) (M X : Nat → Nat → Int32) (w : va_W) (g : Nat → Int64) (gd : Nat → UInt64) (H : Heap) (locs : List Loc) (ls : Array Slot), DkE K ad bad td n M w → Iv k td n M → va_P K.1 kCl (CW K qm oj od td n th M X w g gd) H → va_D A (CW K qm oj od td n th M X w g gd) → va_S A s.heap H locs → lv_has ls 8 [(0, .ref b), (1, .ref (ad 0)), (2, .ref (qm 0)), (3, .ref oj), (4, .ref od), (5, .int (nI (5 * k)))] →
      W p l e room_1 s m args below meth c H locs (c0 + 31 * k) (s0 + 1806 * k) Q (F0 m 28 ls []) := by
  obtain ⟨hx, hb, hml, hown, hts, hG, hX, hbl, hbA, hL, hlt⟩ := id h0
  have e5 : (nI L - 5).toInt = (L : Int) - 5 := pk_sub_toInt (a := L) (b := 5) (by omega) (by decide)
  intro d
  induction d with
  | zero =>
    intro k hk hk2 bad td n th M X w g gd H locs ls hE hIv hP hD hS hl
    refine lv_iload hx hb dL_law_28 (lv_at hl 5 rfl) ?_
    refine lv_aload_n hx hb dL_law_30 rfl (lv_at hl 0 rfl) ?_
    refine va_slen hx hb hX hbl hbA hS dL_law_31 ?_
    refine lv_iconst (v := 5) hx hb dL_law_32 (by decide) ?_
    refine lv_isub hx hb dL_law_33 ?_
    refine lv_icmp_gt (tgt := 1352) hx hb dL_law_34 (by decide) (fun h34 => hend H locs ls _ _ hS (by omega) (by omega)) (fun h34 => ?_)
    have h9 := i32_le.mp (i32_nlt.mp h34)
    have h8 : (nI (5 * k)).toInt = (5 * k : Nat) := nI_toInt (by omega)
    have h7 : (Int32.ofNat L - 5).toInt = (L : Int) - 5 := e5
    omega
  | succ d ih =>
    intro k hk hk2 bad td n th M X w g gd H locs ls hE hIv hP hD hS hl
    refine lv_iload hx hb dL_law_28 (lv_at hl 5 rfl) ?_
    refine lv_aload_n hx hb dL_law_30 rfl (lv_at hl 0 rfl) ?_
    refine va_slen hx hb hX hbl hbA hS dL_law_31 ?_
    refine lv_iconst (v := 5) hx hb dL_law_32 (by decide) ?_
    refine lv_isub hx hb dL_law_33 ?_
    refine lv_icmp_gt (tgt := 1352) hx hb dL_law_34 (by decide) (fun h34 => hend H locs ls _ _ hS (by omega) (by omega)) (fun h34 => ?_)
    have h9 := i32_le.mp (i32_nlt.mp h34)
    have h8 : (nI (5 * k)).toInt = (5 * k : Nat) := nI_toInt (by omega)
    have h7 : (Int32.ofNat L - 5).toInt = (L : Int) - 5 := e5
    refine law_step (i := 5 * k) (j := k) h0 hE hIv hP hD hS hl (by omega) (by omega) (by omega) (by omega) ?_
    intro bad1 td1 n1 th1 M1 X1 w1 g1 gd1 H1 locs1 ls1 hE1 hIv1 hP1 hD1 hS1 hl1
    refine lv_iinc (v := nI (5 * (k + 1))) (lv' := [(5, .int (nI (5 * (k + 1)))), (0, .ref b), (1, .ref (ad 0)), (2, .ref (qm 0)), (3, .ref oj), (4, .ref od)]) hx hb dL_law_1346 hl1 (k := 5) rfl (nI_add (5 * k) 5) (by decide) rfl (fun ls2 hl2 => ?_)
    refine lv_goto (tgt := 28) hx hb dL_law_1349 (by decide) ?_
    exact W.widen (k := c0 + 31 * (k + 1)) (n := s0 + 1806 * (k + 1)) (by omega) (by omega) (ih (k + 1) (by omega) (by omega) bad1 td1 n1 th1 M1 X1 w1 g1 gd1 H1 locs1 ls2 hE1 hIv1 hP1 hD1 hS1 (lv_sub hl2 [1, 2, 3, 4, 5, 0] rfl))
