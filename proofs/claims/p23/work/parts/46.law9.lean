/-! The law: from its entry -/
theorem ix30 {n : Nat} (hn : n ≤ 30) : ixBad n 30 := fun j hj e => by
  have e' : nI 30 = nI j := e
  rw [nI_iff (by decide) (by omega)] at e'
  omega
theorem LR.start : LR 0 0 M0 (fun _ => 0) (fun _ => 0) (fun _ => 0) (fun _ => 0) (flU (fun _ => 0) 10000000 32) (fun _ => 0) (fun _ => 0) :=
  ⟨fun i hi => absurd hi (Nat.not_lt_zero i), fun p _ => rfl, fun p _ => rfl, fun b _ => rfl, rfl, rfl⟩
set_option maxHeartbeats 4000000 in
set_option maxRecDepth 100000 in
theorem law_start {p : Program} {e : Env} {s : State} {m : MethodId} {below : List Frame} {meth : Method} {c : Code} (l : Launch) (hlt : l.stackTraces = false) {b L : Nat} {xs : Nat → Int32} (hL : L ≤ 260) (C0 : lw_At p s m meth c b L xs) : W p l e room_1 s m #[Value.ref b] below meth c s.heap [] 0 0 (lw_Z below #[Value.ref b] s) (entryFrame m ([Value.ref b] : List Value).toArray 11) := by
  obtain ⟨hx, hb, hr, hml, hown, htsT, hX, hbl, hlocks, hgv⟩ := id C0
  have hts : ∀ w ∈ wsL_law, w.before #[Value.ref b] s = true := fun w h => htsT w (wsL_law_in w h)
  obtain ⟨K, hG⟩ := kG0 htsT hgv
  generalize hA : (fun q : Nat => s.heap.size ≤ q) = A at hG
  have hbA : ¬ A b := by rw [← hA]; exact Nat.not_le.mpr hbl
  have hS : va_S A s.heap s.heap [] := va_S.rf
  have hP : va_P K.1 kCl [] s.heap := fun k q h => by simp at h
  have hD : va_D A [] := ⟨fun i j p q h => by simp at h, fun k q h => by simp at h⟩
  have hl := lv_entry ([.ref b]) (n := 11) (Nat.le_of_ble_eq_true rfl)
  rw [lg_entry_eq]
  generalize (lg_sl ([.ref b]) ++ List.replicate (11 - (lg_sl ([.ref b])).length) Slot.unset).toArray = ls at hl ⊢
  have hl : lv_has ls 11 [(0, .ref b)] := hl
  refine va_new (ci := 2) (fs := [.null, .null, .null, .null, .int 0, .null, .null]) (C := RX1) (T := TX1) (N := 7) hx hb hts inlX1 tyX1 tyX1_ok hown (hts (.classLink RL 9 RX1) (by decide +kernel)) (hts (.instantiable RX1 7) (by decide +kernel)) (hts (.initialized RX1) (by decide +kernel)) hG.1 hP hD hS hG.2.1 rfl (fun j hj => by rcases (show j = 0 ∨ j = 1 ∨ j = 2 ∨ j = 3 ∨ j = 4 ∨ j = 5 ∨ j = 6 by omega) with rfl | rfl | rfl | rfl | rfl | rfl | rfl <;> rfl) (Nat.le_of_ble_eq_true rfl) (Nat.le_of_ble_eq_true rfl) dL_law_0 (fun x H hP hD hS => ?_)
  have hP : va_P K.1 kCl [(x, .inr (2, [.null, .null, .null, .null, .int 0, .null, .null]))] H := hP
  have hD : va_D A [(x, .inr (2, [.null, .null, .null, .null, .int 0, .null, .null]))] := hD
  refine lv_dup hx hb dL_law_3 rfl ?_
  refine kc_v (va_runI (As := []) (rest := [.ref x]) ⟨hx, hb, hml, hown, hts⟩ (c_X1_init) (cwI 0 hts gL_law_X1_init rfl rfl rfl (hts (.initialized yX1_init.cls) (by decide +kernel)) (hts (.methodLink RL 139 yX1_init) (by decide +kernel)) (hts (.instanceMethod yX1_init) (by decide +kernel)) rfl (by decide +kernel) ⟨Nat.le_of_ble_eq_true rfl, Nat.le_of_ble_eq_true rfl⟩) (kps hG hP hD hS) rfl rfl hl.1 rfl (lv_room (Nat.le_of_ble_eq_true rfl)) dL_law_4 ⟨Nat.le_of_ble_eq_true rfl, Nat.le_of_ble_eq_true rfl⟩) hS (fun w H locs hp hP hD hS => ?_)
  obtain ⟨ad, bad, hx0, hDk⟩ := hp
  have hP9 := hP; have hD9 := hD; have hS9 := hS; have hl9 := hl
  subst hx0
  have hP := hP9; have hD := hD9; have hS := hS9; have hl := hl9
  refine lv_astore_n (lv' := [(1, .ref (ad 0)), (0, .ref b)]) hx hb dL_law_7 rfl hl (by decide) rfl (fun ls hl => ?_)
  refine lv_bipush (v := 60) hx hb dL_law_8 (by decide) ?_
  refine knewi hx hb (hts (.arrayClass .int) (by decide +kernel)) hG hP hD hS 60 rfl (Nat.le_of_ble_eq_true rfl) (Nat.le_of_ble_eq_true rfl) (Nat.le_of_ble_eq_true rfl) dL_law_10 (fun q1 H hP hD hS => ?_)
  refine lv_astore_n (lv' := [(2, .ref q1), (1, .ref (ad 0)), (0, .ref b)]) hx hb dL_law_12 rfl hl (by decide) rfl (fun ls hl => ?_)
  refine lv_bipush (v := 60) hx hb dL_law_13 (by decide) ?_
  refine knewi hx hb (hts (.arrayClass .int) (by decide +kernel)) hG hP hD hS 60 rfl (Nat.le_of_ble_eq_true rfl) (Nat.le_of_ble_eq_true rfl) (Nat.le_of_ble_eq_true rfl) dL_law_15 (fun q2 H hP hD hS => ?_)
  refine lv_astore_n (lv' := [(3, .ref q2), (2, .ref q1), (1, .ref (ad 0)), (0, .ref b)]) hx hb dL_law_17 rfl hl (by decide) rfl (fun ls hl => ?_)
  refine lv_bipush (v := 30) hx hb dL_law_18 (by decide) ?_
  refine knewi hx hb (hts (.arrayClass .int) (by decide +kernel)) hG hP hD hS 30 rfl (Nat.le_of_ble_eq_true rfl) (Nat.le_of_ble_eq_true rfl) (Nat.le_of_ble_eq_true rfl) dL_law_20 (fun q3 H hP hD hS => ?_)
  refine lv_astore (lv' := [(4, .ref q3), (3, .ref q2), (2, .ref q1), (1, .ref (ad 0)), (0, .ref b)]) hx hb dL_law_22 hl (by decide) rfl (fun ls hl => ?_)
  refine lv_bipush (v := 32) hx hb dL_law_24 (by decide) ?_
  refine knewi hx hb (hts (.arrayClass .int) (by decide +kernel)) hG hP hD hS 32 rfl (Nat.le_of_ble_eq_true rfl) (Nat.le_of_ble_eq_true rfl) (Nat.le_of_ble_eq_true rfl) dL_law_26 (fun q4 H hP hD hS => ?_)
  refine lv_astore (lv' := [(5, .ref q4), (4, .ref q3), (3, .ref q2), (2, .ref q1), (1, .ref (ad 0)), (0, .ref b)]) hx hb dL_law_28 hl (by decide) rfl (fun ls hl => ?_)
  refine lv_bipush (v := 32) hx hb dL_law_30 (by decide) ?_
  refine knewi hx hb (hts (.arrayClass .int) (by decide +kernel)) hG hP hD hS 32 rfl (Nat.le_of_ble_eq_true rfl) (Nat.le_of_ble_eq_true rfl) (Nat.le_of_ble_eq_true rfl) dL_law_32 (fun q5 H hP hD hS => ?_)
  refine lv_astore (lv' := [(6, .ref q5), (5, .ref q4), (4, .ref q3), (3, .ref q2), (2, .ref q1), (1, .ref (ad 0)), (0, .ref b)]) hx hb dL_law_34 hl (by decide) rfl (fun ls hl => ?_)
  refine lv_iconst (v := 4) hx hb dL_law_36 (by decide) ?_
  refine knewi hx hb (hts (.arrayClass .int) (by decide +kernel)) hG hP hD hS 4 rfl (Nat.le_of_ble_eq_true rfl) (Nat.le_of_ble_eq_true rfl) (Nat.le_of_ble_eq_true rfl) dL_law_37 (fun q6 H hP hD hS => ?_)
  refine lv_astore (lv' := [(7, .ref q6), (6, .ref q5), (5, .ref q4), (4, .ref q3), (3, .ref q2), (2, .ref q1), (1, .ref (ad 0)), (0, .ref b)]) hx hb dL_law_39 hl (by decide) rfl (fun ls hl => ?_)
  refine lv_iconst (v := 2) hx hb dL_law_41 (by decide) ?_
  refine knewi hx hb (hts (.arrayClass .int) (by decide +kernel)) hG hP hD hS 2 rfl (Nat.le_of_ble_eq_true rfl) (Nat.le_of_ble_eq_true rfl) (Nat.le_of_ble_eq_true rfl) dL_law_42 (fun q7 H hP hD hS => ?_)
  refine lv_astore (lv' := [(8, .ref q7), (7, .ref q6), (6, .ref q5), (5, .ref q4), (4, .ref q3), (3, .ref q2), (2, .ref q1), (1, .ref (ad 0)), (0, .ref b)]) hx hb dL_law_44 hl (by decide) rfl (fun ls hl => ?_)
  obtain ⟨qq, hqq⟩ : ∃ qq : Nat → Nat, qq 1 = q1 ∧ qq 2 = q2 ∧ qq 3 = q3 ∧ qq 4 = q4 ∧ qq 5 = q5 ∧ qq 6 = q6 ∧ qq 7 = q7 := ⟨fun i => [q1, q1, q2, q3, q4, q5, q6, q7].getD i 0, rfl, rfl, rfl, rfl, rfl, rfl, rfl⟩
  obtain ⟨rfl, rfl, rfl, rfl, rfl, rfl, rfl⟩ := hqq
  simp only [List.append_assoc] at hP hD
  have hP : va_P K.1 kCl (w ++ LA K qq (fun _ => 0) (fun _ => 0) (fun _ => 0) (fun _ => 0) (fun _ => 0) (fun _ => 0) (fun _ => 0)) H := hP
  have hD : va_D A (w ++ LA K qq (fun _ => 0) (fun _ => 0) (fun _ => 0) (fun _ => 0) (fun _ => 0) (fun _ => 0) (fun _ => 0)) := hD
  have hl : lv_has ls 11 [(8, .ref (qq 7)), (7, .ref (qq 6)), (6, .ref (qq 5)), (5, .ref (qq 4)), (4, .ref (qq 3)), (3, .ref (qq 2)), (2, .ref (qq 1)), (1, .ref (ad 0)), (0, .ref b)] := hl
  have hDk : DE K ad 0 0 M0 w := ⟨_, _, _, _, hDk⟩
  refine lv_iconst (v := 0) hx hb dL_law_46 (by decide) ?_
  refine lv_istore (lv' := [(9, .int 0), (8, .ref (qq 7)), (7, .ref (qq 6)), (6, .ref (qq 5)), (5, .ref (qq 4)), (4, .ref (qq 3)), (3, .ref (qq 2)), (2, .ref (qq 1)), (1, .ref (ad 0)), (0, .ref b)]) hx hb dL_law_47 hl (by decide) rfl (fun ls hl => ?_)
  have LOOP : ∀ (Q' : State → Prop), (∀ (w : va_W)  (ls : Array Slot) (H : Heap) (locs : List Loc), DE K ad 0 0 M0 w → va_P K.1 kCl (w ++ LA K qq (fun _ => 0) (fun _ => 0) (fun _ => 0) (fun _ => 0) (flU (fun _ => 0) 10000000 32) (fun _ => 0) (fun _ => 0)) H → va_D A (w ++ LA K qq (fun _ => 0) (fun _ => 0) (fun _ => 0) (fun _ => 0) (flU (fun _ => 0) 10000000 32) (fun _ => 0) (fun _ => 0)) → va_S A s.heap H locs → lv_has ls 11 [(0, .ref b), (1, .ref (ad 0)), (2, .ref (qq 1)), (3, .ref (qq 2)), (4, .ref (qq 3)), (5, .ref (qq 4)), (6, .ref (qq 5)), (7, .ref (qq 6)), (8, .ref (qq 7)), (9, .int (nI 32))] → W p l e (room_1) s m #[Value.ref b] below meth c H locs (0 + 1 + 6 + 1 + 1 + 1 + 1 + 1 + 1 + 1) (0 + 7 + 82 + 60 + 60 + 30 + 32 + 32 + 4 + 2) Q' (F0 m 69 ls [])) → ∀ (d j : Nat) (w : va_W)  (ls : Array Slot) (H : Heap) (locs : List Loc), j + d = 32 → DE K ad 0 0 M0 w → va_P K.1 kCl (w ++ LA K qq (fun _ => 0) (fun _ => 0) (fun _ => 0) (fun _ => 0) (flU (fun _ => 0) 10000000 j) (fun _ => 0) (fun _ => 0)) H → va_D A (w ++ LA K qq (fun _ => 0) (fun _ => 0) (fun _ => 0) (fun _ => 0) (flU (fun _ => 0) 10000000 j) (fun _ => 0) (fun _ => 0)) → va_S A s.heap H locs → lv_has ls 11 [(0, .ref b), (1, .ref (ad 0)), (2, .ref (qq 1)), (3, .ref (qq 2)), (4, .ref (qq 3)), (5, .ref (qq 4)), (6, .ref (qq 5)), (7, .ref (qq 6)), (8, .ref (qq 7)), (9, .int (nI j))] → W p l e (room_1) s m #[Value.ref b] below meth c H locs (0 + 1 + 6 + 1 + 1 + 1 + 1 + 1 + 1 + 1) (0 + 7 + 82 + 60 + 60 + 30 + 32 + 32 + 4 + 2) Q' (F0 m 49 ls []) := by
    intro Q' kx d
    induction d with
    | zero =>
      intro j w  ls H locs hk hDk hP hD hS hl
      have hk2 : j = 32 := by omega
      refine lv_iload hx hb dL_law_49 (lv_at hl 9 rfl) ?_
      refine lv_bipush (v := 32) hx hb dL_law_51 (by decide) ?_
      refine lv_icmp_ge (tgt := 69) hx hb dL_law_53 (by decide) (fun h53 => ?_) (fun h53 => False.elim (absurd (nI_le (Nat.le_of_eq hk2.symm) (by omega)) h53))
      have hk3 : 32 = j := hk2.symm
      subst hk3
      exact kx w  ls H locs hDk hP hD hS (lv_sub hl [0, 1, 2, 3, 4, 5, 6, 7, 8, 9] rfl)
    | succ d ih =>
      intro j w  ls H locs hk hDk hP hD hS hl
      have hk2 : j < 32 := by omega
      refine lv_iload hx hb dL_law_49 (lv_at hl 9 rfl) ?_
      refine lv_bipush (v := 32) hx hb dL_law_51 (by decide) ?_
      refine lv_icmp_ge (tgt := 69) hx hb dL_law_53 (by decide) (fun h53 => False.elim (absurd h53 (nI_ge (b := 32) hk2 (by decide)))) (fun h53 => ?_)
      refine lv_aload hx hb dL_law_56 (lv_at hl 6 rfl) ?_
      refine lv_iload hx hb dL_law_58 (lv_at hl 9 rfl) ?_
      refine lv_ldc (v := 10000000) hx hb hown (hts (.constant RL 140 10000000) (by decide +kernel)) dL_law_60 ?_
      refine kla_st (n := 32) (j := j) hx hb hG hP hD hS 4 rfl rfl (by omega) (by decide) dL_law_62 (fun H locs hP hD hS => ?_)
      have hP : va_P K.1 kCl (w ++ LA K qq (fun _ => 0) (fun _ => 0) (fun _ => 0) (fun _ => 0) (upd (flU (fun _ => 0) 10000000 j) j 10000000) (fun _ => 0) (fun _ => 0)) H := hP
      have hD : va_D A (w ++ LA K qq (fun _ => 0) (fun _ => 0) (fun _ => 0) (fun _ => 0) (upd (flU (fun _ => 0) 10000000 j) j 10000000) (fun _ => 0) (fun _ => 0)) := hD
      refine lv_iinc (v := nI (j + 1)) (lv' := [(9, .int (nI (j + 1))), (0, .ref b), (1, .ref (ad 0)), (2, .ref (qq 1)), (3, .ref (qq 2)), (4, .ref (qq 3)), (5, .ref (qq 4)), (6, .ref (qq 5)), (7, .ref (qq 6)), (8, .ref (qq 7))]) hx hb dL_law_63 hl (k := 9) rfl (kinc j) (by decide) rfl (fun ls hl => ?_)
      refine lv_goto (tgt := 49) hx hb dL_law_66 (by decide) ?_
      exact (ih (j + 1) w  ls H locs (by omega) hDk hP hD hS (lv_sub hl [1, 2, 3, 4, 5, 6, 7, 8, 9, 0] rfl))
  refine LOOP _ (fun w  ls H locs hDk hP hD hS hl => ?_) 32 0 w  ls _ _ (by omega) hDk hP hD hS (lv_sub hl [9, 8, 7, 6, 5, 4, 3, 2, 1, 0] rfl)
  have hLS : LSw K ad qq 0 (w ++ LA K qq (fun _ => 0) (fun _ => 0) (fun _ => 0) (fun _ => 0) (flU (fun _ => 0) 10000000 32) (fun _ => 0) (fun _ => 0)) := ⟨0, 0, M0, w, _, _, _, _, _, _, _, rfl, hDk, LR.start, Jv.start⟩
  generalize (w ++ LA K qq (fun _ => 0) (fun _ => 0) (fun _ => 0) (fun _ => 0) (flU (fun _ => 0) 10000000 32) (fun _ => 0) (fun _ => 0)) = w0 at hP hD hLS
  clear hDk
  refine lv_aload_n hx hb dL_law_69 rfl (lv_at hl 1 rfl) ?_
  refine lv_aload_n hx hb dL_law_70 rfl (lv_at hl 2 rfl) ?_
  refine lv_aload_n hx hb dL_law_71 rfl (lv_at hl 3 rfl) ?_
  refine lv_aload hx hb dL_law_72 (lv_at hl 4 rfl) ?_
  refine lv_aload hx hb dL_law_74 (lv_at hl 8 rfl) ?_
  refine kc_i (va_runS (As := [.ref (ad 0), .ref (qq 1), .ref (qq 2), .ref (qq 3), .ref (qq 7)]) (rest := []) ⟨hx, hb, hml, hown, hts⟩ (c_areBills hlt hLS (by omega)) (va_cwS 5 hts gL_law_L_areBills rfl rfl rfl (by decide +kernel) ⟨(Nat.le_of_ble_eq_true rfl), (Nat.le_of_ble_eq_true rfl)⟩) (kps hG hP hD hS) rfl rfl hl.1 rfl (lv_room (Nat.le_of_ble_eq_true rfl)) dL_law_76 ⟨(by show _ ≤ 919109; omega), (by show _ ≤ 6344299; omega)⟩) hS (fun r76 w H locs hp hP hD hS => ?_)
  obtain ⟨hv9, hp⟩ := hp
  rw [hv9]
  have hLS := hp
  refine lv_if_eq (tgt := 101) hx hb dL_law_79 (by decide) (fun h79 => False.elim (absurd h79 (by decide))) (fun h79 => ?_)
  refine lv_aload_n hx hb dL_law_82 rfl (lv_at hl 1 rfl) ?_
  refine lv_aload_n hx hb dL_law_83 rfl (lv_at hl 2 rfl) ?_
  refine lv_aload_n hx hb dL_law_84 rfl (lv_at hl 3 rfl) ?_
  refine lv_aload hx hb dL_law_85 (lv_at hl 5 rfl) ?_
  refine lv_aload hx hb dL_law_87 (lv_at hl 6 rfl) ?_
  refine lv_aload hx hb dL_law_89 (lv_at hl 8 rfl) ?_
  refine kc_i (va_runS (As := [.ref (ad 0), .ref (qq 1), .ref (qq 2), .ref (qq 4), .ref (qq 5), .ref (qq 7)]) (rest := []) ⟨hx, hb, hml, hown, hts⟩ (c_isMoney hlt hLS (by omega)) (va_cwS 6 hts gL_law_L_isMoney rfl rfl rfl (by decide +kernel) ⟨(Nat.le_of_ble_eq_true rfl), (Nat.le_of_ble_eq_true rfl)⟩) (kps hG hP hD hS) rfl rfl hl.1 rfl (lv_room (Nat.le_of_ble_eq_true rfl)) dL_law_91 ⟨(by show _ ≤ 919109; omega), (by show _ ≤ 6344299; omega)⟩) hS (fun r91 w H locs hp hP hD hS => ?_)
  obtain ⟨hv9, hp⟩ := hp
  rw [hv9]
  have hLS := hp
  refine lv_if_eq (tgt := 101) hx hb dL_law_94 (by decide) (fun h94 => False.elim (absurd h94 (by decide))) (fun h94 => ?_)
  refine lv_iconst (v := 1) hx hb dL_law_97 (by decide) ?_
  refine lv_goto (tgt := 102) hx hb dL_law_98 (by decide) ?_
  refine lv_istore (lv' := [(9, .int 1), (0, .ref b), (1, .ref (ad 0)), (2, .ref (qq 1)), (3, .ref (qq 2)), (4, .ref (qq 3)), (5, .ref (qq 4)), (6, .ref (qq 5)), (7, .ref (qq 6)), (8, .ref (qq 7))]) hx hb dL_law_102 hl (by decide) rfl (fun ls hl => ?_)
  refine lv_iconst (v := 0) hx hb dL_law_104 (by decide) ?_
  refine lv_istore (lv' := [(10, .int 0), (9, .int 1), (0, .ref b), (1, .ref (ad 0)), (2, .ref (qq 1)), (3, .ref (qq 2)), (4, .ref (qq 3)), (5, .ref (qq 4)), (6, .ref (qq 5)), (7, .ref (qq 6)), (8, .ref (qq 7))]) hx hb dL_law_105 hl (by decide) rfl (fun ls hl => ?_)
  refine W.widen (k := 26 + 102 * 0) (n := 400 + 5472 * 0) (Nat.le_of_ble_eq_true rfl) (Nat.le_of_ble_eq_true rfl) ?_
  have LOOP : ∀ (Q' : State → Prop), (∀ (w : va_W)  (ls : Array Slot) (H : Heap) (locs : List Loc), LSw K ad qq 64 w → va_P K.1 kCl (w) H → va_D A (w) → va_S A s.heap H locs → lv_has ls 11 [(0, .ref b), (1, .ref (ad 0)), (2, .ref (qq 1)), (3, .ref (qq 2)), (4, .ref (qq 3)), (5, .ref (qq 4)), (6, .ref (qq 5)), (7, .ref (qq 6)), (8, .ref (qq 7)), (9, .int 1), (10, .int (nI 64))] → W p l e (room_1) s m #[Value.ref b] below meth c H locs (26 + 102 * 64) (400 + 5472 * 64) Q' (F0 m 184 ls [])) → ∀ (d j : Nat) (w : va_W)  (ls : Array Slot) (H : Heap) (locs : List Loc), j + d = 64 → LSw K ad qq j w → va_P K.1 kCl (w) H → va_D A (w) → va_S A s.heap H locs → lv_has ls 11 [(0, .ref b), (1, .ref (ad 0)), (2, .ref (qq 1)), (3, .ref (qq 2)), (4, .ref (qq 3)), (5, .ref (qq 4)), (6, .ref (qq 5)), (7, .ref (qq 6)), (8, .ref (qq 7)), (9, .int 1), (10, .int (nI j))] → W p l e (room_1) s m #[Value.ref b] below meth c H locs (26 + 102 * j) (400 + 5472 * j) Q' (F0 m 107 ls []) := by
    intro Q' kx d
    induction d with
    | zero =>
      intro j w  ls H locs hk hDk hP hD hS hl
      have hk2 : j = 64 := by omega
      refine lv_iload hx hb dL_law_107 (lv_at hl 10 rfl) ?_
      refine lv_bipush (v := 64) hx hb dL_law_109 (by decide) ?_
      refine lv_icmp_ge (tgt := 184) hx hb dL_law_111 (by decide) (fun h111 => ?_) (fun h111 => False.elim (absurd (nI_le (Nat.le_of_eq hk2.symm) (by omega)) h111))
      have hk3 : 64 = j := hk2.symm
      subst hk3
      exact kx w  ls H locs hDk hP hD hS (lv_sub hl [0, 1, 2, 3, 4, 5, 6, 7, 8, 9, 10] rfl)
    | succ d ih =>
      intro j w  ls H locs hk hDk hP hD hS hl
      have hk2 : j < 64 := by omega
      have hLS := hDk
      refine lv_iload hx hb dL_law_107 (lv_at hl 10 rfl) ?_
      refine lv_bipush (v := 64) hx hb dL_law_109 (by decide) ?_
      refine lv_icmp_ge (tgt := 184) hx hb dL_law_111 (by decide) (fun h111 => False.elim (absurd h111 (nI_ge (b := 64) hk2 (by decide)))) (fun h111 => ?_)
      refine lv_iload hx hb dL_law_114 (lv_at hl 9 rfl) ?_
      refine lv_if_eq (tgt := 184) hx hb dL_law_116 (by decide) (fun h116 => False.elim (absurd h116 (by decide))) (fun h116 => ?_)
      refine lv_aload_n hx hb dL_law_119 rfl (lv_at hl 1 rfl) ?_
      refine lv_aload_n hx hb dL_law_120 rfl (lv_at hl 0 rfl) ?_
      refine lv_iconst (v := 4) hx hb dL_law_121 (by decide) ?_
      refine lv_iload hx hb dL_law_122 (lv_at hl 10 rfl) ?_
      refine lv_imul hx hb dL_law_124 ?_
      refine ktop (z := nI (4 * j)) (pk_mul 4 j) ?_
      refine lv_aload_n hx hb dL_law_125 rfl (lv_at hl 2 rfl) ?_
      refine lv_aload_n hx hb dL_law_126 rfl (lv_at hl 3 rfl) ?_
      refine lv_aload hx hb dL_law_127 (lv_at hl 4 rfl) ?_
      refine lv_aload hx hb dL_law_129 (lv_at hl 5 rfl) ?_
      refine lv_aload hx hb dL_law_131 (lv_at hl 6 rfl) ?_
      refine lv_aload hx hb dL_law_133 (lv_at hl 7 rfl) ?_
      refine lv_aload hx hb dL_law_135 (lv_at hl 8 rfl) ?_
      obtain ⟨td, n, M, w2, fb, ft, fn, fm, fl, fu, fg, rfl, hDk, hR, hJ⟩ := hLS
      refine kc_i (va_runS (As := [.ref (ad 0), .ref b, .int (nI (4 * j)), .ref (qq 1), .ref (qq 2), .ref (qq 3), .ref (qq 4), .ref (qq 5), .ref (qq 6), .ref (qq 7)]) (rest := []) ⟨hx, hb, hml, hown, hts⟩ (c_isDone (xs := xs) hlt hDk hR hJ (by omega) hL (by omega)) (va_cwS 10 hts gL_law_L_isDone rfl rfl rfl (by decide +kernel) ⟨(Nat.le_of_ble_eq_true rfl), (Nat.le_of_ble_eq_true rfl)⟩) (kpsX hG hP hD hS hX hbl hbA) rfl rfl hl.1 rfl (lv_room (Nat.le_of_ble_eq_true rfl)) dL_law_137 ⟨(by show _ ≤ 919109; omega), (by show _ ≤ 6344299; omega)⟩) hS (fun r137 w H locs hp hP hD hS => ?_)
      obtain ⟨hv9, hp⟩ := hp
      rw [hv9]
      have hLS := hp
      refine lv_if_eq (tgt := 175) hx hb dL_law_140 (by decide) (fun h140 => False.elim (absurd h140 (by decide))) (fun h140 => ?_)
      refine lv_aload_n hx hb dL_law_143 rfl (lv_at hl 1 rfl) ?_
      refine lv_aload_n hx hb dL_law_144 rfl (lv_at hl 2 rfl) ?_
      refine lv_aload_n hx hb dL_law_145 rfl (lv_at hl 3 rfl) ?_
      refine lv_aload hx hb dL_law_146 (lv_at hl 4 rfl) ?_
      refine lv_aload hx hb dL_law_148 (lv_at hl 8 rfl) ?_
      refine kc_i (va_runS (As := [.ref (ad 0), .ref (qq 1), .ref (qq 2), .ref (qq 3), .ref (qq 7)]) (rest := []) ⟨hx, hb, hml, hown, hts⟩ (c_areBills hlt hLS (by omega)) (va_cwS 5 hts gL_law_L_areBills rfl rfl rfl (by decide +kernel) ⟨(Nat.le_of_ble_eq_true rfl), (Nat.le_of_ble_eq_true rfl)⟩) (kps hG hP hD hS) rfl rfl hl.1 rfl (lv_room (Nat.le_of_ble_eq_true rfl)) dL_law_150 ⟨(by show _ ≤ 919109; omega), (by show _ ≤ 6344299; omega)⟩) hS (fun r150 w H locs hp hP hD hS => ?_)
      obtain ⟨hv9, hp⟩ := hp
      rw [hv9]
      have hLS := hp
      refine lv_if_eq (tgt := 175) hx hb dL_law_153 (by decide) (fun h153 => False.elim (absurd h153 (by decide))) (fun h153 => ?_)
      refine lv_aload_n hx hb dL_law_156 rfl (lv_at hl 1 rfl) ?_
      refine lv_aload_n hx hb dL_law_157 rfl (lv_at hl 2 rfl) ?_
      refine lv_aload_n hx hb dL_law_158 rfl (lv_at hl 3 rfl) ?_
      refine lv_aload hx hb dL_law_159 (lv_at hl 5 rfl) ?_
      refine lv_aload hx hb dL_law_161 (lv_at hl 6 rfl) ?_
      refine lv_aload hx hb dL_law_163 (lv_at hl 8 rfl) ?_
      refine kc_i (va_runS (As := [.ref (ad 0), .ref (qq 1), .ref (qq 2), .ref (qq 4), .ref (qq 5), .ref (qq 7)]) (rest := []) ⟨hx, hb, hml, hown, hts⟩ (c_isMoney hlt hLS (by omega)) (va_cwS 6 hts gL_law_L_isMoney rfl rfl rfl (by decide +kernel) ⟨(Nat.le_of_ble_eq_true rfl), (Nat.le_of_ble_eq_true rfl)⟩) (kps hG hP hD hS) rfl rfl hl.1 rfl (lv_room (Nat.le_of_ble_eq_true rfl)) dL_law_165 ⟨(by show _ ≤ 919109; omega), (by show _ ≤ 6344299; omega)⟩) hS (fun r165 w H locs hp hP hD hS => ?_)
      obtain ⟨hv9, hp⟩ := hp
      rw [hv9]
      have hLS := hp
      refine lv_if_eq (tgt := 175) hx hb dL_law_168 (by decide) (fun h168 => False.elim (absurd h168 (by decide))) (fun h168 => ?_)
      refine lv_iconst (v := 1) hx hb dL_law_171 (by decide) ?_
      refine lv_goto (tgt := 176) hx hb dL_law_172 (by decide) ?_
      refine lv_istore (lv' := [(9, .int 1), (0, .ref b), (1, .ref (ad 0)), (2, .ref (qq 1)), (3, .ref (qq 2)), (4, .ref (qq 3)), (5, .ref (qq 4)), (6, .ref (qq 5)), (7, .ref (qq 6)), (8, .ref (qq 7)), (10, .int (nI j))]) hx hb dL_law_176 hl (by decide) rfl (fun ls hl => ?_)
      refine lv_iinc (v := nI (j + 1)) (lv' := [(10, .int (nI (j + 1))), (9, .int 1), (0, .ref b), (1, .ref (ad 0)), (2, .ref (qq 1)), (3, .ref (qq 2)), (4, .ref (qq 3)), (5, .ref (qq 4)), (6, .ref (qq 5)), (7, .ref (qq 6)), (8, .ref (qq 7))]) hx hb dL_law_178 hl (k := 10) rfl (kinc j) (by decide) rfl (fun ls hl => ?_)
      refine lv_goto (tgt := 107) hx hb dL_law_181 (by decide) ?_
      exact W.widen (k := 26 + 102 * (j + 1)) (n := 400 + 5472 * (j + 1)) (by omega) (by omega) (ih (j + 1) w  ls H locs (by omega) hLS hP hD hS (lv_sub hl [2, 3, 4, 5, 6, 7, 8, 9, 10, 1, 0] rfl))
  refine LOOP _ (fun w  ls H locs hDk hP hD hS hl => ?_) 64 0 w  ls _ _ (by omega) hLS hP hD hS (lv_sub hl [2, 3, 4, 5, 6, 7, 8, 9, 10, 1, 0] rfl)
  have hLS := hDk
  refine lv_iload hx hb dL_law_184 (lv_at hl 9 rfl) ?_
  refine lv_if_eq (tgt := 265) hx hb dL_law_186 (by decide) (fun h186 => False.elim (absurd h186 (by decide))) (fun h186 => ?_)
  obtain ⟨td, n, M, w, fb, ft, fn, fm, fl, fu, fg, rfl, hDk, hR, hJ⟩ := hLS
  have hn30 := hJ.1.1.1
  refine lv_aload_n hx hb dL_law_189 rfl (lv_at hl 1 rfl) ?_
  refine lv_iconst (v := 2) hx hb dL_law_190 (by decide) ?_
  refine lv_iconst (v := 4) hx hb dL_law_191 (by decide) ?_
  refine lv_iconst (v := 0) hx hb dL_law_192 (by decide) ?_
  refine lv_iconst (v := 0) hx hb dL_law_193 (by decide) ?_
  refine lv_iconst (v := 0) hx hb dL_law_194 (by decide) ?_
  refine kf_i (W2 := LA K qq fb ft fn fm fl fu fg) (vx_runSW (As := [.ref (ad 0), .int 2, .int 4, .int 0, .int 0, .int 0]) (rest := []) ⟨hx, hb, hml, hown, hts⟩ (h_bill_tb hDk hlt ix44) (vx_cwSW 6 hts gL_law_L_does rfl rfl rfl (by decide +kernel) ⟨(Nat.le_of_ble_eq_true rfl), (Nat.le_of_ble_eq_true rfl)⟩) (lps hG hP hD hS) rfl rfl hl.1 rfl (lv_room (Nat.le_of_ble_eq_true rfl)) dL_law_195 ⟨(by show _ ≤ 919109; omega), (by show _ ≤ 6344299; omega)⟩) hS hP hD (fun r195 w H locs hp hP hD hS => ?_)
  obtain ⟨hv9, hp⟩ := hp
  rw [hv9]
  have hDk : DE K ad td n M w := hp
  refine lv_bipush (v := (-30)) hx hb dL_law_198 (by decide) ?_
  refine lv_icmp_ne (tgt := 265) hx hb dL_law_200 (by decide) (fun h200 => False.elim (absurd (by decide) h200)) (fun h200 => ?_)
  refine lv_aload_n hx hb dL_law_203 rfl (lv_at hl 1 rfl) ?_
  refine lv_iconst (v := 2) hx hb dL_law_204 (by decide) ?_
  refine lv_iconst (v := 0) hx hb dL_law_205 (by decide) ?_
  refine lv_iconst (v := 0) hx hb dL_law_206 (by decide) ?_
  refine lv_iconst (v := 0) hx hb dL_law_207 (by decide) ?_
  refine lv_iconst (v := 1) hx hb dL_law_208 (by decide) ?_
  refine kf_i (W2 := LA K qq fb ft fn fm fl fu fg) (vx_runSW (As := [.ref (ad 0), .int 2, .int 0, .int 0, .int 0, .int 1]) (rest := []) ⟨hx, hb, hml, hown, hts⟩ (h_bill_tc hDk hlt (b := 0) (u := 0) (by decide) (by decide) (by decide)) (vx_cwSW 6 hts gL_law_L_does rfl rfl rfl (by decide +kernel) ⟨(Nat.le_of_ble_eq_true rfl), (Nat.le_of_ble_eq_true rfl)⟩) (lps hG hP hD hS) rfl rfl hl.1 rfl (lv_room (Nat.le_of_ble_eq_true rfl)) dL_law_209 ⟨(by show _ ≤ 919109; omega), (by show _ ≤ 6344299; omega)⟩) hS hP hD (fun r209 w H locs hp hP hD hS => ?_)
  obtain ⟨hv9, hp⟩ := hp
  rw [hv9]
  have hDk : DE K ad td n M w := hp
  refine lv_bipush (v := (-20)) hx hb dL_law_212 (by decide) ?_
  refine lv_icmp_ne (tgt := 265) hx hb dL_law_214 (by decide) (fun h214 => False.elim (absurd (by decide) h214)) (fun h214 => ?_)
  refine lv_aload_n hx hb dL_law_217 rfl (lv_at hl 1 rfl) ?_
  refine lv_bipush (v := 8) hx hb dL_law_218 (by decide) ?_
  refine lv_iconst (v := 0) hx hb dL_law_220 (by decide) ?_
  refine lv_iconst (v := 0) hx hb dL_law_221 (by decide) ?_
  refine lv_iconst (v := 0) hx hb dL_law_222 (by decide) ?_
  refine lv_iconst (v := 0) hx hb dL_law_223 (by decide) ?_
  refine kf_i (W2 := LA K qq fb ft fn fm fl fu fg) (vx_runSW (As := [.ref (ad 0), .int 8, .int 0, .int 0, .int 0, .int 0]) (rest := []) ⟨hx, hb, hml, hown, hts⟩ (h_pass_tr hDk hlt (by decide)) (vx_cwSW 6 hts gL_law_L_does rfl rfl rfl (by decide +kernel) ⟨(Nat.le_of_ble_eq_true rfl), (Nat.le_of_ble_eq_true rfl)⟩) (lps hG hP hD hS) rfl rfl hl.1 rfl (lv_room (Nat.le_of_ble_eq_true rfl)) dL_law_224 ⟨(by show _ ≤ 919109; omega), (by show _ ≤ 6344299; omega)⟩) hS hP hD (fun r224 w H locs hp hP hD hS => ?_)
  obtain ⟨hv9, hp⟩ := hp
  rw [hv9]
  have hDk : DE K ad td n M w := hp
  refine lv_bipush (v := (-20)) hx hb dL_law_227 (by decide) ?_
  refine lv_icmp_ne (tgt := 265) hx hb dL_law_229 (by decide) (fun h229 => False.elim (absurd (by decide) h229)) (fun h229 => ?_)
  refine lv_aload_n hx hb dL_law_232 rfl (lv_at hl 1 rfl) ?_
  refine lv_iconst (v := 0) hx hb dL_law_233 (by decide) ?_
  refine lv_iconst (v := (-1)) hx hb dL_law_234 (by decide) ?_
  refine lv_iconst (v := (-1)) hx hb dL_law_235 (by decide) ?_
  refine lv_iconst (v := 0) hx hb dL_law_236 (by decide) ?_
  refine lv_iconst (v := 0) hx hb dL_law_237 (by decide) ?_
  refine kf_i (W2 := LA K qq fb ft fn fm fl fu fg) (vx_runSW (As := [.ref (ad 0), .int 0, .int (-1), .int (-1), .int 0, .int 0]) (rest := []) ⟨hx, hb, hml, hown, hts⟩ (h_setBudget_tb hDk hlt (ixm (n := 4) (by decide))) (vx_cwSW 6 hts gL_law_L_does rfl rfl rfl (by decide +kernel) ⟨(Nat.le_of_ble_eq_true rfl), (Nat.le_of_ble_eq_true rfl)⟩) (lps hG hP hD hS) rfl rfl hl.1 rfl (lv_room (Nat.le_of_ble_eq_true rfl)) dL_law_238 ⟨(by show _ ≤ 919109; omega), (by show _ ≤ 6344299; omega)⟩) hS hP hD (fun r238 w H locs hp hP hD hS => ?_)
  obtain ⟨hv9, hp⟩ := hp
  rw [hv9]
  have hDk : DE K ad td n M w := hp
  refine lv_bipush (v := (-30)) hx hb dL_law_241 (by decide) ?_
  refine lv_icmp_ne (tgt := 265) hx hb dL_law_243 (by decide) (fun h243 => False.elim (absurd (by decide) h243)) (fun h243 => ?_)
  refine lv_aload_n hx hb dL_law_246 rfl (lv_at hl 1 rfl) ?_
  refine lv_iconst (v := 3) hx hb dL_law_247 (by decide) ?_
  refine lv_bipush (v := 30) hx hb dL_law_248 (by decide) ?_
  refine lv_iconst (v := 0) hx hb dL_law_250 (by decide) ?_
  refine lv_iconst (v := 0) hx hb dL_law_251 (by decide) ?_
  refine lv_iconst (v := 0) hx hb dL_law_252 (by decide) ?_
  refine kf_i (W2 := LA K qq fb ft fn fm fl fu fg) (vx_runSW (As := [.ref (ad 0), .int 3, .int 30, .int 0, .int 0, .int 0]) (rest := []) ⟨hx, hb, hml, hown, hts⟩ (h_approve_tb hDk hlt (ix30 hn30)) (vx_cwSW 6 hts gL_law_L_does rfl rfl rfl (by decide +kernel) ⟨(Nat.le_of_ble_eq_true rfl), (Nat.le_of_ble_eq_true rfl)⟩) (lps hG hP hD hS) rfl rfl hl.1 rfl (lv_room (Nat.le_of_ble_eq_true rfl)) dL_law_253 ⟨(by show _ ≤ 919109; omega), (by show _ ≤ 6344299; omega)⟩) hS hP hD (fun r253 w H locs hp hP hD hS => ?_)
  obtain ⟨hv9, hp⟩ := hp
  rw [hv9]
  have hDk : DE K ad td n M w := hp
  refine lv_bipush (v := (-30)) hx hb dL_law_256 (by decide) ?_
  refine lv_icmp_ne (tgt := 265) hx hb dL_law_258 (by decide) (fun h258 => False.elim (absurd (by decide) h258)) (fun h258 => ?_)
  refine lv_iconst (v := 1) hx hb dL_law_261 (by decide) ?_
  refine lv_goto (tgt := 266) hx hb dL_law_262 (by decide) ?_
  refine W.widen (k := 919109) (n := 6344299) (Nat.le_of_ble_eq_true rfl) (Nat.le_of_ble_eq_true rfl) (va_forget (fun q hq => by have := hS.2.2 q hq; rw [← hA] at this; exact this) ?_)
  refine W.base ?_
  exact lw_ret (d0 := s.drawn) (Drawn.sameBut.refl s.drawn lw_cs) hx hb hr hlocks dL_law_266
