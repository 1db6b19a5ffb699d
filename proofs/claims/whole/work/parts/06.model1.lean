/-! The reference, 1: small checks, setBudget -/
set_option maxHeartbeats 4000000 in
set_option maxRecDepth 100000 in
theorem c_X2_thrown {l : Launch} {K : Ks} {A : Nat → Prop} {qm : Nat → Nat} {td nb th : Int32} {M X : Nat → Nat → Int32}  : Met l yX2_thrown wsX2_thrown (kR 0 0 0) (kPr K A [.ref (qm 0)] (Mfix K qm td nb th M X)) (kQi K A (fun r w => r = th ∧ w = Mfix K qm td nb th M X)) 0 0 A := by
  refine kent (cc := cX2_thrown) (maxL := 1) (ret := (some .int)) (by decide) rfl (Nat.le_of_ble_eq_true rfl) ?_
  intro p e s m args below meth c ls hx hb hr hts hown hlocks hml hini hG hP hD hS hl
  have hinX2 : ∀ x ∈ wsX20, x ∈ wsX2_thrown := by decide +kernel
  have hl : lv_has ls 1 [(0, .ref (qm 0))] := hl
  refine lv_aload_n hx hb dX2_thrown_0 rfl (lv_at hl 0 rfl) ?_
  refine kget (ci := 3) (C := RX2) (T := TX2) (N := 18) hx hb hts hown hG hP 0 rfl rfl hinX2 17 (by decide) (by decide +kernel) rfl dX2_thrown_1 ?_
  exact kr_i hx hb hr hlocks hP hD hS (Nat.zero_le _) (Nat.zero_le _) (⟨rfl, rfl⟩) dX2_thrown_4
set_option maxHeartbeats 4000000 in
set_option maxRecDepth 100000 in
theorem c_X2_today0 {l : Launch} {K : Ks} {A : Nat → Prop} {qm : Nat → Nat} {td nb th : Int32} {M X : Nat → Nat → Int32}  : Met l yX2_today wsX2_today (kR 0 0 0) (kPr K A [.ref (qm 0)] (Mfix K qm td nb th M X)) (kQi K A (fun r w => r = td ∧ w = Mfix K qm td nb 0 M X)) 0 0 A := by
  refine kent (cc := cX2_today) (maxL := 1) (ret := (some .int)) (by decide) rfl (Nat.le_of_ble_eq_true rfl) ?_
  intro p e s m args below meth c ls hx hb hr hts hown hlocks hml hini hG hP hD hS hl
  have hinX2 : ∀ x ∈ wsX20, x ∈ wsX2_today := by decide +kernel
  have hl : lv_has ls 1 [(0, .ref (qm 0))] := hl
  refine lv_aload_n hx hb dX2_today_0 rfl (lv_at hl 0 rfl) ?_
  refine lv_iconst (v := 0) hx hb dX2_today_1 (by decide) ?_
  refine kput (ci := 3) (C := RX2) (T := TX2) (N := 18) hx hb hts hown hG hP hD hS 0 rfl rfl hinX2 tyX2 tyX2_ok nmX2 17 (by decide) (by decide +kernel) rfl (by decide +kernel) (Nat.le_of_ble_eq_true rfl) dX2_today_2 (fun H locs hP hD hS => ?_)
  have hP : va_P K.1 kCl (Mfix K qm td nb 0 M X) H := hP
  have hD : va_D A (Mfix K qm td nb 0 M X) := hD
  refine lv_aload_n hx hb dX2_today_5 rfl (lv_at hl 0 rfl) ?_
  refine kget (ci := 3) (C := RX2) (T := TX2) (N := 18) hx hb hts hown hG hP 0 rfl rfl hinX2 0 (by decide) (by decide +kernel) rfl dX2_today_6 ?_
  exact kr_i hx hb hr hlocks hP hD hS (Nat.zero_le _) (Nat.zero_le _) (⟨rfl, rfl⟩) dX2_today_9
set_option maxHeartbeats 4000000 in
set_option maxRecDepth 100000 in
theorem c_X2_fails {l : Launch} {K : Ks} {A : Nat → Prop} {qm : Nat → Nat} {td nb th : Int32} {M X : Nat → Nat → Int32} {x z : Int32} (hz : z = bi (decide (¬ x ≤ 0))) : Met l yX2_fails wsX2_fails (kR 0 0 0) (kPr K A [.ref (qm 0), .int x] (Mfix K qm td nb th M X)) (kQi K A (fun r w => r = z ∧ w = Mfix K qm td nb x M X)) 0 0 A := by
  refine kent (cc := cX2_fails) (maxL := 2) (ret := (some .boolean)) (by decide) rfl (Nat.le_of_ble_eq_true rfl) ?_
  intro p e s m args below meth c ls hx hb hr hts hown hlocks hml hini hG hP hD hS hl
  have hinX2 : ∀ x ∈ wsX20, x ∈ wsX2_fails := by decide +kernel
  have hl : lv_has ls 2 [(0, .ref (qm 0)), (1, .int x)] := hl
  refine lv_aload_n hx hb dX2_fails_0 rfl (lv_at hl 0 rfl) ?_
  refine lv_iload_n hx hb dX2_fails_1 rfl (lv_at hl 1 rfl) ?_
  refine kput (ci := 3) (C := RX2) (T := TX2) (N := 18) hx hb hts hown hG hP hD hS 0 rfl rfl hinX2 tyX2 tyX2_ok nmX2 17 (by decide) (by decide +kernel) rfl (by decide +kernel) (Nat.le_of_ble_eq_true rfl) dX2_fails_2 (fun H locs hP hD hS => ?_)
  have hP : va_P K.1 kCl (Mfix K qm td nb x M X) H := hP
  have hD : va_D A (Mfix K qm td nb x M X) := hD
  refine lv_iload_n hx hb dX2_fails_5 rfl (lv_at hl 1 rfl) ?_
  refine lv_if_le (tgt := 13) hx hb dX2_fails_6 (by decide) (fun h6 => ?_) (fun h6 => ?_)
  · refine lv_iconst (v := 0) hx hb dX2_fails_13 (by decide) ?_
    exact kr_z hx hb hr hlocks hP hD hS (Nat.zero_le _) (Nat.zero_le _) (by first | exact Or.inl rfl | exact Or.inr rfl) (⟨by rw [hz]; exact (bi_f (fun q => q h6)).symm, rfl⟩) dX2_fails_14
  · refine lv_iconst (v := 1) hx hb dX2_fails_9 (by decide) ?_
    refine lv_goto (tgt := 14) hx hb dX2_fails_10 (by decide) ?_
    exact kr_z hx hb hr hlocks hP hD hS (Nat.zero_le _) (Nat.zero_le _) (by first | exact Or.inl rfl | exact Or.inr rfl) (⟨by rw [hz]; exact (bi_t h6).symm, rfl⟩) dX2_fails_14
set_option maxHeartbeats 4000000 in
set_option maxRecDepth 100000 in
theorem c_X2_isIn {l : Launch} {K : Ks} {A : Nat → Prop} {w0 : va_W} {x lo hi z : Int32} (hz : z = bi (decide (inR lo hi x))) : Met l yX2_isIn wsX2_isIn (kR 0 0 0) (kPr K A [.int x, .int lo, .int hi] (w0)) (kQi K A (fun r w => r = z ∧ w = w0)) 0 0 A := by
  refine kent (cc := cX2_isIn) (maxL := 3) (ret := (some .boolean)) (by decide) rfl (Nat.le_of_ble_eq_true rfl) ?_
  intro p e s m args below meth c ls hx hb hr hts hown hlocks hml hini hG hP hD hS hl
  have hl : lv_has ls 3 [(0, .int x), (1, .int lo), (2, .int hi)] := hl
  refine lv_iload_n hx hb dX2_isIn_0 rfl (lv_at hl 0 rfl) ?_
  refine lv_iload_n hx hb dX2_isIn_1 rfl (lv_at hl 1 rfl) ?_
  refine lv_icmp_lt (tgt := 14) hx hb dX2_isIn_2 (by decide) (fun h2 => ?_) (fun h2 => ?_)
  · refine lv_iconst (v := 0) hx hb dX2_isIn_14 (by decide) ?_
    exact kr_z hx hb hr hlocks hP hD hS (Nat.zero_le _) (Nat.zero_le _) (by first | exact Or.inl rfl | exact Or.inr rfl) (⟨by rw [hz]; exact (bi_f (fun q => q.1 h2)).symm, rfl⟩) dX2_isIn_15
  · refine lv_iload_n hx hb dX2_isIn_5 rfl (lv_at hl 0 rfl) ?_
    refine lv_iload_n hx hb dX2_isIn_6 rfl (lv_at hl 2 rfl) ?_
    refine lv_icmp_gt (tgt := 14) hx hb dX2_isIn_7 (by decide) (fun h7 => ?_) (fun h7 => ?_)
    · refine lv_iconst (v := 0) hx hb dX2_isIn_14 (by decide) ?_
      exact kr_z hx hb hr hlocks hP hD hS (Nat.zero_le _) (Nat.zero_le _) (by first | exact Or.inl rfl | exact Or.inr rfl) (⟨by rw [hz]; exact (bi_f (fun q => q.2 h7)).symm, rfl⟩) dX2_isIn_15
    · refine lv_iconst (v := 1) hx hb dX2_isIn_10 (by decide) ?_
      refine lv_goto (tgt := 15) hx hb dX2_isIn_11 (by decide) ?_
      exact kr_z hx hb hr hlocks hP hD hS (Nat.zero_le _) (Nat.zero_le _) (by first | exact Or.inl rfl | exact Or.inr rfl) (⟨by rw [hz]; exact (bi_t ⟨h2, h7⟩).symm, rfl⟩) dX2_isIn_15
set_option maxHeartbeats 4000000 in
set_option maxRecDepth 100000 in
theorem c_X2_isBuyer {l : Launch} {K : Ks} {A : Nat → Prop} {w0 : va_W} {x z : Int32} (hz : z = bi (decide (inR 0 3 x))) : Met l yX2_isBuyer wsX2_isBuyer (kR 1 0 0) (kPr K A [.int x] (w0)) (kQi K A (fun r w => r = z ∧ w = w0)) 0 0 A := by
  refine kent (cc := cX2_isBuyer) (maxL := 1) (ret := (some .boolean)) (by decide) rfl (Nat.le_of_ble_eq_true rfl) ?_
  intro p e s m args below meth c ls hx hb hr hts hown hlocks hml hini hG hP hD hS hl
  have hl : lv_has ls 1 [(0, .int x)] := hl
  refine lv_iload_n hx hb dX2_isBuyer_0 rfl (lv_at hl 0 rfl) ?_
  refine lv_iconst (v := 0) hx hb dX2_isBuyer_1 (by decide) ?_
  refine lv_iconst (v := 3) hx hb dX2_isBuyer_2 (by decide) ?_
  refine kc_i (va_runS (As := [.int x, .int 0, .int 3]) (rest := []) ⟨hx, hb, hml, hown, hts⟩ (c_X2_isIn (z := z) hz) (va_cwS 3 hts gX2_isBuyer_X2_isIn rfl rfl rfl (by decide +kernel) ⟨Nat.le_of_ble_eq_true rfl, Nat.le_of_ble_eq_true rfl⟩) (kps hG hP hD hS) rfl rfl hl.1 rfl (lv_room (Nat.le_of_ble_eq_true rfl)) dX2_isBuyer_3 ⟨Nat.le_of_ble_eq_true rfl, Nat.le_of_ble_eq_true rfl⟩) hS (fun r3 w H locs hp hP hD hS => ?_)
  rw [hp.2] at hP hD
  rw [hp.1]
  exact kr_z hx hb hr hlocks hP hD hS (Nat.zero_le _) (Nat.zero_le _) (by rw [hz]; exact bi_or _) (⟨rfl, rfl⟩) dX2_isBuyer_6
set_option maxHeartbeats 4000000 in
set_option maxRecDepth 100000 in
theorem c_X2_isPair_ok {l : Launch} {K : Ks} {A : Nat → Prop} {w0 : va_W} {b o : Nat} (hx4 : b < 4) (hx8 : o < 8) : Met l yX2_isPair wsX2_isPair (kR 2 0 0) (kPr K A [.int (nI b), .int (nI o)] (w0)) (kQi K A (fun r w => r = 1 ∧ w = w0)) 0 0 A := by
  refine kent (cc := cX2_isPair) (maxL := 2) (ret := (some .boolean)) (by decide) rfl (Nat.le_of_ble_eq_true rfl) ?_
  intro p e s m args below meth c ls hx hb hr hts hown hlocks hml hini hG hP hD hS hl
  have hl : lv_has ls 2 [(0, .int (nI b)), (1, .int (nI o))] := hl
  refine lv_iload_n hx hb dX2_isPair_0 rfl (lv_at hl 0 rfl) ?_
  refine kc_i (va_runS (As := [.int (nI b)]) (rest := []) ⟨hx, hb, hml, hown, hts⟩ (c_X2_isBuyer (z := 1) (bi_t (ix4 hx4)).symm) (va_cwS 1 hts gX2_isPair_X2_isBuyer rfl rfl rfl (by decide +kernel) ⟨Nat.le_of_ble_eq_true rfl, Nat.le_of_ble_eq_true rfl⟩) (kps hG hP hD hS) rfl rfl hl.1 rfl (lv_room (Nat.le_of_ble_eq_true rfl)) dX2_isPair_1 ⟨Nat.le_of_ble_eq_true rfl, Nat.le_of_ble_eq_true rfl⟩) hS (fun r1 w H locs hp hP hD hS => ?_)
  rw [hp.2] at hP hD
  rw [hp.1]
  refine lv_if_eq (tgt := 21) hx hb dX2_isPair_4 (by decide) (fun h4 => False.elim (absurd h4 (by decide))) (fun h4 => ?_)
  refine lv_iload_n hx hb dX2_isPair_7 rfl (lv_at hl 1 rfl) ?_
  refine lv_iconst (v := 0) hx hb dX2_isPair_8 (by decide) ?_
  refine lv_bipush (v := 7) hx hb dX2_isPair_9 (by decide) ?_
  refine kc_i (va_runS (As := [.int (nI o), .int 0, .int 7]) (rest := []) ⟨hx, hb, hml, hown, hts⟩ (c_X2_isIn (z := 1) (bi_t (ix8 hx8)).symm) (va_cwS 3 hts gX2_isPair_X2_isIn rfl rfl rfl (by decide +kernel) ⟨Nat.le_of_ble_eq_true rfl, Nat.le_of_ble_eq_true rfl⟩) (kps hG hP hD hS) rfl rfl hl.1 rfl (lv_room (Nat.le_of_ble_eq_true rfl)) dX2_isPair_11 ⟨Nat.le_of_ble_eq_true rfl, Nat.le_of_ble_eq_true rfl⟩) hS (fun r11 w H locs hp hP hD hS => ?_)
  rw [hp.2] at hP hD
  rw [hp.1]
  refine lv_if_eq (tgt := 21) hx hb dX2_isPair_14 (by decide) (fun h14 => False.elim (absurd h14 (by decide))) (fun h14 => ?_)
  refine lv_iconst (v := 1) hx hb dX2_isPair_17 (by decide) ?_
  refine lv_goto (tgt := 22) hx hb dX2_isPair_18 (by decide) ?_
  exact kr_z hx hb hr hlocks hP hD hS (Nat.zero_le _) (Nat.zero_le _) (Or.inr rfl) (⟨rfl, rfl⟩) dX2_isPair_22
set_option maxHeartbeats 4000000 in
set_option maxRecDepth 100000 in
theorem c_X2_isPair_b {l : Launch} {K : Ks} {A : Nat → Prop} {w0 : va_W} {x y : Int32} (hx4 : ixBad 4 x) : Met l yX2_isPair wsX2_isPair (kR 2 0 0) (kPr K A [.int x, .int y] (w0)) (kQi K A (fun r w => r = 0 ∧ w = w0)) 0 0 A := by
  refine kent (cc := cX2_isPair) (maxL := 2) (ret := (some .boolean)) (by decide) rfl (Nat.le_of_ble_eq_true rfl) ?_
  intro p e s m args below meth c ls hx hb hr hts hown hlocks hml hini hG hP hD hS hl
  have hl : lv_has ls 2 [(0, .int x), (1, .int y)] := hl
  refine lv_iload_n hx hb dX2_isPair_0 rfl (lv_at hl 0 rfl) ?_
  refine kc_i (va_runS (As := [.int x]) (rest := []) ⟨hx, hb, hml, hown, hts⟩ (c_X2_isBuyer (z := 0) (bi_f (ix4b hx4)).symm) (va_cwS 1 hts gX2_isPair_X2_isBuyer rfl rfl rfl (by decide +kernel) ⟨Nat.le_of_ble_eq_true rfl, Nat.le_of_ble_eq_true rfl⟩) (kps hG hP hD hS) rfl rfl hl.1 rfl (lv_room (Nat.le_of_ble_eq_true rfl)) dX2_isPair_1 ⟨Nat.le_of_ble_eq_true rfl, Nat.le_of_ble_eq_true rfl⟩) hS (fun r1 w H locs hp hP hD hS => ?_)
  rw [hp.2] at hP hD
  rw [hp.1]
  refine lv_if_eq (tgt := 21) hx hb dX2_isPair_4 (by decide) (fun h4 => ?_) (fun h4 => False.elim (absurd rfl h4))
  refine lv_iconst (v := 0) hx hb dX2_isPair_21 (by decide) ?_
  exact kr_z hx hb hr hlocks hP hD hS (Nat.zero_le _) (Nat.zero_le _) (Or.inl rfl) (⟨rfl, rfl⟩) dX2_isPair_22
set_option maxHeartbeats 4000000 in
set_option maxRecDepth 100000 in
theorem c_X2_isPair_s {l : Launch} {K : Ks} {A : Nat → Prop} {w0 : va_W} {b : Nat} {y : Int32} (hx4 : b < 4) (hx8 : ixBad 8 y) : Met l yX2_isPair wsX2_isPair (kR 2 0 0) (kPr K A [.int (nI b), .int y] (w0)) (kQi K A (fun r w => r = 0 ∧ w = w0)) 0 0 A := by
  refine kent (cc := cX2_isPair) (maxL := 2) (ret := (some .boolean)) (by decide) rfl (Nat.le_of_ble_eq_true rfl) ?_
  intro p e s m args below meth c ls hx hb hr hts hown hlocks hml hini hG hP hD hS hl
  have hl : lv_has ls 2 [(0, .int (nI b)), (1, .int y)] := hl
  refine lv_iload_n hx hb dX2_isPair_0 rfl (lv_at hl 0 rfl) ?_
  refine kc_i (va_runS (As := [.int (nI b)]) (rest := []) ⟨hx, hb, hml, hown, hts⟩ (c_X2_isBuyer (z := 1) (bi_t (ix4 hx4)).symm) (va_cwS 1 hts gX2_isPair_X2_isBuyer rfl rfl rfl (by decide +kernel) ⟨Nat.le_of_ble_eq_true rfl, Nat.le_of_ble_eq_true rfl⟩) (kps hG hP hD hS) rfl rfl hl.1 rfl (lv_room (Nat.le_of_ble_eq_true rfl)) dX2_isPair_1 ⟨Nat.le_of_ble_eq_true rfl, Nat.le_of_ble_eq_true rfl⟩) hS (fun r1 w H locs hp hP hD hS => ?_)
  rw [hp.2] at hP hD
  rw [hp.1]
  refine lv_if_eq (tgt := 21) hx hb dX2_isPair_4 (by decide) (fun h4 => False.elim (absurd h4 (by decide))) (fun h4 => ?_)
  refine lv_iload_n hx hb dX2_isPair_7 rfl (lv_at hl 1 rfl) ?_
  refine lv_iconst (v := 0) hx hb dX2_isPair_8 (by decide) ?_
  refine lv_bipush (v := 7) hx hb dX2_isPair_9 (by decide) ?_
  refine kc_i (va_runS (As := [.int y, .int 0, .int 7]) (rest := []) ⟨hx, hb, hml, hown, hts⟩ (c_X2_isIn (z := 0) (bi_f (ix8b hx8)).symm) (va_cwS 3 hts gX2_isPair_X2_isIn rfl rfl rfl (by decide +kernel) ⟨Nat.le_of_ble_eq_true rfl, Nat.le_of_ble_eq_true rfl⟩) (kps hG hP hD hS) rfl rfl hl.1 rfl (lv_room (Nat.le_of_ble_eq_true rfl)) dX2_isPair_11 ⟨Nat.le_of_ble_eq_true rfl, Nat.le_of_ble_eq_true rfl⟩) hS (fun r11 w H locs hp hP hD hS => ?_)
  rw [hp.2] at hP hD
  rw [hp.1]
  refine lv_if_eq (tgt := 21) hx hb dX2_isPair_14 (by decide) (fun h14 => ?_) (fun h14 => False.elim (absurd rfl h14))
  refine lv_iconst (v := 0) hx hb dX2_isPair_21 (by decide) ?_
  exact kr_z hx hb hr hlocks hP hD hS (Nat.zero_le _) (Nat.zero_le _) (Or.inl rfl) (⟨rfl, rfl⟩) dX2_isPair_22
set_option maxHeartbeats 4000000 in
set_option maxRecDepth 100000 in
theorem c_X2_is {l : Launch} {K : Ks} {A : Nat → Prop} {qm : Nat → Nat} {td nb th : Int32} {M X : Nat → Nat → Int32} {x z : Int32} (hz : z = bi (decide (inR 0 (nb - 1) x))) : Met l yX2_is wsX2_is (kR 1 0 0) (kPr K A [.ref (qm 0), .int x] (Mfix K qm td nb th M X)) (kQi K A (fun r w => r = z ∧ w = Mfix K qm td nb th M X)) 0 0 A := by
  refine kent (cc := cX2_is) (maxL := 2) (ret := (some .boolean)) (by decide) rfl (Nat.le_of_ble_eq_true rfl) ?_
  intro p e s m args below meth c ls hx hb hr hts hown hlocks hml hini hG hP hD hS hl
  have hinX2 : ∀ x ∈ wsX20, x ∈ wsX2_is := by decide +kernel
  have hl : lv_has ls 2 [(0, .ref (qm 0)), (1, .int x)] := hl
  refine lv_iload_n hx hb dX2_is_0 rfl (lv_at hl 1 rfl) ?_
  refine lv_iconst (v := 0) hx hb dX2_is_1 (by decide) ?_
  refine lv_aload_n hx hb dX2_is_2 rfl (lv_at hl 0 rfl) ?_
  refine kget (ci := 3) (C := RX2) (T := TX2) (N := 18) hx hb hts hown hG hP 0 rfl rfl hinX2 1 (by decide) (by decide +kernel) rfl dX2_is_3 ?_
  refine lv_iconst (v := 1) hx hb dX2_is_6 (by decide) ?_
  refine lv_isub hx hb dX2_is_7 ?_
  refine kc_i (va_runS (As := [.int x, .int 0, .int (nb - 1)]) (rest := []) ⟨hx, hb, hml, hown, hts⟩ (c_X2_isIn (z := z) hz) (va_cwS 3 hts gX2_is_X2_isIn rfl rfl rfl (by decide +kernel) ⟨Nat.le_of_ble_eq_true rfl, Nat.le_of_ble_eq_true rfl⟩) (kps hG hP hD hS) rfl rfl hl.1 rfl (lv_room (Nat.le_of_ble_eq_true rfl)) dX2_is_8 ⟨Nat.le_of_ble_eq_true rfl, Nat.le_of_ble_eq_true rfl⟩) hS (fun r8 w H locs hp hP hD hS => ?_)
  rw [hp.2] at hP hD
  rw [hp.1]
  exact kr_z hx hb hr hlocks hP hD hS (Nat.zero_le _) (Nat.zero_le _) (by rw [hz]; exact bi_or _) (⟨rfl, rfl⟩) dX2_is_11
set_option maxHeartbeats 4000000 in
set_option maxRecDepth 100000 in
theorem c_X2_setBudget_1 {l : Launch} {K : Ks} {A : Nat → Prop} {qm : Nat → Nat} {td nb th : Int32} {M X : Nat → Nat → Int32} {x y : Int32} (hx4 : ixBad 4 x) : Met l yX2_setBudget wsX2_setBudget (kR 2 0 0) (kPr K A [.ref (qm 0), .int x, .int y] (Mfix K qm td nb th M X)) (kQi K A (fun _ w => w = Mfix K qm td nb 1 M X)) 0 0 A := by
  refine kent (cc := cX2_setBudget) (maxL := 4) (ret := (some .int)) (by decide) rfl (Nat.le_of_ble_eq_true rfl) ?_
  intro p e s m args below meth c ls hx hb hr hts hown hlocks hml hini hG hP hD hS hl
  have hinX2 : ∀ x ∈ wsX20, x ∈ wsX2_setBudget := by decide +kernel
  have hl : lv_has ls 4 [(0, .ref (qm 0)), (1, .int x), (2, .int y)] := hl
  refine lv_aload_n hx hb dX2_setBudget_0 rfl (lv_at hl 0 rfl) ?_
  refine lv_iload_n hx hb dX2_setBudget_1 rfl (lv_at hl 1 rfl) ?_
  refine kc_i (va_runS (As := [.int x]) (rest := [.ref (qm 0)]) ⟨hx, hb, hml, hown, hts⟩ (c_X2_isBuyer (z := 0) (bi_f (ix4b hx4)).symm) (va_cwS 1 hts gX2_setBudget_X2_isBuyer rfl rfl rfl (by decide +kernel) ⟨Nat.le_of_ble_eq_true rfl, Nat.le_of_ble_eq_true rfl⟩) (kps hG hP hD hS) rfl rfl hl.1 rfl (lv_room (Nat.le_of_ble_eq_true rfl)) dX2_setBudget_2 ⟨Nat.le_of_ble_eq_true rfl, Nat.le_of_ble_eq_true rfl⟩) hS (fun r2 w H locs hp hP hD hS => ?_)
  rw [hp.2] at hP hD
  rw [hp.1]
  refine lv_if_ne (tgt := 12) hx hb dX2_setBudget_5 (by decide) (fun h5 => False.elim (absurd rfl h5)) (fun h5 => ?_)
  refine lv_iconst (v := 1) hx hb dX2_setBudget_8 (by decide) ?_
  refine lv_goto (tgt := 27) hx hb dX2_setBudget_9 (by decide) ?_
  refine kc_i (va_runV (As := [.int 1]) (rest := []) ⟨hx, hb, hml, hown, hts⟩ (c_X2_fails (x := 1) (z := 1) (by decide)) (cwV 1 hts gX2_setBudget_X2_fails rfl rfl rfl (by decide +kernel) ⟨Nat.le_of_ble_eq_true rfl, Nat.le_of_ble_eq_true rfl⟩) (kpv (q0 := 0) hG hP hD hS rfl rfl) rfl rfl hl.1 rfl (lv_room (Nat.le_of_ble_eq_true rfl)) dX2_setBudget_27 ⟨Nat.le_of_ble_eq_true rfl, Nat.le_of_ble_eq_true rfl⟩) hS (fun r27 w H locs hp hP hD hS => ?_)
  rw [hp.2] at hP hD
  rw [hp.1]
  refine lv_if_eq (tgt := 35) hx hb dX2_setBudget_30 (by decide) (fun h30 => False.elim (absurd h30 (by decide))) (fun h30 => ?_)
  refine lv_iconst (v := 0) hx hb dX2_setBudget_33 (by decide) ?_
  exact kr_i hx hb hr hlocks hP hD hS (Nat.zero_le _) (Nat.zero_le _) (rfl) dX2_setBudget_34
set_option maxHeartbeats 4000000 in
set_option maxRecDepth 100000 in
theorem c_X2_setBudget_2 {l : Launch} {K : Ks} {A : Nat → Prop} {qm : Nat → Nat} {td nb th : Int32} {M X : Nat → Nat → Int32} {b : Nat} {y : Int32} (hx4 : b < 4) (hy : ¬ inR 0 100000000 y) : Met l yX2_setBudget wsX2_setBudget (kR 2 0 0) (kPr K A [.ref (qm 0), .int (nI b), .int y] (Mfix K qm td nb th M X)) (kQi K A (fun _ w => w = Mfix K qm td nb 2 M X)) 0 0 A := by
  refine kent (cc := cX2_setBudget) (maxL := 4) (ret := (some .int)) (by decide) rfl (Nat.le_of_ble_eq_true rfl) ?_
  intro p e s m args below meth c ls hx hb hr hts hown hlocks hml hini hG hP hD hS hl
  have hinX2 : ∀ x ∈ wsX20, x ∈ wsX2_setBudget := by decide +kernel
  have hl : lv_has ls 4 [(0, .ref (qm 0)), (1, .int (nI b)), (2, .int y)] := hl
  refine lv_aload_n hx hb dX2_setBudget_0 rfl (lv_at hl 0 rfl) ?_
  refine lv_iload_n hx hb dX2_setBudget_1 rfl (lv_at hl 1 rfl) ?_
  refine kc_i (va_runS (As := [.int (nI b)]) (rest := [.ref (qm 0)]) ⟨hx, hb, hml, hown, hts⟩ (c_X2_isBuyer (z := 1) (bi_t (ix4 hx4)).symm) (va_cwS 1 hts gX2_setBudget_X2_isBuyer rfl rfl rfl (by decide +kernel) ⟨Nat.le_of_ble_eq_true rfl, Nat.le_of_ble_eq_true rfl⟩) (kps hG hP hD hS) rfl rfl hl.1 rfl (lv_room (Nat.le_of_ble_eq_true rfl)) dX2_setBudget_2 ⟨Nat.le_of_ble_eq_true rfl, Nat.le_of_ble_eq_true rfl⟩) hS (fun r2 w H locs hp hP hD hS => ?_)
  rw [hp.2] at hP hD
  rw [hp.1]
  refine lv_if_ne (tgt := 12) hx hb dX2_setBudget_5 (by decide) (fun h5 => ?_) (fun h5 => False.elim (absurd h5 (by decide)))
  refine lv_iload_n hx hb dX2_setBudget_12 rfl (lv_at hl 2 rfl) ?_
  refine lv_iconst (v := 0) hx hb dX2_setBudget_13 (by decide) ?_
  refine lv_ldc (v := 100000000) hx hb hown (hts (.constant RX2 69 100000000) (by decide +kernel)) dX2_setBudget_14 ?_
  refine kc_i (va_runS (As := [.int y, .int 0, .int 100000000]) (rest := [.ref (qm 0)]) ⟨hx, hb, hml, hown, hts⟩ (c_X2_isIn (z := 0) (bi_f hy).symm) (va_cwS 3 hts gX2_setBudget_X2_isIn rfl rfl rfl (by decide +kernel) ⟨Nat.le_of_ble_eq_true rfl, Nat.le_of_ble_eq_true rfl⟩) (kps hG hP hD hS) rfl rfl hl.1 rfl (lv_room (Nat.le_of_ble_eq_true rfl)) dX2_setBudget_16 ⟨Nat.le_of_ble_eq_true rfl, Nat.le_of_ble_eq_true rfl⟩) hS (fun r16 w H locs hp hP hD hS => ?_)
  rw [hp.2] at hP hD
  rw [hp.1]
  refine lv_if_eq (tgt := 26) hx hb dX2_setBudget_19 (by decide) (fun h19 => ?_) (fun h19 => False.elim (absurd rfl h19))
  refine lv_iconst (v := 2) hx hb dX2_setBudget_26 (by decide) ?_
  refine kc_i (va_runV (As := [.int 2]) (rest := []) ⟨hx, hb, hml, hown, hts⟩ (c_X2_fails (x := 2) (z := 1) (by decide)) (cwV 1 hts gX2_setBudget_X2_fails rfl rfl rfl (by decide +kernel) ⟨Nat.le_of_ble_eq_true rfl, Nat.le_of_ble_eq_true rfl⟩) (kpv (q0 := 0) hG hP hD hS rfl rfl) rfl rfl hl.1 rfl (lv_room (Nat.le_of_ble_eq_true rfl)) dX2_setBudget_27 ⟨Nat.le_of_ble_eq_true rfl, Nat.le_of_ble_eq_true rfl⟩) hS (fun r27 w H locs hp hP hD hS => ?_)
  rw [hp.2] at hP hD
  rw [hp.1]
  refine lv_if_eq (tgt := 35) hx hb dX2_setBudget_30 (by decide) (fun h30 => False.elim (absurd h30 (by decide))) (fun h30 => ?_)
  refine lv_iconst (v := 0) hx hb dX2_setBudget_33 (by decide) ?_
  exact kr_i hx hb hr hlocks hP hD hS (Nat.zero_le _) (Nat.zero_le _) (rfl) dX2_setBudget_34
set_option maxHeartbeats 4000000 in
set_option maxRecDepth 100000 in
theorem c_X2_setBudget_ok {l : Launch} {K : Ks} {A : Nat → Prop} {qm : Nat → Nat} {td nb th : Int32} {M X : Nat → Nat → Int32} {b : Nat} {y : Int32} (hx4 : b < 4) (hy : inR 0 100000000 y) : Met l yX2_setBudget wsX2_setBudget (kR 2 0 0) (kPr K A [.ref (qm 0), .int (nI b), .int y] (Mfix K qm td nb th M X)) (kQi K A (fun r w => r = M 11 b ∧ w = Mfix K qm td nb 0 (up2 M 11 b y) X)) 0 0 A := by
  refine kent (cc := cX2_setBudget) (maxL := 4) (ret := (some .int)) (by decide) rfl (Nat.le_of_ble_eq_true rfl) ?_
  intro p e s m args below meth c ls hx hb hr hts hown hlocks hml hini hG hP hD hS hl
  have hinX2 : ∀ x ∈ wsX20, x ∈ wsX2_setBudget := by decide +kernel
  have hl : lv_has ls 4 [(0, .ref (qm 0)), (1, .int (nI b)), (2, .int y)] := hl
  refine lv_aload_n hx hb dX2_setBudget_0 rfl (lv_at hl 0 rfl) ?_
  refine lv_iload_n hx hb dX2_setBudget_1 rfl (lv_at hl 1 rfl) ?_
  refine kc_i (va_runS (As := [.int (nI b)]) (rest := [.ref (qm 0)]) ⟨hx, hb, hml, hown, hts⟩ (c_X2_isBuyer (z := 1) (bi_t (ix4 hx4)).symm) (va_cwS 1 hts gX2_setBudget_X2_isBuyer rfl rfl rfl (by decide +kernel) ⟨Nat.le_of_ble_eq_true rfl, Nat.le_of_ble_eq_true rfl⟩) (kps hG hP hD hS) rfl rfl hl.1 rfl (lv_room (Nat.le_of_ble_eq_true rfl)) dX2_setBudget_2 ⟨Nat.le_of_ble_eq_true rfl, Nat.le_of_ble_eq_true rfl⟩) hS (fun r2 w H locs hp hP hD hS => ?_)
  rw [hp.2] at hP hD
  rw [hp.1]
  refine lv_if_ne (tgt := 12) hx hb dX2_setBudget_5 (by decide) (fun h5 => ?_) (fun h5 => False.elim (absurd h5 (by decide)))
  refine lv_iload_n hx hb dX2_setBudget_12 rfl (lv_at hl 2 rfl) ?_
  refine lv_iconst (v := 0) hx hb dX2_setBudget_13 (by decide) ?_
  refine lv_ldc (v := 100000000) hx hb hown (hts (.constant RX2 69 100000000) (by decide +kernel)) dX2_setBudget_14 ?_
  refine kc_i (va_runS (As := [.int y, .int 0, .int 100000000]) (rest := [.ref (qm 0)]) ⟨hx, hb, hml, hown, hts⟩ (c_X2_isIn (z := 1) (bi_t hy).symm) (va_cwS 3 hts gX2_setBudget_X2_isIn rfl rfl rfl (by decide +kernel) ⟨Nat.le_of_ble_eq_true rfl, Nat.le_of_ble_eq_true rfl⟩) (kps hG hP hD hS) rfl rfl hl.1 rfl (lv_room (Nat.le_of_ble_eq_true rfl)) dX2_setBudget_16 ⟨Nat.le_of_ble_eq_true rfl, Nat.le_of_ble_eq_true rfl⟩) hS (fun r16 w H locs hp hP hD hS => ?_)
  rw [hp.2] at hP hD
  rw [hp.1]
  refine lv_if_eq (tgt := 26) hx hb dX2_setBudget_19 (by decide) (fun h19 => False.elim (absurd h19 (by decide))) (fun h19 => ?_)
  refine lv_iconst (v := 0) hx hb dX2_setBudget_22 (by decide) ?_
  refine lv_goto (tgt := 27) hx hb dX2_setBudget_23 (by decide) ?_
  refine kc_i (va_runV (As := [.int 0]) (rest := []) ⟨hx, hb, hml, hown, hts⟩ (c_X2_fails (x := 0) (z := 0) (by decide)) (cwV 1 hts gX2_setBudget_X2_fails rfl rfl rfl (by decide +kernel) ⟨Nat.le_of_ble_eq_true rfl, Nat.le_of_ble_eq_true rfl⟩) (kpv (q0 := 0) hG hP hD hS rfl rfl) rfl rfl hl.1 rfl (lv_room (Nat.le_of_ble_eq_true rfl)) dX2_setBudget_27 ⟨Nat.le_of_ble_eq_true rfl, Nat.le_of_ble_eq_true rfl⟩) hS (fun r27 w H locs hp hP hD hS => ?_)
  rw [hp.2] at hP hD
  rw [hp.1]
  refine lv_if_eq (tgt := 35) hx hb dX2_setBudget_30 (by decide) (fun h30 => ?_) (fun h30 => False.elim (absurd rfl h30))
  refine lv_aload_n hx hb dX2_setBudget_35 rfl (lv_at hl 0 rfl) ?_
  refine kget (ci := 3) (C := RX2) (T := TX2) (N := 18) hx hb hts hown hG hP 0 rfl rfl hinX2 11 (by decide) (by decide +kernel) rfl dX2_setBudget_36 ?_
  refine lv_iload_n hx hb dX2_setBudget_39 rfl (lv_at hl 1 rfl) ?_
  refine kiald (n := 4) (j := b) hx hb hG hP 10 rfl (by omega) (by decide) dX2_setBudget_40 ?_
  refine lv_istore_n (lv' := [(3, .int (M 11 b)), (0, .ref (qm 0)), (1, .int (nI b)), (2, .int y)]) hx hb dX2_setBudget_41 rfl hl (by decide) rfl (fun ls hl => ?_)
  refine lv_aload_n hx hb dX2_setBudget_42 rfl (lv_at hl 1 rfl) ?_
  refine kget (ci := 3) (C := RX2) (T := TX2) (N := 18) hx hb hts hown hG hP 0 rfl rfl hinX2 11 (by decide) (by decide +kernel) rfl dX2_setBudget_43 ?_
  refine lv_iload_n hx hb dX2_setBudget_46 rfl (lv_at hl 2 rfl) ?_
  refine lv_iload_n hx hb dX2_setBudget_47 rfl (lv_at hl 3 rfl) ?_
  refine kiast (n := 4) (j := b) hx hb hG hP hD hS 10 rfl (by omega) (by decide) dX2_setBudget_48 (fun H locs hP hD hS => ?_)
  have hP : va_P K.1 kCl (Mfix K qm td nb 0 (up2 M 11 b y) X) H := hP
  have hD : va_D A (Mfix K qm td nb 0 (up2 M 11 b y) X) := hD
  refine lv_iload_n hx hb dX2_setBudget_49 rfl (lv_at hl 0 rfl) ?_
  exact kr_i hx hb hr hlocks hP hD hS (Nat.zero_le _) (Nat.zero_le _) (⟨rfl, rfl⟩) dX2_setBudget_50
