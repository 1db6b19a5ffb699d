/-! The reference, 2: reads, discount, price, pays -/
set_option maxHeartbeats 4000000 in
set_option maxRecDepth 100000 in
theorem c_X2_of_state {l : Launch} {K : Ks} {A : Nat → Prop} {qm : Nat → Nat} {td th : Int32} {M X : Nat → Nat → Int32} {n j : Nat} (hn : n ≤ 30) (hj : j < n) : Met l yX2_of wsX2_of (kR 2 0 0) (kPr K A [.ref (qm 0), .ref (qm 6), .int (nI j)] (Mfix K qm td (nI n) th M X)) (kQi K A (fun r w => r = M 6 j ∧ w = Mfix K qm td (nI n) 0 M X)) 0 0 A := by
  refine kent (cc := cX2_of) (maxL := 3) (ret := (some .int)) (by decide) rfl (Nat.le_of_ble_eq_true rfl) ?_
  intro p e s m args below meth c ls hx hb hr hts hown hlocks hml hini hG hP hD hS hl
  have hinX2 : ∀ x ∈ wsX20, x ∈ wsX2_of := by decide +kernel
  have hl : lv_has ls 3 [(0, .ref (qm 0)), (1, .ref (qm 6)), (2, .int (nI j))] := hl
  refine lv_aload_n hx hb dX2_of_0 rfl (lv_at hl 0 rfl) ?_
  refine lv_aload_n hx hb dX2_of_1 rfl (lv_at hl 0 rfl) ?_
  refine lv_iload_n hx hb dX2_of_2 rfl (lv_at hl 2 rfl) ?_
  refine kc_i (va_runV (As := [.int (nI j)]) (rest := [.ref (qm 0)]) ⟨hx, hb, hml, hown, hts⟩ (c_X2_is (z := 1) (bi_t (ix_in (by omega) hj)).symm) (cwV 1 hts gX2_of_X2_is rfl rfl rfl (by decide +kernel) ⟨Nat.le_of_ble_eq_true rfl, Nat.le_of_ble_eq_true rfl⟩) (kpv (q0 := 0) hG hP hD hS rfl rfl) rfl rfl hl.1 rfl (lv_room (Nat.le_of_ble_eq_true rfl)) dX2_of_3 ⟨Nat.le_of_ble_eq_true rfl, Nat.le_of_ble_eq_true rfl⟩) hS (fun r3 w H locs hp hP hD hS => ?_)
  rw [hp.2] at hP hD
  rw [hp.1]
  refine lv_if_eq (tgt := 13) hx hb dX2_of_6 (by decide) (fun h6 => False.elim (absurd h6 (by decide))) (fun h6 => ?_)
  refine lv_iconst (v := 0) hx hb dX2_of_9 (by decide) ?_
  refine lv_goto (tgt := 14) hx hb dX2_of_10 (by decide) ?_
  refine kc_i (va_runV (As := [.int 0]) (rest := []) ⟨hx, hb, hml, hown, hts⟩ (c_X2_fails (x := 0) (z := 0) (by decide)) (cwV 1 hts gX2_of_X2_fails rfl rfl rfl (by decide +kernel) ⟨Nat.le_of_ble_eq_true rfl, Nat.le_of_ble_eq_true rfl⟩) (kpv (q0 := 0) hG hP hD hS rfl rfl) rfl rfl hl.1 rfl (lv_room (Nat.le_of_ble_eq_true rfl)) dX2_of_14 ⟨Nat.le_of_ble_eq_true rfl, Nat.le_of_ble_eq_true rfl⟩) hS (fun r14 w H locs hp hP hD hS => ?_)
  rw [hp.2] at hP hD
  rw [hp.1]
  refine lv_if_eq (tgt := 24) hx hb dX2_of_17 (by decide) (fun h17 => ?_) (fun h17 => False.elim (absurd rfl h17))
  refine lv_aload_n hx hb dX2_of_24 rfl (lv_at hl 1 rfl) ?_
  refine lv_iload_n hx hb dX2_of_25 rfl (lv_at hl 2 rfl) ?_
  refine kiald (n := 30) (j := j) hx hb hG hP 5 rfl (by omega) (by decide) dX2_of_26 ?_
  exact kr_i hx hb hr hlocks hP hD hS (Nat.zero_le _) (Nat.zero_le _) (⟨rfl, rfl⟩) dX2_of_27
set_option maxHeartbeats 4000000 in
set_option maxRecDepth 100000 in
theorem c_X2_of_state_1 {l : Launch} {K : Ks} {A : Nat → Prop} {qm : Nat → Nat} {td th : Int32} {M X : Nat → Nat → Int32} {n : Nat} {x : Int32} (hn : n ≤ 30) (hj : ixBad n x) : Met l yX2_of wsX2_of (kR 2 0 0) (kPr K A [.ref (qm 0), .ref (qm 6), .int x] (Mfix K qm td (nI n) th M X)) (kQi K A (fun _ w => w = Mfix K qm td (nI n) 1 M X)) 0 0 A := by
  refine kent (cc := cX2_of) (maxL := 3) (ret := (some .int)) (by decide) rfl (Nat.le_of_ble_eq_true rfl) ?_
  intro p e s m args below meth c ls hx hb hr hts hown hlocks hml hini hG hP hD hS hl
  have hinX2 : ∀ x ∈ wsX20, x ∈ wsX2_of := by decide +kernel
  have hl : lv_has ls 3 [(0, .ref (qm 0)), (1, .ref (qm 6)), (2, .int x)] := hl
  refine lv_aload_n hx hb dX2_of_0 rfl (lv_at hl 0 rfl) ?_
  refine lv_aload_n hx hb dX2_of_1 rfl (lv_at hl 0 rfl) ?_
  refine lv_iload_n hx hb dX2_of_2 rfl (lv_at hl 2 rfl) ?_
  refine kc_i (va_runV (As := [.int x]) (rest := [.ref (qm 0)]) ⟨hx, hb, hml, hown, hts⟩ (c_X2_is (z := 0) (bi_f (ix_bad (by omega) hj)).symm) (cwV 1 hts gX2_of_X2_is rfl rfl rfl (by decide +kernel) ⟨Nat.le_of_ble_eq_true rfl, Nat.le_of_ble_eq_true rfl⟩) (kpv (q0 := 0) hG hP hD hS rfl rfl) rfl rfl hl.1 rfl (lv_room (Nat.le_of_ble_eq_true rfl)) dX2_of_3 ⟨Nat.le_of_ble_eq_true rfl, Nat.le_of_ble_eq_true rfl⟩) hS (fun r3 w H locs hp hP hD hS => ?_)
  rw [hp.2] at hP hD
  rw [hp.1]
  refine lv_if_eq (tgt := 13) hx hb dX2_of_6 (by decide) (fun h6 => ?_) (fun h6 => False.elim (absurd rfl h6))
  refine lv_iconst (v := 1) hx hb dX2_of_13 (by decide) ?_
  refine kc_i (va_runV (As := [.int 1]) (rest := []) ⟨hx, hb, hml, hown, hts⟩ (c_X2_fails (x := 1) (z := 1) (by decide)) (cwV 1 hts gX2_of_X2_fails rfl rfl rfl (by decide +kernel) ⟨Nat.le_of_ble_eq_true rfl, Nat.le_of_ble_eq_true rfl⟩) (kpv (q0 := 0) hG hP hD hS rfl rfl) rfl rfl hl.1 rfl (lv_room (Nat.le_of_ble_eq_true rfl)) dX2_of_14 ⟨Nat.le_of_ble_eq_true rfl, Nat.le_of_ble_eq_true rfl⟩) hS (fun r14 w H locs hp hP hD hS => ?_)
  rw [hp.2] at hP hD
  rw [hp.1]
  refine lv_if_eq (tgt := 24) hx hb dX2_of_17 (by decide) (fun h17 => False.elim (absurd h17 (by decide))) (fun h17 => ?_)
  refine lv_iconst (v := 0) hx hb dX2_of_20 (by decide) ?_
  refine lv_goto (tgt := 27) hx hb dX2_of_21 (by decide) ?_
  exact kr_i hx hb hr hlocks hP hD hS (Nat.zero_le _) (Nat.zero_le _) (rfl) dX2_of_27
set_option maxHeartbeats 4000000 in
set_option maxRecDepth 100000 in
theorem c_X2_state_ok {l : Launch} {K : Ks} {A : Nat → Prop} {qm : Nat → Nat} {td th : Int32} {M X : Nat → Nat → Int32} {n j : Nat} (hn : n ≤ 30) (hj : j < n) : Met l yX2_state wsX2_state (kR 3 0 0) (kPr K A [.ref (qm 0), .int (nI j)] (Mfix K qm td (nI n) th M X)) (kQi K A (fun r w => r = M 6 j ∧ w = Mfix K qm td (nI n) 0 M X)) 0 0 A := by
  refine kent (cc := cX2_state) (maxL := 2) (ret := (some .int)) (by decide) rfl (Nat.le_of_ble_eq_true rfl) ?_
  intro p e s m args below meth c ls hx hb hr hts hown hlocks hml hini hG hP hD hS hl
  have hinX2 : ∀ x ∈ wsX20, x ∈ wsX2_state := by decide +kernel
  have hl : lv_has ls 2 [(0, .ref (qm 0)), (1, .int (nI j))] := hl
  refine lv_aload_n hx hb dX2_state_0 rfl (lv_at hl 0 rfl) ?_
  refine lv_aload_n hx hb dX2_state_1 rfl (lv_at hl 0 rfl) ?_
  refine kget (ci := 3) (C := RX2) (T := TX2) (N := 18) hx hb hts hown hG hP 0 rfl rfl hinX2 6 (by decide) (by decide +kernel) rfl dX2_state_2 ?_
  refine lv_iload_n hx hb dX2_state_5 rfl (lv_at hl 1 rfl) ?_
  refine kc_i (va_runV (As := [.ref (qm 6), .int (nI j)]) (rest := []) ⟨hx, hb, hml, hown, hts⟩ (c_X2_of_state hn hj) (cwV 2 hts gX2_state_X2_of rfl rfl rfl (by decide +kernel) ⟨Nat.le_of_ble_eq_true rfl, Nat.le_of_ble_eq_true rfl⟩) (kpv (q0 := 0) hG hP hD hS rfl rfl) rfl rfl hl.1 rfl (lv_room (Nat.le_of_ble_eq_true rfl)) dX2_state_6 ⟨Nat.le_of_ble_eq_true rfl, Nat.le_of_ble_eq_true rfl⟩) hS (fun r6 w H locs hp hP hD hS => ?_)
  rw [hp.2] at hP hD
  rw [hp.1]
  exact kr_i hx hb hr hlocks hP hD hS (Nat.zero_le _) (Nat.zero_le _) (⟨rfl, rfl⟩) dX2_state_9
set_option maxHeartbeats 4000000 in
set_option maxRecDepth 100000 in
theorem c_X2_state_1 {l : Launch} {K : Ks} {A : Nat → Prop} {qm : Nat → Nat} {td th : Int32} {M X : Nat → Nat → Int32} {n : Nat} {x : Int32} (hn : n ≤ 30) (hj : ixBad n x) : Met l yX2_state wsX2_state (kR 3 0 0) (kPr K A [.ref (qm 0), .int x] (Mfix K qm td (nI n) th M X)) (kQi K A (fun _ w => w = Mfix K qm td (nI n) 1 M X)) 0 0 A := by
  refine kent (cc := cX2_state) (maxL := 2) (ret := (some .int)) (by decide) rfl (Nat.le_of_ble_eq_true rfl) ?_
  intro p e s m args below meth c ls hx hb hr hts hown hlocks hml hini hG hP hD hS hl
  have hinX2 : ∀ x ∈ wsX20, x ∈ wsX2_state := by decide +kernel
  have hl : lv_has ls 2 [(0, .ref (qm 0)), (1, .int x)] := hl
  refine lv_aload_n hx hb dX2_state_0 rfl (lv_at hl 0 rfl) ?_
  refine lv_aload_n hx hb dX2_state_1 rfl (lv_at hl 0 rfl) ?_
  refine kget (ci := 3) (C := RX2) (T := TX2) (N := 18) hx hb hts hown hG hP 0 rfl rfl hinX2 6 (by decide) (by decide +kernel) rfl dX2_state_2 ?_
  refine lv_iload_n hx hb dX2_state_5 rfl (lv_at hl 1 rfl) ?_
  refine kc_i (va_runV (As := [.ref (qm 6), .int x]) (rest := []) ⟨hx, hb, hml, hown, hts⟩ (c_X2_of_state_1 hn hj) (cwV 2 hts gX2_state_X2_of rfl rfl rfl (by decide +kernel) ⟨Nat.le_of_ble_eq_true rfl, Nat.le_of_ble_eq_true rfl⟩) (kpv (q0 := 0) hG hP hD hS rfl rfl) rfl rfl hl.1 rfl (lv_room (Nat.le_of_ble_eq_true rfl)) dX2_state_6 ⟨Nat.le_of_ble_eq_true rfl, Nat.le_of_ble_eq_true rfl⟩) hS (fun r6 w H locs hp hP hD hS => ?_)
  rw [hp] at hP hD
  exact kr_i hx hb hr hlocks hP hD hS (Nat.zero_le _) (Nat.zero_le _) (rfl) dX2_state_9
set_option maxHeartbeats 4000000 in
set_option maxRecDepth 100000 in
theorem c_X2_of_amount {l : Launch} {K : Ks} {A : Nat → Prop} {qm : Nat → Nat} {td th : Int32} {M X : Nat → Nat → Int32} {n j : Nat} (hn : n ≤ 30) (hj : j < n) : Met l yX2_of wsX2_of (kR 2 0 0) (kPr K A [.ref (qm 0), .ref (qm 4), .int (nI j)] (Mfix K qm td (nI n) th M X)) (kQi K A (fun r w => r = M 4 j ∧ w = Mfix K qm td (nI n) 0 M X)) 0 0 A := by
  refine kent (cc := cX2_of) (maxL := 3) (ret := (some .int)) (by decide) rfl (Nat.le_of_ble_eq_true rfl) ?_
  intro p e s m args below meth c ls hx hb hr hts hown hlocks hml hini hG hP hD hS hl
  have hinX2 : ∀ x ∈ wsX20, x ∈ wsX2_of := by decide +kernel
  have hl : lv_has ls 3 [(0, .ref (qm 0)), (1, .ref (qm 4)), (2, .int (nI j))] := hl
  refine lv_aload_n hx hb dX2_of_0 rfl (lv_at hl 0 rfl) ?_
  refine lv_aload_n hx hb dX2_of_1 rfl (lv_at hl 0 rfl) ?_
  refine lv_iload_n hx hb dX2_of_2 rfl (lv_at hl 2 rfl) ?_
  refine kc_i (va_runV (As := [.int (nI j)]) (rest := [.ref (qm 0)]) ⟨hx, hb, hml, hown, hts⟩ (c_X2_is (z := 1) (bi_t (ix_in (by omega) hj)).symm) (cwV 1 hts gX2_of_X2_is rfl rfl rfl (by decide +kernel) ⟨Nat.le_of_ble_eq_true rfl, Nat.le_of_ble_eq_true rfl⟩) (kpv (q0 := 0) hG hP hD hS rfl rfl) rfl rfl hl.1 rfl (lv_room (Nat.le_of_ble_eq_true rfl)) dX2_of_3 ⟨Nat.le_of_ble_eq_true rfl, Nat.le_of_ble_eq_true rfl⟩) hS (fun r3 w H locs hp hP hD hS => ?_)
  rw [hp.2] at hP hD
  rw [hp.1]
  refine lv_if_eq (tgt := 13) hx hb dX2_of_6 (by decide) (fun h6 => False.elim (absurd h6 (by decide))) (fun h6 => ?_)
  refine lv_iconst (v := 0) hx hb dX2_of_9 (by decide) ?_
  refine lv_goto (tgt := 14) hx hb dX2_of_10 (by decide) ?_
  refine kc_i (va_runV (As := [.int 0]) (rest := []) ⟨hx, hb, hml, hown, hts⟩ (c_X2_fails (x := 0) (z := 0) (by decide)) (cwV 1 hts gX2_of_X2_fails rfl rfl rfl (by decide +kernel) ⟨Nat.le_of_ble_eq_true rfl, Nat.le_of_ble_eq_true rfl⟩) (kpv (q0 := 0) hG hP hD hS rfl rfl) rfl rfl hl.1 rfl (lv_room (Nat.le_of_ble_eq_true rfl)) dX2_of_14 ⟨Nat.le_of_ble_eq_true rfl, Nat.le_of_ble_eq_true rfl⟩) hS (fun r14 w H locs hp hP hD hS => ?_)
  rw [hp.2] at hP hD
  rw [hp.1]
  refine lv_if_eq (tgt := 24) hx hb dX2_of_17 (by decide) (fun h17 => ?_) (fun h17 => False.elim (absurd rfl h17))
  refine lv_aload_n hx hb dX2_of_24 rfl (lv_at hl 1 rfl) ?_
  refine lv_iload_n hx hb dX2_of_25 rfl (lv_at hl 2 rfl) ?_
  refine kiald (n := 30) (j := j) hx hb hG hP 3 rfl (by omega) (by decide) dX2_of_26 ?_
  exact kr_i hx hb hr hlocks hP hD hS (Nat.zero_le _) (Nat.zero_le _) (⟨rfl, rfl⟩) dX2_of_27
set_option maxHeartbeats 4000000 in
set_option maxRecDepth 100000 in
theorem c_X2_of_amount_1 {l : Launch} {K : Ks} {A : Nat → Prop} {qm : Nat → Nat} {td th : Int32} {M X : Nat → Nat → Int32} {n : Nat} {x : Int32} (hn : n ≤ 30) (hj : ixBad n x) : Met l yX2_of wsX2_of (kR 2 0 0) (kPr K A [.ref (qm 0), .ref (qm 4), .int x] (Mfix K qm td (nI n) th M X)) (kQi K A (fun _ w => w = Mfix K qm td (nI n) 1 M X)) 0 0 A := by
  refine kent (cc := cX2_of) (maxL := 3) (ret := (some .int)) (by decide) rfl (Nat.le_of_ble_eq_true rfl) ?_
  intro p e s m args below meth c ls hx hb hr hts hown hlocks hml hini hG hP hD hS hl
  have hinX2 : ∀ x ∈ wsX20, x ∈ wsX2_of := by decide +kernel
  have hl : lv_has ls 3 [(0, .ref (qm 0)), (1, .ref (qm 4)), (2, .int x)] := hl
  refine lv_aload_n hx hb dX2_of_0 rfl (lv_at hl 0 rfl) ?_
  refine lv_aload_n hx hb dX2_of_1 rfl (lv_at hl 0 rfl) ?_
  refine lv_iload_n hx hb dX2_of_2 rfl (lv_at hl 2 rfl) ?_
  refine kc_i (va_runV (As := [.int x]) (rest := [.ref (qm 0)]) ⟨hx, hb, hml, hown, hts⟩ (c_X2_is (z := 0) (bi_f (ix_bad (by omega) hj)).symm) (cwV 1 hts gX2_of_X2_is rfl rfl rfl (by decide +kernel) ⟨Nat.le_of_ble_eq_true rfl, Nat.le_of_ble_eq_true rfl⟩) (kpv (q0 := 0) hG hP hD hS rfl rfl) rfl rfl hl.1 rfl (lv_room (Nat.le_of_ble_eq_true rfl)) dX2_of_3 ⟨Nat.le_of_ble_eq_true rfl, Nat.le_of_ble_eq_true rfl⟩) hS (fun r3 w H locs hp hP hD hS => ?_)
  rw [hp.2] at hP hD
  rw [hp.1]
  refine lv_if_eq (tgt := 13) hx hb dX2_of_6 (by decide) (fun h6 => ?_) (fun h6 => False.elim (absurd rfl h6))
  refine lv_iconst (v := 1) hx hb dX2_of_13 (by decide) ?_
  refine kc_i (va_runV (As := [.int 1]) (rest := []) ⟨hx, hb, hml, hown, hts⟩ (c_X2_fails (x := 1) (z := 1) (by decide)) (cwV 1 hts gX2_of_X2_fails rfl rfl rfl (by decide +kernel) ⟨Nat.le_of_ble_eq_true rfl, Nat.le_of_ble_eq_true rfl⟩) (kpv (q0 := 0) hG hP hD hS rfl rfl) rfl rfl hl.1 rfl (lv_room (Nat.le_of_ble_eq_true rfl)) dX2_of_14 ⟨Nat.le_of_ble_eq_true rfl, Nat.le_of_ble_eq_true rfl⟩) hS (fun r14 w H locs hp hP hD hS => ?_)
  rw [hp.2] at hP hD
  rw [hp.1]
  refine lv_if_eq (tgt := 24) hx hb dX2_of_17 (by decide) (fun h17 => False.elim (absurd h17 (by decide))) (fun h17 => ?_)
  refine lv_iconst (v := 0) hx hb dX2_of_20 (by decide) ?_
  refine lv_goto (tgt := 27) hx hb dX2_of_21 (by decide) ?_
  exact kr_i hx hb hr hlocks hP hD hS (Nat.zero_le _) (Nat.zero_le _) (rfl) dX2_of_27
set_option maxHeartbeats 4000000 in
set_option maxRecDepth 100000 in
theorem c_X2_amount_ok {l : Launch} {K : Ks} {A : Nat → Prop} {qm : Nat → Nat} {td th : Int32} {M X : Nat → Nat → Int32} {n j : Nat} (hn : n ≤ 30) (hj : j < n) : Met l yX2_amount wsX2_amount (kR 3 0 0) (kPr K A [.ref (qm 0), .int (nI j)] (Mfix K qm td (nI n) th M X)) (kQi K A (fun r w => r = M 4 j ∧ w = Mfix K qm td (nI n) 0 M X)) 0 0 A := by
  refine kent (cc := cX2_amount) (maxL := 2) (ret := (some .int)) (by decide) rfl (Nat.le_of_ble_eq_true rfl) ?_
  intro p e s m args below meth c ls hx hb hr hts hown hlocks hml hini hG hP hD hS hl
  have hinX2 : ∀ x ∈ wsX20, x ∈ wsX2_amount := by decide +kernel
  have hl : lv_has ls 2 [(0, .ref (qm 0)), (1, .int (nI j))] := hl
  refine lv_aload_n hx hb dX2_amount_0 rfl (lv_at hl 0 rfl) ?_
  refine lv_aload_n hx hb dX2_amount_1 rfl (lv_at hl 0 rfl) ?_
  refine kget (ci := 3) (C := RX2) (T := TX2) (N := 18) hx hb hts hown hG hP 0 rfl rfl hinX2 4 (by decide) (by decide +kernel) rfl dX2_amount_2 ?_
  refine lv_iload_n hx hb dX2_amount_5 rfl (lv_at hl 1 rfl) ?_
  refine kc_i (va_runV (As := [.ref (qm 4), .int (nI j)]) (rest := []) ⟨hx, hb, hml, hown, hts⟩ (c_X2_of_amount hn hj) (cwV 2 hts gX2_amount_X2_of rfl rfl rfl (by decide +kernel) ⟨Nat.le_of_ble_eq_true rfl, Nat.le_of_ble_eq_true rfl⟩) (kpv (q0 := 0) hG hP hD hS rfl rfl) rfl rfl hl.1 rfl (lv_room (Nat.le_of_ble_eq_true rfl)) dX2_amount_6 ⟨Nat.le_of_ble_eq_true rfl, Nat.le_of_ble_eq_true rfl⟩) hS (fun r6 w H locs hp hP hD hS => ?_)
  rw [hp.2] at hP hD
  rw [hp.1]
  exact kr_i hx hb hr hlocks hP hD hS (Nat.zero_le _) (Nat.zero_le _) (⟨rfl, rfl⟩) dX2_amount_9
set_option maxHeartbeats 4000000 in
set_option maxRecDepth 100000 in
theorem c_X2_amount_1 {l : Launch} {K : Ks} {A : Nat → Prop} {qm : Nat → Nat} {td th : Int32} {M X : Nat → Nat → Int32} {n : Nat} {x : Int32} (hn : n ≤ 30) (hj : ixBad n x) : Met l yX2_amount wsX2_amount (kR 3 0 0) (kPr K A [.ref (qm 0), .int x] (Mfix K qm td (nI n) th M X)) (kQi K A (fun _ w => w = Mfix K qm td (nI n) 1 M X)) 0 0 A := by
  refine kent (cc := cX2_amount) (maxL := 2) (ret := (some .int)) (by decide) rfl (Nat.le_of_ble_eq_true rfl) ?_
  intro p e s m args below meth c ls hx hb hr hts hown hlocks hml hini hG hP hD hS hl
  have hinX2 : ∀ x ∈ wsX20, x ∈ wsX2_amount := by decide +kernel
  have hl : lv_has ls 2 [(0, .ref (qm 0)), (1, .int x)] := hl
  refine lv_aload_n hx hb dX2_amount_0 rfl (lv_at hl 0 rfl) ?_
  refine lv_aload_n hx hb dX2_amount_1 rfl (lv_at hl 0 rfl) ?_
  refine kget (ci := 3) (C := RX2) (T := TX2) (N := 18) hx hb hts hown hG hP 0 rfl rfl hinX2 4 (by decide) (by decide +kernel) rfl dX2_amount_2 ?_
  refine lv_iload_n hx hb dX2_amount_5 rfl (lv_at hl 1 rfl) ?_
  refine kc_i (va_runV (As := [.ref (qm 4), .int x]) (rest := []) ⟨hx, hb, hml, hown, hts⟩ (c_X2_of_amount_1 hn hj) (cwV 2 hts gX2_amount_X2_of rfl rfl rfl (by decide +kernel) ⟨Nat.le_of_ble_eq_true rfl, Nat.le_of_ble_eq_true rfl⟩) (kpv (q0 := 0) hG hP hD hS rfl rfl) rfl rfl hl.1 rfl (lv_room (Nat.le_of_ble_eq_true rfl)) dX2_amount_6 ⟨Nat.le_of_ble_eq_true rfl, Nat.le_of_ble_eq_true rfl⟩) hS (fun r6 w H locs hp hP hD hS => ?_)
  rw [hp] at hP hD
  exact kr_i hx hb hr hlocks hP hD hS (Nat.zero_le _) (Nat.zero_le _) (rfl) dX2_amount_9
set_option maxHeartbeats 4000000 in
set_option maxRecDepth 100000 in
theorem c_X2_of_paid {l : Launch} {K : Ks} {A : Nat → Prop} {qm : Nat → Nat} {td th : Int32} {M X : Nat → Nat → Int32} {n j : Nat} (hn : n ≤ 30) (hj : j < n) : Met l yX2_of wsX2_of (kR 2 0 0) (kPr K A [.ref (qm 0), .ref (qm 8), .int (nI j)] (Mfix K qm td (nI n) th M X)) (kQi K A (fun r w => r = M 8 j ∧ w = Mfix K qm td (nI n) 0 M X)) 0 0 A := by
  refine kent (cc := cX2_of) (maxL := 3) (ret := (some .int)) (by decide) rfl (Nat.le_of_ble_eq_true rfl) ?_
  intro p e s m args below meth c ls hx hb hr hts hown hlocks hml hini hG hP hD hS hl
  have hinX2 : ∀ x ∈ wsX20, x ∈ wsX2_of := by decide +kernel
  have hl : lv_has ls 3 [(0, .ref (qm 0)), (1, .ref (qm 8)), (2, .int (nI j))] := hl
  refine lv_aload_n hx hb dX2_of_0 rfl (lv_at hl 0 rfl) ?_
  refine lv_aload_n hx hb dX2_of_1 rfl (lv_at hl 0 rfl) ?_
  refine lv_iload_n hx hb dX2_of_2 rfl (lv_at hl 2 rfl) ?_
  refine kc_i (va_runV (As := [.int (nI j)]) (rest := [.ref (qm 0)]) ⟨hx, hb, hml, hown, hts⟩ (c_X2_is (z := 1) (bi_t (ix_in (by omega) hj)).symm) (cwV 1 hts gX2_of_X2_is rfl rfl rfl (by decide +kernel) ⟨Nat.le_of_ble_eq_true rfl, Nat.le_of_ble_eq_true rfl⟩) (kpv (q0 := 0) hG hP hD hS rfl rfl) rfl rfl hl.1 rfl (lv_room (Nat.le_of_ble_eq_true rfl)) dX2_of_3 ⟨Nat.le_of_ble_eq_true rfl, Nat.le_of_ble_eq_true rfl⟩) hS (fun r3 w H locs hp hP hD hS => ?_)
  rw [hp.2] at hP hD
  rw [hp.1]
  refine lv_if_eq (tgt := 13) hx hb dX2_of_6 (by decide) (fun h6 => False.elim (absurd h6 (by decide))) (fun h6 => ?_)
  refine lv_iconst (v := 0) hx hb dX2_of_9 (by decide) ?_
  refine lv_goto (tgt := 14) hx hb dX2_of_10 (by decide) ?_
  refine kc_i (va_runV (As := [.int 0]) (rest := []) ⟨hx, hb, hml, hown, hts⟩ (c_X2_fails (x := 0) (z := 0) (by decide)) (cwV 1 hts gX2_of_X2_fails rfl rfl rfl (by decide +kernel) ⟨Nat.le_of_ble_eq_true rfl, Nat.le_of_ble_eq_true rfl⟩) (kpv (q0 := 0) hG hP hD hS rfl rfl) rfl rfl hl.1 rfl (lv_room (Nat.le_of_ble_eq_true rfl)) dX2_of_14 ⟨Nat.le_of_ble_eq_true rfl, Nat.le_of_ble_eq_true rfl⟩) hS (fun r14 w H locs hp hP hD hS => ?_)
  rw [hp.2] at hP hD
  rw [hp.1]
  refine lv_if_eq (tgt := 24) hx hb dX2_of_17 (by decide) (fun h17 => ?_) (fun h17 => False.elim (absurd rfl h17))
  refine lv_aload_n hx hb dX2_of_24 rfl (lv_at hl 1 rfl) ?_
  refine lv_iload_n hx hb dX2_of_25 rfl (lv_at hl 2 rfl) ?_
  refine kiald (n := 30) (j := j) hx hb hG hP 7 rfl (by omega) (by decide) dX2_of_26 ?_
  exact kr_i hx hb hr hlocks hP hD hS (Nat.zero_le _) (Nat.zero_le _) (⟨rfl, rfl⟩) dX2_of_27
set_option maxHeartbeats 4000000 in
set_option maxRecDepth 100000 in
theorem c_X2_of_paid_1 {l : Launch} {K : Ks} {A : Nat → Prop} {qm : Nat → Nat} {td th : Int32} {M X : Nat → Nat → Int32} {n : Nat} {x : Int32} (hn : n ≤ 30) (hj : ixBad n x) : Met l yX2_of wsX2_of (kR 2 0 0) (kPr K A [.ref (qm 0), .ref (qm 8), .int x] (Mfix K qm td (nI n) th M X)) (kQi K A (fun _ w => w = Mfix K qm td (nI n) 1 M X)) 0 0 A := by
  refine kent (cc := cX2_of) (maxL := 3) (ret := (some .int)) (by decide) rfl (Nat.le_of_ble_eq_true rfl) ?_
  intro p e s m args below meth c ls hx hb hr hts hown hlocks hml hini hG hP hD hS hl
  have hinX2 : ∀ x ∈ wsX20, x ∈ wsX2_of := by decide +kernel
  have hl : lv_has ls 3 [(0, .ref (qm 0)), (1, .ref (qm 8)), (2, .int x)] := hl
  refine lv_aload_n hx hb dX2_of_0 rfl (lv_at hl 0 rfl) ?_
  refine lv_aload_n hx hb dX2_of_1 rfl (lv_at hl 0 rfl) ?_
  refine lv_iload_n hx hb dX2_of_2 rfl (lv_at hl 2 rfl) ?_
  refine kc_i (va_runV (As := [.int x]) (rest := [.ref (qm 0)]) ⟨hx, hb, hml, hown, hts⟩ (c_X2_is (z := 0) (bi_f (ix_bad (by omega) hj)).symm) (cwV 1 hts gX2_of_X2_is rfl rfl rfl (by decide +kernel) ⟨Nat.le_of_ble_eq_true rfl, Nat.le_of_ble_eq_true rfl⟩) (kpv (q0 := 0) hG hP hD hS rfl rfl) rfl rfl hl.1 rfl (lv_room (Nat.le_of_ble_eq_true rfl)) dX2_of_3 ⟨Nat.le_of_ble_eq_true rfl, Nat.le_of_ble_eq_true rfl⟩) hS (fun r3 w H locs hp hP hD hS => ?_)
  rw [hp.2] at hP hD
  rw [hp.1]
  refine lv_if_eq (tgt := 13) hx hb dX2_of_6 (by decide) (fun h6 => ?_) (fun h6 => False.elim (absurd rfl h6))
  refine lv_iconst (v := 1) hx hb dX2_of_13 (by decide) ?_
  refine kc_i (va_runV (As := [.int 1]) (rest := []) ⟨hx, hb, hml, hown, hts⟩ (c_X2_fails (x := 1) (z := 1) (by decide)) (cwV 1 hts gX2_of_X2_fails rfl rfl rfl (by decide +kernel) ⟨Nat.le_of_ble_eq_true rfl, Nat.le_of_ble_eq_true rfl⟩) (kpv (q0 := 0) hG hP hD hS rfl rfl) rfl rfl hl.1 rfl (lv_room (Nat.le_of_ble_eq_true rfl)) dX2_of_14 ⟨Nat.le_of_ble_eq_true rfl, Nat.le_of_ble_eq_true rfl⟩) hS (fun r14 w H locs hp hP hD hS => ?_)
  rw [hp.2] at hP hD
  rw [hp.1]
  refine lv_if_eq (tgt := 24) hx hb dX2_of_17 (by decide) (fun h17 => False.elim (absurd h17 (by decide))) (fun h17 => ?_)
  refine lv_iconst (v := 0) hx hb dX2_of_20 (by decide) ?_
  refine lv_goto (tgt := 27) hx hb dX2_of_21 (by decide) ?_
  exact kr_i hx hb hr hlocks hP hD hS (Nat.zero_le _) (Nat.zero_le _) (rfl) dX2_of_27
set_option maxHeartbeats 4000000 in
set_option maxRecDepth 100000 in
theorem c_X2_paid_ok {l : Launch} {K : Ks} {A : Nat → Prop} {qm : Nat → Nat} {td th : Int32} {M X : Nat → Nat → Int32} {n j : Nat} (hn : n ≤ 30) (hj : j < n) : Met l yX2_paid wsX2_paid (kR 3 0 0) (kPr K A [.ref (qm 0), .int (nI j)] (Mfix K qm td (nI n) th M X)) (kQi K A (fun r w => r = M 8 j ∧ w = Mfix K qm td (nI n) 0 M X)) 0 0 A := by
  refine kent (cc := cX2_paid) (maxL := 2) (ret := (some .int)) (by decide) rfl (Nat.le_of_ble_eq_true rfl) ?_
  intro p e s m args below meth c ls hx hb hr hts hown hlocks hml hini hG hP hD hS hl
  have hinX2 : ∀ x ∈ wsX20, x ∈ wsX2_paid := by decide +kernel
  have hl : lv_has ls 2 [(0, .ref (qm 0)), (1, .int (nI j))] := hl
  refine lv_aload_n hx hb dX2_paid_0 rfl (lv_at hl 0 rfl) ?_
  refine lv_aload_n hx hb dX2_paid_1 rfl (lv_at hl 0 rfl) ?_
  refine kget (ci := 3) (C := RX2) (T := TX2) (N := 18) hx hb hts hown hG hP 0 rfl rfl hinX2 8 (by decide) (by decide +kernel) rfl dX2_paid_2 ?_
  refine lv_iload_n hx hb dX2_paid_5 rfl (lv_at hl 1 rfl) ?_
  refine kc_i (va_runV (As := [.ref (qm 8), .int (nI j)]) (rest := []) ⟨hx, hb, hml, hown, hts⟩ (c_X2_of_paid hn hj) (cwV 2 hts gX2_paid_X2_of rfl rfl rfl (by decide +kernel) ⟨Nat.le_of_ble_eq_true rfl, Nat.le_of_ble_eq_true rfl⟩) (kpv (q0 := 0) hG hP hD hS rfl rfl) rfl rfl hl.1 rfl (lv_room (Nat.le_of_ble_eq_true rfl)) dX2_paid_6 ⟨Nat.le_of_ble_eq_true rfl, Nat.le_of_ble_eq_true rfl⟩) hS (fun r6 w H locs hp hP hD hS => ?_)
  rw [hp.2] at hP hD
  rw [hp.1]
  exact kr_i hx hb hr hlocks hP hD hS (Nat.zero_le _) (Nat.zero_le _) (⟨rfl, rfl⟩) dX2_paid_9
set_option maxHeartbeats 4000000 in
set_option maxRecDepth 100000 in
theorem c_X2_paid_1 {l : Launch} {K : Ks} {A : Nat → Prop} {qm : Nat → Nat} {td th : Int32} {M X : Nat → Nat → Int32} {n : Nat} {x : Int32} (hn : n ≤ 30) (hj : ixBad n x) : Met l yX2_paid wsX2_paid (kR 3 0 0) (kPr K A [.ref (qm 0), .int x] (Mfix K qm td (nI n) th M X)) (kQi K A (fun _ w => w = Mfix K qm td (nI n) 1 M X)) 0 0 A := by
  refine kent (cc := cX2_paid) (maxL := 2) (ret := (some .int)) (by decide) rfl (Nat.le_of_ble_eq_true rfl) ?_
  intro p e s m args below meth c ls hx hb hr hts hown hlocks hml hini hG hP hD hS hl
  have hinX2 : ∀ x ∈ wsX20, x ∈ wsX2_paid := by decide +kernel
  have hl : lv_has ls 2 [(0, .ref (qm 0)), (1, .int x)] := hl
  refine lv_aload_n hx hb dX2_paid_0 rfl (lv_at hl 0 rfl) ?_
  refine lv_aload_n hx hb dX2_paid_1 rfl (lv_at hl 0 rfl) ?_
  refine kget (ci := 3) (C := RX2) (T := TX2) (N := 18) hx hb hts hown hG hP 0 rfl rfl hinX2 8 (by decide) (by decide +kernel) rfl dX2_paid_2 ?_
  refine lv_iload_n hx hb dX2_paid_5 rfl (lv_at hl 1 rfl) ?_
  refine kc_i (va_runV (As := [.ref (qm 8), .int x]) (rest := []) ⟨hx, hb, hml, hown, hts⟩ (c_X2_of_paid_1 hn hj) (cwV 2 hts gX2_paid_X2_of rfl rfl rfl (by decide +kernel) ⟨Nat.le_of_ble_eq_true rfl, Nat.le_of_ble_eq_true rfl⟩) (kpv (q0 := 0) hG hP hD hS rfl rfl) rfl rfl hl.1 rfl (lv_room (Nat.le_of_ble_eq_true rfl)) dX2_paid_6 ⟨Nat.le_of_ble_eq_true rfl, Nat.le_of_ble_eq_true rfl⟩) hS (fun r6 w H locs hp hP hD hS => ?_)
  rw [hp] at hP hD
  exact kr_i hx hb hr hlocks hP hD hS (Nat.zero_le _) (Nat.zero_le _) (rfl) dX2_paid_9
set_option maxHeartbeats 4000000 in
set_option maxRecDepth 100000 in
theorem c_X2_of_heldBack {l : Launch} {K : Ks} {A : Nat → Prop} {qm : Nat → Nat} {td th : Int32} {M X : Nat → Nat → Int32} {n j : Nat} (hn : n ≤ 30) (hj : j < n) : Met l yX2_of wsX2_of (kR 2 0 0) (kPr K A [.ref (qm 0), .ref (qm 9), .int (nI j)] (Mfix K qm td (nI n) th M X)) (kQi K A (fun r w => r = M 9 j ∧ w = Mfix K qm td (nI n) 0 M X)) 0 0 A := by
  refine kent (cc := cX2_of) (maxL := 3) (ret := (some .int)) (by decide) rfl (Nat.le_of_ble_eq_true rfl) ?_
  intro p e s m args below meth c ls hx hb hr hts hown hlocks hml hini hG hP hD hS hl
  have hinX2 : ∀ x ∈ wsX20, x ∈ wsX2_of := by decide +kernel
  have hl : lv_has ls 3 [(0, .ref (qm 0)), (1, .ref (qm 9)), (2, .int (nI j))] := hl
  refine lv_aload_n hx hb dX2_of_0 rfl (lv_at hl 0 rfl) ?_
  refine lv_aload_n hx hb dX2_of_1 rfl (lv_at hl 0 rfl) ?_
  refine lv_iload_n hx hb dX2_of_2 rfl (lv_at hl 2 rfl) ?_
  refine kc_i (va_runV (As := [.int (nI j)]) (rest := [.ref (qm 0)]) ⟨hx, hb, hml, hown, hts⟩ (c_X2_is (z := 1) (bi_t (ix_in (by omega) hj)).symm) (cwV 1 hts gX2_of_X2_is rfl rfl rfl (by decide +kernel) ⟨Nat.le_of_ble_eq_true rfl, Nat.le_of_ble_eq_true rfl⟩) (kpv (q0 := 0) hG hP hD hS rfl rfl) rfl rfl hl.1 rfl (lv_room (Nat.le_of_ble_eq_true rfl)) dX2_of_3 ⟨Nat.le_of_ble_eq_true rfl, Nat.le_of_ble_eq_true rfl⟩) hS (fun r3 w H locs hp hP hD hS => ?_)
  rw [hp.2] at hP hD
  rw [hp.1]
  refine lv_if_eq (tgt := 13) hx hb dX2_of_6 (by decide) (fun h6 => False.elim (absurd h6 (by decide))) (fun h6 => ?_)
  refine lv_iconst (v := 0) hx hb dX2_of_9 (by decide) ?_
  refine lv_goto (tgt := 14) hx hb dX2_of_10 (by decide) ?_
  refine kc_i (va_runV (As := [.int 0]) (rest := []) ⟨hx, hb, hml, hown, hts⟩ (c_X2_fails (x := 0) (z := 0) (by decide)) (cwV 1 hts gX2_of_X2_fails rfl rfl rfl (by decide +kernel) ⟨Nat.le_of_ble_eq_true rfl, Nat.le_of_ble_eq_true rfl⟩) (kpv (q0 := 0) hG hP hD hS rfl rfl) rfl rfl hl.1 rfl (lv_room (Nat.le_of_ble_eq_true rfl)) dX2_of_14 ⟨Nat.le_of_ble_eq_true rfl, Nat.le_of_ble_eq_true rfl⟩) hS (fun r14 w H locs hp hP hD hS => ?_)
  rw [hp.2] at hP hD
  rw [hp.1]
  refine lv_if_eq (tgt := 24) hx hb dX2_of_17 (by decide) (fun h17 => ?_) (fun h17 => False.elim (absurd rfl h17))
  refine lv_aload_n hx hb dX2_of_24 rfl (lv_at hl 1 rfl) ?_
  refine lv_iload_n hx hb dX2_of_25 rfl (lv_at hl 2 rfl) ?_
  refine kiald (n := 30) (j := j) hx hb hG hP 8 rfl (by omega) (by decide) dX2_of_26 ?_
  exact kr_i hx hb hr hlocks hP hD hS (Nat.zero_le _) (Nat.zero_le _) (⟨rfl, rfl⟩) dX2_of_27
set_option maxHeartbeats 4000000 in
set_option maxRecDepth 100000 in
theorem c_X2_of_heldBack_1 {l : Launch} {K : Ks} {A : Nat → Prop} {qm : Nat → Nat} {td th : Int32} {M X : Nat → Nat → Int32} {n : Nat} {x : Int32} (hn : n ≤ 30) (hj : ixBad n x) : Met l yX2_of wsX2_of (kR 2 0 0) (kPr K A [.ref (qm 0), .ref (qm 9), .int x] (Mfix K qm td (nI n) th M X)) (kQi K A (fun _ w => w = Mfix K qm td (nI n) 1 M X)) 0 0 A := by
  refine kent (cc := cX2_of) (maxL := 3) (ret := (some .int)) (by decide) rfl (Nat.le_of_ble_eq_true rfl) ?_
  intro p e s m args below meth c ls hx hb hr hts hown hlocks hml hini hG hP hD hS hl
  have hinX2 : ∀ x ∈ wsX20, x ∈ wsX2_of := by decide +kernel
  have hl : lv_has ls 3 [(0, .ref (qm 0)), (1, .ref (qm 9)), (2, .int x)] := hl
  refine lv_aload_n hx hb dX2_of_0 rfl (lv_at hl 0 rfl) ?_
  refine lv_aload_n hx hb dX2_of_1 rfl (lv_at hl 0 rfl) ?_
  refine lv_iload_n hx hb dX2_of_2 rfl (lv_at hl 2 rfl) ?_
  refine kc_i (va_runV (As := [.int x]) (rest := [.ref (qm 0)]) ⟨hx, hb, hml, hown, hts⟩ (c_X2_is (z := 0) (bi_f (ix_bad (by omega) hj)).symm) (cwV 1 hts gX2_of_X2_is rfl rfl rfl (by decide +kernel) ⟨Nat.le_of_ble_eq_true rfl, Nat.le_of_ble_eq_true rfl⟩) (kpv (q0 := 0) hG hP hD hS rfl rfl) rfl rfl hl.1 rfl (lv_room (Nat.le_of_ble_eq_true rfl)) dX2_of_3 ⟨Nat.le_of_ble_eq_true rfl, Nat.le_of_ble_eq_true rfl⟩) hS (fun r3 w H locs hp hP hD hS => ?_)
  rw [hp.2] at hP hD
  rw [hp.1]
  refine lv_if_eq (tgt := 13) hx hb dX2_of_6 (by decide) (fun h6 => ?_) (fun h6 => False.elim (absurd rfl h6))
  refine lv_iconst (v := 1) hx hb dX2_of_13 (by decide) ?_
  refine kc_i (va_runV (As := [.int 1]) (rest := []) ⟨hx, hb, hml, hown, hts⟩ (c_X2_fails (x := 1) (z := 1) (by decide)) (cwV 1 hts gX2_of_X2_fails rfl rfl rfl (by decide +kernel) ⟨Nat.le_of_ble_eq_true rfl, Nat.le_of_ble_eq_true rfl⟩) (kpv (q0 := 0) hG hP hD hS rfl rfl) rfl rfl hl.1 rfl (lv_room (Nat.le_of_ble_eq_true rfl)) dX2_of_14 ⟨Nat.le_of_ble_eq_true rfl, Nat.le_of_ble_eq_true rfl⟩) hS (fun r14 w H locs hp hP hD hS => ?_)
  rw [hp.2] at hP hD
  rw [hp.1]
  refine lv_if_eq (tgt := 24) hx hb dX2_of_17 (by decide) (fun h17 => False.elim (absurd h17 (by decide))) (fun h17 => ?_)
  refine lv_iconst (v := 0) hx hb dX2_of_20 (by decide) ?_
  refine lv_goto (tgt := 27) hx hb dX2_of_21 (by decide) ?_
  exact kr_i hx hb hr hlocks hP hD hS (Nat.zero_le _) (Nat.zero_le _) (rfl) dX2_of_27
set_option maxHeartbeats 4000000 in
set_option maxRecDepth 100000 in
theorem c_X2_heldBack_ok {l : Launch} {K : Ks} {A : Nat → Prop} {qm : Nat → Nat} {td th : Int32} {M X : Nat → Nat → Int32} {n j : Nat} (hn : n ≤ 30) (hj : j < n) : Met l yX2_heldBack wsX2_heldBack (kR 3 0 0) (kPr K A [.ref (qm 0), .int (nI j)] (Mfix K qm td (nI n) th M X)) (kQi K A (fun r w => r = M 9 j ∧ w = Mfix K qm td (nI n) 0 M X)) 0 0 A := by
  refine kent (cc := cX2_heldBack) (maxL := 2) (ret := (some .int)) (by decide) rfl (Nat.le_of_ble_eq_true rfl) ?_
  intro p e s m args below meth c ls hx hb hr hts hown hlocks hml hini hG hP hD hS hl
  have hinX2 : ∀ x ∈ wsX20, x ∈ wsX2_heldBack := by decide +kernel
  have hl : lv_has ls 2 [(0, .ref (qm 0)), (1, .int (nI j))] := hl
  refine lv_aload_n hx hb dX2_heldBack_0 rfl (lv_at hl 0 rfl) ?_
  refine lv_aload_n hx hb dX2_heldBack_1 rfl (lv_at hl 0 rfl) ?_
  refine kget (ci := 3) (C := RX2) (T := TX2) (N := 18) hx hb hts hown hG hP 0 rfl rfl hinX2 9 (by decide) (by decide +kernel) rfl dX2_heldBack_2 ?_
  refine lv_iload_n hx hb dX2_heldBack_5 rfl (lv_at hl 1 rfl) ?_
  refine kc_i (va_runV (As := [.ref (qm 9), .int (nI j)]) (rest := []) ⟨hx, hb, hml, hown, hts⟩ (c_X2_of_heldBack hn hj) (cwV 2 hts gX2_heldBack_X2_of rfl rfl rfl (by decide +kernel) ⟨Nat.le_of_ble_eq_true rfl, Nat.le_of_ble_eq_true rfl⟩) (kpv (q0 := 0) hG hP hD hS rfl rfl) rfl rfl hl.1 rfl (lv_room (Nat.le_of_ble_eq_true rfl)) dX2_heldBack_6 ⟨Nat.le_of_ble_eq_true rfl, Nat.le_of_ble_eq_true rfl⟩) hS (fun r6 w H locs hp hP hD hS => ?_)
  rw [hp.2] at hP hD
  rw [hp.1]
  exact kr_i hx hb hr hlocks hP hD hS (Nat.zero_le _) (Nat.zero_le _) (⟨rfl, rfl⟩) dX2_heldBack_9
set_option maxHeartbeats 4000000 in
set_option maxRecDepth 100000 in
theorem c_X2_heldBack_1 {l : Launch} {K : Ks} {A : Nat → Prop} {qm : Nat → Nat} {td th : Int32} {M X : Nat → Nat → Int32} {n : Nat} {x : Int32} (hn : n ≤ 30) (hj : ixBad n x) : Met l yX2_heldBack wsX2_heldBack (kR 3 0 0) (kPr K A [.ref (qm 0), .int x] (Mfix K qm td (nI n) th M X)) (kQi K A (fun _ w => w = Mfix K qm td (nI n) 1 M X)) 0 0 A := by
  refine kent (cc := cX2_heldBack) (maxL := 2) (ret := (some .int)) (by decide) rfl (Nat.le_of_ble_eq_true rfl) ?_
  intro p e s m args below meth c ls hx hb hr hts hown hlocks hml hini hG hP hD hS hl
  have hinX2 : ∀ x ∈ wsX20, x ∈ wsX2_heldBack := by decide +kernel
  have hl : lv_has ls 2 [(0, .ref (qm 0)), (1, .int x)] := hl
  refine lv_aload_n hx hb dX2_heldBack_0 rfl (lv_at hl 0 rfl) ?_
  refine lv_aload_n hx hb dX2_heldBack_1 rfl (lv_at hl 0 rfl) ?_
  refine kget (ci := 3) (C := RX2) (T := TX2) (N := 18) hx hb hts hown hG hP 0 rfl rfl hinX2 9 (by decide) (by decide +kernel) rfl dX2_heldBack_2 ?_
  refine lv_iload_n hx hb dX2_heldBack_5 rfl (lv_at hl 1 rfl) ?_
  refine kc_i (va_runV (As := [.ref (qm 9), .int x]) (rest := []) ⟨hx, hb, hml, hown, hts⟩ (c_X2_of_heldBack_1 hn hj) (cwV 2 hts gX2_heldBack_X2_of rfl rfl rfl (by decide +kernel) ⟨Nat.le_of_ble_eq_true rfl, Nat.le_of_ble_eq_true rfl⟩) (kpv (q0 := 0) hG hP hD hS rfl rfl) rfl rfl hl.1 rfl (lv_room (Nat.le_of_ble_eq_true rfl)) dX2_heldBack_6 ⟨Nat.le_of_ble_eq_true rfl, Nat.le_of_ble_eq_true rfl⟩) hS (fun r6 w H locs hp hP hD hS => ?_)
  rw [hp] at hP hD
  exact kr_i hx hb hr hlocks hP hD hS (Nat.zero_le _) (Nat.zero_le _) (rfl) dX2_heldBack_9
set_option maxHeartbeats 4000000 in
set_option maxRecDepth 100000 in
theorem c_X2_discount {l : Launch} {K : Ks} {A : Nat → Prop} {qm : Nat → Nat} {td nb th : Int32} {M X : Nat → Nat → Int32} {j : Nat} (hj : j < 30) : Met l yX2_discount wsX2_discount (kR 0 0 0) (kPr K A [.ref (qm 0), .int (nI j)] (Mfix K qm td nb th M X)) (kQi K A (fun r w => r = disc td M j ∧ w = Mfix K qm td nb th M X)) 0 0 A := by
  refine kent (cc := cX2_discount) (maxL := 2) (ret := (some .int)) (by decide) rfl (Nat.le_of_ble_eq_true rfl) ?_
  intro p e s m args below meth c ls hx hb hr hts hown hlocks hml hini hG hP hD hS hl
  have hinX2 : ∀ x ∈ wsX20, x ∈ wsX2_discount := by decide +kernel
  have hl : lv_has ls 2 [(0, .ref (qm 0)), (1, .int (nI j))] := hl
  refine lv_aload_n hx hb dX2_discount_0 rfl (lv_at hl 0 rfl) ?_
  refine kget (ci := 3) (C := RX2) (T := TX2) (N := 18) hx hb hts hown hG hP 0 rfl rfl hinX2 4 (by decide) (by decide +kernel) rfl dX2_discount_1 ?_
  refine lv_iload_n hx hb dX2_discount_4 rfl (lv_at hl 1 rfl) ?_
  refine kiald (n := 30) (j := j) hx hb hG hP 3 rfl (by omega) (by decide) dX2_discount_5 ?_
  refine lv_i2l (v := ((M 4 j) : Int32).toInt64) hx hb dX2_discount_6 rfl ?_
  refine lv_aload_n hx hb dX2_discount_7 rfl (lv_at hl 0 rfl) ?_
  refine kget (ci := 3) (C := RX2) (T := TX2) (N := 18) hx hb hts hown hG hP 0 rfl rfl hinX2 7 (by decide) (by decide +kernel) rfl dX2_discount_8 ?_
  refine lv_iload_n hx hb dX2_discount_11 rfl (lv_at hl 1 rfl) ?_
  refine kiald (n := 30) (j := j) hx hb hG hP 6 rfl (by omega) (by decide) dX2_discount_12 ?_
  refine lv_i2l (v := ((M 7 j) : Int32).toInt64) hx hb dX2_discount_13 rfl ?_
  refine lv_lmul hx hb dX2_discount_14 ?_
  refine lv_aload_n hx hb dX2_discount_15 rfl (lv_at hl 0 rfl) ?_
  refine kget (ci := 3) (C := RX2) (T := TX2) (N := 18) hx hb hts hown hG hP 0 rfl rfl hinX2 5 (by decide) (by decide +kernel) rfl dX2_discount_16 ?_
  refine lv_iload_n hx hb dX2_discount_19 rfl (lv_at hl 1 rfl) ?_
  refine kiald (n := 30) (j := j) hx hb hG hP 4 rfl (by omega) (by decide) dX2_discount_20 ?_
  refine lv_aload_n hx hb dX2_discount_21 rfl (lv_at hl 0 rfl) ?_
  refine kget (ci := 3) (C := RX2) (T := TX2) (N := 18) hx hb hts hown hG hP 0 rfl rfl hinX2 0 (by decide) (by decide +kernel) rfl dX2_discount_22 ?_
  refine lv_isub hx hb dX2_discount_25 ?_
  refine lv_i2l (v := (((M 5 j) - td) : Int32).toInt64) hx hb dX2_discount_26 rfl ?_
  refine lv_lmul hx hb dX2_discount_27 ?_
  refine lv_ldc2 (v := 3600000) hx hb hown (hts (.constantLong RX2 99 3600000) (by decide +kernel)) dX2_discount_28 ?_
  refine lv_ldiv hx hb dX2_discount_31 (by decide) ?_
  refine lv_l2i (v := ((((((M 4 j) : Int32).toInt64 * ((M 7 j) : Int32).toInt64) * (((M 5 j) - td) : Int32).toInt64) / 3600000) : Int64).toInt32) hx hb dX2_discount_32 rfl ?_
  exact kr_i hx hb hr hlocks hP hD hS (Nat.zero_le _) (Nat.zero_le _) (⟨rfl, rfl⟩) dX2_discount_33
set_option maxHeartbeats 4000000 in
set_option maxRecDepth 100000 in
theorem c_X2_price {l : Launch} {K : Ks} {A : Nat → Prop} {qm : Nat → Nat} {td nb th : Int32} {M X : Nat → Nat → Int32} {j : Nat} (hj : j < 30) : Met l yX2_price wsX2_price (kR 1 0 0) (kPr K A [.ref (qm 0), .int (nI j)] (Mfix K qm td nb th M X)) (kQi K A (fun r w => r = price td M j ∧ w = Mfix K qm td nb th M X)) 0 0 A := by
  refine kent (cc := cX2_price) (maxL := 2) (ret := (some .int)) (by decide) rfl (Nat.le_of_ble_eq_true rfl) ?_
  intro p e s m args below meth c ls hx hb hr hts hown hlocks hml hini hG hP hD hS hl
  have hinX2 : ∀ x ∈ wsX20, x ∈ wsX2_price := by decide +kernel
  have hl : lv_has ls 2 [(0, .ref (qm 0)), (1, .int (nI j))] := hl
  refine lv_aload_n hx hb dX2_price_0 rfl (lv_at hl 0 rfl) ?_
  refine kget (ci := 3) (C := RX2) (T := TX2) (N := 18) hx hb hts hown hG hP 0 rfl rfl hinX2 4 (by decide) (by decide +kernel) rfl dX2_price_1 ?_
  refine lv_iload_n hx hb dX2_price_4 rfl (lv_at hl 1 rfl) ?_
  refine kiald (n := 30) (j := j) hx hb hG hP 3 rfl (by omega) (by decide) dX2_price_5 ?_
  refine lv_aload_n hx hb dX2_price_6 rfl (lv_at hl 0 rfl) ?_
  refine lv_iload_n hx hb dX2_price_7 rfl (lv_at hl 1 rfl) ?_
  refine kc_i (va_runV (As := [.int (nI j)]) (rest := [.int (M 4 j)]) ⟨hx, hb, hml, hown, hts⟩ (c_X2_discount hj) (cwV 1 hts gX2_price_X2_discount rfl rfl rfl (by decide +kernel) ⟨Nat.le_of_ble_eq_true rfl, Nat.le_of_ble_eq_true rfl⟩) (kpv (q0 := 0) hG hP hD hS rfl rfl) rfl rfl hl.1 rfl (lv_room (Nat.le_of_ble_eq_true rfl)) dX2_price_8 ⟨Nat.le_of_ble_eq_true rfl, Nat.le_of_ble_eq_true rfl⟩) hS (fun r8 w H locs hp hP hD hS => ?_)
  rw [hp.2] at hP hD
  rw [hp.1]
  refine lv_isub hx hb dX2_price_11 ?_
  exact kr_i hx hb hr hlocks hP hD hS (Nat.zero_le _) (Nat.zero_le _) (⟨rfl, rfl⟩) dX2_price_12
set_option maxHeartbeats 4000000 in
set_option maxRecDepth 100000 in
theorem c_X2_pair {l : Launch} {K : Ks} {A : Nat → Prop} {qm : Nat → Nat} {td nb th : Int32} {M X : Nat → Nat → Int32} {j : Nat} (hj : j < 30) (hm : okP M j) : Met l yX2_pair wsX2_pair (kR 0 0 0) (kPr K A [.ref (qm 0), .int (nI j)] (Mfix K qm td nb th M X)) (kQi K A (fun r w => r = nI (pr M j) ∧ w = Mfix K qm td nb th M X)) 0 0 A := by
  refine kent (cc := cX2_pair) (maxL := 2) (ret := (some .int)) (by decide) rfl (Nat.le_of_ble_eq_true rfl) ?_
  intro p e s m args below meth c ls hx hb hr hts hown hlocks hml hini hG hP hD hS hl
  have hinX2 : ∀ x ∈ wsX20, x ∈ wsX2_pair := by decide +kernel
  have hl : lv_has ls 2 [(0, .ref (qm 0)), (1, .int (nI j))] := hl
  refine lv_bipush (v := 8) hx hb dX2_pair_0 (by decide) ?_
  refine lv_aload_n hx hb dX2_pair_2 rfl (lv_at hl 0 rfl) ?_
  refine kget (ci := 3) (C := RX2) (T := TX2) (N := 18) hx hb hts hown hG hP 0 rfl rfl hinX2 2 (by decide) (by decide +kernel) rfl dX2_pair_3 ?_
  refine lv_iload_n hx hb dX2_pair_6 rfl (lv_at hl 1 rfl) ?_
  refine kiald (n := 30) (j := j) hx hb hG hP 1 rfl (by omega) (by decide) dX2_pair_7 ?_
  refine lv_imul hx hb dX2_pair_8 ?_
  refine lv_aload_n hx hb dX2_pair_9 rfl (lv_at hl 0 rfl) ?_
  refine kget (ci := 3) (C := RX2) (T := TX2) (N := 18) hx hb hts hown hG hP 0 rfl rfl hinX2 3 (by decide) (by decide +kernel) rfl dX2_pair_10 ?_
  refine lv_iload_n hx hb dX2_pair_13 rfl (lv_at hl 1 rfl) ?_
  refine kiald (n := 30) (j := j) hx hb hG hP 2 rfl (by omega) (by decide) dX2_pair_14 ?_
  refine lv_iadd hx hb dX2_pair_15 ?_
  exact kr_i hx hb hr hlocks hP hD hS (Nat.zero_le _) (Nat.zero_le _) (⟨by rw [hm.1, hm.2.2.1]; exact p8 _ _, rfl⟩) dX2_pair_16
set_option maxHeartbeats 4000000 in
set_option maxRecDepth 100000 in
theorem c_X2_pays {l : Launch} {K : Ks} {A : Nat → Prop} {qm : Nat → Nat} {td nb th : Int32} {M X : Nat → Nat → Int32} {j : Nat} (hj : j < 30) {sm how : Int32} (hm : okP M j) : Met l yX2_pays wsX2_pays (kR 1 0 0) (kPr K A [.ref (qm 0), .int (nI j), .int sm, .int how] (Mfix K qm td nb th M X)) (kQv K A (fun w => w = Mfix K qm td nb th (payM M j sm how) X)) 0 0 A := by
  refine kent (cc := cX2_pays) (maxL := 5) (ret := none) (by decide) rfl (Nat.le_of_ble_eq_true rfl) ?_
  intro p e s m args below meth c ls hx hb hr hts hown hlocks hml hini hG hP hD hS hl
  have hinX2 : ∀ x ∈ wsX20, x ∈ wsX2_pays := by decide +kernel
  have hl : lv_has ls 5 [(0, .ref (qm 0)), (1, .int (nI j)), (2, .int sm), (3, .int how)] := hl
  refine lv_aload_n hx hb dX2_pays_0 rfl (lv_at hl 0 rfl) ?_
  refine kget (ci := 3) (C := RX2) (T := TX2) (N := 18) hx hb hts hown hG hP 0 rfl rfl hinX2 13 (by decide) (by decide +kernel) rfl dX2_pays_1 ?_
  refine lv_aload_n hx hb dX2_pays_4 rfl (lv_at hl 0 rfl) ?_
  refine lv_iload_n hx hb dX2_pays_5 rfl (lv_at hl 1 rfl) ?_
  refine kc_i (va_runV (As := [.int (nI j)]) (rest := [.ref (qm 13)]) ⟨hx, hb, hml, hown, hts⟩ (c_X2_pair hj hm) (cwV 1 hts gX2_pays_X2_pair rfl rfl rfl (by decide +kernel) ⟨Nat.le_of_ble_eq_true rfl, Nat.le_of_ble_eq_true rfl⟩) (kpv (q0 := 0) hG hP hD hS rfl rfl) rfl rfl hl.1 rfl (lv_room (Nat.le_of_ble_eq_true rfl)) dX2_pays_6 ⟨Nat.le_of_ble_eq_true rfl, Nat.le_of_ble_eq_true rfl⟩) hS (fun r6 w H locs hp hP hD hS => ?_)
  rw [hp.2] at hP hD
  rw [hp.1]
  refine kiald (n := 32) (j := (pr M j)) hx hb hG hP 12 rfl hm.lt (by decide) dX2_pays_9 ?_
  refine lv_iload_n hx hb dX2_pays_10 rfl (lv_at hl 2 rfl) ?_
  refine lv_icmp_ge (tgt := 27) hx hb dX2_pays_11 (by decide) (fun h11 => ?_) (fun h11 => ?_)
  · refine lv_iload_n hx hb dX2_pays_27 rfl (lv_at hl 2 rfl) ?_
    refine lv_istore (lv' := [(4, .int sm), (0, .ref (qm 0)), (1, .int (nI j)), (2, .int sm), (3, .int how)]) hx hb dX2_pays_28 hl (by decide) rfl (fun ls hl => ?_)
    refine lv_aload_n hx hb dX2_pays_30 rfl (lv_at hl 1 rfl) ?_
    refine kget (ci := 3) (C := RX2) (T := TX2) (N := 18) hx hb hts hown hG hP 0 rfl rfl hinX2 13 (by decide) (by decide +kernel) rfl dX2_pays_31 ?_
    refine lv_aload_n hx hb dX2_pays_34 rfl (lv_at hl 1 rfl) ?_
    refine lv_iload_n hx hb dX2_pays_35 rfl (lv_at hl 2 rfl) ?_
    refine kc_i (va_runV (As := [.int (nI j)]) (rest := [.ref (qm 13)]) ⟨hx, hb, hml, hown, hts⟩ (c_X2_pair hj hm) (cwV 1 hts gX2_pays_X2_pair rfl rfl rfl (by decide +kernel) ⟨Nat.le_of_ble_eq_true rfl, Nat.le_of_ble_eq_true rfl⟩) (kpv (q0 := 0) hG hP hD hS rfl rfl) rfl rfl hl.1 rfl (lv_room (Nat.le_of_ble_eq_true rfl)) dX2_pays_36 ⟨Nat.le_of_ble_eq_true rfl, Nat.le_of_ble_eq_true rfl⟩) hS (fun r36 w H locs hp hP hD hS => ?_)
    rw [hp.2] at hP hD
    rw [hp.1]
    refine lv_dup2_11 hx hb dX2_pays_39 rfl rfl ?_
    refine kiald (n := 32) (j := (pr M j)) hx hb hG hP 12 rfl hm.lt (by decide) dX2_pays_40 ?_
    refine lv_iload hx hb dX2_pays_41 (lv_at hl 0 rfl) ?_
    refine lv_isub hx hb dX2_pays_43 ?_
    refine kiast (n := 32) (j := (pr M j)) hx hb hG hP hD hS 12 rfl hm.lt (by decide) dX2_pays_44 (fun H locs hP hD hS => ?_)
    have hP : va_P K.1 kCl (Mfix K qm td nb th (up2 M 13 (pr M j) ((M 13 (pr M j)) - sm)) X) H := hP
    have hD : va_D A (Mfix K qm td nb th (up2 M 13 (pr M j) ((M 13 (pr M j)) - sm)) X) := hD
    refine lv_aload_n hx hb dX2_pays_45 rfl (lv_at hl 1 rfl) ?_
    refine kget (ci := 3) (C := RX2) (T := TX2) (N := 18) hx hb hts hown hG hP 0 rfl rfl hinX2 8 (by decide) (by decide +kernel) rfl dX2_pays_46 ?_
    refine lv_iload_n hx hb dX2_pays_49 rfl (lv_at hl 2 rfl) ?_
    refine lv_iload_n hx hb dX2_pays_50 rfl (lv_at hl 3 rfl) ?_
    refine kiast (n := 30) (j := j) hx hb hG hP hD hS 7 rfl (by omega) (by decide) dX2_pays_51 (fun H locs hP hD hS => ?_)
    have hP : va_P K.1 kCl (Mfix K qm td nb th (up2 (up2 M 13 (pr M j) ((M 13 (pr M j)) - sm)) 8 j sm) X) H := hP
    have hD : va_D A (Mfix K qm td nb th (up2 (up2 M 13 (pr M j) ((M 13 (pr M j)) - sm)) 8 j sm) X) := hD
    refine lv_aload_n hx hb dX2_pays_52 rfl (lv_at hl 1 rfl) ?_
    refine kget (ci := 3) (C := RX2) (T := TX2) (N := 18) hx hb hts hown hG hP 0 rfl rfl hinX2 9 (by decide) (by decide +kernel) rfl dX2_pays_53 ?_
    refine lv_iload_n hx hb dX2_pays_56 rfl (lv_at hl 2 rfl) ?_
    refine lv_iload hx hb dX2_pays_57 (lv_at hl 0 rfl) ?_
    refine kiast (n := 30) (j := j) hx hb hG hP hD hS 8 rfl (by omega) (by decide) dX2_pays_59 (fun H locs hP hD hS => ?_)
    have hP : va_P K.1 kCl (Mfix K qm td nb th (up2 (up2 (up2 M 13 (pr M j) ((M 13 (pr M j)) - sm)) 8 j sm) 9 j sm) X) H := hP
    have hD : va_D A (Mfix K qm td nb th (up2 (up2 (up2 M 13 (pr M j) ((M 13 (pr M j)) - sm)) 8 j sm) 9 j sm) X) := hD
    refine lv_aload_n hx hb dX2_pays_60 rfl (lv_at hl 1 rfl) ?_
    refine kget (ci := 3) (C := RX2) (T := TX2) (N := 18) hx hb hts hown hG hP 0 rfl rfl hinX2 6 (by decide) (by decide +kernel) rfl dX2_pays_61 ?_
    refine lv_iload_n hx hb dX2_pays_64 rfl (lv_at hl 2 rfl) ?_
    refine lv_iload_n hx hb dX2_pays_65 rfl (lv_at hl 4 rfl) ?_
    refine kiast (n := 30) (j := j) hx hb hG hP hD hS 5 rfl (by omega) (by decide) dX2_pays_66 (fun H locs hP hD hS => ?_)
    have hP : va_P K.1 kCl (Mfix K qm td nb th (up2 (up2 (up2 (up2 M 13 (pr M j) ((M 13 (pr M j)) - sm)) 8 j sm) 9 j sm) 6 j how) X) H := hP
    have hD : va_D A (Mfix K qm td nb th (up2 (up2 (up2 (up2 M 13 (pr M j) ((M 13 (pr M j)) - sm)) 8 j sm) 9 j sm) 6 j how) X) := hD
    exact kr_v hx hb hr hlocks hP hD hS (Nat.zero_le _) (Nat.zero_le _) (by rw [← payM_m, show payH M j sm = sm from if_neg (i32_nlt.mpr h11)]) dX2_pays_67
  · refine lv_aload_n hx hb dX2_pays_14 rfl (lv_at hl 0 rfl) ?_
    refine kget (ci := 3) (C := RX2) (T := TX2) (N := 18) hx hb hts hown hG hP 0 rfl rfl hinX2 13 (by decide) (by decide +kernel) rfl dX2_pays_15 ?_
    refine lv_aload_n hx hb dX2_pays_18 rfl (lv_at hl 0 rfl) ?_
    refine lv_iload_n hx hb dX2_pays_19 rfl (lv_at hl 1 rfl) ?_
    refine kc_i (va_runV (As := [.int (nI j)]) (rest := [.ref (qm 13)]) ⟨hx, hb, hml, hown, hts⟩ (c_X2_pair hj hm) (cwV 1 hts gX2_pays_X2_pair rfl rfl rfl (by decide +kernel) ⟨Nat.le_of_ble_eq_true rfl, Nat.le_of_ble_eq_true rfl⟩) (kpv (q0 := 0) hG hP hD hS rfl rfl) rfl rfl hl.1 rfl (lv_room (Nat.le_of_ble_eq_true rfl)) dX2_pays_20 ⟨Nat.le_of_ble_eq_true rfl, Nat.le_of_ble_eq_true rfl⟩) hS (fun r20 w H locs hp hP hD hS => ?_)
    rw [hp.2] at hP hD
    rw [hp.1]
    refine kiald (n := 32) (j := (pr M j)) hx hb hG hP 12 rfl hm.lt (by decide) dX2_pays_23 ?_
    refine lv_goto (tgt := 28) hx hb dX2_pays_24 (by decide) ?_
    refine lv_istore (lv' := [(4, .int (M 13 (pr M j))), (0, .ref (qm 0)), (1, .int (nI j)), (2, .int sm), (3, .int how)]) hx hb dX2_pays_28 hl (by decide) rfl (fun ls hl => ?_)
    refine lv_aload_n hx hb dX2_pays_30 rfl (lv_at hl 1 rfl) ?_
    refine kget (ci := 3) (C := RX2) (T := TX2) (N := 18) hx hb hts hown hG hP 0 rfl rfl hinX2 13 (by decide) (by decide +kernel) rfl dX2_pays_31 ?_
    refine lv_aload_n hx hb dX2_pays_34 rfl (lv_at hl 1 rfl) ?_
    refine lv_iload_n hx hb dX2_pays_35 rfl (lv_at hl 2 rfl) ?_
    refine kc_i (va_runV (As := [.int (nI j)]) (rest := [.ref (qm 13)]) ⟨hx, hb, hml, hown, hts⟩ (c_X2_pair hj hm) (cwV 1 hts gX2_pays_X2_pair rfl rfl rfl (by decide +kernel) ⟨Nat.le_of_ble_eq_true rfl, Nat.le_of_ble_eq_true rfl⟩) (kpv (q0 := 0) hG hP hD hS rfl rfl) rfl rfl hl.1 rfl (lv_room (Nat.le_of_ble_eq_true rfl)) dX2_pays_36 ⟨Nat.le_of_ble_eq_true rfl, Nat.le_of_ble_eq_true rfl⟩) hS (fun r36 w H locs hp hP hD hS => ?_)
    rw [hp.2] at hP hD
    rw [hp.1]
    refine lv_dup2_11 hx hb dX2_pays_39 rfl rfl ?_
    refine kiald (n := 32) (j := (pr M j)) hx hb hG hP 12 rfl hm.lt (by decide) dX2_pays_40 ?_
    refine lv_iload hx hb dX2_pays_41 (lv_at hl 0 rfl) ?_
    refine lv_isub hx hb dX2_pays_43 ?_
    refine kiast (n := 32) (j := (pr M j)) hx hb hG hP hD hS 12 rfl hm.lt (by decide) dX2_pays_44 (fun H locs hP hD hS => ?_)
    have hP : va_P K.1 kCl (Mfix K qm td nb th (up2 M 13 (pr M j) ((M 13 (pr M j)) - (M 13 (pr M j)))) X) H := hP
    have hD : va_D A (Mfix K qm td nb th (up2 M 13 (pr M j) ((M 13 (pr M j)) - (M 13 (pr M j)))) X) := hD
    refine lv_aload_n hx hb dX2_pays_45 rfl (lv_at hl 1 rfl) ?_
    refine kget (ci := 3) (C := RX2) (T := TX2) (N := 18) hx hb hts hown hG hP 0 rfl rfl hinX2 8 (by decide) (by decide +kernel) rfl dX2_pays_46 ?_
    refine lv_iload_n hx hb dX2_pays_49 rfl (lv_at hl 2 rfl) ?_
    refine lv_iload_n hx hb dX2_pays_50 rfl (lv_at hl 3 rfl) ?_
    refine kiast (n := 30) (j := j) hx hb hG hP hD hS 7 rfl (by omega) (by decide) dX2_pays_51 (fun H locs hP hD hS => ?_)
    have hP : va_P K.1 kCl (Mfix K qm td nb th (up2 (up2 M 13 (pr M j) ((M 13 (pr M j)) - (M 13 (pr M j)))) 8 j sm) X) H := hP
    have hD : va_D A (Mfix K qm td nb th (up2 (up2 M 13 (pr M j) ((M 13 (pr M j)) - (M 13 (pr M j)))) 8 j sm) X) := hD
    refine lv_aload_n hx hb dX2_pays_52 rfl (lv_at hl 1 rfl) ?_
    refine kget (ci := 3) (C := RX2) (T := TX2) (N := 18) hx hb hts hown hG hP 0 rfl rfl hinX2 9 (by decide) (by decide +kernel) rfl dX2_pays_53 ?_
    refine lv_iload_n hx hb dX2_pays_56 rfl (lv_at hl 2 rfl) ?_
    refine lv_iload hx hb dX2_pays_57 (lv_at hl 0 rfl) ?_
    refine kiast (n := 30) (j := j) hx hb hG hP hD hS 8 rfl (by omega) (by decide) dX2_pays_59 (fun H locs hP hD hS => ?_)
    have hP : va_P K.1 kCl (Mfix K qm td nb th (up2 (up2 (up2 M 13 (pr M j) ((M 13 (pr M j)) - (M 13 (pr M j)))) 8 j sm) 9 j (M 13 (pr M j))) X) H := hP
    have hD : va_D A (Mfix K qm td nb th (up2 (up2 (up2 M 13 (pr M j) ((M 13 (pr M j)) - (M 13 (pr M j)))) 8 j sm) 9 j (M 13 (pr M j))) X) := hD
    refine lv_aload_n hx hb dX2_pays_60 rfl (lv_at hl 1 rfl) ?_
    refine kget (ci := 3) (C := RX2) (T := TX2) (N := 18) hx hb hts hown hG hP 0 rfl rfl hinX2 6 (by decide) (by decide +kernel) rfl dX2_pays_61 ?_
    refine lv_iload_n hx hb dX2_pays_64 rfl (lv_at hl 2 rfl) ?_
    refine lv_iload_n hx hb dX2_pays_65 rfl (lv_at hl 4 rfl) ?_
    refine kiast (n := 30) (j := j) hx hb hG hP hD hS 5 rfl (by omega) (by decide) dX2_pays_66 (fun H locs hP hD hS => ?_)
    have hP : va_P K.1 kCl (Mfix K qm td nb th (up2 (up2 (up2 (up2 M 13 (pr M j) ((M 13 (pr M j)) - (M 13 (pr M j)))) 8 j sm) 9 j (M 13 (pr M j))) 6 j how) X) H := hP
    have hD : va_D A (Mfix K qm td nb th (up2 (up2 (up2 (up2 M 13 (pr M j) ((M 13 (pr M j)) - (M 13 (pr M j)))) 8 j sm) 9 j (M 13 (pr M j))) 6 j how) X) := hD
    exact kr_v hx hb hr hlocks hP hD hS (Nat.zero_le _) (Nat.zero_le _) (by rw [← payM_m, show payH M j sm = M 13 (pr M j) from if_pos (i32_nle.mp h11)]) dX2_pays_67
