/-! The reference, 3: what changes one bill or one number -/
theorem payM_6 (M : Nat → Nat → Int32) (j : Nat) (v sm how : Int32) : payM (up2 M 6 j v) j sm how = payM M j sm how := by
  have e1 : pr (up2 M 6 j v) j = pr M j := rfl
  have e2 : payH (up2 M 6 j v) j sm = payH M j sm := rfl
  funext f
  unfold payM
  rw [e1, e2]
  by_cases h6 : f = 6
  · subst h6; funext i; by_cases hi : i = j <;> simp [up2, va_up, upd, hi]
  · by_cases h8 : f = 8
    · subst h8; simp [up2, va_up]
    · by_cases h9 : f = 9
      · subst h9; simp [up2, va_up]
      · by_cases h13 : f = 13
        · subst h13; simp [up2, va_up]
        · simp [up2, va_up, h6, h8, h9, h13]
/-- what a note on a paid bill adds to the claim; the table behind it -/
def moreS (M : Nat → Nat → Int32) (j : Nat) (y : Int32) : Int32 := (y.toInt64 * (M 8 j).toInt64 / (M 4 j).toInt64).toInt32
def noteM (M : Nat → Nat → Int32) (j : Nat) (y : Int32) : Nat → Nat → Int32 := up2 (up2 M 10 j (M 10 j + y)) 13 (pr M j) (M 13 (pr M j) + moreS M j y)
theorem i64_n0 {x : Int32} (h : ¬ x = 0) : ¬ x.toInt64 = 0 := fun q => h (by
  have e := congrArg Int64.toInt q
  rw [Int32.toInt_toInt64] at e
  exact Int32.toInt_inj.mp (e.trans rfl))
theorem of_not_not {P : Prop} (h : ¬ ¬ P) : P := Classical.byContradiction h
set_option maxHeartbeats 4000000 in
set_option maxRecDepth 100000 in
theorem c_X2_approve_1 {l : Launch} {K : Ks} {A : Nat → Prop} {qm : Nat → Nat} {td th : Int32} {M X : Nat → Nat → Int32} {n : Nat} {x : Int32} (hn : n ≤ 30) (hj : ixBad n x) : Met l yX2_approve wsX2_approve (kR 3 0 0) (kPr K A [.ref (qm 0), .int x] (Mfix K qm td (nI n) th M X)) (kQi K A (fun _ w => w = Mfix K qm td (nI n) 1 M X)) 0 0 A := by
  refine kent (cc := cX2_approve) (maxL := 3) (ret := (some .boolean)) (by decide) rfl (Nat.le_of_ble_eq_true rfl) ?_
  intro p e s m args below meth c ls hx hb hr hts hown hlocks hml hini hG hP hD hS hl
  have hinX2 : ∀ x ∈ wsX20, x ∈ wsX2_approve := by decide +kernel
  have hl : lv_has ls 3 [(0, .ref (qm 0)), (1, .int x)] := hl
  refine lv_aload_n hx hb dX2_approve_0 rfl (lv_at hl 0 rfl) ?_
  refine lv_iload_n hx hb dX2_approve_1 rfl (lv_at hl 1 rfl) ?_
  refine kc_i (va_runV (As := [.int x]) (rest := []) ⟨hx, hb, hml, hown, hts⟩ (c_X2_is (z := 0) (bi_f (ix_bad (by omega) hj)).symm) (cwV 1 hts gX2_approve_X2_is rfl rfl rfl (by decide +kernel) ⟨Nat.le_of_ble_eq_true rfl, Nat.le_of_ble_eq_true rfl⟩) (kpv (q0 := 0) hG hP hD hS rfl rfl) rfl rfl hl.1 rfl (lv_room (Nat.le_of_ble_eq_true rfl)) dX2_approve_2 ⟨Nat.le_of_ble_eq_true rfl, Nat.le_of_ble_eq_true rfl⟩) hS (fun r2 w H locs hp hP hD hS => ?_)
  rw [hp.2] at hP hD
  rw [hp.1]
  refine lv_istore_n (lv' := [(2, .int 0), (0, .ref (qm 0)), (1, .int x)]) hx hb dX2_approve_5 rfl hl (by decide) rfl (fun ls hl => ?_)
  refine lv_aload_n hx hb dX2_approve_6 rfl (lv_at hl 1 rfl) ?_
  refine lv_iload_n hx hb dX2_approve_7 rfl (lv_at hl 0 rfl) ?_
  refine lv_if_ne (tgt := 15) hx hb dX2_approve_8 (by decide) (fun h8 => False.elim (absurd rfl h8)) (fun h8 => ?_)
  refine lv_iconst (v := 1) hx hb dX2_approve_11 (by decide) ?_
  refine lv_goto (tgt := 39) hx hb dX2_approve_12 (by decide) ?_
  refine kc_i (va_runV (As := [.int 1]) (rest := []) ⟨hx, hb, hml, hown, hts⟩ (c_X2_fails (x := 1) (z := 1) (by decide)) (cwV 1 hts gX2_approve_X2_fails rfl rfl rfl (by decide +kernel) ⟨Nat.le_of_ble_eq_true rfl, Nat.le_of_ble_eq_true rfl⟩) (kpv (q0 := 0) hG hP hD hS rfl rfl) rfl rfl hl.1 rfl (lv_room (Nat.le_of_ble_eq_true rfl)) dX2_approve_39 ⟨Nat.le_of_ble_eq_true rfl, Nat.le_of_ble_eq_true rfl⟩) hS (fun r39 w H locs hp hP hD hS => ?_)
  rw [hp.2] at hP hD
  rw [hp.1]
  refine lv_if_eq (tgt := 47) hx hb dX2_approve_42 (by decide) (fun h42 => False.elim (absurd h42 (by decide))) (fun h42 => ?_)
  refine lv_iconst (v := 0) hx hb dX2_approve_45 (by decide) ?_
  exact kr_z hx hb hr hlocks hP hD hS (Nat.zero_le _) (Nat.zero_le _) (Or.inl rfl) (rfl) dX2_approve_46
set_option maxHeartbeats 4000000 in
set_option maxRecDepth 100000 in
theorem c_X2_approve_2 {l : Launch} {K : Ks} {A : Nat → Prop} {qm : Nat → Nat} {td th : Int32} {M X : Nat → Nat → Int32} {n j : Nat} (hn : n ≤ 30) (hj : j < n) (hst : ¬ (M 6 j = 0 ∨ M 6 j = 2)) : Met l yX2_approve wsX2_approve (kR 3 0 0) (kPr K A [.ref (qm 0), .int (nI j)] (Mfix K qm td (nI n) th M X)) (kQi K A (fun _ w => w = Mfix K qm td (nI n) 2 M X)) 0 0 A := by
  refine kent (cc := cX2_approve) (maxL := 3) (ret := (some .boolean)) (by decide) rfl (Nat.le_of_ble_eq_true rfl) ?_
  intro p e s m args below meth c ls hx hb hr hts hown hlocks hml hini hG hP hD hS hl
  have hinX2 : ∀ x ∈ wsX20, x ∈ wsX2_approve := by decide +kernel
  have hl : lv_has ls 3 [(0, .ref (qm 0)), (1, .int (nI j))] := hl
  refine lv_aload_n hx hb dX2_approve_0 rfl (lv_at hl 0 rfl) ?_
  refine lv_iload_n hx hb dX2_approve_1 rfl (lv_at hl 1 rfl) ?_
  refine kc_i (va_runV (As := [.int (nI j)]) (rest := []) ⟨hx, hb, hml, hown, hts⟩ (c_X2_is (z := 1) (bi_t (ix_in (by omega) hj)).symm) (cwV 1 hts gX2_approve_X2_is rfl rfl rfl (by decide +kernel) ⟨Nat.le_of_ble_eq_true rfl, Nat.le_of_ble_eq_true rfl⟩) (kpv (q0 := 0) hG hP hD hS rfl rfl) rfl rfl hl.1 rfl (lv_room (Nat.le_of_ble_eq_true rfl)) dX2_approve_2 ⟨Nat.le_of_ble_eq_true rfl, Nat.le_of_ble_eq_true rfl⟩) hS (fun r2 w H locs hp hP hD hS => ?_)
  rw [hp.2] at hP hD
  rw [hp.1]
  refine lv_istore_n (lv' := [(2, .int 1), (0, .ref (qm 0)), (1, .int (nI j))]) hx hb dX2_approve_5 rfl hl (by decide) rfl (fun ls hl => ?_)
  refine lv_aload_n hx hb dX2_approve_6 rfl (lv_at hl 1 rfl) ?_
  refine lv_iload_n hx hb dX2_approve_7 rfl (lv_at hl 0 rfl) ?_
  refine lv_if_ne (tgt := 15) hx hb dX2_approve_8 (by decide) (fun h8 => ?_) (fun h8 => False.elim (absurd h8 (by decide)))
  refine lv_aload_n hx hb dX2_approve_15 rfl (lv_at hl 1 rfl) ?_
  refine kget (ci := 3) (C := RX2) (T := TX2) (N := 18) hx hb hts hown hG hP 0 rfl rfl hinX2 6 (by decide) (by decide +kernel) rfl dX2_approve_16 ?_
  refine lv_iload_n hx hb dX2_approve_19 rfl (lv_at hl 2 rfl) ?_
  refine kiald (n := 30) (j := j) hx hb hG hP 5 rfl (by omega) (by decide) dX2_approve_20 ?_
  refine lv_if_eq (tgt := 34) hx hb dX2_approve_21 (by decide) (fun h21 => False.elim (hst (Or.inl h21))) (fun h21 => ?_)
  refine lv_aload_n hx hb dX2_approve_24 rfl (lv_at hl 1 rfl) ?_
  refine kget (ci := 3) (C := RX2) (T := TX2) (N := 18) hx hb hts hown hG hP 0 rfl rfl hinX2 6 (by decide) (by decide +kernel) rfl dX2_approve_25 ?_
  refine lv_iload_n hx hb dX2_approve_28 rfl (lv_at hl 2 rfl) ?_
  refine kiald (n := 30) (j := j) hx hb hG hP 5 rfl (by omega) (by decide) dX2_approve_29 ?_
  refine lv_iconst (v := 2) hx hb dX2_approve_30 (by decide) ?_
  refine lv_icmp_ne (tgt := 38) hx hb dX2_approve_31 (by decide) (fun h31 => ?_) (fun h31 => False.elim (hst (Or.inr h31)))
  refine lv_iconst (v := 2) hx hb dX2_approve_38 (by decide) ?_
  refine kc_i (va_runV (As := [.int 2]) (rest := []) ⟨hx, hb, hml, hown, hts⟩ (c_X2_fails (x := 2) (z := 1) (by decide)) (cwV 1 hts gX2_approve_X2_fails rfl rfl rfl (by decide +kernel) ⟨Nat.le_of_ble_eq_true rfl, Nat.le_of_ble_eq_true rfl⟩) (kpv (q0 := 0) hG hP hD hS rfl rfl) rfl rfl hl.1 rfl (lv_room (Nat.le_of_ble_eq_true rfl)) dX2_approve_39 ⟨Nat.le_of_ble_eq_true rfl, Nat.le_of_ble_eq_true rfl⟩) hS (fun r39 w H locs hp hP hD hS => ?_)
  rw [hp.2] at hP hD
  rw [hp.1]
  refine lv_if_eq (tgt := 47) hx hb dX2_approve_42 (by decide) (fun h42 => False.elim (absurd h42 (by decide))) (fun h42 => ?_)
  refine lv_iconst (v := 0) hx hb dX2_approve_45 (by decide) ?_
  exact kr_z hx hb hr hlocks hP hD hS (Nat.zero_le _) (Nat.zero_le _) (Or.inl rfl) (rfl) dX2_approve_46
set_option maxHeartbeats 4000000 in
set_option maxRecDepth 100000 in
theorem c_X2_approve_p {l : Launch} {K : Ks} {A : Nat → Prop} {qm : Nat → Nat} {td th : Int32} {M X : Nat → Nat → Int32} {n j : Nat} (hn : n ≤ 30) (hj : j < n) (hm : okP M j) (hst : M 6 j = 0 ∨ M 6 j = 2) (hdue : M 5 j ≤ td) : Met l yX2_approve wsX2_approve (kR 3 0 0) (kPr K A [.ref (qm 0), .int (nI j)] (Mfix K qm td (nI n) th M X)) (kQi K A (fun r w => r = 1 ∧ w = Mfix K qm td (nI n) 0 (payM M j (M 4 j) 4) X)) 0 0 A := by
  refine kent (cc := cX2_approve) (maxL := 3) (ret := (some .boolean)) (by decide) rfl (Nat.le_of_ble_eq_true rfl) ?_
  intro p e s m args below meth c ls hx hb hr hts hown hlocks hml hini hG hP hD hS hl
  have hinX2 : ∀ x ∈ wsX20, x ∈ wsX2_approve := by decide +kernel
  have hl : lv_has ls 3 [(0, .ref (qm 0)), (1, .int (nI j))] := hl
  refine lv_aload_n hx hb dX2_approve_0 rfl (lv_at hl 0 rfl) ?_
  refine lv_iload_n hx hb dX2_approve_1 rfl (lv_at hl 1 rfl) ?_
  refine kc_i (va_runV (As := [.int (nI j)]) (rest := []) ⟨hx, hb, hml, hown, hts⟩ (c_X2_is (z := 1) (bi_t (ix_in (by omega) hj)).symm) (cwV 1 hts gX2_approve_X2_is rfl rfl rfl (by decide +kernel) ⟨Nat.le_of_ble_eq_true rfl, Nat.le_of_ble_eq_true rfl⟩) (kpv (q0 := 0) hG hP hD hS rfl rfl) rfl rfl hl.1 rfl (lv_room (Nat.le_of_ble_eq_true rfl)) dX2_approve_2 ⟨Nat.le_of_ble_eq_true rfl, Nat.le_of_ble_eq_true rfl⟩) hS (fun r2 w H locs hp hP hD hS => ?_)
  rw [hp.2] at hP hD
  rw [hp.1]
  refine lv_istore_n (lv' := [(2, .int 1), (0, .ref (qm 0)), (1, .int (nI j))]) hx hb dX2_approve_5 rfl hl (by decide) rfl (fun ls hl => ?_)
  refine lv_aload_n hx hb dX2_approve_6 rfl (lv_at hl 1 rfl) ?_
  refine lv_iload_n hx hb dX2_approve_7 rfl (lv_at hl 0 rfl) ?_
  refine lv_if_ne (tgt := 15) hx hb dX2_approve_8 (by decide) (fun h8 => ?_) (fun h8 => False.elim (absurd h8 (by decide)))
  refine lv_aload_n hx hb dX2_approve_15 rfl (lv_at hl 1 rfl) ?_
  refine kget (ci := 3) (C := RX2) (T := TX2) (N := 18) hx hb hts hown hG hP 0 rfl rfl hinX2 6 (by decide) (by decide +kernel) rfl dX2_approve_16 ?_
  refine lv_iload_n hx hb dX2_approve_19 rfl (lv_at hl 2 rfl) ?_
  refine kiald (n := 30) (j := j) hx hb hG hP 5 rfl (by omega) (by decide) dX2_approve_20 ?_
  refine lv_if_eq (tgt := 34) hx hb dX2_approve_21 (by decide) (fun h21 => ?_) (fun h21 => ?_)
  · refine lv_iconst (v := 0) hx hb dX2_approve_34 (by decide) ?_
    refine lv_goto (tgt := 39) hx hb dX2_approve_35 (by decide) ?_
    refine kc_i (va_runV (As := [.int 0]) (rest := []) ⟨hx, hb, hml, hown, hts⟩ (c_X2_fails (x := 0) (z := 0) (by decide)) (cwV 1 hts gX2_approve_X2_fails rfl rfl rfl (by decide +kernel) ⟨Nat.le_of_ble_eq_true rfl, Nat.le_of_ble_eq_true rfl⟩) (kpv (q0 := 0) hG hP hD hS rfl rfl) rfl rfl hl.1 rfl (lv_room (Nat.le_of_ble_eq_true rfl)) dX2_approve_39 ⟨Nat.le_of_ble_eq_true rfl, Nat.le_of_ble_eq_true rfl⟩) hS (fun r39 w H locs hp hP hD hS => ?_)
    rw [hp.2] at hP hD
    rw [hp.1]
    refine lv_if_eq (tgt := 47) hx hb dX2_approve_42 (by decide) (fun h42 => ?_) (fun h42 => False.elim (absurd rfl h42))
    refine lv_aload_n hx hb dX2_approve_47 rfl (lv_at hl 1 rfl) ?_
    refine kget (ci := 3) (C := RX2) (T := TX2) (N := 18) hx hb hts hown hG hP 0 rfl rfl hinX2 6 (by decide) (by decide +kernel) rfl dX2_approve_48 ?_
    refine lv_iload_n hx hb dX2_approve_51 rfl (lv_at hl 2 rfl) ?_
    refine lv_iconst (v := 1) hx hb dX2_approve_52 (by decide) ?_
    refine kiast (n := 30) (j := j) hx hb hG hP hD hS 5 rfl (by omega) (by decide) dX2_approve_53 (fun H locs hP hD hS => ?_)
    have hP : va_P K.1 kCl (Mfix K qm td (nI n) 0 (up2 M 6 j 1) X) H := hP
    have hD : va_D A (Mfix K qm td (nI n) 0 (up2 M 6 j 1) X) := hD
    refine lv_aload_n hx hb dX2_approve_54 rfl (lv_at hl 1 rfl) ?_
    refine kget (ci := 3) (C := RX2) (T := TX2) (N := 18) hx hb hts hown hG hP 0 rfl rfl hinX2 5 (by decide) (by decide +kernel) rfl dX2_approve_55 ?_
    refine lv_iload_n hx hb dX2_approve_58 rfl (lv_at hl 2 rfl) ?_
    refine kiald (n := 30) (j := j) hx hb hG hP 4 rfl (by omega) (by decide) dX2_approve_59 ?_
    refine lv_aload_n hx hb dX2_approve_60 rfl (lv_at hl 1 rfl) ?_
    refine kget (ci := 3) (C := RX2) (T := TX2) (N := 18) hx hb hts hown hG hP 0 rfl rfl hinX2 0 (by decide) (by decide +kernel) rfl dX2_approve_61 ?_
    refine lv_icmp_gt (tgt := 79) hx hb dX2_approve_64 (by decide) (fun h64 => False.elim (absurd hdue (i32_nle.mpr h64))) (fun h64 => ?_)
    refine lv_aload_n hx hb dX2_approve_67 rfl (lv_at hl 1 rfl) ?_
    refine lv_iload_n hx hb dX2_approve_68 rfl (lv_at hl 2 rfl) ?_
    refine lv_aload_n hx hb dX2_approve_69 rfl (lv_at hl 1 rfl) ?_
    refine kget (ci := 3) (C := RX2) (T := TX2) (N := 18) hx hb hts hown hG hP 0 rfl rfl hinX2 4 (by decide) (by decide +kernel) rfl dX2_approve_70 ?_
    refine lv_iload_n hx hb dX2_approve_73 rfl (lv_at hl 2 rfl) ?_
    refine kiald (n := 30) (j := j) hx hb hG hP 3 rfl (by omega) (by decide) dX2_approve_74 ?_
    refine lv_iconst (v := 4) hx hb dX2_approve_75 (by decide) ?_
    refine kc_v (va_runV (As := [.int (nI j), .int ((up2 M 6 j 1) 4 j), .int 4]) (rest := []) ⟨hx, hb, hml, hown, hts⟩ (c_X2_pays (M := up2 M 6 j 1) (sm := M 4 j) (how := 4) (by omega) (hm)) (cwV 3 hts gX2_approve_X2_pays rfl rfl rfl (by decide +kernel) ⟨Nat.le_of_ble_eq_true rfl, Nat.le_of_ble_eq_true rfl⟩) (kpv (q0 := 0) hG hP hD hS rfl rfl) rfl rfl hl.1 rfl (lv_room (Nat.le_of_ble_eq_true rfl)) dX2_approve_76 ⟨Nat.le_of_ble_eq_true rfl, Nat.le_of_ble_eq_true rfl⟩) hS (fun w H locs hp hP hD hS => ?_)
    rw [hp] at hP hD
    rw [show payM (up2 M 6 j 1) j (M 4 j) 4 = payM M j (M 4 j) 4 from payM_6 M j 1 (M 4 j) 4] at hP hD
    refine lv_aload_n hx hb dX2_approve_79 rfl (lv_at hl 1 rfl) ?_
    refine kget (ci := 3) (C := RX2) (T := TX2) (N := 18) hx hb hts hown hG hP 0 rfl rfl hinX2 6 (by decide) (by decide +kernel) rfl dX2_approve_80 ?_
    refine lv_iload_n hx hb dX2_approve_83 rfl (lv_at hl 2 rfl) ?_
    refine kiald (n := 30) (j := j) hx hb hG hP 5 rfl (by omega) (by decide) dX2_approve_84 ?_
    refine ktop (z := 4) (by simp [payM, up2, va_up, upd]) ?_
    refine lv_iconst (v := 4) hx hb dX2_approve_85 (by decide) ?_
    refine lv_icmp_ne (tgt := 93) hx hb dX2_approve_86 (by decide) (fun h86 => False.elim (absurd rfl h86)) (fun h86 => ?_)
    refine lv_iconst (v := 1) hx hb dX2_approve_89 (by decide) ?_
    refine lv_goto (tgt := 94) hx hb dX2_approve_90 (by decide) ?_
    exact kr_z hx hb hr hlocks hP hD hS (Nat.zero_le _) (Nat.zero_le _) (Or.inr rfl) (⟨rfl, rfl⟩) dX2_approve_94
  · refine lv_aload_n hx hb dX2_approve_24 rfl (lv_at hl 1 rfl) ?_
    refine kget (ci := 3) (C := RX2) (T := TX2) (N := 18) hx hb hts hown hG hP 0 rfl rfl hinX2 6 (by decide) (by decide +kernel) rfl dX2_approve_25 ?_
    refine lv_iload_n hx hb dX2_approve_28 rfl (lv_at hl 2 rfl) ?_
    refine kiald (n := 30) (j := j) hx hb hG hP 5 rfl (by omega) (by decide) dX2_approve_29 ?_
    refine lv_iconst (v := 2) hx hb dX2_approve_30 (by decide) ?_
    refine lv_icmp_ne (tgt := 38) hx hb dX2_approve_31 (by decide) (fun h31 => False.elim (hst.elim h21 h31)) (fun h31 => ?_)
    refine lv_iconst (v := 0) hx hb dX2_approve_34 (by decide) ?_
    refine lv_goto (tgt := 39) hx hb dX2_approve_35 (by decide) ?_
    refine kc_i (va_runV (As := [.int 0]) (rest := []) ⟨hx, hb, hml, hown, hts⟩ (c_X2_fails (x := 0) (z := 0) (by decide)) (cwV 1 hts gX2_approve_X2_fails rfl rfl rfl (by decide +kernel) ⟨Nat.le_of_ble_eq_true rfl, Nat.le_of_ble_eq_true rfl⟩) (kpv (q0 := 0) hG hP hD hS rfl rfl) rfl rfl hl.1 rfl (lv_room (Nat.le_of_ble_eq_true rfl)) dX2_approve_39 ⟨Nat.le_of_ble_eq_true rfl, Nat.le_of_ble_eq_true rfl⟩) hS (fun r39 w H locs hp hP hD hS => ?_)
    rw [hp.2] at hP hD
    rw [hp.1]
    refine lv_if_eq (tgt := 47) hx hb dX2_approve_42 (by decide) (fun h42 => ?_) (fun h42 => False.elim (absurd rfl h42))
    refine lv_aload_n hx hb dX2_approve_47 rfl (lv_at hl 1 rfl) ?_
    refine kget (ci := 3) (C := RX2) (T := TX2) (N := 18) hx hb hts hown hG hP 0 rfl rfl hinX2 6 (by decide) (by decide +kernel) rfl dX2_approve_48 ?_
    refine lv_iload_n hx hb dX2_approve_51 rfl (lv_at hl 2 rfl) ?_
    refine lv_iconst (v := 1) hx hb dX2_approve_52 (by decide) ?_
    refine kiast (n := 30) (j := j) hx hb hG hP hD hS 5 rfl (by omega) (by decide) dX2_approve_53 (fun H locs hP hD hS => ?_)
    have hP : va_P K.1 kCl (Mfix K qm td (nI n) 0 (up2 M 6 j 1) X) H := hP
    have hD : va_D A (Mfix K qm td (nI n) 0 (up2 M 6 j 1) X) := hD
    refine lv_aload_n hx hb dX2_approve_54 rfl (lv_at hl 1 rfl) ?_
    refine kget (ci := 3) (C := RX2) (T := TX2) (N := 18) hx hb hts hown hG hP 0 rfl rfl hinX2 5 (by decide) (by decide +kernel) rfl dX2_approve_55 ?_
    refine lv_iload_n hx hb dX2_approve_58 rfl (lv_at hl 2 rfl) ?_
    refine kiald (n := 30) (j := j) hx hb hG hP 4 rfl (by omega) (by decide) dX2_approve_59 ?_
    refine lv_aload_n hx hb dX2_approve_60 rfl (lv_at hl 1 rfl) ?_
    refine kget (ci := 3) (C := RX2) (T := TX2) (N := 18) hx hb hts hown hG hP 0 rfl rfl hinX2 0 (by decide) (by decide +kernel) rfl dX2_approve_61 ?_
    refine lv_icmp_gt (tgt := 79) hx hb dX2_approve_64 (by decide) (fun h64 => False.elim (absurd hdue (i32_nle.mpr h64))) (fun h64 => ?_)
    refine lv_aload_n hx hb dX2_approve_67 rfl (lv_at hl 1 rfl) ?_
    refine lv_iload_n hx hb dX2_approve_68 rfl (lv_at hl 2 rfl) ?_
    refine lv_aload_n hx hb dX2_approve_69 rfl (lv_at hl 1 rfl) ?_
    refine kget (ci := 3) (C := RX2) (T := TX2) (N := 18) hx hb hts hown hG hP 0 rfl rfl hinX2 4 (by decide) (by decide +kernel) rfl dX2_approve_70 ?_
    refine lv_iload_n hx hb dX2_approve_73 rfl (lv_at hl 2 rfl) ?_
    refine kiald (n := 30) (j := j) hx hb hG hP 3 rfl (by omega) (by decide) dX2_approve_74 ?_
    refine lv_iconst (v := 4) hx hb dX2_approve_75 (by decide) ?_
    refine kc_v (va_runV (As := [.int (nI j), .int ((up2 M 6 j 1) 4 j), .int 4]) (rest := []) ⟨hx, hb, hml, hown, hts⟩ (c_X2_pays (M := up2 M 6 j 1) (sm := M 4 j) (how := 4) (by omega) (hm)) (cwV 3 hts gX2_approve_X2_pays rfl rfl rfl (by decide +kernel) ⟨Nat.le_of_ble_eq_true rfl, Nat.le_of_ble_eq_true rfl⟩) (kpv (q0 := 0) hG hP hD hS rfl rfl) rfl rfl hl.1 rfl (lv_room (Nat.le_of_ble_eq_true rfl)) dX2_approve_76 ⟨Nat.le_of_ble_eq_true rfl, Nat.le_of_ble_eq_true rfl⟩) hS (fun w H locs hp hP hD hS => ?_)
    rw [hp] at hP hD
    rw [show payM (up2 M 6 j 1) j (M 4 j) 4 = payM M j (M 4 j) 4 from payM_6 M j 1 (M 4 j) 4] at hP hD
    refine lv_aload_n hx hb dX2_approve_79 rfl (lv_at hl 1 rfl) ?_
    refine kget (ci := 3) (C := RX2) (T := TX2) (N := 18) hx hb hts hown hG hP 0 rfl rfl hinX2 6 (by decide) (by decide +kernel) rfl dX2_approve_80 ?_
    refine lv_iload_n hx hb dX2_approve_83 rfl (lv_at hl 2 rfl) ?_
    refine kiald (n := 30) (j := j) hx hb hG hP 5 rfl (by omega) (by decide) dX2_approve_84 ?_
    refine ktop (z := 4) (by simp [payM, up2, va_up, upd]) ?_
    refine lv_iconst (v := 4) hx hb dX2_approve_85 (by decide) ?_
    refine lv_icmp_ne (tgt := 93) hx hb dX2_approve_86 (by decide) (fun h86 => False.elim (absurd rfl h86)) (fun h86 => ?_)
    refine lv_iconst (v := 1) hx hb dX2_approve_89 (by decide) ?_
    refine lv_goto (tgt := 94) hx hb dX2_approve_90 (by decide) ?_
    exact kr_z hx hb hr hlocks hP hD hS (Nat.zero_le _) (Nat.zero_le _) (Or.inr rfl) (⟨rfl, rfl⟩) dX2_approve_94
set_option maxHeartbeats 4000000 in
set_option maxRecDepth 100000 in
theorem c_X2_approve_a {l : Launch} {K : Ks} {A : Nat → Prop} {qm : Nat → Nat} {td th : Int32} {M X : Nat → Nat → Int32} {n j : Nat} (hn : n ≤ 30) (hj : j < n) (hst : M 6 j = 0 ∨ M 6 j = 2) (hdue : ¬ M 5 j ≤ td) : Met l yX2_approve wsX2_approve (kR 3 0 0) (kPr K A [.ref (qm 0), .int (nI j)] (Mfix K qm td (nI n) th M X)) (kQi K A (fun r w => r = 0 ∧ w = Mfix K qm td (nI n) 0 (up2 M 6 j 1) X)) 0 0 A := by
  refine kent (cc := cX2_approve) (maxL := 3) (ret := (some .boolean)) (by decide) rfl (Nat.le_of_ble_eq_true rfl) ?_
  intro p e s m args below meth c ls hx hb hr hts hown hlocks hml hini hG hP hD hS hl
  have hinX2 : ∀ x ∈ wsX20, x ∈ wsX2_approve := by decide +kernel
  have hl : lv_has ls 3 [(0, .ref (qm 0)), (1, .int (nI j))] := hl
  refine lv_aload_n hx hb dX2_approve_0 rfl (lv_at hl 0 rfl) ?_
  refine lv_iload_n hx hb dX2_approve_1 rfl (lv_at hl 1 rfl) ?_
  refine kc_i (va_runV (As := [.int (nI j)]) (rest := []) ⟨hx, hb, hml, hown, hts⟩ (c_X2_is (z := 1) (bi_t (ix_in (by omega) hj)).symm) (cwV 1 hts gX2_approve_X2_is rfl rfl rfl (by decide +kernel) ⟨Nat.le_of_ble_eq_true rfl, Nat.le_of_ble_eq_true rfl⟩) (kpv (q0 := 0) hG hP hD hS rfl rfl) rfl rfl hl.1 rfl (lv_room (Nat.le_of_ble_eq_true rfl)) dX2_approve_2 ⟨Nat.le_of_ble_eq_true rfl, Nat.le_of_ble_eq_true rfl⟩) hS (fun r2 w H locs hp hP hD hS => ?_)
  rw [hp.2] at hP hD
  rw [hp.1]
  refine lv_istore_n (lv' := [(2, .int 1), (0, .ref (qm 0)), (1, .int (nI j))]) hx hb dX2_approve_5 rfl hl (by decide) rfl (fun ls hl => ?_)
  refine lv_aload_n hx hb dX2_approve_6 rfl (lv_at hl 1 rfl) ?_
  refine lv_iload_n hx hb dX2_approve_7 rfl (lv_at hl 0 rfl) ?_
  refine lv_if_ne (tgt := 15) hx hb dX2_approve_8 (by decide) (fun h8 => ?_) (fun h8 => False.elim (absurd h8 (by decide)))
  refine lv_aload_n hx hb dX2_approve_15 rfl (lv_at hl 1 rfl) ?_
  refine kget (ci := 3) (C := RX2) (T := TX2) (N := 18) hx hb hts hown hG hP 0 rfl rfl hinX2 6 (by decide) (by decide +kernel) rfl dX2_approve_16 ?_
  refine lv_iload_n hx hb dX2_approve_19 rfl (lv_at hl 2 rfl) ?_
  refine kiald (n := 30) (j := j) hx hb hG hP 5 rfl (by omega) (by decide) dX2_approve_20 ?_
  refine lv_if_eq (tgt := 34) hx hb dX2_approve_21 (by decide) (fun h21 => ?_) (fun h21 => ?_)
  · refine lv_iconst (v := 0) hx hb dX2_approve_34 (by decide) ?_
    refine lv_goto (tgt := 39) hx hb dX2_approve_35 (by decide) ?_
    refine kc_i (va_runV (As := [.int 0]) (rest := []) ⟨hx, hb, hml, hown, hts⟩ (c_X2_fails (x := 0) (z := 0) (by decide)) (cwV 1 hts gX2_approve_X2_fails rfl rfl rfl (by decide +kernel) ⟨Nat.le_of_ble_eq_true rfl, Nat.le_of_ble_eq_true rfl⟩) (kpv (q0 := 0) hG hP hD hS rfl rfl) rfl rfl hl.1 rfl (lv_room (Nat.le_of_ble_eq_true rfl)) dX2_approve_39 ⟨Nat.le_of_ble_eq_true rfl, Nat.le_of_ble_eq_true rfl⟩) hS (fun r39 w H locs hp hP hD hS => ?_)
    rw [hp.2] at hP hD
    rw [hp.1]
    refine lv_if_eq (tgt := 47) hx hb dX2_approve_42 (by decide) (fun h42 => ?_) (fun h42 => False.elim (absurd rfl h42))
    refine lv_aload_n hx hb dX2_approve_47 rfl (lv_at hl 1 rfl) ?_
    refine kget (ci := 3) (C := RX2) (T := TX2) (N := 18) hx hb hts hown hG hP 0 rfl rfl hinX2 6 (by decide) (by decide +kernel) rfl dX2_approve_48 ?_
    refine lv_iload_n hx hb dX2_approve_51 rfl (lv_at hl 2 rfl) ?_
    refine lv_iconst (v := 1) hx hb dX2_approve_52 (by decide) ?_
    refine kiast (n := 30) (j := j) hx hb hG hP hD hS 5 rfl (by omega) (by decide) dX2_approve_53 (fun H locs hP hD hS => ?_)
    have hP : va_P K.1 kCl (Mfix K qm td (nI n) 0 (up2 M 6 j 1) X) H := hP
    have hD : va_D A (Mfix K qm td (nI n) 0 (up2 M 6 j 1) X) := hD
    refine lv_aload_n hx hb dX2_approve_54 rfl (lv_at hl 1 rfl) ?_
    refine kget (ci := 3) (C := RX2) (T := TX2) (N := 18) hx hb hts hown hG hP 0 rfl rfl hinX2 5 (by decide) (by decide +kernel) rfl dX2_approve_55 ?_
    refine lv_iload_n hx hb dX2_approve_58 rfl (lv_at hl 2 rfl) ?_
    refine kiald (n := 30) (j := j) hx hb hG hP 4 rfl (by omega) (by decide) dX2_approve_59 ?_
    refine lv_aload_n hx hb dX2_approve_60 rfl (lv_at hl 1 rfl) ?_
    refine kget (ci := 3) (C := RX2) (T := TX2) (N := 18) hx hb hts hown hG hP 0 rfl rfl hinX2 0 (by decide) (by decide +kernel) rfl dX2_approve_61 ?_
    refine lv_icmp_gt (tgt := 79) hx hb dX2_approve_64 (by decide) (fun h64 => ?_) (fun h64 => False.elim (hdue (i32_nlt.mp h64)))
    refine lv_aload_n hx hb dX2_approve_79 rfl (lv_at hl 1 rfl) ?_
    refine kget (ci := 3) (C := RX2) (T := TX2) (N := 18) hx hb hts hown hG hP 0 rfl rfl hinX2 6 (by decide) (by decide +kernel) rfl dX2_approve_80 ?_
    refine lv_iload_n hx hb dX2_approve_83 rfl (lv_at hl 2 rfl) ?_
    refine kiald (n := 30) (j := j) hx hb hG hP 5 rfl (by omega) (by decide) dX2_approve_84 ?_
    refine ktop (z := 1) (by simp [payM, up2, va_up, upd]) ?_
    refine lv_iconst (v := 4) hx hb dX2_approve_85 (by decide) ?_
    refine lv_icmp_ne (tgt := 93) hx hb dX2_approve_86 (by decide) (fun h86 => ?_) (fun h86 => False.elim (absurd h86 (by decide)))
    refine lv_iconst (v := 0) hx hb dX2_approve_93 (by decide) ?_
    exact kr_z hx hb hr hlocks hP hD hS (Nat.zero_le _) (Nat.zero_le _) (Or.inl rfl) (⟨rfl, rfl⟩) dX2_approve_94
  · refine lv_aload_n hx hb dX2_approve_24 rfl (lv_at hl 1 rfl) ?_
    refine kget (ci := 3) (C := RX2) (T := TX2) (N := 18) hx hb hts hown hG hP 0 rfl rfl hinX2 6 (by decide) (by decide +kernel) rfl dX2_approve_25 ?_
    refine lv_iload_n hx hb dX2_approve_28 rfl (lv_at hl 2 rfl) ?_
    refine kiald (n := 30) (j := j) hx hb hG hP 5 rfl (by omega) (by decide) dX2_approve_29 ?_
    refine lv_iconst (v := 2) hx hb dX2_approve_30 (by decide) ?_
    refine lv_icmp_ne (tgt := 38) hx hb dX2_approve_31 (by decide) (fun h31 => False.elim (hst.elim h21 h31)) (fun h31 => ?_)
    refine lv_iconst (v := 0) hx hb dX2_approve_34 (by decide) ?_
    refine lv_goto (tgt := 39) hx hb dX2_approve_35 (by decide) ?_
    refine kc_i (va_runV (As := [.int 0]) (rest := []) ⟨hx, hb, hml, hown, hts⟩ (c_X2_fails (x := 0) (z := 0) (by decide)) (cwV 1 hts gX2_approve_X2_fails rfl rfl rfl (by decide +kernel) ⟨Nat.le_of_ble_eq_true rfl, Nat.le_of_ble_eq_true rfl⟩) (kpv (q0 := 0) hG hP hD hS rfl rfl) rfl rfl hl.1 rfl (lv_room (Nat.le_of_ble_eq_true rfl)) dX2_approve_39 ⟨Nat.le_of_ble_eq_true rfl, Nat.le_of_ble_eq_true rfl⟩) hS (fun r39 w H locs hp hP hD hS => ?_)
    rw [hp.2] at hP hD
    rw [hp.1]
    refine lv_if_eq (tgt := 47) hx hb dX2_approve_42 (by decide) (fun h42 => ?_) (fun h42 => False.elim (absurd rfl h42))
    refine lv_aload_n hx hb dX2_approve_47 rfl (lv_at hl 1 rfl) ?_
    refine kget (ci := 3) (C := RX2) (T := TX2) (N := 18) hx hb hts hown hG hP 0 rfl rfl hinX2 6 (by decide) (by decide +kernel) rfl dX2_approve_48 ?_
    refine lv_iload_n hx hb dX2_approve_51 rfl (lv_at hl 2 rfl) ?_
    refine lv_iconst (v := 1) hx hb dX2_approve_52 (by decide) ?_
    refine kiast (n := 30) (j := j) hx hb hG hP hD hS 5 rfl (by omega) (by decide) dX2_approve_53 (fun H locs hP hD hS => ?_)
    have hP : va_P K.1 kCl (Mfix K qm td (nI n) 0 (up2 M 6 j 1) X) H := hP
    have hD : va_D A (Mfix K qm td (nI n) 0 (up2 M 6 j 1) X) := hD
    refine lv_aload_n hx hb dX2_approve_54 rfl (lv_at hl 1 rfl) ?_
    refine kget (ci := 3) (C := RX2) (T := TX2) (N := 18) hx hb hts hown hG hP 0 rfl rfl hinX2 5 (by decide) (by decide +kernel) rfl dX2_approve_55 ?_
    refine lv_iload_n hx hb dX2_approve_58 rfl (lv_at hl 2 rfl) ?_
    refine kiald (n := 30) (j := j) hx hb hG hP 4 rfl (by omega) (by decide) dX2_approve_59 ?_
    refine lv_aload_n hx hb dX2_approve_60 rfl (lv_at hl 1 rfl) ?_
    refine kget (ci := 3) (C := RX2) (T := TX2) (N := 18) hx hb hts hown hG hP 0 rfl rfl hinX2 0 (by decide) (by decide +kernel) rfl dX2_approve_61 ?_
    refine lv_icmp_gt (tgt := 79) hx hb dX2_approve_64 (by decide) (fun h64 => ?_) (fun h64 => False.elim (hdue (i32_nlt.mp h64)))
    refine lv_aload_n hx hb dX2_approve_79 rfl (lv_at hl 1 rfl) ?_
    refine kget (ci := 3) (C := RX2) (T := TX2) (N := 18) hx hb hts hown hG hP 0 rfl rfl hinX2 6 (by decide) (by decide +kernel) rfl dX2_approve_80 ?_
    refine lv_iload_n hx hb dX2_approve_83 rfl (lv_at hl 2 rfl) ?_
    refine kiald (n := 30) (j := j) hx hb hG hP 5 rfl (by omega) (by decide) dX2_approve_84 ?_
    refine ktop (z := 1) (by simp [payM, up2, va_up, upd]) ?_
    refine lv_iconst (v := 4) hx hb dX2_approve_85 (by decide) ?_
    refine lv_icmp_ne (tgt := 93) hx hb dX2_approve_86 (by decide) (fun h86 => ?_) (fun h86 => False.elim (absurd h86 (by decide)))
    refine lv_iconst (v := 0) hx hb dX2_approve_93 (by decide) ?_
    exact kr_z hx hb hr hlocks hP hD hS (Nat.zero_le _) (Nat.zero_le _) (Or.inl rfl) (⟨rfl, rfl⟩) dX2_approve_94
set_option maxHeartbeats 4000000 in
set_option maxRecDepth 100000 in
theorem c_X2_dispute_1 {l : Launch} {K : Ks} {A : Nat → Prop} {qm : Nat → Nat} {td th : Int32} {M X : Nat → Nat → Int32} {n : Nat} {x : Int32} (hn : n ≤ 30) (hj : ixBad n x) : Met l yX2_dispute wsX2_dispute (kR 3 0 0) (kPr K A [.ref (qm 0), .int x] (Mfix K qm td (nI n) th M X)) (kQv K A (fun w => w = Mfix K qm td (nI n) 1 M X)) 0 0 A := by
  refine kent (cc := cX2_dispute) (maxL := 3) (ret := none) (by decide) rfl (Nat.le_of_ble_eq_true rfl) ?_
  intro p e s m args below meth c ls hx hb hr hts hown hlocks hml hini hG hP hD hS hl
  have hinX2 : ∀ x ∈ wsX20, x ∈ wsX2_dispute := by decide +kernel
  have hl : lv_has ls 3 [(0, .ref (qm 0)), (1, .int x)] := hl
  refine lv_aload_n hx hb dX2_dispute_0 rfl (lv_at hl 0 rfl) ?_
  refine lv_iload_n hx hb dX2_dispute_1 rfl (lv_at hl 1 rfl) ?_
  refine kc_i (va_runV (As := [.int x]) (rest := []) ⟨hx, hb, hml, hown, hts⟩ (c_X2_is (z := 0) (bi_f (ix_bad (by omega) hj)).symm) (cwV 1 hts gX2_dispute_X2_is rfl rfl rfl (by decide +kernel) ⟨Nat.le_of_ble_eq_true rfl, Nat.le_of_ble_eq_true rfl⟩) (kpv (q0 := 0) hG hP hD hS rfl rfl) rfl rfl hl.1 rfl (lv_room (Nat.le_of_ble_eq_true rfl)) dX2_dispute_2 ⟨Nat.le_of_ble_eq_true rfl, Nat.le_of_ble_eq_true rfl⟩) hS (fun r2 w H locs hp hP hD hS => ?_)
  rw [hp.2] at hP hD
  rw [hp.1]
  refine lv_istore_n (lv' := [(2, .int 0), (0, .ref (qm 0)), (1, .int x)]) hx hb dX2_dispute_5 rfl hl (by decide) rfl (fun ls hl => ?_)
  refine lv_aload_n hx hb dX2_dispute_6 rfl (lv_at hl 1 rfl) ?_
  refine lv_iload_n hx hb dX2_dispute_7 rfl (lv_at hl 0 rfl) ?_
  refine lv_if_ne (tgt := 15) hx hb dX2_dispute_8 (by decide) (fun h8 => False.elim (absurd rfl h8)) (fun h8 => ?_)
  refine lv_iconst (v := 1) hx hb dX2_dispute_11 (by decide) ?_
  refine lv_goto (tgt := 39) hx hb dX2_dispute_12 (by decide) ?_
  refine kc_i (va_runV (As := [.int 1]) (rest := []) ⟨hx, hb, hml, hown, hts⟩ (c_X2_fails (x := 1) (z := 1) (by decide)) (cwV 1 hts gX2_dispute_X2_fails rfl rfl rfl (by decide +kernel) ⟨Nat.le_of_ble_eq_true rfl, Nat.le_of_ble_eq_true rfl⟩) (kpv (q0 := 0) hG hP hD hS rfl rfl) rfl rfl hl.1 rfl (lv_room (Nat.le_of_ble_eq_true rfl)) dX2_dispute_39 ⟨Nat.le_of_ble_eq_true rfl, Nat.le_of_ble_eq_true rfl⟩) hS (fun r39 w H locs hp hP hD hS => ?_)
  rw [hp.2] at hP hD
  rw [hp.1]
  refine lv_if_ne (tgt := 59) hx hb dX2_dispute_42 (by decide) (fun h42 => ?_) (fun h42 => False.elim (absurd h42 (by decide)))
  exact kr_v hx hb hr hlocks hP hD hS (Nat.zero_le _) (Nat.zero_le _) (rfl) dX2_dispute_59
set_option maxHeartbeats 4000000 in
set_option maxRecDepth 100000 in
theorem c_X2_dispute_2 {l : Launch} {K : Ks} {A : Nat → Prop} {qm : Nat → Nat} {td th : Int32} {M X : Nat → Nat → Int32} {n j : Nat} (hn : n ≤ 30) (hj : j < n) (hst : ¬ (M 6 j = 0 ∨ M 6 j = 1)) : Met l yX2_dispute wsX2_dispute (kR 3 0 0) (kPr K A [.ref (qm 0), .int (nI j)] (Mfix K qm td (nI n) th M X)) (kQv K A (fun w => w = Mfix K qm td (nI n) 2 M X)) 0 0 A := by
  refine kent (cc := cX2_dispute) (maxL := 3) (ret := none) (by decide) rfl (Nat.le_of_ble_eq_true rfl) ?_
  intro p e s m args below meth c ls hx hb hr hts hown hlocks hml hini hG hP hD hS hl
  have hinX2 : ∀ x ∈ wsX20, x ∈ wsX2_dispute := by decide +kernel
  have hl : lv_has ls 3 [(0, .ref (qm 0)), (1, .int (nI j))] := hl
  refine lv_aload_n hx hb dX2_dispute_0 rfl (lv_at hl 0 rfl) ?_
  refine lv_iload_n hx hb dX2_dispute_1 rfl (lv_at hl 1 rfl) ?_
  refine kc_i (va_runV (As := [.int (nI j)]) (rest := []) ⟨hx, hb, hml, hown, hts⟩ (c_X2_is (z := 1) (bi_t (ix_in (by omega) hj)).symm) (cwV 1 hts gX2_dispute_X2_is rfl rfl rfl (by decide +kernel) ⟨Nat.le_of_ble_eq_true rfl, Nat.le_of_ble_eq_true rfl⟩) (kpv (q0 := 0) hG hP hD hS rfl rfl) rfl rfl hl.1 rfl (lv_room (Nat.le_of_ble_eq_true rfl)) dX2_dispute_2 ⟨Nat.le_of_ble_eq_true rfl, Nat.le_of_ble_eq_true rfl⟩) hS (fun r2 w H locs hp hP hD hS => ?_)
  rw [hp.2] at hP hD
  rw [hp.1]
  refine lv_istore_n (lv' := [(2, .int 1), (0, .ref (qm 0)), (1, .int (nI j))]) hx hb dX2_dispute_5 rfl hl (by decide) rfl (fun ls hl => ?_)
  refine lv_aload_n hx hb dX2_dispute_6 rfl (lv_at hl 1 rfl) ?_
  refine lv_iload_n hx hb dX2_dispute_7 rfl (lv_at hl 0 rfl) ?_
  refine lv_if_ne (tgt := 15) hx hb dX2_dispute_8 (by decide) (fun h8 => ?_) (fun h8 => False.elim (absurd h8 (by decide)))
  refine lv_aload_n hx hb dX2_dispute_15 rfl (lv_at hl 1 rfl) ?_
  refine kget (ci := 3) (C := RX2) (T := TX2) (N := 18) hx hb hts hown hG hP 0 rfl rfl hinX2 6 (by decide) (by decide +kernel) rfl dX2_dispute_16 ?_
  refine lv_iload_n hx hb dX2_dispute_19 rfl (lv_at hl 2 rfl) ?_
  refine kiald (n := 30) (j := j) hx hb hG hP 5 rfl (by omega) (by decide) dX2_dispute_20 ?_
  refine lv_if_eq (tgt := 34) hx hb dX2_dispute_21 (by decide) (fun h21 => False.elim (hst (Or.inl h21))) (fun h21 => ?_)
  refine lv_aload_n hx hb dX2_dispute_24 rfl (lv_at hl 1 rfl) ?_
  refine kget (ci := 3) (C := RX2) (T := TX2) (N := 18) hx hb hts hown hG hP 0 rfl rfl hinX2 6 (by decide) (by decide +kernel) rfl dX2_dispute_25 ?_
  refine lv_iload_n hx hb dX2_dispute_28 rfl (lv_at hl 2 rfl) ?_
  refine kiald (n := 30) (j := j) hx hb hG hP 5 rfl (by omega) (by decide) dX2_dispute_29 ?_
  refine lv_iconst (v := 1) hx hb dX2_dispute_30 (by decide) ?_
  refine lv_icmp_ne (tgt := 38) hx hb dX2_dispute_31 (by decide) (fun h31 => ?_) (fun h31 => False.elim (hst (Or.inr h31)))
  refine lv_iconst (v := 2) hx hb dX2_dispute_38 (by decide) ?_
  refine kc_i (va_runV (As := [.int 2]) (rest := []) ⟨hx, hb, hml, hown, hts⟩ (c_X2_fails (x := 2) (z := 1) (by decide)) (cwV 1 hts gX2_dispute_X2_fails rfl rfl rfl (by decide +kernel) ⟨Nat.le_of_ble_eq_true rfl, Nat.le_of_ble_eq_true rfl⟩) (kpv (q0 := 0) hG hP hD hS rfl rfl) rfl rfl hl.1 rfl (lv_room (Nat.le_of_ble_eq_true rfl)) dX2_dispute_39 ⟨Nat.le_of_ble_eq_true rfl, Nat.le_of_ble_eq_true rfl⟩) hS (fun r39 w H locs hp hP hD hS => ?_)
  rw [hp.2] at hP hD
  rw [hp.1]
  refine lv_if_ne (tgt := 59) hx hb dX2_dispute_42 (by decide) (fun h42 => ?_) (fun h42 => False.elim (absurd h42 (by decide)))
  exact kr_v hx hb hr hlocks hP hD hS (Nat.zero_le _) (Nat.zero_le _) (rfl) dX2_dispute_59
set_option maxHeartbeats 4000000 in
set_option maxRecDepth 100000 in
theorem c_X2_dispute_ok {l : Launch} {K : Ks} {A : Nat → Prop} {qm : Nat → Nat} {td th : Int32} {M X : Nat → Nat → Int32} {n j : Nat} (hn : n ≤ 30) (hj : j < n) (hst : M 6 j = 0 ∨ M 6 j = 1) : Met l yX2_dispute wsX2_dispute (kR 3 0 0) (kPr K A [.ref (qm 0), .int (nI j)] (Mfix K qm td (nI n) th M X)) (kQv K A (fun w => w = Mfix K qm td (nI n) 0 (up2 (up2 M 6 j 2) 7 j (-1)) X)) 0 0 A := by
  refine kent (cc := cX2_dispute) (maxL := 3) (ret := none) (by decide) rfl (Nat.le_of_ble_eq_true rfl) ?_
  intro p e s m args below meth c ls hx hb hr hts hown hlocks hml hini hG hP hD hS hl
  have hinX2 : ∀ x ∈ wsX20, x ∈ wsX2_dispute := by decide +kernel
  have hl : lv_has ls 3 [(0, .ref (qm 0)), (1, .int (nI j))] := hl
  refine lv_aload_n hx hb dX2_dispute_0 rfl (lv_at hl 0 rfl) ?_
  refine lv_iload_n hx hb dX2_dispute_1 rfl (lv_at hl 1 rfl) ?_
  refine kc_i (va_runV (As := [.int (nI j)]) (rest := []) ⟨hx, hb, hml, hown, hts⟩ (c_X2_is (z := 1) (bi_t (ix_in (by omega) hj)).symm) (cwV 1 hts gX2_dispute_X2_is rfl rfl rfl (by decide +kernel) ⟨Nat.le_of_ble_eq_true rfl, Nat.le_of_ble_eq_true rfl⟩) (kpv (q0 := 0) hG hP hD hS rfl rfl) rfl rfl hl.1 rfl (lv_room (Nat.le_of_ble_eq_true rfl)) dX2_dispute_2 ⟨Nat.le_of_ble_eq_true rfl, Nat.le_of_ble_eq_true rfl⟩) hS (fun r2 w H locs hp hP hD hS => ?_)
  rw [hp.2] at hP hD
  rw [hp.1]
  refine lv_istore_n (lv' := [(2, .int 1), (0, .ref (qm 0)), (1, .int (nI j))]) hx hb dX2_dispute_5 rfl hl (by decide) rfl (fun ls hl => ?_)
  refine lv_aload_n hx hb dX2_dispute_6 rfl (lv_at hl 1 rfl) ?_
  refine lv_iload_n hx hb dX2_dispute_7 rfl (lv_at hl 0 rfl) ?_
  refine lv_if_ne (tgt := 15) hx hb dX2_dispute_8 (by decide) (fun h8 => ?_) (fun h8 => False.elim (absurd h8 (by decide)))
  refine lv_aload_n hx hb dX2_dispute_15 rfl (lv_at hl 1 rfl) ?_
  refine kget (ci := 3) (C := RX2) (T := TX2) (N := 18) hx hb hts hown hG hP 0 rfl rfl hinX2 6 (by decide) (by decide +kernel) rfl dX2_dispute_16 ?_
  refine lv_iload_n hx hb dX2_dispute_19 rfl (lv_at hl 2 rfl) ?_
  refine kiald (n := 30) (j := j) hx hb hG hP 5 rfl (by omega) (by decide) dX2_dispute_20 ?_
  refine lv_if_eq (tgt := 34) hx hb dX2_dispute_21 (by decide) (fun h21 => ?_) (fun h21 => ?_)
  · refine lv_iconst (v := 0) hx hb dX2_dispute_34 (by decide) ?_
    refine lv_goto (tgt := 39) hx hb dX2_dispute_35 (by decide) ?_
    refine kc_i (va_runV (As := [.int 0]) (rest := []) ⟨hx, hb, hml, hown, hts⟩ (c_X2_fails (x := 0) (z := 0) (by decide)) (cwV 1 hts gX2_dispute_X2_fails rfl rfl rfl (by decide +kernel) ⟨Nat.le_of_ble_eq_true rfl, Nat.le_of_ble_eq_true rfl⟩) (kpv (q0 := 0) hG hP hD hS rfl rfl) rfl rfl hl.1 rfl (lv_room (Nat.le_of_ble_eq_true rfl)) dX2_dispute_39 ⟨Nat.le_of_ble_eq_true rfl, Nat.le_of_ble_eq_true rfl⟩) hS (fun r39 w H locs hp hP hD hS => ?_)
    rw [hp.2] at hP hD
    rw [hp.1]
    refine lv_if_ne (tgt := 59) hx hb dX2_dispute_42 (by decide) (fun h42 => False.elim (absurd rfl h42)) (fun h42 => ?_)
    refine lv_aload_n hx hb dX2_dispute_45 rfl (lv_at hl 1 rfl) ?_
    refine kget (ci := 3) (C := RX2) (T := TX2) (N := 18) hx hb hts hown hG hP 0 rfl rfl hinX2 6 (by decide) (by decide +kernel) rfl dX2_dispute_46 ?_
    refine lv_iload_n hx hb dX2_dispute_49 rfl (lv_at hl 2 rfl) ?_
    refine lv_iconst (v := 2) hx hb dX2_dispute_50 (by decide) ?_
    refine kiast (n := 30) (j := j) hx hb hG hP hD hS 5 rfl (by omega) (by decide) dX2_dispute_51 (fun H locs hP hD hS => ?_)
    have hP : va_P K.1 kCl (Mfix K qm td (nI n) 0 (up2 M 6 j 2) X) H := hP
    have hD : va_D A (Mfix K qm td (nI n) 0 (up2 M 6 j 2) X) := hD
    refine lv_aload_n hx hb dX2_dispute_52 rfl (lv_at hl 1 rfl) ?_
    refine kget (ci := 3) (C := RX2) (T := TX2) (N := 18) hx hb hts hown hG hP 0 rfl rfl hinX2 7 (by decide) (by decide +kernel) rfl dX2_dispute_53 ?_
    refine lv_iload_n hx hb dX2_dispute_56 rfl (lv_at hl 2 rfl) ?_
    refine lv_iconst (v := (-1)) hx hb dX2_dispute_57 (by decide) ?_
    refine kiast (n := 30) (j := j) hx hb hG hP hD hS 6 rfl (by omega) (by decide) dX2_dispute_58 (fun H locs hP hD hS => ?_)
    have hP : va_P K.1 kCl (Mfix K qm td (nI n) 0 (up2 (up2 M 6 j 2) 7 j (-1)) X) H := hP
    have hD : va_D A (Mfix K qm td (nI n) 0 (up2 (up2 M 6 j 2) 7 j (-1)) X) := hD
    exact kr_v hx hb hr hlocks hP hD hS (Nat.zero_le _) (Nat.zero_le _) (rfl) dX2_dispute_59
  · refine lv_aload_n hx hb dX2_dispute_24 rfl (lv_at hl 1 rfl) ?_
    refine kget (ci := 3) (C := RX2) (T := TX2) (N := 18) hx hb hts hown hG hP 0 rfl rfl hinX2 6 (by decide) (by decide +kernel) rfl dX2_dispute_25 ?_
    refine lv_iload_n hx hb dX2_dispute_28 rfl (lv_at hl 2 rfl) ?_
    refine kiald (n := 30) (j := j) hx hb hG hP 5 rfl (by omega) (by decide) dX2_dispute_29 ?_
    refine lv_iconst (v := 1) hx hb dX2_dispute_30 (by decide) ?_
    refine lv_icmp_ne (tgt := 38) hx hb dX2_dispute_31 (by decide) (fun h31 => False.elim (hst.elim h21 h31)) (fun h31 => ?_)
    refine lv_iconst (v := 0) hx hb dX2_dispute_34 (by decide) ?_
    refine lv_goto (tgt := 39) hx hb dX2_dispute_35 (by decide) ?_
    refine kc_i (va_runV (As := [.int 0]) (rest := []) ⟨hx, hb, hml, hown, hts⟩ (c_X2_fails (x := 0) (z := 0) (by decide)) (cwV 1 hts gX2_dispute_X2_fails rfl rfl rfl (by decide +kernel) ⟨Nat.le_of_ble_eq_true rfl, Nat.le_of_ble_eq_true rfl⟩) (kpv (q0 := 0) hG hP hD hS rfl rfl) rfl rfl hl.1 rfl (lv_room (Nat.le_of_ble_eq_true rfl)) dX2_dispute_39 ⟨Nat.le_of_ble_eq_true rfl, Nat.le_of_ble_eq_true rfl⟩) hS (fun r39 w H locs hp hP hD hS => ?_)
    rw [hp.2] at hP hD
    rw [hp.1]
    refine lv_if_ne (tgt := 59) hx hb dX2_dispute_42 (by decide) (fun h42 => False.elim (absurd rfl h42)) (fun h42 => ?_)
    refine lv_aload_n hx hb dX2_dispute_45 rfl (lv_at hl 1 rfl) ?_
    refine kget (ci := 3) (C := RX2) (T := TX2) (N := 18) hx hb hts hown hG hP 0 rfl rfl hinX2 6 (by decide) (by decide +kernel) rfl dX2_dispute_46 ?_
    refine lv_iload_n hx hb dX2_dispute_49 rfl (lv_at hl 2 rfl) ?_
    refine lv_iconst (v := 2) hx hb dX2_dispute_50 (by decide) ?_
    refine kiast (n := 30) (j := j) hx hb hG hP hD hS 5 rfl (by omega) (by decide) dX2_dispute_51 (fun H locs hP hD hS => ?_)
    have hP : va_P K.1 kCl (Mfix K qm td (nI n) 0 (up2 M 6 j 2) X) H := hP
    have hD : va_D A (Mfix K qm td (nI n) 0 (up2 M 6 j 2) X) := hD
    refine lv_aload_n hx hb dX2_dispute_52 rfl (lv_at hl 1 rfl) ?_
    refine kget (ci := 3) (C := RX2) (T := TX2) (N := 18) hx hb hts hown hG hP 0 rfl rfl hinX2 7 (by decide) (by decide +kernel) rfl dX2_dispute_53 ?_
    refine lv_iload_n hx hb dX2_dispute_56 rfl (lv_at hl 2 rfl) ?_
    refine lv_iconst (v := (-1)) hx hb dX2_dispute_57 (by decide) ?_
    refine kiast (n := 30) (j := j) hx hb hG hP hD hS 6 rfl (by omega) (by decide) dX2_dispute_58 (fun H locs hP hD hS => ?_)
    have hP : va_P K.1 kCl (Mfix K qm td (nI n) 0 (up2 (up2 M 6 j 2) 7 j (-1)) X) H := hP
    have hD : va_D A (Mfix K qm td (nI n) 0 (up2 (up2 M 6 j 2) 7 j (-1)) X) := hD
    exact kr_v hx hb hr hlocks hP hD hS (Nat.zero_le _) (Nat.zero_le _) (rfl) dX2_dispute_59
set_option maxHeartbeats 4000000 in
set_option maxRecDepth 100000 in
theorem c_X2_note_1 {l : Launch} {K : Ks} {A : Nat → Prop} {qm : Nat → Nat} {td th : Int32} {M X : Nat → Nat → Int32} {n : Nat} {x : Int32} (hn : n ≤ 30) (hj : ixBad n x) {y : Int32} : Met l yX2_note wsX2_note (kR 3 0 0) (kPr K A [.ref (qm 0), .int x, .int y] (Mfix K qm td (nI n) th M X)) (kQi K A (fun _ w => w = Mfix K qm td (nI n) 1 M X)) 0 0 A := by
  refine kent (cc := cX2_note) (maxL := 5) (ret := (some .int)) (by decide) rfl (Nat.le_of_ble_eq_true rfl) ?_
  intro p e s m args below meth c ls hx hb hr hts hown hlocks hml hini hG hP hD hS hl
  have hinX2 : ∀ x ∈ wsX20, x ∈ wsX2_note := by decide +kernel
  have hl : lv_has ls 5 [(0, .ref (qm 0)), (1, .int x), (2, .int y)] := hl
  refine lv_aload_n hx hb dX2_note_0 rfl (lv_at hl 0 rfl) ?_
  refine lv_iload_n hx hb dX2_note_1 rfl (lv_at hl 1 rfl) ?_
  refine kc_i (va_runV (As := [.int x]) (rest := []) ⟨hx, hb, hml, hown, hts⟩ (c_X2_is (z := 0) (bi_f (ix_bad (by omega) hj)).symm) (cwV 1 hts gX2_note_X2_is rfl rfl rfl (by decide +kernel) ⟨Nat.le_of_ble_eq_true rfl, Nat.le_of_ble_eq_true rfl⟩) (kpv (q0 := 0) hG hP hD hS rfl rfl) rfl rfl hl.1 rfl (lv_room (Nat.le_of_ble_eq_true rfl)) dX2_note_2 ⟨Nat.le_of_ble_eq_true rfl, Nat.le_of_ble_eq_true rfl⟩) hS (fun r2 w H locs hp hP hD hS => ?_)
  rw [hp.2] at hP hD
  rw [hp.1]
  refine lv_istore_n (lv' := [(3, .int 0), (0, .ref (qm 0)), (1, .int x), (2, .int y)]) hx hb dX2_note_5 rfl hl (by decide) rfl (fun ls hl => ?_)
  refine lv_aload_n hx hb dX2_note_6 rfl (lv_at hl 1 rfl) ?_
  refine lv_iload_n hx hb dX2_note_7 rfl (lv_at hl 0 rfl) ?_
  refine lv_if_ne (tgt := 15) hx hb dX2_note_8 (by decide) (fun h8 => False.elim (absurd rfl h8)) (fun h8 => ?_)
  refine lv_iconst (v := 1) hx hb dX2_note_11 (by decide) ?_
  refine lv_goto (tgt := 41) hx hb dX2_note_12 (by decide) ?_
  refine kc_i (va_runV (As := [.int 1]) (rest := []) ⟨hx, hb, hml, hown, hts⟩ (c_X2_fails (x := 1) (z := 1) (by decide)) (cwV 1 hts gX2_note_X2_fails rfl rfl rfl (by decide +kernel) ⟨Nat.le_of_ble_eq_true rfl, Nat.le_of_ble_eq_true rfl⟩) (kpv (q0 := 0) hG hP hD hS rfl rfl) rfl rfl hl.1 rfl (lv_room (Nat.le_of_ble_eq_true rfl)) dX2_note_41 ⟨Nat.le_of_ble_eq_true rfl, Nat.le_of_ble_eq_true rfl⟩) hS (fun r41 w H locs hp hP hD hS => ?_)
  rw [hp.2] at hP hD
  rw [hp.1]
  refine lv_if_eq (tgt := 49) hx hb dX2_note_44 (by decide) (fun h44 => False.elim (absurd h44 (by decide))) (fun h44 => ?_)
  refine lv_iconst (v := 0) hx hb dX2_note_47 (by decide) ?_
  exact kr_i hx hb hr hlocks hP hD hS (Nat.zero_le _) (Nat.zero_le _) (rfl) dX2_note_48
set_option maxHeartbeats 4000000 in
set_option maxRecDepth 100000 in
theorem c_X2_note_2 {l : Launch} {K : Ks} {A : Nat → Prop} {qm : Nat → Nat} {td th : Int32} {M X : Nat → Nat → Int32} {n j : Nat} (hn : n ≤ 30) (hj : j < n) {y : Int32} (hy : ¬ inR 1 (M 4 j - M 10 j) y) : Met l yX2_note wsX2_note (kR 3 0 0) (kPr K A [.ref (qm 0), .int (nI j), .int y] (Mfix K qm td (nI n) th M X)) (kQi K A (fun _ w => w = Mfix K qm td (nI n) 2 M X)) 0 0 A := by
  refine kent (cc := cX2_note) (maxL := 5) (ret := (some .int)) (by decide) rfl (Nat.le_of_ble_eq_true rfl) ?_
  intro p e s m args below meth c ls hx hb hr hts hown hlocks hml hini hG hP hD hS hl
  have hinX2 : ∀ x ∈ wsX20, x ∈ wsX2_note := by decide +kernel
  have hl : lv_has ls 5 [(0, .ref (qm 0)), (1, .int (nI j)), (2, .int y)] := hl
  refine lv_aload_n hx hb dX2_note_0 rfl (lv_at hl 0 rfl) ?_
  refine lv_iload_n hx hb dX2_note_1 rfl (lv_at hl 1 rfl) ?_
  refine kc_i (va_runV (As := [.int (nI j)]) (rest := []) ⟨hx, hb, hml, hown, hts⟩ (c_X2_is (z := 1) (bi_t (ix_in (by omega) hj)).symm) (cwV 1 hts gX2_note_X2_is rfl rfl rfl (by decide +kernel) ⟨Nat.le_of_ble_eq_true rfl, Nat.le_of_ble_eq_true rfl⟩) (kpv (q0 := 0) hG hP hD hS rfl rfl) rfl rfl hl.1 rfl (lv_room (Nat.le_of_ble_eq_true rfl)) dX2_note_2 ⟨Nat.le_of_ble_eq_true rfl, Nat.le_of_ble_eq_true rfl⟩) hS (fun r2 w H locs hp hP hD hS => ?_)
  rw [hp.2] at hP hD
  rw [hp.1]
  refine lv_istore_n (lv' := [(3, .int 1), (0, .ref (qm 0)), (1, .int (nI j)), (2, .int y)]) hx hb dX2_note_5 rfl hl (by decide) rfl (fun ls hl => ?_)
  refine lv_aload_n hx hb dX2_note_6 rfl (lv_at hl 1 rfl) ?_
  refine lv_iload_n hx hb dX2_note_7 rfl (lv_at hl 0 rfl) ?_
  refine lv_if_ne (tgt := 15) hx hb dX2_note_8 (by decide) (fun h8 => ?_) (fun h8 => False.elim (absurd h8 (by decide)))
  refine lv_iload_n hx hb dX2_note_15 rfl (lv_at hl 3 rfl) ?_
  refine lv_iconst (v := 1) hx hb dX2_note_16 (by decide) ?_
  refine lv_aload_n hx hb dX2_note_17 rfl (lv_at hl 1 rfl) ?_
  refine kget (ci := 3) (C := RX2) (T := TX2) (N := 18) hx hb hts hown hG hP 0 rfl rfl hinX2 4 (by decide) (by decide +kernel) rfl dX2_note_18 ?_
  refine lv_iload_n hx hb dX2_note_21 rfl (lv_at hl 2 rfl) ?_
  refine kiald (n := 30) (j := j) hx hb hG hP 3 rfl (by omega) (by decide) dX2_note_22 ?_
  refine lv_aload_n hx hb dX2_note_23 rfl (lv_at hl 1 rfl) ?_
  refine kget (ci := 3) (C := RX2) (T := TX2) (N := 18) hx hb hts hown hG hP 0 rfl rfl hinX2 10 (by decide) (by decide +kernel) rfl dX2_note_24 ?_
  refine lv_iload_n hx hb dX2_note_27 rfl (lv_at hl 2 rfl) ?_
  refine kiald (n := 30) (j := j) hx hb hG hP 9 rfl (by omega) (by decide) dX2_note_28 ?_
  refine lv_isub hx hb dX2_note_29 ?_
  refine kc_i (va_runS (As := [.int y, .int 1, .int ((M 4 j) - (M 10 j))]) (rest := [.ref (qm 0)]) ⟨hx, hb, hml, hown, hts⟩ (c_X2_isIn (z := 0) (bi_f hy).symm) (va_cwS 3 hts gX2_note_X2_isIn rfl rfl rfl (by decide +kernel) ⟨Nat.le_of_ble_eq_true rfl, Nat.le_of_ble_eq_true rfl⟩) (kps hG hP hD hS) rfl rfl hl.1 rfl (lv_room (Nat.le_of_ble_eq_true rfl)) dX2_note_30 ⟨Nat.le_of_ble_eq_true rfl, Nat.le_of_ble_eq_true rfl⟩) hS (fun r30 w H locs hp hP hD hS => ?_)
  rw [hp.2] at hP hD
  rw [hp.1]
  refine lv_if_eq (tgt := 40) hx hb dX2_note_33 (by decide) (fun h33 => ?_) (fun h33 => False.elim (absurd rfl h33))
  refine lv_iconst (v := 2) hx hb dX2_note_40 (by decide) ?_
  refine kc_i (va_runV (As := [.int 2]) (rest := []) ⟨hx, hb, hml, hown, hts⟩ (c_X2_fails (x := 2) (z := 1) (by decide)) (cwV 1 hts gX2_note_X2_fails rfl rfl rfl (by decide +kernel) ⟨Nat.le_of_ble_eq_true rfl, Nat.le_of_ble_eq_true rfl⟩) (kpv (q0 := 0) hG hP hD hS rfl rfl) rfl rfl hl.1 rfl (lv_room (Nat.le_of_ble_eq_true rfl)) dX2_note_41 ⟨Nat.le_of_ble_eq_true rfl, Nat.le_of_ble_eq_true rfl⟩) hS (fun r41 w H locs hp hP hD hS => ?_)
  rw [hp.2] at hP hD
  rw [hp.1]
  refine lv_if_eq (tgt := 49) hx hb dX2_note_44 (by decide) (fun h44 => False.elim (absurd h44 (by decide))) (fun h44 => ?_)
  refine lv_iconst (v := 0) hx hb dX2_note_47 (by decide) ?_
  exact kr_i hx hb hr hlocks hP hD hS (Nat.zero_le _) (Nat.zero_le _) (rfl) dX2_note_48
set_option maxHeartbeats 4000000 in
set_option maxRecDepth 100000 in
theorem c_X2_note_u {l : Launch} {K : Ks} {A : Nat → Prop} {qm : Nat → Nat} {td th : Int32} {M X : Nat → Nat → Int32} {n j : Nat} (hn : n ≤ 30) (hj : j < n) {y : Int32} (hy : inR 1 (M 4 j - M 10 j) y) (hst : M 6 j < 3) : Met l yX2_note wsX2_note (kR 3 0 0) (kPr K A [.ref (qm 0), .int (nI j), .int y] (Mfix K qm td (nI n) th M X)) (kQi K A (fun r w => r = M 4 j - y ∧ w = Mfix K qm td (nI n) 0 (up2 M 4 j (M 4 j - y)) X)) 0 0 A := by
  refine kent (cc := cX2_note) (maxL := 5) (ret := (some .int)) (by decide) rfl (Nat.le_of_ble_eq_true rfl) ?_
  intro p e s m args below meth c ls hx hb hr hts hown hlocks hml hini hG hP hD hS hl
  have hinX2 : ∀ x ∈ wsX20, x ∈ wsX2_note := by decide +kernel
  have hl : lv_has ls 5 [(0, .ref (qm 0)), (1, .int (nI j)), (2, .int y)] := hl
  refine lv_aload_n hx hb dX2_note_0 rfl (lv_at hl 0 rfl) ?_
  refine lv_iload_n hx hb dX2_note_1 rfl (lv_at hl 1 rfl) ?_
  refine kc_i (va_runV (As := [.int (nI j)]) (rest := []) ⟨hx, hb, hml, hown, hts⟩ (c_X2_is (z := 1) (bi_t (ix_in (by omega) hj)).symm) (cwV 1 hts gX2_note_X2_is rfl rfl rfl (by decide +kernel) ⟨Nat.le_of_ble_eq_true rfl, Nat.le_of_ble_eq_true rfl⟩) (kpv (q0 := 0) hG hP hD hS rfl rfl) rfl rfl hl.1 rfl (lv_room (Nat.le_of_ble_eq_true rfl)) dX2_note_2 ⟨Nat.le_of_ble_eq_true rfl, Nat.le_of_ble_eq_true rfl⟩) hS (fun r2 w H locs hp hP hD hS => ?_)
  rw [hp.2] at hP hD
  rw [hp.1]
  refine lv_istore_n (lv' := [(3, .int 1), (0, .ref (qm 0)), (1, .int (nI j)), (2, .int y)]) hx hb dX2_note_5 rfl hl (by decide) rfl (fun ls hl => ?_)
  refine lv_aload_n hx hb dX2_note_6 rfl (lv_at hl 1 rfl) ?_
  refine lv_iload_n hx hb dX2_note_7 rfl (lv_at hl 0 rfl) ?_
  refine lv_if_ne (tgt := 15) hx hb dX2_note_8 (by decide) (fun h8 => ?_) (fun h8 => False.elim (absurd h8 (by decide)))
  refine lv_iload_n hx hb dX2_note_15 rfl (lv_at hl 3 rfl) ?_
  refine lv_iconst (v := 1) hx hb dX2_note_16 (by decide) ?_
  refine lv_aload_n hx hb dX2_note_17 rfl (lv_at hl 1 rfl) ?_
  refine kget (ci := 3) (C := RX2) (T := TX2) (N := 18) hx hb hts hown hG hP 0 rfl rfl hinX2 4 (by decide) (by decide +kernel) rfl dX2_note_18 ?_
  refine lv_iload_n hx hb dX2_note_21 rfl (lv_at hl 2 rfl) ?_
  refine kiald (n := 30) (j := j) hx hb hG hP 3 rfl (by omega) (by decide) dX2_note_22 ?_
  refine lv_aload_n hx hb dX2_note_23 rfl (lv_at hl 1 rfl) ?_
  refine kget (ci := 3) (C := RX2) (T := TX2) (N := 18) hx hb hts hown hG hP 0 rfl rfl hinX2 10 (by decide) (by decide +kernel) rfl dX2_note_24 ?_
  refine lv_iload_n hx hb dX2_note_27 rfl (lv_at hl 2 rfl) ?_
  refine kiald (n := 30) (j := j) hx hb hG hP 9 rfl (by omega) (by decide) dX2_note_28 ?_
  refine lv_isub hx hb dX2_note_29 ?_
  refine kc_i (va_runS (As := [.int y, .int 1, .int ((M 4 j) - (M 10 j))]) (rest := [.ref (qm 0)]) ⟨hx, hb, hml, hown, hts⟩ (c_X2_isIn (z := 1) (bi_t hy).symm) (va_cwS 3 hts gX2_note_X2_isIn rfl rfl rfl (by decide +kernel) ⟨Nat.le_of_ble_eq_true rfl, Nat.le_of_ble_eq_true rfl⟩) (kps hG hP hD hS) rfl rfl hl.1 rfl (lv_room (Nat.le_of_ble_eq_true rfl)) dX2_note_30 ⟨Nat.le_of_ble_eq_true rfl, Nat.le_of_ble_eq_true rfl⟩) hS (fun r30 w H locs hp hP hD hS => ?_)
  rw [hp.2] at hP hD
  rw [hp.1]
  refine lv_if_eq (tgt := 40) hx hb dX2_note_33 (by decide) (fun h33 => False.elim (absurd h33 (by decide))) (fun h33 => ?_)
  refine lv_iconst (v := 0) hx hb dX2_note_36 (by decide) ?_
  refine lv_goto (tgt := 41) hx hb dX2_note_37 (by decide) ?_
  refine kc_i (va_runV (As := [.int 0]) (rest := []) ⟨hx, hb, hml, hown, hts⟩ (c_X2_fails (x := 0) (z := 0) (by decide)) (cwV 1 hts gX2_note_X2_fails rfl rfl rfl (by decide +kernel) ⟨Nat.le_of_ble_eq_true rfl, Nat.le_of_ble_eq_true rfl⟩) (kpv (q0 := 0) hG hP hD hS rfl rfl) rfl rfl hl.1 rfl (lv_room (Nat.le_of_ble_eq_true rfl)) dX2_note_41 ⟨Nat.le_of_ble_eq_true rfl, Nat.le_of_ble_eq_true rfl⟩) hS (fun r41 w H locs hp hP hD hS => ?_)
  rw [hp.2] at hP hD
  rw [hp.1]
  refine lv_if_eq (tgt := 49) hx hb dX2_note_44 (by decide) (fun h44 => ?_) (fun h44 => False.elim (absurd rfl h44))
  refine lv_aload_n hx hb dX2_note_49 rfl (lv_at hl 1 rfl) ?_
  refine kget (ci := 3) (C := RX2) (T := TX2) (N := 18) hx hb hts hown hG hP 0 rfl rfl hinX2 6 (by decide) (by decide +kernel) rfl dX2_note_50 ?_
  refine lv_iload_n hx hb dX2_note_53 rfl (lv_at hl 2 rfl) ?_
  refine kiald (n := 30) (j := j) hx hb hG hP 5 rfl (by omega) (by decide) dX2_note_54 ?_
  refine lv_iconst (v := 3) hx hb dX2_note_55 (by decide) ?_
  refine lv_icmp_ge (tgt := 76) hx hb dX2_note_56 (by decide) (fun h56 => False.elim (absurd hst (i32_nlt.mpr h56))) (fun h56 => ?_)
  refine lv_aload_n hx hb dX2_note_59 rfl (lv_at hl 1 rfl) ?_
  refine kget (ci := 3) (C := RX2) (T := TX2) (N := 18) hx hb hts hown hG hP 0 rfl rfl hinX2 4 (by decide) (by decide +kernel) rfl dX2_note_60 ?_
  refine lv_iload_n hx hb dX2_note_63 rfl (lv_at hl 2 rfl) ?_
  refine lv_dup2_11 hx hb dX2_note_64 rfl rfl ?_
  refine kiald (n := 30) (j := j) hx hb hG hP 3 rfl (by omega) (by decide) dX2_note_65 ?_
  refine lv_iload_n hx hb dX2_note_66 rfl (lv_at hl 3 rfl) ?_
  refine lv_isub hx hb dX2_note_67 ?_
  refine kiast (n := 30) (j := j) hx hb hG hP hD hS 3 rfl (by omega) (by decide) dX2_note_68 (fun H locs hP hD hS => ?_)
  have hP : va_P K.1 kCl (Mfix K qm td (nI n) 0 (up2 M 4 j ((M 4 j) - y)) X) H := hP
  have hD : va_D A (Mfix K qm td (nI n) 0 (up2 M 4 j ((M 4 j) - y)) X) := hD
  refine lv_aload_n hx hb dX2_note_69 rfl (lv_at hl 1 rfl) ?_
  refine kget (ci := 3) (C := RX2) (T := TX2) (N := 18) hx hb hts hown hG hP 0 rfl rfl hinX2 4 (by decide) (by decide +kernel) rfl dX2_note_70 ?_
  refine lv_iload_n hx hb dX2_note_73 rfl (lv_at hl 2 rfl) ?_
  refine kiald (n := 30) (j := j) hx hb hG hP 3 rfl (by omega) (by decide) dX2_note_74 ?_
  exact kr_i hx hb hr hlocks hP hD hS (Nat.zero_le _) (Nat.zero_le _) (⟨by simp [up2, va_up, upd], rfl⟩) dX2_note_75
set_option maxHeartbeats 4000000 in
set_option maxRecDepth 100000 in
theorem c_X2_note_p {l : Launch} {K : Ks} {A : Nat → Prop} {qm : Nat → Nat} {td th : Int32} {M X : Nat → Nat → Int32} {n j : Nat} (hn : n ≤ 30) (hj : j < n) {y : Int32} (hm : okP M j) (hy : inR 1 (M 4 j - M 10 j) y) (hst : ¬ M 6 j < 3) (ham : ¬ M 4 j = 0) : Met l yX2_note wsX2_note (kR 3 0 0) (kPr K A [.ref (qm 0), .int (nI j), .int y] (Mfix K qm td (nI n) th M X)) (kQi K A (fun r w => r = moreS M j y ∧ w = Mfix K qm td (nI n) 0 (noteM M j y) X)) 0 0 A := by
  refine kent (cc := cX2_note) (maxL := 5) (ret := (some .int)) (by decide) rfl (Nat.le_of_ble_eq_true rfl) ?_
  intro p e s m args below meth c ls hx hb hr hts hown hlocks hml hini hG hP hD hS hl
  have hinX2 : ∀ x ∈ wsX20, x ∈ wsX2_note := by decide +kernel
  have hl : lv_has ls 5 [(0, .ref (qm 0)), (1, .int (nI j)), (2, .int y)] := hl
  refine lv_aload_n hx hb dX2_note_0 rfl (lv_at hl 0 rfl) ?_
  refine lv_iload_n hx hb dX2_note_1 rfl (lv_at hl 1 rfl) ?_
  refine kc_i (va_runV (As := [.int (nI j)]) (rest := []) ⟨hx, hb, hml, hown, hts⟩ (c_X2_is (z := 1) (bi_t (ix_in (by omega) hj)).symm) (cwV 1 hts gX2_note_X2_is rfl rfl rfl (by decide +kernel) ⟨Nat.le_of_ble_eq_true rfl, Nat.le_of_ble_eq_true rfl⟩) (kpv (q0 := 0) hG hP hD hS rfl rfl) rfl rfl hl.1 rfl (lv_room (Nat.le_of_ble_eq_true rfl)) dX2_note_2 ⟨Nat.le_of_ble_eq_true rfl, Nat.le_of_ble_eq_true rfl⟩) hS (fun r2 w H locs hp hP hD hS => ?_)
  rw [hp.2] at hP hD
  rw [hp.1]
  refine lv_istore_n (lv' := [(3, .int 1), (0, .ref (qm 0)), (1, .int (nI j)), (2, .int y)]) hx hb dX2_note_5 rfl hl (by decide) rfl (fun ls hl => ?_)
  refine lv_aload_n hx hb dX2_note_6 rfl (lv_at hl 1 rfl) ?_
  refine lv_iload_n hx hb dX2_note_7 rfl (lv_at hl 0 rfl) ?_
  refine lv_if_ne (tgt := 15) hx hb dX2_note_8 (by decide) (fun h8 => ?_) (fun h8 => False.elim (absurd h8 (by decide)))
  refine lv_iload_n hx hb dX2_note_15 rfl (lv_at hl 3 rfl) ?_
  refine lv_iconst (v := 1) hx hb dX2_note_16 (by decide) ?_
  refine lv_aload_n hx hb dX2_note_17 rfl (lv_at hl 1 rfl) ?_
  refine kget (ci := 3) (C := RX2) (T := TX2) (N := 18) hx hb hts hown hG hP 0 rfl rfl hinX2 4 (by decide) (by decide +kernel) rfl dX2_note_18 ?_
  refine lv_iload_n hx hb dX2_note_21 rfl (lv_at hl 2 rfl) ?_
  refine kiald (n := 30) (j := j) hx hb hG hP 3 rfl (by omega) (by decide) dX2_note_22 ?_
  refine lv_aload_n hx hb dX2_note_23 rfl (lv_at hl 1 rfl) ?_
  refine kget (ci := 3) (C := RX2) (T := TX2) (N := 18) hx hb hts hown hG hP 0 rfl rfl hinX2 10 (by decide) (by decide +kernel) rfl dX2_note_24 ?_
  refine lv_iload_n hx hb dX2_note_27 rfl (lv_at hl 2 rfl) ?_
  refine kiald (n := 30) (j := j) hx hb hG hP 9 rfl (by omega) (by decide) dX2_note_28 ?_
  refine lv_isub hx hb dX2_note_29 ?_
  refine kc_i (va_runS (As := [.int y, .int 1, .int ((M 4 j) - (M 10 j))]) (rest := [.ref (qm 0)]) ⟨hx, hb, hml, hown, hts⟩ (c_X2_isIn (z := 1) (bi_t hy).symm) (va_cwS 3 hts gX2_note_X2_isIn rfl rfl rfl (by decide +kernel) ⟨Nat.le_of_ble_eq_true rfl, Nat.le_of_ble_eq_true rfl⟩) (kps hG hP hD hS) rfl rfl hl.1 rfl (lv_room (Nat.le_of_ble_eq_true rfl)) dX2_note_30 ⟨Nat.le_of_ble_eq_true rfl, Nat.le_of_ble_eq_true rfl⟩) hS (fun r30 w H locs hp hP hD hS => ?_)
  rw [hp.2] at hP hD
  rw [hp.1]
  refine lv_if_eq (tgt := 40) hx hb dX2_note_33 (by decide) (fun h33 => False.elim (absurd h33 (by decide))) (fun h33 => ?_)
  refine lv_iconst (v := 0) hx hb dX2_note_36 (by decide) ?_
  refine lv_goto (tgt := 41) hx hb dX2_note_37 (by decide) ?_
  refine kc_i (va_runV (As := [.int 0]) (rest := []) ⟨hx, hb, hml, hown, hts⟩ (c_X2_fails (x := 0) (z := 0) (by decide)) (cwV 1 hts gX2_note_X2_fails rfl rfl rfl (by decide +kernel) ⟨Nat.le_of_ble_eq_true rfl, Nat.le_of_ble_eq_true rfl⟩) (kpv (q0 := 0) hG hP hD hS rfl rfl) rfl rfl hl.1 rfl (lv_room (Nat.le_of_ble_eq_true rfl)) dX2_note_41 ⟨Nat.le_of_ble_eq_true rfl, Nat.le_of_ble_eq_true rfl⟩) hS (fun r41 w H locs hp hP hD hS => ?_)
  rw [hp.2] at hP hD
  rw [hp.1]
  refine lv_if_eq (tgt := 49) hx hb dX2_note_44 (by decide) (fun h44 => ?_) (fun h44 => False.elim (absurd rfl h44))
  refine lv_aload_n hx hb dX2_note_49 rfl (lv_at hl 1 rfl) ?_
  refine kget (ci := 3) (C := RX2) (T := TX2) (N := 18) hx hb hts hown hG hP 0 rfl rfl hinX2 6 (by decide) (by decide +kernel) rfl dX2_note_50 ?_
  refine lv_iload_n hx hb dX2_note_53 rfl (lv_at hl 2 rfl) ?_
  refine kiald (n := 30) (j := j) hx hb hG hP 5 rfl (by omega) (by decide) dX2_note_54 ?_
  refine lv_iconst (v := 3) hx hb dX2_note_55 (by decide) ?_
  refine lv_icmp_ge (tgt := 76) hx hb dX2_note_56 (by decide) (fun h56 => ?_) (fun h56 => False.elim (h56 (i32_nlt.mp hst)))
  refine lv_iload_n hx hb dX2_note_76 rfl (lv_at hl 3 rfl) ?_
  refine lv_i2l (v := (y : Int32).toInt64) hx hb dX2_note_77 rfl ?_
  refine lv_aload_n hx hb dX2_note_78 rfl (lv_at hl 1 rfl) ?_
  refine kget (ci := 3) (C := RX2) (T := TX2) (N := 18) hx hb hts hown hG hP 0 rfl rfl hinX2 8 (by decide) (by decide +kernel) rfl dX2_note_79 ?_
  refine lv_iload_n hx hb dX2_note_82 rfl (lv_at hl 2 rfl) ?_
  refine kiald (n := 30) (j := j) hx hb hG hP 7 rfl (by omega) (by decide) dX2_note_83 ?_
  refine lv_i2l (v := ((M 8 j) : Int32).toInt64) hx hb dX2_note_84 rfl ?_
  refine lv_lmul hx hb dX2_note_85 ?_
  refine lv_aload_n hx hb dX2_note_86 rfl (lv_at hl 1 rfl) ?_
  refine kget (ci := 3) (C := RX2) (T := TX2) (N := 18) hx hb hts hown hG hP 0 rfl rfl hinX2 4 (by decide) (by decide +kernel) rfl dX2_note_87 ?_
  refine lv_iload_n hx hb dX2_note_90 rfl (lv_at hl 2 rfl) ?_
  refine kiald (n := 30) (j := j) hx hb hG hP 3 rfl (by omega) (by decide) dX2_note_91 ?_
  refine lv_i2l (v := ((M 4 j) : Int32).toInt64) hx hb dX2_note_92 rfl ?_
  refine lv_ldiv hx hb dX2_note_93 (i64_n0 ham) ?_
  refine lv_l2i (v := ((((y : Int32).toInt64 * ((M 8 j) : Int32).toInt64) / ((M 4 j) : Int32).toInt64) : Int64).toInt32) hx hb dX2_note_94 rfl ?_
  refine ktop (z := moreS M j y) (by rfl) ?_
  refine lv_istore (lv' := [(4, .int (moreS M j y)), (3, .int 1), (0, .ref (qm 0)), (1, .int (nI j)), (2, .int y)]) hx hb dX2_note_95 hl (by decide) rfl (fun ls hl => ?_)
  refine lv_aload_n hx hb dX2_note_97 rfl (lv_at hl 2 rfl) ?_
  refine kget (ci := 3) (C := RX2) (T := TX2) (N := 18) hx hb hts hown hG hP 0 rfl rfl hinX2 10 (by decide) (by decide +kernel) rfl dX2_note_98 ?_
  refine lv_iload_n hx hb dX2_note_101 rfl (lv_at hl 3 rfl) ?_
  refine lv_dup2_11 hx hb dX2_note_102 rfl rfl ?_
  refine kiald (n := 30) (j := j) hx hb hG hP 9 rfl (by omega) (by decide) dX2_note_103 ?_
  refine lv_iload_n hx hb dX2_note_104 rfl (lv_at hl 4 rfl) ?_
  refine lv_iadd hx hb dX2_note_105 ?_
  refine kiast (n := 30) (j := j) hx hb hG hP hD hS 9 rfl (by omega) (by decide) dX2_note_106 (fun H locs hP hD hS => ?_)
  have hP : va_P K.1 kCl (Mfix K qm td (nI n) 0 (up2 M 10 j ((M 10 j) + y)) X) H := hP
  have hD : va_D A (Mfix K qm td (nI n) 0 (up2 M 10 j ((M 10 j) + y)) X) := hD
  refine lv_aload_n hx hb dX2_note_107 rfl (lv_at hl 2 rfl) ?_
  refine kget (ci := 3) (C := RX2) (T := TX2) (N := 18) hx hb hts hown hG hP 0 rfl rfl hinX2 13 (by decide) (by decide +kernel) rfl dX2_note_108 ?_
  refine lv_aload_n hx hb dX2_note_111 rfl (lv_at hl 2 rfl) ?_
  refine lv_iload_n hx hb dX2_note_112 rfl (lv_at hl 3 rfl) ?_
  refine kc_i (va_runV (As := [.int (nI j)]) (rest := [.ref (qm 13)]) ⟨hx, hb, hml, hown, hts⟩ (c_X2_pair (M := up2 M 10 j (M 10 j + y)) (by omega) hm) (cwV 1 hts gX2_note_X2_pair rfl rfl rfl (by decide +kernel) ⟨Nat.le_of_ble_eq_true rfl, Nat.le_of_ble_eq_true rfl⟩) (kpv (q0 := 0) hG hP hD hS rfl rfl) rfl rfl hl.1 rfl (lv_room (Nat.le_of_ble_eq_true rfl)) dX2_note_113 ⟨Nat.le_of_ble_eq_true rfl, Nat.le_of_ble_eq_true rfl⟩) hS (fun r113 w H locs hp hP hD hS => ?_)
  rw [hp.2] at hP hD
  rw [hp.1]
  refine lv_dup2_11 hx hb dX2_note_116 rfl rfl ?_
  refine kiald (n := 32) (j := (pr M j)) hx hb hG hP 12 rfl hm.lt (by decide) dX2_note_117 ?_
  refine lv_iload hx hb dX2_note_118 (lv_at hl 0 rfl) ?_
  refine lv_iadd hx hb dX2_note_120 ?_
  refine kiast (n := 32) (j := (pr M j)) hx hb hG hP hD hS 12 rfl hm.lt (by decide) dX2_note_121 (fun H locs hP hD hS => ?_)
  have hP : va_P K.1 kCl (Mfix K qm td (nI n) 0 (up2 (up2 M 10 j ((M 10 j) + y)) 13 (pr M j) (((up2 M 10 j ((M 10 j) + y)) 13 (pr M j)) + (moreS M j y))) X) H := hP
  have hD : va_D A (Mfix K qm td (nI n) 0 (up2 (up2 M 10 j ((M 10 j) + y)) 13 (pr M j) (((up2 M 10 j ((M 10 j) + y)) 13 (pr M j)) + (moreS M j y))) X) := hD
  refine lv_iload hx hb dX2_note_122 (lv_at hl 0 rfl) ?_
  exact kr_i hx hb hr hlocks hP hD hS (Nat.zero_le _) (Nat.zero_le _) (⟨rfl, rfl⟩) dX2_note_124
set_option maxHeartbeats 4000000 in
set_option maxRecDepth 100000 in
theorem c_X2_offer_1 {l : Launch} {K : Ks} {A : Nat → Prop} {qm : Nat → Nat} {td th : Int32} {M X : Nat → Nat → Int32} {n : Nat} {x : Int32} (hn : n ≤ 30) (hj : ixBad n x) {y : Int32} : Met l yX2_offer wsX2_offer (kR 3 0 0) (kPr K A [.ref (qm 0), .int x, .int y] (Mfix K qm td (nI n) th M X)) (kQi K A (fun _ w => w = Mfix K qm td (nI n) 1 M X)) 0 0 A := by
  refine kent (cc := cX2_offer) (maxL := 4) (ret := (some .int)) (by decide) rfl (Nat.le_of_ble_eq_true rfl) ?_
  intro p e s m args below meth c ls hx hb hr hts hown hlocks hml hini hG hP hD hS hl
  have hinX2 : ∀ x ∈ wsX20, x ∈ wsX2_offer := by decide +kernel
  have hl : lv_has ls 4 [(0, .ref (qm 0)), (1, .int x), (2, .int y)] := hl
  refine lv_aload_n hx hb dX2_offer_0 rfl (lv_at hl 0 rfl) ?_
  refine lv_iload_n hx hb dX2_offer_1 rfl (lv_at hl 1 rfl) ?_
  refine kc_i (va_runV (As := [.int x]) (rest := []) ⟨hx, hb, hml, hown, hts⟩ (c_X2_is (z := 0) (bi_f (ix_bad (by omega) hj)).symm) (cwV 1 hts gX2_offer_X2_is rfl rfl rfl (by decide +kernel) ⟨Nat.le_of_ble_eq_true rfl, Nat.le_of_ble_eq_true rfl⟩) (kpv (q0 := 0) hG hP hD hS rfl rfl) rfl rfl hl.1 rfl (lv_room (Nat.le_of_ble_eq_true rfl)) dX2_offer_2 ⟨Nat.le_of_ble_eq_true rfl, Nat.le_of_ble_eq_true rfl⟩) hS (fun r2 w H locs hp hP hD hS => ?_)
  rw [hp.2] at hP hD
  rw [hp.1]
  refine lv_istore_n (lv' := [(3, .int 0), (0, .ref (qm 0)), (1, .int x), (2, .int y)]) hx hb dX2_offer_5 rfl hl (by decide) rfl (fun ls hl => ?_)
  refine lv_aload_n hx hb dX2_offer_6 rfl (lv_at hl 1 rfl) ?_
  refine lv_iload_n hx hb dX2_offer_7 rfl (lv_at hl 0 rfl) ?_
  refine lv_if_ne (tgt := 15) hx hb dX2_offer_8 (by decide) (fun h8 => False.elim (absurd rfl h8)) (fun h8 => ?_)
  refine lv_iconst (v := 1) hx hb dX2_offer_11 (by decide) ?_
  refine lv_goto (tgt := 58) hx hb dX2_offer_12 (by decide) ?_
  refine kc_i (va_runV (As := [.int 1]) (rest := []) ⟨hx, hb, hml, hown, hts⟩ (c_X2_fails (x := 1) (z := 1) (by decide)) (cwV 1 hts gX2_offer_X2_fails rfl rfl rfl (by decide +kernel) ⟨Nat.le_of_ble_eq_true rfl, Nat.le_of_ble_eq_true rfl⟩) (kpv (q0 := 0) hG hP hD hS rfl rfl) rfl rfl hl.1 rfl (lv_room (Nat.le_of_ble_eq_true rfl)) dX2_offer_58 ⟨Nat.le_of_ble_eq_true rfl, Nat.le_of_ble_eq_true rfl⟩) hS (fun r58 w H locs hp hP hD hS => ?_)
  rw [hp.2] at hP hD
  rw [hp.1]
  refine lv_if_eq (tgt := 66) hx hb dX2_offer_61 (by decide) (fun h61 => False.elim (absurd h61 (by decide))) (fun h61 => ?_)
  refine lv_iconst (v := 0) hx hb dX2_offer_64 (by decide) ?_
  exact kr_i hx hb hr hlocks hP hD hS (Nat.zero_le _) (Nat.zero_le _) (rfl) dX2_offer_65
set_option maxHeartbeats 4000000 in
set_option maxRecDepth 100000 in
theorem c_X2_offer_2 {l : Launch} {K : Ks} {A : Nat → Prop} {qm : Nat → Nat} {td th : Int32} {M X : Nat → Nat → Int32} {n j : Nat} (hn : n ≤ 30) (hj : j < n) {y : Int32} (hy : ¬ inR 0 5000 y) : Met l yX2_offer wsX2_offer (kR 3 0 0) (kPr K A [.ref (qm 0), .int (nI j), .int y] (Mfix K qm td (nI n) th M X)) (kQi K A (fun _ w => w = Mfix K qm td (nI n) 2 M X)) 0 0 A := by
  refine kent (cc := cX2_offer) (maxL := 4) (ret := (some .int)) (by decide) rfl (Nat.le_of_ble_eq_true rfl) ?_
  intro p e s m args below meth c ls hx hb hr hts hown hlocks hml hini hG hP hD hS hl
  have hinX2 : ∀ x ∈ wsX20, x ∈ wsX2_offer := by decide +kernel
  have hl : lv_has ls 4 [(0, .ref (qm 0)), (1, .int (nI j)), (2, .int y)] := hl
  refine lv_aload_n hx hb dX2_offer_0 rfl (lv_at hl 0 rfl) ?_
  refine lv_iload_n hx hb dX2_offer_1 rfl (lv_at hl 1 rfl) ?_
  refine kc_i (va_runV (As := [.int (nI j)]) (rest := []) ⟨hx, hb, hml, hown, hts⟩ (c_X2_is (z := 1) (bi_t (ix_in (by omega) hj)).symm) (cwV 1 hts gX2_offer_X2_is rfl rfl rfl (by decide +kernel) ⟨Nat.le_of_ble_eq_true rfl, Nat.le_of_ble_eq_true rfl⟩) (kpv (q0 := 0) hG hP hD hS rfl rfl) rfl rfl hl.1 rfl (lv_room (Nat.le_of_ble_eq_true rfl)) dX2_offer_2 ⟨Nat.le_of_ble_eq_true rfl, Nat.le_of_ble_eq_true rfl⟩) hS (fun r2 w H locs hp hP hD hS => ?_)
  rw [hp.2] at hP hD
  rw [hp.1]
  refine lv_istore_n (lv' := [(3, .int 1), (0, .ref (qm 0)), (1, .int (nI j)), (2, .int y)]) hx hb dX2_offer_5 rfl hl (by decide) rfl (fun ls hl => ?_)
  refine lv_aload_n hx hb dX2_offer_6 rfl (lv_at hl 1 rfl) ?_
  refine lv_iload_n hx hb dX2_offer_7 rfl (lv_at hl 0 rfl) ?_
  refine lv_if_ne (tgt := 15) hx hb dX2_offer_8 (by decide) (fun h8 => ?_) (fun h8 => False.elim (absurd h8 (by decide)))
  refine lv_iload_n hx hb dX2_offer_15 rfl (lv_at hl 3 rfl) ?_
  refine lv_iconst (v := 0) hx hb dX2_offer_16 (by decide) ?_
  refine lv_sipush (v := 5000) hx hb dX2_offer_17 (by decide) ?_
  refine kc_i (va_runS (As := [.int y, .int 0, .int 5000]) (rest := [.ref (qm 0)]) ⟨hx, hb, hml, hown, hts⟩ (c_X2_isIn (z := 0) (bi_f hy).symm) (va_cwS 3 hts gX2_offer_X2_isIn rfl rfl rfl (by decide +kernel) ⟨Nat.le_of_ble_eq_true rfl, Nat.le_of_ble_eq_true rfl⟩) (kps hG hP hD hS) rfl rfl hl.1 rfl (lv_room (Nat.le_of_ble_eq_true rfl)) dX2_offer_20 ⟨Nat.le_of_ble_eq_true rfl, Nat.le_of_ble_eq_true rfl⟩) hS (fun r20 w H locs hp hP hD hS => ?_)
  rw [hp.2] at hP hD
  rw [hp.1]
  refine lv_if_ne (tgt := 30) hx hb dX2_offer_23 (by decide) (fun h23 => False.elim (absurd rfl h23)) (fun h23 => ?_)
  refine lv_iconst (v := 2) hx hb dX2_offer_26 (by decide) ?_
  refine lv_goto (tgt := 58) hx hb dX2_offer_27 (by decide) ?_
  refine kc_i (va_runV (As := [.int 2]) (rest := []) ⟨hx, hb, hml, hown, hts⟩ (c_X2_fails (x := 2) (z := 1) (by decide)) (cwV 1 hts gX2_offer_X2_fails rfl rfl rfl (by decide +kernel) ⟨Nat.le_of_ble_eq_true rfl, Nat.le_of_ble_eq_true rfl⟩) (kpv (q0 := 0) hG hP hD hS rfl rfl) rfl rfl hl.1 rfl (lv_room (Nat.le_of_ble_eq_true rfl)) dX2_offer_58 ⟨Nat.le_of_ble_eq_true rfl, Nat.le_of_ble_eq_true rfl⟩) hS (fun r58 w H locs hp hP hD hS => ?_)
  rw [hp.2] at hP hD
  rw [hp.1]
  refine lv_if_eq (tgt := 66) hx hb dX2_offer_61 (by decide) (fun h61 => False.elim (absurd h61 (by decide))) (fun h61 => ?_)
  refine lv_iconst (v := 0) hx hb dX2_offer_64 (by decide) ?_
  exact kr_i hx hb hr hlocks hP hD hS (Nat.zero_le _) (Nat.zero_le _) (rfl) dX2_offer_65
set_option maxHeartbeats 4000000 in
set_option maxRecDepth 100000 in
theorem c_X2_offer_3 {l : Launch} {K : Ks} {A : Nat → Prop} {qm : Nat → Nat} {td th : Int32} {M X : Nat → Nat → Int32} {n j : Nat} (hn : n ≤ 30) (hj : j < n) {y : Int32} (hy : inR 0 5000 y) (hst : ¬ (M 6 j = 1 ∧ ¬ M 5 j ≤ td)) : Met l yX2_offer wsX2_offer (kR 3 0 0) (kPr K A [.ref (qm 0), .int (nI j), .int y] (Mfix K qm td (nI n) th M X)) (kQi K A (fun _ w => w = Mfix K qm td (nI n) 3 M X)) 0 0 A := by
  refine kent (cc := cX2_offer) (maxL := 4) (ret := (some .int)) (by decide) rfl (Nat.le_of_ble_eq_true rfl) ?_
  intro p e s m args below meth c ls hx hb hr hts hown hlocks hml hini hG hP hD hS hl
  have hinX2 : ∀ x ∈ wsX20, x ∈ wsX2_offer := by decide +kernel
  have hl : lv_has ls 4 [(0, .ref (qm 0)), (1, .int (nI j)), (2, .int y)] := hl
  refine lv_aload_n hx hb dX2_offer_0 rfl (lv_at hl 0 rfl) ?_
  refine lv_iload_n hx hb dX2_offer_1 rfl (lv_at hl 1 rfl) ?_
  refine kc_i (va_runV (As := [.int (nI j)]) (rest := []) ⟨hx, hb, hml, hown, hts⟩ (c_X2_is (z := 1) (bi_t (ix_in (by omega) hj)).symm) (cwV 1 hts gX2_offer_X2_is rfl rfl rfl (by decide +kernel) ⟨Nat.le_of_ble_eq_true rfl, Nat.le_of_ble_eq_true rfl⟩) (kpv (q0 := 0) hG hP hD hS rfl rfl) rfl rfl hl.1 rfl (lv_room (Nat.le_of_ble_eq_true rfl)) dX2_offer_2 ⟨Nat.le_of_ble_eq_true rfl, Nat.le_of_ble_eq_true rfl⟩) hS (fun r2 w H locs hp hP hD hS => ?_)
  rw [hp.2] at hP hD
  rw [hp.1]
  refine lv_istore_n (lv' := [(3, .int 1), (0, .ref (qm 0)), (1, .int (nI j)), (2, .int y)]) hx hb dX2_offer_5 rfl hl (by decide) rfl (fun ls hl => ?_)
  refine lv_aload_n hx hb dX2_offer_6 rfl (lv_at hl 1 rfl) ?_
  refine lv_iload_n hx hb dX2_offer_7 rfl (lv_at hl 0 rfl) ?_
  refine lv_if_ne (tgt := 15) hx hb dX2_offer_8 (by decide) (fun h8 => ?_) (fun h8 => False.elim (absurd h8 (by decide)))
  refine lv_iload_n hx hb dX2_offer_15 rfl (lv_at hl 3 rfl) ?_
  refine lv_iconst (v := 0) hx hb dX2_offer_16 (by decide) ?_
  refine lv_sipush (v := 5000) hx hb dX2_offer_17 (by decide) ?_
  refine kc_i (va_runS (As := [.int y, .int 0, .int 5000]) (rest := [.ref (qm 0)]) ⟨hx, hb, hml, hown, hts⟩ (c_X2_isIn (z := 1) (bi_t hy).symm) (va_cwS 3 hts gX2_offer_X2_isIn rfl rfl rfl (by decide +kernel) ⟨Nat.le_of_ble_eq_true rfl, Nat.le_of_ble_eq_true rfl⟩) (kps hG hP hD hS) rfl rfl hl.1 rfl (lv_room (Nat.le_of_ble_eq_true rfl)) dX2_offer_20 ⟨Nat.le_of_ble_eq_true rfl, Nat.le_of_ble_eq_true rfl⟩) hS (fun r20 w H locs hp hP hD hS => ?_)
  rw [hp.2] at hP hD
  rw [hp.1]
  refine lv_if_ne (tgt := 30) hx hb dX2_offer_23 (by decide) (fun h23 => ?_) (fun h23 => False.elim (absurd h23 (by decide)))
  refine lv_aload_n hx hb dX2_offer_30 rfl (lv_at hl 1 rfl) ?_
  refine kget (ci := 3) (C := RX2) (T := TX2) (N := 18) hx hb hts hown hG hP 0 rfl rfl hinX2 6 (by decide) (by decide +kernel) rfl dX2_offer_31 ?_
  refine lv_iload_n hx hb dX2_offer_34 rfl (lv_at hl 2 rfl) ?_
  refine kiald (n := 30) (j := j) hx hb hG hP 5 rfl (by omega) (by decide) dX2_offer_35 ?_
  refine lv_iconst (v := 1) hx hb dX2_offer_36 (by decide) ?_
  refine lv_icmp_ne (tgt := 57) hx hb dX2_offer_37 (by decide) (fun h37 => ?_) (fun h37 => ?_)
  · refine lv_iconst (v := 3) hx hb dX2_offer_57 (by decide) ?_
    refine kc_i (va_runV (As := [.int 3]) (rest := []) ⟨hx, hb, hml, hown, hts⟩ (c_X2_fails (x := 3) (z := 1) (by decide)) (cwV 1 hts gX2_offer_X2_fails rfl rfl rfl (by decide +kernel) ⟨Nat.le_of_ble_eq_true rfl, Nat.le_of_ble_eq_true rfl⟩) (kpv (q0 := 0) hG hP hD hS rfl rfl) rfl rfl hl.1 rfl (lv_room (Nat.le_of_ble_eq_true rfl)) dX2_offer_58 ⟨Nat.le_of_ble_eq_true rfl, Nat.le_of_ble_eq_true rfl⟩) hS (fun r58 w H locs hp hP hD hS => ?_)
    rw [hp.2] at hP hD
    rw [hp.1]
    refine lv_if_eq (tgt := 66) hx hb dX2_offer_61 (by decide) (fun h61 => False.elim (absurd h61 (by decide))) (fun h61 => ?_)
    refine lv_iconst (v := 0) hx hb dX2_offer_64 (by decide) ?_
    exact kr_i hx hb hr hlocks hP hD hS (Nat.zero_le _) (Nat.zero_le _) (rfl) dX2_offer_65
  · refine lv_aload_n hx hb dX2_offer_40 rfl (lv_at hl 1 rfl) ?_
    refine kget (ci := 3) (C := RX2) (T := TX2) (N := 18) hx hb hts hown hG hP 0 rfl rfl hinX2 5 (by decide) (by decide +kernel) rfl dX2_offer_41 ?_
    refine lv_iload_n hx hb dX2_offer_44 rfl (lv_at hl 2 rfl) ?_
    refine kiald (n := 30) (j := j) hx hb hG hP 4 rfl (by omega) (by decide) dX2_offer_45 ?_
    refine lv_aload_n hx hb dX2_offer_46 rfl (lv_at hl 1 rfl) ?_
    refine kget (ci := 3) (C := RX2) (T := TX2) (N := 18) hx hb hts hown hG hP 0 rfl rfl hinX2 0 (by decide) (by decide +kernel) rfl dX2_offer_47 ?_
    refine lv_icmp_le (tgt := 57) hx hb dX2_offer_50 (by decide) (fun h50 => ?_) (fun h50 => False.elim (hst ⟨h37, h50⟩))
    refine lv_iconst (v := 3) hx hb dX2_offer_57 (by decide) ?_
    refine kc_i (va_runV (As := [.int 3]) (rest := []) ⟨hx, hb, hml, hown, hts⟩ (c_X2_fails (x := 3) (z := 1) (by decide)) (cwV 1 hts gX2_offer_X2_fails rfl rfl rfl (by decide +kernel) ⟨Nat.le_of_ble_eq_true rfl, Nat.le_of_ble_eq_true rfl⟩) (kpv (q0 := 0) hG hP hD hS rfl rfl) rfl rfl hl.1 rfl (lv_room (Nat.le_of_ble_eq_true rfl)) dX2_offer_58 ⟨Nat.le_of_ble_eq_true rfl, Nat.le_of_ble_eq_true rfl⟩) hS (fun r58 w H locs hp hP hD hS => ?_)
    rw [hp.2] at hP hD
    rw [hp.1]
    refine lv_if_eq (tgt := 66) hx hb dX2_offer_61 (by decide) (fun h61 => False.elim (absurd h61 (by decide))) (fun h61 => ?_)
    refine lv_iconst (v := 0) hx hb dX2_offer_64 (by decide) ?_
    exact kr_i hx hb hr hlocks hP hD hS (Nat.zero_le _) (Nat.zero_le _) (rfl) dX2_offer_65
set_option maxHeartbeats 4000000 in
set_option maxRecDepth 100000 in
theorem c_X2_offer_ok {l : Launch} {K : Ks} {A : Nat → Prop} {qm : Nat → Nat} {td th : Int32} {M X : Nat → Nat → Int32} {n j : Nat} (hn : n ≤ 30) (hj : j < n) {y : Int32} (hy : inR 0 5000 y) (hst : M 6 j = 1 ∧ ¬ M 5 j ≤ td) : Met l yX2_offer wsX2_offer (kR 3 0 0) (kPr K A [.ref (qm 0), .int (nI j), .int y] (Mfix K qm td (nI n) th M X)) (kQi K A (fun r w => r = price td (up2 M 7 j y) j ∧ w = Mfix K qm td (nI n) 0 (up2 M 7 j y) X)) 0 0 A := by
  refine kent (cc := cX2_offer) (maxL := 4) (ret := (some .int)) (by decide) rfl (Nat.le_of_ble_eq_true rfl) ?_
  intro p e s m args below meth c ls hx hb hr hts hown hlocks hml hini hG hP hD hS hl
  have hinX2 : ∀ x ∈ wsX20, x ∈ wsX2_offer := by decide +kernel
  have hl : lv_has ls 4 [(0, .ref (qm 0)), (1, .int (nI j)), (2, .int y)] := hl
  refine lv_aload_n hx hb dX2_offer_0 rfl (lv_at hl 0 rfl) ?_
  refine lv_iload_n hx hb dX2_offer_1 rfl (lv_at hl 1 rfl) ?_
  refine kc_i (va_runV (As := [.int (nI j)]) (rest := []) ⟨hx, hb, hml, hown, hts⟩ (c_X2_is (z := 1) (bi_t (ix_in (by omega) hj)).symm) (cwV 1 hts gX2_offer_X2_is rfl rfl rfl (by decide +kernel) ⟨Nat.le_of_ble_eq_true rfl, Nat.le_of_ble_eq_true rfl⟩) (kpv (q0 := 0) hG hP hD hS rfl rfl) rfl rfl hl.1 rfl (lv_room (Nat.le_of_ble_eq_true rfl)) dX2_offer_2 ⟨Nat.le_of_ble_eq_true rfl, Nat.le_of_ble_eq_true rfl⟩) hS (fun r2 w H locs hp hP hD hS => ?_)
  rw [hp.2] at hP hD
  rw [hp.1]
  refine lv_istore_n (lv' := [(3, .int 1), (0, .ref (qm 0)), (1, .int (nI j)), (2, .int y)]) hx hb dX2_offer_5 rfl hl (by decide) rfl (fun ls hl => ?_)
  refine lv_aload_n hx hb dX2_offer_6 rfl (lv_at hl 1 rfl) ?_
  refine lv_iload_n hx hb dX2_offer_7 rfl (lv_at hl 0 rfl) ?_
  refine lv_if_ne (tgt := 15) hx hb dX2_offer_8 (by decide) (fun h8 => ?_) (fun h8 => False.elim (absurd h8 (by decide)))
  refine lv_iload_n hx hb dX2_offer_15 rfl (lv_at hl 3 rfl) ?_
  refine lv_iconst (v := 0) hx hb dX2_offer_16 (by decide) ?_
  refine lv_sipush (v := 5000) hx hb dX2_offer_17 (by decide) ?_
  refine kc_i (va_runS (As := [.int y, .int 0, .int 5000]) (rest := [.ref (qm 0)]) ⟨hx, hb, hml, hown, hts⟩ (c_X2_isIn (z := 1) (bi_t hy).symm) (va_cwS 3 hts gX2_offer_X2_isIn rfl rfl rfl (by decide +kernel) ⟨Nat.le_of_ble_eq_true rfl, Nat.le_of_ble_eq_true rfl⟩) (kps hG hP hD hS) rfl rfl hl.1 rfl (lv_room (Nat.le_of_ble_eq_true rfl)) dX2_offer_20 ⟨Nat.le_of_ble_eq_true rfl, Nat.le_of_ble_eq_true rfl⟩) hS (fun r20 w H locs hp hP hD hS => ?_)
  rw [hp.2] at hP hD
  rw [hp.1]
  refine lv_if_ne (tgt := 30) hx hb dX2_offer_23 (by decide) (fun h23 => ?_) (fun h23 => False.elim (absurd h23 (by decide)))
  refine lv_aload_n hx hb dX2_offer_30 rfl (lv_at hl 1 rfl) ?_
  refine kget (ci := 3) (C := RX2) (T := TX2) (N := 18) hx hb hts hown hG hP 0 rfl rfl hinX2 6 (by decide) (by decide +kernel) rfl dX2_offer_31 ?_
  refine lv_iload_n hx hb dX2_offer_34 rfl (lv_at hl 2 rfl) ?_
  refine kiald (n := 30) (j := j) hx hb hG hP 5 rfl (by omega) (by decide) dX2_offer_35 ?_
  refine lv_iconst (v := 1) hx hb dX2_offer_36 (by decide) ?_
  refine lv_icmp_ne (tgt := 57) hx hb dX2_offer_37 (by decide) (fun h37 => False.elim (h37 hst.1)) (fun h37 => ?_)
  refine lv_aload_n hx hb dX2_offer_40 rfl (lv_at hl 1 rfl) ?_
  refine kget (ci := 3) (C := RX2) (T := TX2) (N := 18) hx hb hts hown hG hP 0 rfl rfl hinX2 5 (by decide) (by decide +kernel) rfl dX2_offer_41 ?_
  refine lv_iload_n hx hb dX2_offer_44 rfl (lv_at hl 2 rfl) ?_
  refine kiald (n := 30) (j := j) hx hb hG hP 4 rfl (by omega) (by decide) dX2_offer_45 ?_
  refine lv_aload_n hx hb dX2_offer_46 rfl (lv_at hl 1 rfl) ?_
  refine kget (ci := 3) (C := RX2) (T := TX2) (N := 18) hx hb hts hown hG hP 0 rfl rfl hinX2 0 (by decide) (by decide +kernel) rfl dX2_offer_47 ?_
  refine lv_icmp_le (tgt := 57) hx hb dX2_offer_50 (by decide) (fun h50 => False.elim (hst.2 h50)) (fun h50 => ?_)
  refine lv_iconst (v := 0) hx hb dX2_offer_53 (by decide) ?_
  refine lv_goto (tgt := 58) hx hb dX2_offer_54 (by decide) ?_
  refine kc_i (va_runV (As := [.int 0]) (rest := []) ⟨hx, hb, hml, hown, hts⟩ (c_X2_fails (x := 0) (z := 0) (by decide)) (cwV 1 hts gX2_offer_X2_fails rfl rfl rfl (by decide +kernel) ⟨Nat.le_of_ble_eq_true rfl, Nat.le_of_ble_eq_true rfl⟩) (kpv (q0 := 0) hG hP hD hS rfl rfl) rfl rfl hl.1 rfl (lv_room (Nat.le_of_ble_eq_true rfl)) dX2_offer_58 ⟨Nat.le_of_ble_eq_true rfl, Nat.le_of_ble_eq_true rfl⟩) hS (fun r58 w H locs hp hP hD hS => ?_)
  rw [hp.2] at hP hD
  rw [hp.1]
  refine lv_if_eq (tgt := 66) hx hb dX2_offer_61 (by decide) (fun h61 => ?_) (fun h61 => False.elim (absurd rfl h61))
  refine lv_aload_n hx hb dX2_offer_66 rfl (lv_at hl 1 rfl) ?_
  refine kget (ci := 3) (C := RX2) (T := TX2) (N := 18) hx hb hts hown hG hP 0 rfl rfl hinX2 7 (by decide) (by decide +kernel) rfl dX2_offer_67 ?_
  refine lv_iload_n hx hb dX2_offer_70 rfl (lv_at hl 2 rfl) ?_
  refine lv_iload_n hx hb dX2_offer_71 rfl (lv_at hl 3 rfl) ?_
  refine kiast (n := 30) (j := j) hx hb hG hP hD hS 6 rfl (by omega) (by decide) dX2_offer_72 (fun H locs hP hD hS => ?_)
  have hP : va_P K.1 kCl (Mfix K qm td (nI n) 0 (up2 M 7 j y) X) H := hP
  have hD : va_D A (Mfix K qm td (nI n) 0 (up2 M 7 j y) X) := hD
  refine lv_aload_n hx hb dX2_offer_73 rfl (lv_at hl 1 rfl) ?_
  refine lv_iload_n hx hb dX2_offer_74 rfl (lv_at hl 2 rfl) ?_
  refine kc_i (va_runV (As := [.int (nI j)]) (rest := []) ⟨hx, hb, hml, hown, hts⟩ (c_X2_price (by omega)) (cwV 1 hts gX2_offer_X2_price rfl rfl rfl (by decide +kernel) ⟨Nat.le_of_ble_eq_true rfl, Nat.le_of_ble_eq_true rfl⟩) (kpv (q0 := 0) hG hP hD hS rfl rfl) rfl rfl hl.1 rfl (lv_room (Nat.le_of_ble_eq_true rfl)) dX2_offer_75 ⟨Nat.le_of_ble_eq_true rfl, Nat.le_of_ble_eq_true rfl⟩) hS (fun r75 w H locs hp hP hD hS => ?_)
  rw [hp.2] at hP hD
  rw [hp.1]
  exact kr_i hx hb hr hlocks hP hD hS (Nat.zero_le _) (Nat.zero_le _) (⟨rfl, rfl⟩) dX2_offer_78
set_option maxHeartbeats 4000000 in
set_option maxRecDepth 100000 in
theorem c_X2_takeBack_1 {l : Launch} {K : Ks} {A : Nat → Prop} {qm : Nat → Nat} {td th : Int32} {M X : Nat → Nat → Int32} {n : Nat} {x : Int32} (hn : n ≤ 30) (hj : ixBad n x) : Met l yX2_takeBack wsX2_takeBack (kR 3 0 0) (kPr K A [.ref (qm 0), .int x] (Mfix K qm td (nI n) th M X)) (kQi K A (fun _ w => w = Mfix K qm td (nI n) 1 M X)) 0 0 A := by
  refine kent (cc := cX2_takeBack) (maxL := 4) (ret := (some .int)) (by decide) rfl (Nat.le_of_ble_eq_true rfl) ?_
  intro p e s m args below meth c ls hx hb hr hts hown hlocks hml hini hG hP hD hS hl
  have hinX2 : ∀ x ∈ wsX20, x ∈ wsX2_takeBack := by decide +kernel
  have hl : lv_has ls 4 [(0, .ref (qm 0)), (1, .int x)] := hl
  refine lv_aload_n hx hb dX2_takeBack_0 rfl (lv_at hl 0 rfl) ?_
  refine lv_iload_n hx hb dX2_takeBack_1 rfl (lv_at hl 1 rfl) ?_
  refine kc_i (va_runV (As := [.int x]) (rest := []) ⟨hx, hb, hml, hown, hts⟩ (c_X2_is (z := 0) (bi_f (ix_bad (by omega) hj)).symm) (cwV 1 hts gX2_takeBack_X2_is rfl rfl rfl (by decide +kernel) ⟨Nat.le_of_ble_eq_true rfl, Nat.le_of_ble_eq_true rfl⟩) (kpv (q0 := 0) hG hP hD hS rfl rfl) rfl rfl hl.1 rfl (lv_room (Nat.le_of_ble_eq_true rfl)) dX2_takeBack_2 ⟨Nat.le_of_ble_eq_true rfl, Nat.le_of_ble_eq_true rfl⟩) hS (fun r2 w H locs hp hP hD hS => ?_)
  rw [hp.2] at hP hD
  rw [hp.1]
  refine lv_istore_n (lv' := [(2, .int 0), (0, .ref (qm 0)), (1, .int x)]) hx hb dX2_takeBack_5 rfl hl (by decide) rfl (fun ls hl => ?_)
  refine lv_aload_n hx hb dX2_takeBack_6 rfl (lv_at hl 1 rfl) ?_
  refine lv_iload_n hx hb dX2_takeBack_7 rfl (lv_at hl 0 rfl) ?_
  refine lv_if_ne (tgt := 15) hx hb dX2_takeBack_8 (by decide) (fun h8 => False.elim (absurd rfl h8)) (fun h8 => ?_)
  refine lv_iconst (v := 1) hx hb dX2_takeBack_11 (by decide) ?_
  refine lv_goto (tgt := 40) hx hb dX2_takeBack_12 (by decide) ?_
  refine kc_i (va_runV (As := [.int 1]) (rest := []) ⟨hx, hb, hml, hown, hts⟩ (c_X2_fails (x := 1) (z := 1) (by decide)) (cwV 1 hts gX2_takeBack_X2_fails rfl rfl rfl (by decide +kernel) ⟨Nat.le_of_ble_eq_true rfl, Nat.le_of_ble_eq_true rfl⟩) (kpv (q0 := 0) hG hP hD hS rfl rfl) rfl rfl hl.1 rfl (lv_room (Nat.le_of_ble_eq_true rfl)) dX2_takeBack_40 ⟨Nat.le_of_ble_eq_true rfl, Nat.le_of_ble_eq_true rfl⟩) hS (fun r40 w H locs hp hP hD hS => ?_)
  rw [hp.2] at hP hD
  rw [hp.1]
  refine lv_if_eq (tgt := 48) hx hb dX2_takeBack_43 (by decide) (fun h43 => False.elim (absurd h43 (by decide))) (fun h43 => ?_)
  refine lv_iconst (v := 0) hx hb dX2_takeBack_46 (by decide) ?_
  exact kr_i hx hb hr hlocks hP hD hS (Nat.zero_le _) (Nat.zero_le _) (rfl) dX2_takeBack_47
set_option maxHeartbeats 4000000 in
set_option maxRecDepth 100000 in
theorem c_X2_takeBack_2 {l : Launch} {K : Ks} {A : Nat → Prop} {qm : Nat → Nat} {td th : Int32} {M X : Nat → Nat → Int32} {n j : Nat} (hn : n ≤ 30) (hj : j < n) (hst : ¬ (¬ M 7 j = -1 ∧ M 6 j < 3)) : Met l yX2_takeBack wsX2_takeBack (kR 3 0 0) (kPr K A [.ref (qm 0), .int (nI j)] (Mfix K qm td (nI n) th M X)) (kQi K A (fun _ w => w = Mfix K qm td (nI n) 2 M X)) 0 0 A := by
  refine kent (cc := cX2_takeBack) (maxL := 4) (ret := (some .int)) (by decide) rfl (Nat.le_of_ble_eq_true rfl) ?_
  intro p e s m args below meth c ls hx hb hr hts hown hlocks hml hini hG hP hD hS hl
  have hinX2 : ∀ x ∈ wsX20, x ∈ wsX2_takeBack := by decide +kernel
  have hl : lv_has ls 4 [(0, .ref (qm 0)), (1, .int (nI j))] := hl
  refine lv_aload_n hx hb dX2_takeBack_0 rfl (lv_at hl 0 rfl) ?_
  refine lv_iload_n hx hb dX2_takeBack_1 rfl (lv_at hl 1 rfl) ?_
  refine kc_i (va_runV (As := [.int (nI j)]) (rest := []) ⟨hx, hb, hml, hown, hts⟩ (c_X2_is (z := 1) (bi_t (ix_in (by omega) hj)).symm) (cwV 1 hts gX2_takeBack_X2_is rfl rfl rfl (by decide +kernel) ⟨Nat.le_of_ble_eq_true rfl, Nat.le_of_ble_eq_true rfl⟩) (kpv (q0 := 0) hG hP hD hS rfl rfl) rfl rfl hl.1 rfl (lv_room (Nat.le_of_ble_eq_true rfl)) dX2_takeBack_2 ⟨Nat.le_of_ble_eq_true rfl, Nat.le_of_ble_eq_true rfl⟩) hS (fun r2 w H locs hp hP hD hS => ?_)
  rw [hp.2] at hP hD
  rw [hp.1]
  refine lv_istore_n (lv' := [(2, .int 1), (0, .ref (qm 0)), (1, .int (nI j))]) hx hb dX2_takeBack_5 rfl hl (by decide) rfl (fun ls hl => ?_)
  refine lv_aload_n hx hb dX2_takeBack_6 rfl (lv_at hl 1 rfl) ?_
  refine lv_iload_n hx hb dX2_takeBack_7 rfl (lv_at hl 0 rfl) ?_
  refine lv_if_ne (tgt := 15) hx hb dX2_takeBack_8 (by decide) (fun h8 => ?_) (fun h8 => False.elim (absurd h8 (by decide)))
  refine lv_aload_n hx hb dX2_takeBack_15 rfl (lv_at hl 1 rfl) ?_
  refine kget (ci := 3) (C := RX2) (T := TX2) (N := 18) hx hb hts hown hG hP 0 rfl rfl hinX2 7 (by decide) (by decide +kernel) rfl dX2_takeBack_16 ?_
  refine lv_iload_n hx hb dX2_takeBack_19 rfl (lv_at hl 2 rfl) ?_
  refine kiald (n := 30) (j := j) hx hb hG hP 6 rfl (by omega) (by decide) dX2_takeBack_20 ?_
  refine lv_iconst (v := (-1)) hx hb dX2_takeBack_21 (by decide) ?_
  refine lv_icmp_eq (tgt := 35) hx hb dX2_takeBack_22 (by decide) (fun h22 => ?_) (fun h22 => ?_)
  · refine lv_iconst (v := 2) hx hb dX2_takeBack_35 (by decide) ?_
    refine lv_goto (tgt := 40) hx hb dX2_takeBack_36 (by decide) ?_
    refine kc_i (va_runV (As := [.int 2]) (rest := []) ⟨hx, hb, hml, hown, hts⟩ (c_X2_fails (x := 2) (z := 1) (by decide)) (cwV 1 hts gX2_takeBack_X2_fails rfl rfl rfl (by decide +kernel) ⟨Nat.le_of_ble_eq_true rfl, Nat.le_of_ble_eq_true rfl⟩) (kpv (q0 := 0) hG hP hD hS rfl rfl) rfl rfl hl.1 rfl (lv_room (Nat.le_of_ble_eq_true rfl)) dX2_takeBack_40 ⟨Nat.le_of_ble_eq_true rfl, Nat.le_of_ble_eq_true rfl⟩) hS (fun r40 w H locs hp hP hD hS => ?_)
    rw [hp.2] at hP hD
    rw [hp.1]
    refine lv_if_eq (tgt := 48) hx hb dX2_takeBack_43 (by decide) (fun h43 => False.elim (absurd h43 (by decide))) (fun h43 => ?_)
    refine lv_iconst (v := 0) hx hb dX2_takeBack_46 (by decide) ?_
    exact kr_i hx hb hr hlocks hP hD hS (Nat.zero_le _) (Nat.zero_le _) (rfl) dX2_takeBack_47
  · refine lv_aload_n hx hb dX2_takeBack_25 rfl (lv_at hl 1 rfl) ?_
    refine kget (ci := 3) (C := RX2) (T := TX2) (N := 18) hx hb hts hown hG hP 0 rfl rfl hinX2 6 (by decide) (by decide +kernel) rfl dX2_takeBack_26 ?_
    refine lv_iload_n hx hb dX2_takeBack_29 rfl (lv_at hl 2 rfl) ?_
    refine kiald (n := 30) (j := j) hx hb hG hP 5 rfl (by omega) (by decide) dX2_takeBack_30 ?_
    refine lv_iconst (v := 3) hx hb dX2_takeBack_31 (by decide) ?_
    refine lv_icmp_lt (tgt := 39) hx hb dX2_takeBack_32 (by decide) (fun h32 => False.elim (hst ⟨h22, h32⟩)) (fun h32 => ?_)
    refine lv_iconst (v := 2) hx hb dX2_takeBack_35 (by decide) ?_
    refine lv_goto (tgt := 40) hx hb dX2_takeBack_36 (by decide) ?_
    refine kc_i (va_runV (As := [.int 2]) (rest := []) ⟨hx, hb, hml, hown, hts⟩ (c_X2_fails (x := 2) (z := 1) (by decide)) (cwV 1 hts gX2_takeBack_X2_fails rfl rfl rfl (by decide +kernel) ⟨Nat.le_of_ble_eq_true rfl, Nat.le_of_ble_eq_true rfl⟩) (kpv (q0 := 0) hG hP hD hS rfl rfl) rfl rfl hl.1 rfl (lv_room (Nat.le_of_ble_eq_true rfl)) dX2_takeBack_40 ⟨Nat.le_of_ble_eq_true rfl, Nat.le_of_ble_eq_true rfl⟩) hS (fun r40 w H locs hp hP hD hS => ?_)
    rw [hp.2] at hP hD
    rw [hp.1]
    refine lv_if_eq (tgt := 48) hx hb dX2_takeBack_43 (by decide) (fun h43 => False.elim (absurd h43 (by decide))) (fun h43 => ?_)
    refine lv_iconst (v := 0) hx hb dX2_takeBack_46 (by decide) ?_
    exact kr_i hx hb hr hlocks hP hD hS (Nat.zero_le _) (Nat.zero_le _) (rfl) dX2_takeBack_47
set_option maxHeartbeats 4000000 in
set_option maxRecDepth 100000 in
theorem c_X2_takeBack_ok {l : Launch} {K : Ks} {A : Nat → Prop} {qm : Nat → Nat} {td th : Int32} {M X : Nat → Nat → Int32} {n j : Nat} (hn : n ≤ 30) (hj : j < n) (hst : ¬ M 7 j = -1 ∧ M 6 j < 3) : Met l yX2_takeBack wsX2_takeBack (kR 3 0 0) (kPr K A [.ref (qm 0), .int (nI j)] (Mfix K qm td (nI n) th M X)) (kQi K A (fun r w => r = M 7 j ∧ w = Mfix K qm td (nI n) 0 (up2 M 7 j (-1)) X)) 0 0 A := by
  refine kent (cc := cX2_takeBack) (maxL := 4) (ret := (some .int)) (by decide) rfl (Nat.le_of_ble_eq_true rfl) ?_
  intro p e s m args below meth c ls hx hb hr hts hown hlocks hml hini hG hP hD hS hl
  have hinX2 : ∀ x ∈ wsX20, x ∈ wsX2_takeBack := by decide +kernel
  have hl : lv_has ls 4 [(0, .ref (qm 0)), (1, .int (nI j))] := hl
  refine lv_aload_n hx hb dX2_takeBack_0 rfl (lv_at hl 0 rfl) ?_
  refine lv_iload_n hx hb dX2_takeBack_1 rfl (lv_at hl 1 rfl) ?_
  refine kc_i (va_runV (As := [.int (nI j)]) (rest := []) ⟨hx, hb, hml, hown, hts⟩ (c_X2_is (z := 1) (bi_t (ix_in (by omega) hj)).symm) (cwV 1 hts gX2_takeBack_X2_is rfl rfl rfl (by decide +kernel) ⟨Nat.le_of_ble_eq_true rfl, Nat.le_of_ble_eq_true rfl⟩) (kpv (q0 := 0) hG hP hD hS rfl rfl) rfl rfl hl.1 rfl (lv_room (Nat.le_of_ble_eq_true rfl)) dX2_takeBack_2 ⟨Nat.le_of_ble_eq_true rfl, Nat.le_of_ble_eq_true rfl⟩) hS (fun r2 w H locs hp hP hD hS => ?_)
  rw [hp.2] at hP hD
  rw [hp.1]
  refine lv_istore_n (lv' := [(2, .int 1), (0, .ref (qm 0)), (1, .int (nI j))]) hx hb dX2_takeBack_5 rfl hl (by decide) rfl (fun ls hl => ?_)
  refine lv_aload_n hx hb dX2_takeBack_6 rfl (lv_at hl 1 rfl) ?_
  refine lv_iload_n hx hb dX2_takeBack_7 rfl (lv_at hl 0 rfl) ?_
  refine lv_if_ne (tgt := 15) hx hb dX2_takeBack_8 (by decide) (fun h8 => ?_) (fun h8 => False.elim (absurd h8 (by decide)))
  refine lv_aload_n hx hb dX2_takeBack_15 rfl (lv_at hl 1 rfl) ?_
  refine kget (ci := 3) (C := RX2) (T := TX2) (N := 18) hx hb hts hown hG hP 0 rfl rfl hinX2 7 (by decide) (by decide +kernel) rfl dX2_takeBack_16 ?_
  refine lv_iload_n hx hb dX2_takeBack_19 rfl (lv_at hl 2 rfl) ?_
  refine kiald (n := 30) (j := j) hx hb hG hP 6 rfl (by omega) (by decide) dX2_takeBack_20 ?_
  refine lv_iconst (v := (-1)) hx hb dX2_takeBack_21 (by decide) ?_
  refine lv_icmp_eq (tgt := 35) hx hb dX2_takeBack_22 (by decide) (fun h22 => False.elim (hst.1 h22)) (fun h22 => ?_)
  refine lv_aload_n hx hb dX2_takeBack_25 rfl (lv_at hl 1 rfl) ?_
  refine kget (ci := 3) (C := RX2) (T := TX2) (N := 18) hx hb hts hown hG hP 0 rfl rfl hinX2 6 (by decide) (by decide +kernel) rfl dX2_takeBack_26 ?_
  refine lv_iload_n hx hb dX2_takeBack_29 rfl (lv_at hl 2 rfl) ?_
  refine kiald (n := 30) (j := j) hx hb hG hP 5 rfl (by omega) (by decide) dX2_takeBack_30 ?_
  refine lv_iconst (v := 3) hx hb dX2_takeBack_31 (by decide) ?_
  refine lv_icmp_lt (tgt := 39) hx hb dX2_takeBack_32 (by decide) (fun h32 => ?_) (fun h32 => False.elim (h32 hst.2))
  refine lv_iconst (v := 0) hx hb dX2_takeBack_39 (by decide) ?_
  refine kc_i (va_runV (As := [.int 0]) (rest := []) ⟨hx, hb, hml, hown, hts⟩ (c_X2_fails (x := 0) (z := 0) (by decide)) (cwV 1 hts gX2_takeBack_X2_fails rfl rfl rfl (by decide +kernel) ⟨Nat.le_of_ble_eq_true rfl, Nat.le_of_ble_eq_true rfl⟩) (kpv (q0 := 0) hG hP hD hS rfl rfl) rfl rfl hl.1 rfl (lv_room (Nat.le_of_ble_eq_true rfl)) dX2_takeBack_40 ⟨Nat.le_of_ble_eq_true rfl, Nat.le_of_ble_eq_true rfl⟩) hS (fun r40 w H locs hp hP hD hS => ?_)
  rw [hp.2] at hP hD
  rw [hp.1]
  refine lv_if_eq (tgt := 48) hx hb dX2_takeBack_43 (by decide) (fun h43 => ?_) (fun h43 => False.elim (absurd rfl h43))
  refine lv_aload_n hx hb dX2_takeBack_48 rfl (lv_at hl 1 rfl) ?_
  refine kget (ci := 3) (C := RX2) (T := TX2) (N := 18) hx hb hts hown hG hP 0 rfl rfl hinX2 7 (by decide) (by decide +kernel) rfl dX2_takeBack_49 ?_
  refine lv_iload_n hx hb dX2_takeBack_52 rfl (lv_at hl 2 rfl) ?_
  refine kiald (n := 30) (j := j) hx hb hG hP 6 rfl (by omega) (by decide) dX2_takeBack_53 ?_
  refine lv_istore_n (lv' := [(3, .int (M 7 j)), (2, .int 1), (0, .ref (qm 0)), (1, .int (nI j))]) hx hb dX2_takeBack_54 rfl hl (by decide) rfl (fun ls hl => ?_)
  refine lv_aload_n hx hb dX2_takeBack_55 rfl (lv_at hl 2 rfl) ?_
  refine kget (ci := 3) (C := RX2) (T := TX2) (N := 18) hx hb hts hown hG hP 0 rfl rfl hinX2 7 (by decide) (by decide +kernel) rfl dX2_takeBack_56 ?_
  refine lv_iload_n hx hb dX2_takeBack_59 rfl (lv_at hl 3 rfl) ?_
  refine lv_iconst (v := (-1)) hx hb dX2_takeBack_60 (by decide) ?_
  refine kiast (n := 30) (j := j) hx hb hG hP hD hS 6 rfl (by omega) (by decide) dX2_takeBack_61 (fun H locs hP hD hS => ?_)
  have hP : va_P K.1 kCl (Mfix K qm td (nI n) 0 (up2 M 7 j (-1)) X) H := hP
  have hD : va_D A (Mfix K qm td (nI n) 0 (up2 M 7 j (-1)) X) := hD
  refine lv_iload_n hx hb dX2_takeBack_62 rfl (lv_at hl 0 rfl) ?_
  exact kr_i hx hb hr hlocks hP hD hS (Nat.zero_le _) (Nat.zero_le _) (⟨rfl, rfl⟩) dX2_takeBack_63
set_option maxHeartbeats 4000000 in
set_option maxRecDepth 100000 in
theorem c_X2_setLimit_1b {l : Launch} {K : Ks} {A : Nat → Prop} {qm : Nat → Nat} {td nb th : Int32} {M X : Nat → Nat → Int32} {x y z : Int32} (hx4 : ixBad 4 x) : Met l yX2_setLimit wsX2_setLimit (kR 3 0 0) (kPr K A [.ref (qm 0), .int x, .int y, .int z] (Mfix K qm td nb th M X)) (kQi K A (fun _ w => w = Mfix K qm td nb 1 M X)) 0 0 A := by
  refine kent (cc := cX2_setLimit) (maxL := 5) (ret := (some .int)) (by decide) rfl (Nat.le_of_ble_eq_true rfl) ?_
  intro p e s m args below meth c ls hx hb hr hts hown hlocks hml hini hG hP hD hS hl
  have hinX2 : ∀ x ∈ wsX20, x ∈ wsX2_setLimit := by decide +kernel
  have hl : lv_has ls 5 [(0, .ref (qm 0)), (1, .int x), (2, .int y), (3, .int z)] := hl
  refine lv_aload_n hx hb dX2_setLimit_0 rfl (lv_at hl 0 rfl) ?_
  refine lv_iload_n hx hb dX2_setLimit_1 rfl (lv_at hl 1 rfl) ?_
  refine lv_iload_n hx hb dX2_setLimit_2 rfl (lv_at hl 2 rfl) ?_
  refine kc_i (va_runS (As := [.int x, .int y]) (rest := [.ref (qm 0)]) ⟨hx, hb, hml, hown, hts⟩ (c_X2_isPair_b hx4) (va_cwS 2 hts gX2_setLimit_X2_isPair rfl rfl rfl (by decide +kernel) ⟨Nat.le_of_ble_eq_true rfl, Nat.le_of_ble_eq_true rfl⟩) (kps hG hP hD hS) rfl rfl hl.1 rfl (lv_room (Nat.le_of_ble_eq_true rfl)) dX2_setLimit_3 ⟨Nat.le_of_ble_eq_true rfl, Nat.le_of_ble_eq_true rfl⟩) hS (fun r3 w H locs hp hP hD hS => ?_)
  rw [hp.2] at hP hD
  rw [hp.1]
  refine lv_if_ne (tgt := 13) hx hb dX2_setLimit_6 (by decide) (fun h6 => False.elim (absurd rfl h6)) (fun h6 => ?_)
  refine lv_iconst (v := 1) hx hb dX2_setLimit_9 (by decide) ?_
  refine lv_goto (tgt := 28) hx hb dX2_setLimit_10 (by decide) ?_
  refine kc_i (va_runV (As := [.int 1]) (rest := []) ⟨hx, hb, hml, hown, hts⟩ (c_X2_fails (x := 1) (z := 1) (by decide)) (cwV 1 hts gX2_setLimit_X2_fails rfl rfl rfl (by decide +kernel) ⟨Nat.le_of_ble_eq_true rfl, Nat.le_of_ble_eq_true rfl⟩) (kpv (q0 := 0) hG hP hD hS rfl rfl) rfl rfl hl.1 rfl (lv_room (Nat.le_of_ble_eq_true rfl)) dX2_setLimit_28 ⟨Nat.le_of_ble_eq_true rfl, Nat.le_of_ble_eq_true rfl⟩) hS (fun r28 w H locs hp hP hD hS => ?_)
  rw [hp.2] at hP hD
  rw [hp.1]
  refine lv_if_eq (tgt := 36) hx hb dX2_setLimit_31 (by decide) (fun h31 => False.elim (absurd h31 (by decide))) (fun h31 => ?_)
  refine lv_iconst (v := 0) hx hb dX2_setLimit_34 (by decide) ?_
  exact kr_i hx hb hr hlocks hP hD hS (Nat.zero_le _) (Nat.zero_le _) (rfl) dX2_setLimit_35
set_option maxHeartbeats 4000000 in
set_option maxRecDepth 100000 in
theorem c_X2_setLimit_1s {l : Launch} {K : Ks} {A : Nat → Prop} {qm : Nat → Nat} {td nb th : Int32} {M X : Nat → Nat → Int32} {b : Nat} {y z : Int32} (hx4 : b < 4) (hx8 : ixBad 8 y) : Met l yX2_setLimit wsX2_setLimit (kR 3 0 0) (kPr K A [.ref (qm 0), .int (nI b), .int y, .int z] (Mfix K qm td nb th M X)) (kQi K A (fun _ w => w = Mfix K qm td nb 1 M X)) 0 0 A := by
  refine kent (cc := cX2_setLimit) (maxL := 5) (ret := (some .int)) (by decide) rfl (Nat.le_of_ble_eq_true rfl) ?_
  intro p e s m args below meth c ls hx hb hr hts hown hlocks hml hini hG hP hD hS hl
  have hinX2 : ∀ x ∈ wsX20, x ∈ wsX2_setLimit := by decide +kernel
  have hl : lv_has ls 5 [(0, .ref (qm 0)), (1, .int (nI b)), (2, .int y), (3, .int z)] := hl
  refine lv_aload_n hx hb dX2_setLimit_0 rfl (lv_at hl 0 rfl) ?_
  refine lv_iload_n hx hb dX2_setLimit_1 rfl (lv_at hl 1 rfl) ?_
  refine lv_iload_n hx hb dX2_setLimit_2 rfl (lv_at hl 2 rfl) ?_
  refine kc_i (va_runS (As := [.int (nI b), .int y]) (rest := [.ref (qm 0)]) ⟨hx, hb, hml, hown, hts⟩ (c_X2_isPair_s hx4 hx8) (va_cwS 2 hts gX2_setLimit_X2_isPair rfl rfl rfl (by decide +kernel) ⟨Nat.le_of_ble_eq_true rfl, Nat.le_of_ble_eq_true rfl⟩) (kps hG hP hD hS) rfl rfl hl.1 rfl (lv_room (Nat.le_of_ble_eq_true rfl)) dX2_setLimit_3 ⟨Nat.le_of_ble_eq_true rfl, Nat.le_of_ble_eq_true rfl⟩) hS (fun r3 w H locs hp hP hD hS => ?_)
  rw [hp.2] at hP hD
  rw [hp.1]
  refine lv_if_ne (tgt := 13) hx hb dX2_setLimit_6 (by decide) (fun h6 => False.elim (absurd rfl h6)) (fun h6 => ?_)
  refine lv_iconst (v := 1) hx hb dX2_setLimit_9 (by decide) ?_
  refine lv_goto (tgt := 28) hx hb dX2_setLimit_10 (by decide) ?_
  refine kc_i (va_runV (As := [.int 1]) (rest := []) ⟨hx, hb, hml, hown, hts⟩ (c_X2_fails (x := 1) (z := 1) (by decide)) (cwV 1 hts gX2_setLimit_X2_fails rfl rfl rfl (by decide +kernel) ⟨Nat.le_of_ble_eq_true rfl, Nat.le_of_ble_eq_true rfl⟩) (kpv (q0 := 0) hG hP hD hS rfl rfl) rfl rfl hl.1 rfl (lv_room (Nat.le_of_ble_eq_true rfl)) dX2_setLimit_28 ⟨Nat.le_of_ble_eq_true rfl, Nat.le_of_ble_eq_true rfl⟩) hS (fun r28 w H locs hp hP hD hS => ?_)
  rw [hp.2] at hP hD
  rw [hp.1]
  refine lv_if_eq (tgt := 36) hx hb dX2_setLimit_31 (by decide) (fun h31 => False.elim (absurd h31 (by decide))) (fun h31 => ?_)
  refine lv_iconst (v := 0) hx hb dX2_setLimit_34 (by decide) ?_
  exact kr_i hx hb hr hlocks hP hD hS (Nat.zero_le _) (Nat.zero_le _) (rfl) dX2_setLimit_35
set_option maxHeartbeats 4000000 in
set_option maxRecDepth 100000 in
theorem c_X2_setLimit_2 {l : Launch} {K : Ks} {A : Nat → Prop} {qm : Nat → Nat} {td nb th : Int32} {M X : Nat → Nat → Int32} {b o : Nat} (hx4 : b < 4) (hx8 : o < 8) {z : Int32} (hy : ¬ inR 0 100000000 z) : Met l yX2_setLimit wsX2_setLimit (kR 3 0 0) (kPr K A [.ref (qm 0), .int (nI b), .int (nI o), .int z] (Mfix K qm td nb th M X)) (kQi K A (fun _ w => w = Mfix K qm td nb 2 M X)) 0 0 A := by
  refine kent (cc := cX2_setLimit) (maxL := 5) (ret := (some .int)) (by decide) rfl (Nat.le_of_ble_eq_true rfl) ?_
  intro p e s m args below meth c ls hx hb hr hts hown hlocks hml hini hG hP hD hS hl
  have hinX2 : ∀ x ∈ wsX20, x ∈ wsX2_setLimit := by decide +kernel
  have hl : lv_has ls 5 [(0, .ref (qm 0)), (1, .int (nI b)), (2, .int (nI o)), (3, .int z)] := hl
  refine lv_aload_n hx hb dX2_setLimit_0 rfl (lv_at hl 0 rfl) ?_
  refine lv_iload_n hx hb dX2_setLimit_1 rfl (lv_at hl 1 rfl) ?_
  refine lv_iload_n hx hb dX2_setLimit_2 rfl (lv_at hl 2 rfl) ?_
  refine kc_i (va_runS (As := [.int (nI b), .int (nI o)]) (rest := [.ref (qm 0)]) ⟨hx, hb, hml, hown, hts⟩ (c_X2_isPair_ok hx4 hx8) (va_cwS 2 hts gX2_setLimit_X2_isPair rfl rfl rfl (by decide +kernel) ⟨Nat.le_of_ble_eq_true rfl, Nat.le_of_ble_eq_true rfl⟩) (kps hG hP hD hS) rfl rfl hl.1 rfl (lv_room (Nat.le_of_ble_eq_true rfl)) dX2_setLimit_3 ⟨Nat.le_of_ble_eq_true rfl, Nat.le_of_ble_eq_true rfl⟩) hS (fun r3 w H locs hp hP hD hS => ?_)
  rw [hp.2] at hP hD
  rw [hp.1]
  refine lv_if_ne (tgt := 13) hx hb dX2_setLimit_6 (by decide) (fun h6 => ?_) (fun h6 => False.elim (absurd h6 (by decide)))
  refine lv_iload_n hx hb dX2_setLimit_13 rfl (lv_at hl 3 rfl) ?_
  refine lv_iconst (v := 0) hx hb dX2_setLimit_14 (by decide) ?_
  refine lv_ldc (v := 100000000) hx hb hown (hts (.constant RX2 69 100000000) (by decide +kernel)) dX2_setLimit_15 ?_
  refine kc_i (va_runS (As := [.int z, .int 0, .int 100000000]) (rest := [.ref (qm 0)]) ⟨hx, hb, hml, hown, hts⟩ (c_X2_isIn (z := 0) (bi_f hy).symm) (va_cwS 3 hts gX2_setLimit_X2_isIn rfl rfl rfl (by decide +kernel) ⟨Nat.le_of_ble_eq_true rfl, Nat.le_of_ble_eq_true rfl⟩) (kps hG hP hD hS) rfl rfl hl.1 rfl (lv_room (Nat.le_of_ble_eq_true rfl)) dX2_setLimit_17 ⟨Nat.le_of_ble_eq_true rfl, Nat.le_of_ble_eq_true rfl⟩) hS (fun r17 w H locs hp hP hD hS => ?_)
  rw [hp.2] at hP hD
  rw [hp.1]
  refine lv_if_eq (tgt := 27) hx hb dX2_setLimit_20 (by decide) (fun h20 => ?_) (fun h20 => False.elim (absurd rfl h20))
  refine lv_iconst (v := 2) hx hb dX2_setLimit_27 (by decide) ?_
  refine kc_i (va_runV (As := [.int 2]) (rest := []) ⟨hx, hb, hml, hown, hts⟩ (c_X2_fails (x := 2) (z := 1) (by decide)) (cwV 1 hts gX2_setLimit_X2_fails rfl rfl rfl (by decide +kernel) ⟨Nat.le_of_ble_eq_true rfl, Nat.le_of_ble_eq_true rfl⟩) (kpv (q0 := 0) hG hP hD hS rfl rfl) rfl rfl hl.1 rfl (lv_room (Nat.le_of_ble_eq_true rfl)) dX2_setLimit_28 ⟨Nat.le_of_ble_eq_true rfl, Nat.le_of_ble_eq_true rfl⟩) hS (fun r28 w H locs hp hP hD hS => ?_)
  rw [hp.2] at hP hD
  rw [hp.1]
  refine lv_if_eq (tgt := 36) hx hb dX2_setLimit_31 (by decide) (fun h31 => False.elim (absurd h31 (by decide))) (fun h31 => ?_)
  refine lv_iconst (v := 0) hx hb dX2_setLimit_34 (by decide) ?_
  exact kr_i hx hb hr hlocks hP hD hS (Nat.zero_le _) (Nat.zero_le _) (rfl) dX2_setLimit_35
set_option maxHeartbeats 4000000 in
set_option maxRecDepth 100000 in
theorem c_X2_setLimit_ok {l : Launch} {K : Ks} {A : Nat → Prop} {qm : Nat → Nat} {td nb th : Int32} {M X : Nat → Nat → Int32} {b o : Nat} (hx4 : b < 4) (hx8 : o < 8) {z : Int32} (hy : inR 0 100000000 z) : Met l yX2_setLimit wsX2_setLimit (kR 3 0 0) (kPr K A [.ref (qm 0), .int (nI b), .int (nI o), .int z] (Mfix K qm td nb th M X)) (kQi K A (fun r w => r = M 12 (8 * b + o) ∧ w = Mfix K qm td nb 0 (up2 M 12 (8 * b + o) z) X)) 0 0 A := by
  refine kent (cc := cX2_setLimit) (maxL := 5) (ret := (some .int)) (by decide) rfl (Nat.le_of_ble_eq_true rfl) ?_
  intro p e s m args below meth c ls hx hb hr hts hown hlocks hml hini hG hP hD hS hl
  have hinX2 : ∀ x ∈ wsX20, x ∈ wsX2_setLimit := by decide +kernel
  have hl : lv_has ls 5 [(0, .ref (qm 0)), (1, .int (nI b)), (2, .int (nI o)), (3, .int z)] := hl
  refine lv_aload_n hx hb dX2_setLimit_0 rfl (lv_at hl 0 rfl) ?_
  refine lv_iload_n hx hb dX2_setLimit_1 rfl (lv_at hl 1 rfl) ?_
  refine lv_iload_n hx hb dX2_setLimit_2 rfl (lv_at hl 2 rfl) ?_
  refine kc_i (va_runS (As := [.int (nI b), .int (nI o)]) (rest := [.ref (qm 0)]) ⟨hx, hb, hml, hown, hts⟩ (c_X2_isPair_ok hx4 hx8) (va_cwS 2 hts gX2_setLimit_X2_isPair rfl rfl rfl (by decide +kernel) ⟨Nat.le_of_ble_eq_true rfl, Nat.le_of_ble_eq_true rfl⟩) (kps hG hP hD hS) rfl rfl hl.1 rfl (lv_room (Nat.le_of_ble_eq_true rfl)) dX2_setLimit_3 ⟨Nat.le_of_ble_eq_true rfl, Nat.le_of_ble_eq_true rfl⟩) hS (fun r3 w H locs hp hP hD hS => ?_)
  rw [hp.2] at hP hD
  rw [hp.1]
  refine lv_if_ne (tgt := 13) hx hb dX2_setLimit_6 (by decide) (fun h6 => ?_) (fun h6 => False.elim (absurd h6 (by decide)))
  refine lv_iload_n hx hb dX2_setLimit_13 rfl (lv_at hl 3 rfl) ?_
  refine lv_iconst (v := 0) hx hb dX2_setLimit_14 (by decide) ?_
  refine lv_ldc (v := 100000000) hx hb hown (hts (.constant RX2 69 100000000) (by decide +kernel)) dX2_setLimit_15 ?_
  refine kc_i (va_runS (As := [.int z, .int 0, .int 100000000]) (rest := [.ref (qm 0)]) ⟨hx, hb, hml, hown, hts⟩ (c_X2_isIn (z := 1) (bi_t hy).symm) (va_cwS 3 hts gX2_setLimit_X2_isIn rfl rfl rfl (by decide +kernel) ⟨Nat.le_of_ble_eq_true rfl, Nat.le_of_ble_eq_true rfl⟩) (kps hG hP hD hS) rfl rfl hl.1 rfl (lv_room (Nat.le_of_ble_eq_true rfl)) dX2_setLimit_17 ⟨Nat.le_of_ble_eq_true rfl, Nat.le_of_ble_eq_true rfl⟩) hS (fun r17 w H locs hp hP hD hS => ?_)
  rw [hp.2] at hP hD
  rw [hp.1]
  refine lv_if_eq (tgt := 27) hx hb dX2_setLimit_20 (by decide) (fun h20 => False.elim (absurd h20 (by decide))) (fun h20 => ?_)
  refine lv_iconst (v := 0) hx hb dX2_setLimit_23 (by decide) ?_
  refine lv_goto (tgt := 28) hx hb dX2_setLimit_24 (by decide) ?_
  refine kc_i (va_runV (As := [.int 0]) (rest := []) ⟨hx, hb, hml, hown, hts⟩ (c_X2_fails (x := 0) (z := 0) (by decide)) (cwV 1 hts gX2_setLimit_X2_fails rfl rfl rfl (by decide +kernel) ⟨Nat.le_of_ble_eq_true rfl, Nat.le_of_ble_eq_true rfl⟩) (kpv (q0 := 0) hG hP hD hS rfl rfl) rfl rfl hl.1 rfl (lv_room (Nat.le_of_ble_eq_true rfl)) dX2_setLimit_28 ⟨Nat.le_of_ble_eq_true rfl, Nat.le_of_ble_eq_true rfl⟩) hS (fun r28 w H locs hp hP hD hS => ?_)
  rw [hp.2] at hP hD
  rw [hp.1]
  refine lv_if_eq (tgt := 36) hx hb dX2_setLimit_31 (by decide) (fun h31 => ?_) (fun h31 => False.elim (absurd rfl h31))
  refine lv_aload_n hx hb dX2_setLimit_36 rfl (lv_at hl 0 rfl) ?_
  refine kget (ci := 3) (C := RX2) (T := TX2) (N := 18) hx hb hts hown hG hP 0 rfl rfl hinX2 12 (by decide) (by decide +kernel) rfl dX2_setLimit_37 ?_
  refine lv_bipush (v := 8) hx hb dX2_setLimit_40 (by decide) ?_
  refine lv_iload_n hx hb dX2_setLimit_42 rfl (lv_at hl 1 rfl) ?_
  refine lv_imul hx hb dX2_setLimit_43 ?_
  refine lv_iload_n hx hb dX2_setLimit_44 rfl (lv_at hl 2 rfl) ?_
  refine lv_iadd hx hb dX2_setLimit_45 ?_
  refine ktop (z := nI (8 * b + o)) (p8 b o) ?_
  refine kiald (n := 32) (j := (8 * b + o)) hx hb hG hP 11 rfl (by omega) (by decide) dX2_setLimit_46 ?_
  refine lv_istore (lv' := [(4, .int (M 12 (8 * b + o))), (0, .ref (qm 0)), (1, .int (nI b)), (2, .int (nI o)), (3, .int z)]) hx hb dX2_setLimit_47 hl (by decide) rfl (fun ls hl => ?_)
  refine lv_aload_n hx hb dX2_setLimit_49 rfl (lv_at hl 1 rfl) ?_
  refine kget (ci := 3) (C := RX2) (T := TX2) (N := 18) hx hb hts hown hG hP 0 rfl rfl hinX2 12 (by decide) (by decide +kernel) rfl dX2_setLimit_50 ?_
  refine lv_bipush (v := 8) hx hb dX2_setLimit_53 (by decide) ?_
  refine lv_iload_n hx hb dX2_setLimit_55 rfl (lv_at hl 2 rfl) ?_
  refine lv_imul hx hb dX2_setLimit_56 ?_
  refine lv_iload_n hx hb dX2_setLimit_57 rfl (lv_at hl 3 rfl) ?_
  refine lv_iadd hx hb dX2_setLimit_58 ?_
  refine ktop (z := nI (8 * b + o)) (p8 b o) ?_
  refine lv_iload_n hx hb dX2_setLimit_59 rfl (lv_at hl 4 rfl) ?_
  refine kiast (n := 32) (j := (8 * b + o)) hx hb hG hP hD hS 11 rfl (by omega) (by decide) dX2_setLimit_60 (fun H locs hP hD hS => ?_)
  have hP : va_P K.1 kCl (Mfix K qm td nb 0 (up2 M 12 (8 * b + o) z) X) H := hP
  have hD : va_D A (Mfix K qm td nb 0 (up2 M 12 (8 * b + o) z) X) := hD
  refine lv_iload hx hb dX2_setLimit_61 (lv_at hl 0 rfl) ?_
  exact kr_i hx hb hr hlocks hP hD hS (Nat.zero_le _) (Nat.zero_le _) (⟨rfl, rfl⟩) dX2_setLimit_63
set_option maxHeartbeats 4000000 in
set_option maxRecDepth 100000 in
theorem c_X2_claim_1b {l : Launch} {K : Ks} {A : Nat → Prop} {qm : Nat → Nat} {td nb th : Int32} {M X : Nat → Nat → Int32} {x y : Int32} (hx4 : ixBad 4 x) : Met l yX2_claim wsX2_claim (kR 3 0 0) (kPr K A [.ref (qm 0), .int x, .int y] (Mfix K qm td nb th M X)) (kQi K A (fun _ w => w = Mfix K qm td nb 1 M X)) 0 0 A := by
  refine kent (cc := cX2_claim) (maxL := 3) (ret := (some .int)) (by decide) rfl (Nat.le_of_ble_eq_true rfl) ?_
  intro p e s m args below meth c ls hx hb hr hts hown hlocks hml hini hG hP hD hS hl
  have hinX2 : ∀ x ∈ wsX20, x ∈ wsX2_claim := by decide +kernel
  have hl : lv_has ls 3 [(0, .ref (qm 0)), (1, .int x), (2, .int y)] := hl
  refine lv_aload_n hx hb dX2_claim_0 rfl (lv_at hl 0 rfl) ?_
  refine lv_iload_n hx hb dX2_claim_1 rfl (lv_at hl 1 rfl) ?_
  refine lv_iload_n hx hb dX2_claim_2 rfl (lv_at hl 2 rfl) ?_
  refine kc_i (va_runS (As := [.int x, .int y]) (rest := [.ref (qm 0)]) ⟨hx, hb, hml, hown, hts⟩ (c_X2_isPair_b hx4) (va_cwS 2 hts gX2_claim_X2_isPair rfl rfl rfl (by decide +kernel) ⟨Nat.le_of_ble_eq_true rfl, Nat.le_of_ble_eq_true rfl⟩) (kps hG hP hD hS) rfl rfl hl.1 rfl (lv_room (Nat.le_of_ble_eq_true rfl)) dX2_claim_3 ⟨Nat.le_of_ble_eq_true rfl, Nat.le_of_ble_eq_true rfl⟩) hS (fun r3 w H locs hp hP hD hS => ?_)
  rw [hp.2] at hP hD
  rw [hp.1]
  refine lv_if_eq (tgt := 13) hx hb dX2_claim_6 (by decide) (fun h6 => ?_) (fun h6 => False.elim (absurd rfl h6))
  refine lv_iconst (v := 1) hx hb dX2_claim_13 (by decide) ?_
  refine kc_i (va_runV (As := [.int 1]) (rest := []) ⟨hx, hb, hml, hown, hts⟩ (c_X2_fails (x := 1) (z := 1) (by decide)) (cwV 1 hts gX2_claim_X2_fails rfl rfl rfl (by decide +kernel) ⟨Nat.le_of_ble_eq_true rfl, Nat.le_of_ble_eq_true rfl⟩) (kpv (q0 := 0) hG hP hD hS rfl rfl) rfl rfl hl.1 rfl (lv_room (Nat.le_of_ble_eq_true rfl)) dX2_claim_14 ⟨Nat.le_of_ble_eq_true rfl, Nat.le_of_ble_eq_true rfl⟩) hS (fun r14 w H locs hp hP hD hS => ?_)
  rw [hp.2] at hP hD
  rw [hp.1]
  refine lv_if_eq (tgt := 24) hx hb dX2_claim_17 (by decide) (fun h17 => False.elim (absurd h17 (by decide))) (fun h17 => ?_)
  refine lv_iconst (v := 0) hx hb dX2_claim_20 (by decide) ?_
  refine lv_goto (tgt := 35) hx hb dX2_claim_21 (by decide) ?_
  exact kr_i hx hb hr hlocks hP hD hS (Nat.zero_le _) (Nat.zero_le _) (rfl) dX2_claim_35
set_option maxHeartbeats 4000000 in
set_option maxRecDepth 100000 in
theorem c_X2_claim_1s {l : Launch} {K : Ks} {A : Nat → Prop} {qm : Nat → Nat} {td nb th : Int32} {M X : Nat → Nat → Int32} {b : Nat} {y : Int32} (hx4 : b < 4) (hx8 : ixBad 8 y) : Met l yX2_claim wsX2_claim (kR 3 0 0) (kPr K A [.ref (qm 0), .int (nI b), .int y] (Mfix K qm td nb th M X)) (kQi K A (fun _ w => w = Mfix K qm td nb 1 M X)) 0 0 A := by
  refine kent (cc := cX2_claim) (maxL := 3) (ret := (some .int)) (by decide) rfl (Nat.le_of_ble_eq_true rfl) ?_
  intro p e s m args below meth c ls hx hb hr hts hown hlocks hml hini hG hP hD hS hl
  have hinX2 : ∀ x ∈ wsX20, x ∈ wsX2_claim := by decide +kernel
  have hl : lv_has ls 3 [(0, .ref (qm 0)), (1, .int (nI b)), (2, .int y)] := hl
  refine lv_aload_n hx hb dX2_claim_0 rfl (lv_at hl 0 rfl) ?_
  refine lv_iload_n hx hb dX2_claim_1 rfl (lv_at hl 1 rfl) ?_
  refine lv_iload_n hx hb dX2_claim_2 rfl (lv_at hl 2 rfl) ?_
  refine kc_i (va_runS (As := [.int (nI b), .int y]) (rest := [.ref (qm 0)]) ⟨hx, hb, hml, hown, hts⟩ (c_X2_isPair_s hx4 hx8) (va_cwS 2 hts gX2_claim_X2_isPair rfl rfl rfl (by decide +kernel) ⟨Nat.le_of_ble_eq_true rfl, Nat.le_of_ble_eq_true rfl⟩) (kps hG hP hD hS) rfl rfl hl.1 rfl (lv_room (Nat.le_of_ble_eq_true rfl)) dX2_claim_3 ⟨Nat.le_of_ble_eq_true rfl, Nat.le_of_ble_eq_true rfl⟩) hS (fun r3 w H locs hp hP hD hS => ?_)
  rw [hp.2] at hP hD
  rw [hp.1]
  refine lv_if_eq (tgt := 13) hx hb dX2_claim_6 (by decide) (fun h6 => ?_) (fun h6 => False.elim (absurd rfl h6))
  refine lv_iconst (v := 1) hx hb dX2_claim_13 (by decide) ?_
  refine kc_i (va_runV (As := [.int 1]) (rest := []) ⟨hx, hb, hml, hown, hts⟩ (c_X2_fails (x := 1) (z := 1) (by decide)) (cwV 1 hts gX2_claim_X2_fails rfl rfl rfl (by decide +kernel) ⟨Nat.le_of_ble_eq_true rfl, Nat.le_of_ble_eq_true rfl⟩) (kpv (q0 := 0) hG hP hD hS rfl rfl) rfl rfl hl.1 rfl (lv_room (Nat.le_of_ble_eq_true rfl)) dX2_claim_14 ⟨Nat.le_of_ble_eq_true rfl, Nat.le_of_ble_eq_true rfl⟩) hS (fun r14 w H locs hp hP hD hS => ?_)
  rw [hp.2] at hP hD
  rw [hp.1]
  refine lv_if_eq (tgt := 24) hx hb dX2_claim_17 (by decide) (fun h17 => False.elim (absurd h17 (by decide))) (fun h17 => ?_)
  refine lv_iconst (v := 0) hx hb dX2_claim_20 (by decide) ?_
  refine lv_goto (tgt := 35) hx hb dX2_claim_21 (by decide) ?_
  exact kr_i hx hb hr hlocks hP hD hS (Nat.zero_le _) (Nat.zero_le _) (rfl) dX2_claim_35
set_option maxHeartbeats 4000000 in
set_option maxRecDepth 100000 in
theorem c_X2_claim_ok {l : Launch} {K : Ks} {A : Nat → Prop} {qm : Nat → Nat} {td nb th : Int32} {M X : Nat → Nat → Int32} {b o : Nat} (hx4 : b < 4) (hx8 : o < 8) : Met l yX2_claim wsX2_claim (kR 3 0 0) (kPr K A [.ref (qm 0), .int (nI b), .int (nI o)] (Mfix K qm td nb th M X)) (kQi K A (fun r w => r = M 13 (8 * b + o) ∧ w = Mfix K qm td nb 0 M X)) 0 0 A := by
  refine kent (cc := cX2_claim) (maxL := 3) (ret := (some .int)) (by decide) rfl (Nat.le_of_ble_eq_true rfl) ?_
  intro p e s m args below meth c ls hx hb hr hts hown hlocks hml hini hG hP hD hS hl
  have hinX2 : ∀ x ∈ wsX20, x ∈ wsX2_claim := by decide +kernel
  have hl : lv_has ls 3 [(0, .ref (qm 0)), (1, .int (nI b)), (2, .int (nI o))] := hl
  refine lv_aload_n hx hb dX2_claim_0 rfl (lv_at hl 0 rfl) ?_
  refine lv_iload_n hx hb dX2_claim_1 rfl (lv_at hl 1 rfl) ?_
  refine lv_iload_n hx hb dX2_claim_2 rfl (lv_at hl 2 rfl) ?_
  refine kc_i (va_runS (As := [.int (nI b), .int (nI o)]) (rest := [.ref (qm 0)]) ⟨hx, hb, hml, hown, hts⟩ (c_X2_isPair_ok hx4 hx8) (va_cwS 2 hts gX2_claim_X2_isPair rfl rfl rfl (by decide +kernel) ⟨Nat.le_of_ble_eq_true rfl, Nat.le_of_ble_eq_true rfl⟩) (kps hG hP hD hS) rfl rfl hl.1 rfl (lv_room (Nat.le_of_ble_eq_true rfl)) dX2_claim_3 ⟨Nat.le_of_ble_eq_true rfl, Nat.le_of_ble_eq_true rfl⟩) hS (fun r3 w H locs hp hP hD hS => ?_)
  rw [hp.2] at hP hD
  rw [hp.1]
  refine lv_if_eq (tgt := 13) hx hb dX2_claim_6 (by decide) (fun h6 => False.elim (absurd h6 (by decide))) (fun h6 => ?_)
  refine lv_iconst (v := 0) hx hb dX2_claim_9 (by decide) ?_
  refine lv_goto (tgt := 14) hx hb dX2_claim_10 (by decide) ?_
  refine kc_i (va_runV (As := [.int 0]) (rest := []) ⟨hx, hb, hml, hown, hts⟩ (c_X2_fails (x := 0) (z := 0) (by decide)) (cwV 1 hts gX2_claim_X2_fails rfl rfl rfl (by decide +kernel) ⟨Nat.le_of_ble_eq_true rfl, Nat.le_of_ble_eq_true rfl⟩) (kpv (q0 := 0) hG hP hD hS rfl rfl) rfl rfl hl.1 rfl (lv_room (Nat.le_of_ble_eq_true rfl)) dX2_claim_14 ⟨Nat.le_of_ble_eq_true rfl, Nat.le_of_ble_eq_true rfl⟩) hS (fun r14 w H locs hp hP hD hS => ?_)
  rw [hp.2] at hP hD
  rw [hp.1]
  refine lv_if_eq (tgt := 24) hx hb dX2_claim_17 (by decide) (fun h17 => ?_) (fun h17 => False.elim (absurd rfl h17))
  refine lv_aload_n hx hb dX2_claim_24 rfl (lv_at hl 0 rfl) ?_
  refine kget (ci := 3) (C := RX2) (T := TX2) (N := 18) hx hb hts hown hG hP 0 rfl rfl hinX2 13 (by decide) (by decide +kernel) rfl dX2_claim_25 ?_
  refine lv_bipush (v := 8) hx hb dX2_claim_28 (by decide) ?_
  refine lv_iload_n hx hb dX2_claim_30 rfl (lv_at hl 1 rfl) ?_
  refine lv_imul hx hb dX2_claim_31 ?_
  refine lv_iload_n hx hb dX2_claim_32 rfl (lv_at hl 2 rfl) ?_
  refine lv_iadd hx hb dX2_claim_33 ?_
  refine ktop (z := nI (8 * b + o)) (p8 b o) ?_
  refine kiald (n := 32) (j := (8 * b + o)) hx hb hG hP 12 rfl (by omega) (by decide) dX2_claim_34 ?_
  exact kr_i hx hb hr hlocks hP hD hS (Nat.zero_le _) (Nat.zero_le _) (⟨rfl, rfl⟩) dX2_claim_35
