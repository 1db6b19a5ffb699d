/-! The class, 1: checks; reads of a bill -/
theorem lt4 {x : Int32} (h : ¬ 3 < x) : x < 4 := by rw [i32_lt] at h ⊢; have e3 : (3 : Int32).toInt = 3 := rfl; have e4 : (4 : Int32).toInt = 4 := rfl; omega
theorem gt4 {x : Int32} (h : x < 4) : ¬ 3 < x := by rw [i32_lt] at h ⊢; have e3 : (3 : Int32).toInt = 3 := rfl; have e4 : (4 : Int32).toInt = 4 := rfl; omega
theorem lt8 {x : Int32} (h : ¬ 7 < x) : x < 8 := by rw [i32_lt] at h ⊢; have e3 : (7 : Int32).toInt = 7 := rfl; have e4 : (8 : Int32).toInt = 8 := rfl; omega
theorem gt8 {x : Int32} (h : x < 8) : ¬ 7 < x := by rw [i32_lt] at h ⊢; have e3 : (7 : Int32).toInt = 7 := rfl; have e4 : (8 : Int32).toInt = 8 := rfl; omega
set_option maxHeartbeats 4000000 in
set_option maxRecDepth 100000 in
theorem c_X1_checkBuyer {l : Launch} {K : Ks} {A : Nat → Prop} {w0 : va_W} {x : Int32} (hxx : inR 0 3 x) : Met l yX1_checkBuyer wsX1_checkBuyer (kR 0 0 0) (kPr K A [.int x] (w0)) (kQv K A (fun w => w = w0)) 0 0 A := by
  refine kent (cc := cX1_checkBuyer) (maxL := 1) (ret := none) (by decide) rfl (Nat.le_of_ble_eq_true rfl) ?_
  intro p e s m args below meth c ls hx hb hr hts hown hlocks hml hini hG hP hD hS hl
  have hl : lv_has ls 1 [(0, .int x)] := hl
  refine lv_iload_n hx hb dX1_checkBuyer_0 rfl (lv_at hl 0 rfl) ?_
  refine lv_if_lt (tgt := 9) hx hb dX1_checkBuyer_1 (by decide) (fun h1 => False.elim (hxx.1 h1)) (fun h1 => ?_)
  refine lv_iload_n hx hb dX1_checkBuyer_4 rfl (lv_at hl 0 rfl) ?_
  refine lv_iconst (v := 4) hx hb dX1_checkBuyer_5 (by decide) ?_
  refine lv_icmp_lt (tgt := 19) hx hb dX1_checkBuyer_6 (by decide) (fun h6 => ?_) (fun h6 => False.elim (h6 (lt4 hxx.2)))
  exact kr_v hx hb hr hlocks hP hD hS (Nat.zero_le _) (Nat.zero_le _) (rfl) dX1_checkBuyer_19
set_option maxHeartbeats 4000000 in
set_option maxRecDepth 100000 in
theorem c_X1_checkBuyer_t {l : Launch} {K : Ks} {A : Nat → Prop} {w0 : va_W} (hlt : l.stackTraces = false) {x : Int32} (hxx : ¬ inR 0 3 x) : vx_Met l yX1_checkBuyer wsX1_checkBuyer (kR 0 1 6) (kPr K A [.int x] (w0)) kNo (kX K A IOB (fun w => w = w0)) 1 6 A := by
  refine kentT (cc := cX1_checkBuyer) (maxL := 1) (ret := none) (by decide) rfl (Nat.le_of_ble_eq_true rfl) ?_
  intro p e s m args below meth c ls hx hb hr hts hown hlocks hml hxt hG hP hD hS hl
  have hl : lv_has ls 1 [(0, .int x)] := hl
  refine lv_iload_n hx hb dX1_checkBuyer_0 rfl (lv_at hl 0 rfl) ?_
  refine lv_if_lt (tgt := 9) hx hb dX1_checkBuyer_1 (by decide) (fun h1 => ?_) (fun h1 => ?_)
  · exact kthrow (cls := IOB) (text := "no such buyer") (ik := 153) (is := 155) (ic := 157) hx hb hlt hown hts hG hP hD hS (by decide) (by decide +kernel) (by decide +kernel) hG.2.2.2.2.1.1 (fun x h => List.mem_cons_of_mem _ (List.mem_append_right _ h)) hG.2.2.2.2.2.1 (by decide +kernel) (by decide +kernel) (hl.1.trans hml.symm) dX1_checkBuyer_9 dX1_checkBuyer_12 dX1_checkBuyer_13 dX1_checkBuyer_15 dX1_checkBuyer_18 hxt hlocks (Nat.le_of_ble_eq_true rfl) (Nat.le_of_ble_eq_true rfl) (Nat.le_of_ble_eq_true rfl) (Nat.le_of_ble_eq_true rfl) (rfl) (Nat.le_of_ble_eq_true rfl) (Nat.le_of_ble_eq_true rfl)
  · refine lv_iload_n hx hb dX1_checkBuyer_4 rfl (lv_at hl 0 rfl) ?_
    refine lv_iconst (v := 4) hx hb dX1_checkBuyer_5 (by decide) ?_
    refine lv_icmp_lt (tgt := 19) hx hb dX1_checkBuyer_6 (by decide) (fun h6 => False.elim (hxx ⟨h1, gt4 h6⟩)) (fun h6 => ?_)
    exact kthrow (cls := IOB) (text := "no such buyer") (ik := 153) (is := 155) (ic := 157) hx hb hlt hown hts hG hP hD hS (by decide) (by decide +kernel) (by decide +kernel) hG.2.2.2.2.1.1 (fun x h => List.mem_cons_of_mem _ (List.mem_append_right _ h)) hG.2.2.2.2.2.1 (by decide +kernel) (by decide +kernel) (hl.1.trans hml.symm) dX1_checkBuyer_9 dX1_checkBuyer_12 dX1_checkBuyer_13 dX1_checkBuyer_15 dX1_checkBuyer_18 hxt hlocks (Nat.le_of_ble_eq_true rfl) (Nat.le_of_ble_eq_true rfl) (Nat.le_of_ble_eq_true rfl) (Nat.le_of_ble_eq_true rfl) (rfl) (Nat.le_of_ble_eq_true rfl) (Nat.le_of_ble_eq_true rfl)
set_option maxHeartbeats 4000000 in
set_option maxRecDepth 100000 in
theorem c_X1_checkSupplier {l : Launch} {K : Ks} {A : Nat → Prop} {w0 : va_W} {x : Int32} (hxx : inR 0 7 x) : Met l yX1_checkSupplier wsX1_checkSupplier (kR 0 0 0) (kPr K A [.int x] (w0)) (kQv K A (fun w => w = w0)) 0 0 A := by
  refine kent (cc := cX1_checkSupplier) (maxL := 1) (ret := none) (by decide) rfl (Nat.le_of_ble_eq_true rfl) ?_
  intro p e s m args below meth c ls hx hb hr hts hown hlocks hml hini hG hP hD hS hl
  have hl : lv_has ls 1 [(0, .int x)] := hl
  refine lv_iload_n hx hb dX1_checkSupplier_0 rfl (lv_at hl 0 rfl) ?_
  refine lv_if_lt (tgt := 10) hx hb dX1_checkSupplier_1 (by decide) (fun h1 => False.elim (hxx.1 h1)) (fun h1 => ?_)
  refine lv_iload_n hx hb dX1_checkSupplier_4 rfl (lv_at hl 0 rfl) ?_
  refine lv_bipush (v := 8) hx hb dX1_checkSupplier_5 (by decide) ?_
  refine lv_icmp_lt (tgt := 20) hx hb dX1_checkSupplier_7 (by decide) (fun h7 => ?_) (fun h7 => False.elim (h7 (lt8 hxx.2)))
  exact kr_v hx hb hr hlocks hP hD hS (Nat.zero_le _) (Nat.zero_le _) (rfl) dX1_checkSupplier_20
set_option maxHeartbeats 4000000 in
set_option maxRecDepth 100000 in
theorem c_X1_checkSupplier_t {l : Launch} {K : Ks} {A : Nat → Prop} {w0 : va_W} (hlt : l.stackTraces = false) {x : Int32} (hxx : ¬ inR 0 7 x) : vx_Met l yX1_checkSupplier wsX1_checkSupplier (kR 0 1 6) (kPr K A [.int x] (w0)) kNo (kX K A IOB (fun w => w = w0)) 1 6 A := by
  refine kentT (cc := cX1_checkSupplier) (maxL := 1) (ret := none) (by decide) rfl (Nat.le_of_ble_eq_true rfl) ?_
  intro p e s m args below meth c ls hx hb hr hts hown hlocks hml hxt hG hP hD hS hl
  have hl : lv_has ls 1 [(0, .int x)] := hl
  refine lv_iload_n hx hb dX1_checkSupplier_0 rfl (lv_at hl 0 rfl) ?_
  refine lv_if_lt (tgt := 10) hx hb dX1_checkSupplier_1 (by decide) (fun h1 => ?_) (fun h1 => ?_)
  · exact kthrow (cls := IOB) (text := "no such supplier") (ik := 153) (is := 160) (ic := 157) hx hb hlt hown hts hG hP hD hS (by decide) (by decide +kernel) (by decide +kernel) hG.2.2.2.2.1.2.1 (fun x h => List.mem_cons_of_mem _ (List.mem_append_right _ h)) hG.2.2.2.2.2.1 (by decide +kernel) (by decide +kernel) (hl.1.trans hml.symm) dX1_checkSupplier_10 dX1_checkSupplier_13 dX1_checkSupplier_14 dX1_checkSupplier_16 dX1_checkSupplier_19 hxt hlocks (Nat.le_of_ble_eq_true rfl) (Nat.le_of_ble_eq_true rfl) (Nat.le_of_ble_eq_true rfl) (Nat.le_of_ble_eq_true rfl) (rfl) (Nat.le_of_ble_eq_true rfl) (Nat.le_of_ble_eq_true rfl)
  · refine lv_iload_n hx hb dX1_checkSupplier_4 rfl (lv_at hl 0 rfl) ?_
    refine lv_bipush (v := 8) hx hb dX1_checkSupplier_5 (by decide) ?_
    refine lv_icmp_lt (tgt := 20) hx hb dX1_checkSupplier_7 (by decide) (fun h7 => False.elim (hxx ⟨h1, gt8 h7⟩)) (fun h7 => ?_)
    exact kthrow (cls := IOB) (text := "no such supplier") (ik := 153) (is := 160) (ic := 157) hx hb hlt hown hts hG hP hD hS (by decide) (by decide +kernel) (by decide +kernel) hG.2.2.2.2.1.2.1 (fun x h => List.mem_cons_of_mem _ (List.mem_append_right _ h)) hG.2.2.2.2.2.1 (by decide +kernel) (by decide +kernel) (hl.1.trans hml.symm) dX1_checkSupplier_10 dX1_checkSupplier_13 dX1_checkSupplier_14 dX1_checkSupplier_16 dX1_checkSupplier_19 hxt hlocks (Nat.le_of_ble_eq_true rfl) (Nat.le_of_ble_eq_true rfl) (Nat.le_of_ble_eq_true rfl) (Nat.le_of_ble_eq_true rfl) (rfl) (Nat.le_of_ble_eq_true rfl) (Nat.le_of_ble_eq_true rfl)
set_option maxHeartbeats 4000000 in
set_option maxRecDepth 100000 in
theorem c_X1_checkRange {l : Launch} {K : Ks} {A : Nat → Prop} {w0 : va_W} {x lo hi : Int32} (hxx : inR lo hi x) : Met l yX1_checkRange wsX1_checkRange (kR 0 0 0) (kPr K A [.int x, .int lo, .int hi] (w0)) (kQv K A (fun w => w = w0)) 0 0 A := by
  refine kent (cc := cX1_checkRange) (maxL := 3) (ret := none) (by decide) rfl (Nat.le_of_ble_eq_true rfl) ?_
  intro p e s m args below meth c ls hx hb hr hts hown hlocks hml hini hG hP hD hS hl
  have hl : lv_has ls 3 [(0, .int x), (1, .int lo), (2, .int hi)] := hl
  refine lv_iload_n hx hb dX1_checkRange_0 rfl (lv_at hl 0 rfl) ?_
  refine lv_iload_n hx hb dX1_checkRange_1 rfl (lv_at hl 1 rfl) ?_
  refine lv_icmp_lt (tgt := 10) hx hb dX1_checkRange_2 (by decide) (fun h2 => False.elim (hxx.1 h2)) (fun h2 => ?_)
  refine lv_iload_n hx hb dX1_checkRange_5 rfl (lv_at hl 0 rfl) ?_
  refine lv_iload_n hx hb dX1_checkRange_6 rfl (lv_at hl 2 rfl) ?_
  refine lv_icmp_le (tgt := 20) hx hb dX1_checkRange_7 (by decide) (fun h7 => ?_) (fun h7 => False.elim (hxx.2 (i32_nle.mp h7)))
  exact kr_v hx hb hr hlocks hP hD hS (Nat.zero_le _) (Nat.zero_le _) (rfl) dX1_checkRange_20
set_option maxHeartbeats 4000000 in
set_option maxRecDepth 100000 in
theorem c_X1_checkRange_t {l : Launch} {K : Ks} {A : Nat → Prop} {w0 : va_W} (hlt : l.stackTraces = false) {x lo hi : Int32} (hxx : ¬ inR lo hi x) : vx_Met l yX1_checkRange wsX1_checkRange (kR 0 1 6) (kPr K A [.int x, .int lo, .int hi] (w0)) kNo (kX K A IAE (fun w => w = w0)) 1 6 A := by
  refine kentT (cc := cX1_checkRange) (maxL := 3) (ret := none) (by decide) rfl (Nat.le_of_ble_eq_true rfl) ?_
  intro p e s m args below meth c ls hx hb hr hts hown hlocks hml hxt hG hP hD hS hl
  have hl : lv_has ls 3 [(0, .int x), (1, .int lo), (2, .int hi)] := hl
  refine lv_iload_n hx hb dX1_checkRange_0 rfl (lv_at hl 0 rfl) ?_
  refine lv_iload_n hx hb dX1_checkRange_1 rfl (lv_at hl 1 rfl) ?_
  refine lv_icmp_lt (tgt := 10) hx hb dX1_checkRange_2 (by decide) (fun h2 => ?_) (fun h2 => ?_)
  · exact kthrow (cls := IAE) (text := "argument out of range") (ik := 162) (is := 164) (ic := 166) hx hb hlt hown hts hG hP hD hS (by decide) (by decide +kernel) (by decide +kernel) hG.2.2.2.2.1.2.2.1 (fun x h => List.mem_cons_of_mem _ (List.mem_append_right _ h)) hG.2.2.2.2.2.2.1 (by decide +kernel) (by decide +kernel) (hl.1.trans hml.symm) dX1_checkRange_10 dX1_checkRange_13 dX1_checkRange_14 dX1_checkRange_16 dX1_checkRange_19 hxt hlocks (Nat.le_of_ble_eq_true rfl) (Nat.le_of_ble_eq_true rfl) (Nat.le_of_ble_eq_true rfl) (Nat.le_of_ble_eq_true rfl) (rfl) (Nat.le_of_ble_eq_true rfl) (Nat.le_of_ble_eq_true rfl)
  · refine lv_iload_n hx hb dX1_checkRange_5 rfl (lv_at hl 0 rfl) ?_
    refine lv_iload_n hx hb dX1_checkRange_6 rfl (lv_at hl 2 rfl) ?_
    refine lv_icmp_le (tgt := 20) hx hb dX1_checkRange_7 (by decide) (fun h7 => False.elim (hxx ⟨h2, i32_nlt.mpr h7⟩)) (fun h7 => ?_)
    exact kthrow (cls := IAE) (text := "argument out of range") (ik := 162) (is := 164) (ic := 166) hx hb hlt hown hts hG hP hD hS (by decide) (by decide +kernel) (by decide +kernel) hG.2.2.2.2.1.2.2.1 (fun x h => List.mem_cons_of_mem _ (List.mem_append_right _ h)) hG.2.2.2.2.2.2.1 (by decide +kernel) (by decide +kernel) (hl.1.trans hml.symm) dX1_checkRange_10 dX1_checkRange_13 dX1_checkRange_14 dX1_checkRange_16 dX1_checkRange_19 hxt hlocks (Nat.le_of_ble_eq_true rfl) (Nat.le_of_ble_eq_true rfl) (Nat.le_of_ble_eq_true rfl) (Nat.le_of_ble_eq_true rfl) (rfl) (Nat.le_of_ble_eq_true rfl) (Nat.le_of_ble_eq_true rfl)
set_option maxHeartbeats 4000000 in
set_option maxRecDepth 100000 in
theorem c_X1_checkPossible {l : Launch} {K : Ks} {A : Nat → Prop} {w0 : va_W}  : Met l yX1_checkPossible wsX1_checkPossible (kR 0 0 0) (kPr K A [.int 1] (w0)) (kQv K A (fun w => w = w0)) 0 0 A := by
  refine kent (cc := cX1_checkPossible) (maxL := 1) (ret := none) (by decide) rfl (Nat.le_of_ble_eq_true rfl) ?_
  intro p e s m args below meth c ls hx hb hr hts hown hlocks hml hini hG hP hD hS hl
  have hl : lv_has ls 1 [(0, .int 1)] := hl
  refine lv_iload_n hx hb dX1_checkPossible_0 rfl (lv_at hl 0 rfl) ?_
  refine lv_if_ne (tgt := 14) hx hb dX1_checkPossible_1 (by decide) (fun h1 => ?_) (fun h1 => False.elim (absurd h1 (by decide)))
  exact kr_v hx hb hr hlocks hP hD hS (Nat.zero_le _) (Nat.zero_le _) (rfl) dX1_checkPossible_14
set_option maxHeartbeats 4000000 in
set_option maxRecDepth 100000 in
theorem c_X1_checkPossible_t {l : Launch} {K : Ks} {A : Nat → Prop} {w0 : va_W} (hlt : l.stackTraces = false)  : vx_Met l yX1_checkPossible wsX1_checkPossible (kR 0 1 6) (kPr K A [.int 0] (w0)) kNo (kX K A ISE (fun w => w = w0)) 1 6 A := by
  refine kentT (cc := cX1_checkPossible) (maxL := 1) (ret := none) (by decide) rfl (Nat.le_of_ble_eq_true rfl) ?_
  intro p e s m args below meth c ls hx hb hr hts hown hlocks hml hxt hG hP hD hS hl
  have hl : lv_has ls 1 [(0, .int 0)] := hl
  refine lv_iload_n hx hb dX1_checkPossible_0 rfl (lv_at hl 0 rfl) ?_
  refine lv_if_ne (tgt := 14) hx hb dX1_checkPossible_1 (by decide) (fun h1 => False.elim (absurd rfl h1)) (fun h1 => ?_)
  exact kthrow (cls := ISE) (text := "not possible now") (ik := 167) (is := 169) (ic := 171) hx hb hlt hown hts hG hP hD hS (by decide) (by decide +kernel) (by decide +kernel) hG.2.2.2.2.1.2.2.2.1 (fun x h => List.mem_cons_of_mem _ (List.mem_append_right _ h)) hG.2.2.2.2.2.2.2.1.1 (by decide +kernel) (by decide +kernel) (hl.1.trans hml.symm) dX1_checkPossible_4 dX1_checkPossible_7 dX1_checkPossible_8 dX1_checkPossible_10 dX1_checkPossible_13 hxt hlocks (Nat.le_of_ble_eq_true rfl) (Nat.le_of_ble_eq_true rfl) (Nat.le_of_ble_eq_true rfl) (Nat.le_of_ble_eq_true rfl) (rfl) (Nat.le_of_ble_eq_true rfl) (Nat.le_of_ble_eq_true rfl)
set_option maxHeartbeats 4000000 in
set_option maxRecDepth 100000 in
theorem c_X0_isPaid {l : Launch} {K : Ks} {A : Nat → Prop} {M : Nat → Nat → Int32} {i q0 bb : Nat} {w0 : va_W} (hq : w0[q0]? = some (bb, .inr (1, brow M i)))  : Met l yX0_isPaid wsX0_isPaid (kR 0 0 0) (kPr K A [.ref bb] (w0)) (kQi K A (fun r w => r = bi (decide (M 6 i = 3 ∨ M 6 i = 4)) ∧ w = w0)) 0 0 A := by
  refine kent (cc := cX0_isPaid) (maxL := 1) (ret := (some .boolean)) (by decide) rfl (Nat.le_of_ble_eq_true rfl) ?_
  intro p e s m args below meth c ls hx hb hr hts hown hlocks hml hini hG hP hD hS hl
  have hinX0 : ∀ x ∈ wsX00, x ∈ wsX0_isPaid := by decide +kernel
  have hl : lv_has ls 1 [(0, .ref bb)] := hl
  refine lv_aload_n hx hb dX0_isPaid_0 rfl (lv_at hl 0 rfl) ?_
  refine kget (ci := 1) (C := RX0) (T := TX0) (N := 10) hx hb hts hown hG hP q0 hq rfl hinX0 5 (by decide) (by decide +kernel) rfl dX0_isPaid_1 ?_
  refine lv_iconst (v := 3) hx hb dX0_isPaid_4 (by decide) ?_
  refine lv_icmp_eq (tgt := 16) hx hb dX0_isPaid_5 (by decide) (fun h5 => ?_) (fun h5 => ?_)
  · refine lv_iconst (v := 1) hx hb dX0_isPaid_16 (by decide) ?_
    refine lv_goto (tgt := 21) hx hb dX0_isPaid_17 (by decide) ?_
    exact kr_z hx hb hr hlocks hP hD hS (Nat.zero_le _) (Nat.zero_le _) (Or.inr rfl) (⟨(bi_t (Or.inl h5)).symm, rfl⟩) dX0_isPaid_21
  · refine lv_aload_n hx hb dX0_isPaid_8 rfl (lv_at hl 0 rfl) ?_
    refine kget (ci := 1) (C := RX0) (T := TX0) (N := 10) hx hb hts hown hG hP q0 hq rfl hinX0 5 (by decide) (by decide +kernel) rfl dX0_isPaid_9 ?_
    refine lv_iconst (v := 4) hx hb dX0_isPaid_12 (by decide) ?_
    refine lv_icmp_ne (tgt := 20) hx hb dX0_isPaid_13 (by decide) (fun h13 => ?_) (fun h13 => ?_)
    · refine lv_iconst (v := 0) hx hb dX0_isPaid_20 (by decide) ?_
      exact kr_z hx hb hr hlocks hP hD hS (Nat.zero_le _) (Nat.zero_le _) (Or.inl rfl) (⟨(bi_f (fun q => q.elim h5 h13)).symm, rfl⟩) dX0_isPaid_21
    · refine lv_iconst (v := 1) hx hb dX0_isPaid_16 (by decide) ?_
      refine lv_goto (tgt := 21) hx hb dX0_isPaid_17 (by decide) ?_
      exact kr_z hx hb hr hlocks hP hD hS (Nat.zero_le _) (Nat.zero_le _) (Or.inr rfl) (⟨(bi_t (Or.inr h13)).symm, rfl⟩) dX0_isPaid_21
set_option maxHeartbeats 4000000 in
set_option maxRecDepth 100000 in
theorem c_X0_canBeCleared {l : Launch} {K : Ks} {A : Nat → Prop} {M : Nat → Nat → Int32} {i q0 bb : Nat} {w0 : va_W} (hq : w0[q0]? = some (bb, .inr (1, brow M i))) {td : Int32} : Met l yX0_canBeCleared wsX0_canBeCleared (kR 0 0 0) (kPr K A [.ref bb, .int td] (w0)) (kQi K A (fun r w => r = bi (decide (M 6 i = 1 ∧ ¬ M 5 i ≤ td ∧ ¬ M 7 i = -1)) ∧ w = w0)) 0 0 A := by
  refine kent (cc := cX0_canBeCleared) (maxL := 2) (ret := (some .boolean)) (by decide) rfl (Nat.le_of_ble_eq_true rfl) ?_
  intro p e s m args below meth c ls hx hb hr hts hown hlocks hml hini hG hP hD hS hl
  have hinX0 : ∀ x ∈ wsX00, x ∈ wsX0_canBeCleared := by decide +kernel
  have hl : lv_has ls 2 [(0, .ref bb), (1, .int td)] := hl
  refine lv_aload_n hx hb dX0_canBeCleared_0 rfl (lv_at hl 0 rfl) ?_
  refine kget (ci := 1) (C := RX0) (T := TX0) (N := 10) hx hb hts hown hG hP q0 hq rfl hinX0 5 (by decide) (by decide +kernel) rfl dX0_canBeCleared_1 ?_
  refine lv_iconst (v := 1) hx hb dX0_canBeCleared_4 (by decide) ?_
  refine lv_icmp_ne (tgt := 28) hx hb dX0_canBeCleared_5 (by decide) (fun h5 => ?_) (fun h5 => ?_)
  · refine lv_iconst (v := 0) hx hb dX0_canBeCleared_28 (by decide) ?_
    exact kr_z hx hb hr hlocks hP hD hS (Nat.zero_le _) (Nat.zero_le _) (Or.inl rfl) (⟨(bi_f (fun q => h5 q.1)).symm, rfl⟩) dX0_canBeCleared_29
  · refine lv_aload_n hx hb dX0_canBeCleared_8 rfl (lv_at hl 0 rfl) ?_
    refine kget (ci := 1) (C := RX0) (T := TX0) (N := 10) hx hb hts hown hG hP q0 hq rfl hinX0 3 (by decide) (by decide +kernel) rfl dX0_canBeCleared_9 ?_
    refine lv_iload_n hx hb dX0_canBeCleared_12 rfl (lv_at hl 1 rfl) ?_
    refine lv_icmp_le (tgt := 28) hx hb dX0_canBeCleared_13 (by decide) (fun h13 => ?_) (fun h13 => ?_)
    · refine lv_iconst (v := 0) hx hb dX0_canBeCleared_28 (by decide) ?_
      exact kr_z hx hb hr hlocks hP hD hS (Nat.zero_le _) (Nat.zero_le _) (Or.inl rfl) (⟨(bi_f (fun q => q.2.1 h13)).symm, rfl⟩) dX0_canBeCleared_29
    · refine lv_aload_n hx hb dX0_canBeCleared_16 rfl (lv_at hl 0 rfl) ?_
      refine kget (ci := 1) (C := RX0) (T := TX0) (N := 10) hx hb hts hown hG hP q0 hq rfl hinX0 6 (by decide) (by decide +kernel) rfl dX0_canBeCleared_17 ?_
      refine lv_iconst (v := (-1)) hx hb dX0_canBeCleared_20 (by decide) ?_
      refine lv_icmp_eq (tgt := 28) hx hb dX0_canBeCleared_21 (by decide) (fun h21 => ?_) (fun h21 => ?_)
      · refine lv_iconst (v := 0) hx hb dX0_canBeCleared_28 (by decide) ?_
        exact kr_z hx hb hr hlocks hP hD hS (Nat.zero_le _) (Nat.zero_le _) (Or.inl rfl) (⟨(bi_f (fun q => q.2.2 h21)).symm, rfl⟩) dX0_canBeCleared_29
      · refine lv_iconst (v := 1) hx hb dX0_canBeCleared_24 (by decide) ?_
        refine lv_goto (tgt := 29) hx hb dX0_canBeCleared_25 (by decide) ?_
        exact kr_z hx hb hr hlocks hP hD hS (Nat.zero_le _) (Nat.zero_le _) (Or.inr rfl) (⟨(bi_t ⟨h5, h13, h21⟩).symm, rfl⟩) dX0_canBeCleared_29
set_option maxHeartbeats 4000000 in
set_option maxRecDepth 100000 in
theorem c_X0_discountOn {l : Launch} {K : Ks} {A : Nat → Prop} {M : Nat → Nat → Int32} {i q0 bb : Nat} {w0 : va_W} (hq : w0[q0]? = some (bb, .inr (1, brow M i))) {td : Int32} : Met l yX0_discountOn wsX0_discountOn (kR 0 0 0) (kPr K A [.ref bb, .int td] (w0)) (kQi K A (fun r w => r = disc td M i ∧ w = w0)) 0 0 A := by
  refine kent (cc := cX0_discountOn) (maxL := 2) (ret := (some .int)) (by decide) rfl (Nat.le_of_ble_eq_true rfl) ?_
  intro p e s m args below meth c ls hx hb hr hts hown hlocks hml hini hG hP hD hS hl
  have hinX0 : ∀ x ∈ wsX00, x ∈ wsX0_discountOn := by decide +kernel
  have hl : lv_has ls 2 [(0, .ref bb), (1, .int td)] := hl
  refine lv_aload_n hx hb dX0_discountOn_0 rfl (lv_at hl 0 rfl) ?_
  refine kget (ci := 1) (C := RX0) (T := TX0) (N := 10) hx hb hts hown hG hP q0 hq rfl hinX0 4 (by decide) (by decide +kernel) rfl dX0_discountOn_1 ?_
  refine lv_i2l (v := ((M 4 i) : Int32).toInt64) hx hb dX0_discountOn_4 rfl ?_
  refine lv_aload_n hx hb dX0_discountOn_5 rfl (lv_at hl 0 rfl) ?_
  refine kget (ci := 1) (C := RX0) (T := TX0) (N := 10) hx hb hts hown hG hP q0 hq rfl hinX0 6 (by decide) (by decide +kernel) rfl dX0_discountOn_6 ?_
  refine lv_i2l (v := ((M 7 i) : Int32).toInt64) hx hb dX0_discountOn_9 rfl ?_
  refine lv_lmul hx hb dX0_discountOn_10 ?_
  refine lv_aload_n hx hb dX0_discountOn_11 rfl (lv_at hl 0 rfl) ?_
  refine kget (ci := 1) (C := RX0) (T := TX0) (N := 10) hx hb hts hown hG hP q0 hq rfl hinX0 3 (by decide) (by decide +kernel) rfl dX0_discountOn_12 ?_
  refine lv_iload_n hx hb dX0_discountOn_15 rfl (lv_at hl 1 rfl) ?_
  refine lv_isub hx hb dX0_discountOn_16 ?_
  refine lv_i2l (v := (((M 5 i) - td) : Int32).toInt64) hx hb dX0_discountOn_17 rfl ?_
  refine lv_lmul hx hb dX0_discountOn_18 ?_
  refine lv_ldc2 (v := 3600000) hx hb hown (hts (.constantLong RX0 42 3600000) (by decide +kernel)) dX0_discountOn_19 ?_
  refine lv_ldiv hx hb dX0_discountOn_22 (by decide) ?_
  refine lv_l2i (v := ((((((M 4 i) : Int32).toInt64 * ((M 7 i) : Int32).toInt64) * (((M 5 i) - td) : Int32).toInt64) / 3600000) : Int64).toInt32) hx hb dX0_discountOn_23 rfl ?_
  exact kr_i hx hb hr hlocks hP hD hS (Nat.zero_le _) (Nat.zero_le _) (⟨rfl, rfl⟩) dX0_discountOn_24
set_option maxHeartbeats 4000000 in
set_option maxRecDepth 100000 in
theorem c_X0_priceOn {l : Launch} {K : Ks} {A : Nat → Prop} {M : Nat → Nat → Int32} {i q0 bb : Nat} {w0 : va_W} (hq : w0[q0]? = some (bb, .inr (1, brow M i))) {td : Int32} : Met l yX0_priceOn wsX0_priceOn (kR 1 0 0) (kPr K A [.ref bb, .int td] (w0)) (kQi K A (fun r w => r = price td M i ∧ w = w0)) 0 0 A := by
  refine kent (cc := cX0_priceOn) (maxL := 2) (ret := (some .int)) (by decide) rfl (Nat.le_of_ble_eq_true rfl) ?_
  intro p e s m args below meth c ls hx hb hr hts hown hlocks hml hini hG hP hD hS hl
  have hinX0 : ∀ x ∈ wsX00, x ∈ wsX0_priceOn := by decide +kernel
  have hl : lv_has ls 2 [(0, .ref bb), (1, .int td)] := hl
  refine lv_aload_n hx hb dX0_priceOn_0 rfl (lv_at hl 0 rfl) ?_
  refine kget (ci := 1) (C := RX0) (T := TX0) (N := 10) hx hb hts hown hG hP q0 hq rfl hinX0 4 (by decide) (by decide +kernel) rfl dX0_priceOn_1 ?_
  refine lv_aload_n hx hb dX0_priceOn_4 rfl (lv_at hl 0 rfl) ?_
  refine lv_iload_n hx hb dX0_priceOn_5 rfl (lv_at hl 1 rfl) ?_
  refine kc_i (va_runV (As := [.int td]) (rest := [.int (M 4 i)]) ⟨hx, hb, hml, hown, hts⟩ (c_X0_discountOn hq) (cwV 1 hts gX0_priceOn_X0_discountOn rfl rfl rfl (by decide +kernel) ⟨Nat.le_of_ble_eq_true rfl, Nat.le_of_ble_eq_true rfl⟩) (kpv (q0 := q0) hG hP hD hS hq rfl) rfl rfl hl.1 rfl (lv_room (Nat.le_of_ble_eq_true rfl)) dX0_priceOn_6 ⟨Nat.le_of_ble_eq_true rfl, Nat.le_of_ble_eq_true rfl⟩) hS (fun r6 w H locs hp hP hD hS => ?_)
  rw [hp.2] at hP hD
  rw [hp.1]
  refine lv_isub hx hb dX0_priceOn_9 ?_
  exact kr_i hx hb hr hlocks hP hD hS (Nat.zero_le _) (Nat.zero_le _) (⟨rfl, rfl⟩) dX0_priceOn_10
