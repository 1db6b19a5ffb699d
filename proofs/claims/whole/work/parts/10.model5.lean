/-! The reference, 5: pass, averageDiscount -/
/-- the payments of a day: the bills 0 .. j - 1 gone through; how many were paid -/
def dyM (td : Int32) (M : Nat → Nat → Int32) : Nat → Nat → Nat → Int32
  | 0 => M
  | j + 1 => if dyM td M j 6 j = 1 ∧ dyM td M j 5 j = td then payM (dyM td M j) j (dyM td M j 4 j) 4 else dyM td M j
def dyC (td : Int32) (M : Nat → Nat → Int32) : Nat → Nat
  | 0 => 0
  | j + 1 => if dyM td M j 6 j = 1 ∧ dyM td M j 5 j = td then dyC td M j + 1 else dyC td M j
theorem dyM_t {td : Int32} {M : Nat → Nat → Int32} {j : Nat} (h : dyM td M j 6 j = 1 ∧ dyM td M j 5 j = td) : dyM td M (j + 1) = payM (dyM td M j) j (dyM td M j 4 j) 4 := if_pos h
theorem dyM_f {td : Int32} {M : Nat → Nat → Int32} {j : Nat} (h : ¬ (dyM td M j 6 j = 1 ∧ dyM td M j 5 j = td)) : dyM td M (j + 1) = dyM td M j := if_neg h
theorem dyC_t {td : Int32} {M : Nat → Nat → Int32} {j : Nat} (h : dyM td M j 6 j = 1 ∧ dyM td M j 5 j = td) : dyC td M (j + 1) = dyC td M j + 1 := if_pos h
theorem dyC_f {td : Int32} {M : Nat → Nat → Int32} {j : Nat} (h : ¬ (dyM td M j 6 j = 1 ∧ dyM td M j 5 j = td)) : dyC td M (j + 1) = dyC td M j := if_neg h
/-- k days -/
def psM (td : Int32) (n : Nat) (M : Nat → Nat → Int32) : Nat → Nat → Nat → Int32
  | 0 => M
  | k + 1 => dyM (td + nI (k + 1)) (psM td n M k) n
def psC (td : Int32) (n : Nat) (M : Nat → Nat → Int32) : Nat → Nat
  | 0 => 0
  | k + 1 => psC td n M k + dyC (td + nI (k + 1)) (psM td n M k) n
theorem payM_n (M : Nat → Nat → Int32) (j : Nat) (sm how : Int32) {f : Nat} (h6 : f ≠ 6) (h8 : f ≠ 8) (h9 : f ≠ 9) (h13 : f ≠ 13) : payM M j sm how f = M f := by simp [payM, h6, h8, h9, h13]
theorem dyM_n {td : Int32} {M : Nat → Nat → Int32} {f : Nat} (h6 : f ≠ 6) (h8 : f ≠ 8) (h9 : f ≠ 9) (h13 : f ≠ 13) : ∀ j, dyM td M j f = M f
  | 0 => rfl
  | j + 1 => by
    have ih := dyM_n (td := td) (M := M) h6 h8 h9 h13 j
    unfold dyM
    split
    · rw [payM_n _ _ _ _ h6 h8 h9 h13]; exact ih
    · exact ih
theorem psM_n {td : Int32} {n : Nat} {M : Nat → Nat → Int32} {f : Nat} (h6 : f ≠ 6) (h8 : f ≠ 8) (h9 : f ≠ 9) (h13 : f ≠ 13) : ∀ k, psM td n M k f = M f
  | 0 => rfl
  | k + 1 => (dyM_n h6 h8 h9 h13 n).trans (psM_n h6 h8 h9 h13 k)
theorem okP_of {M N : Nat → Nat → Int32} (h2 : N 2 = M 2) (h3 : N 3 = M 3) {j : Nat} (h : okP M j) : okP N j := by
  unfold okP bu su at h ⊢
  rw [h2, h3]
  exact h
theorem okP_dy {td : Int32} {M : Nat → Nat → Int32} {j i : Nat} (h : okP M j) : okP (dyM td M i) j := okP_of (dyM_n (by decide) (by decide) (by decide) (by decide) i) (dyM_n (by decide) (by decide) (by decide) (by decide) i) h
theorem okP_ps {td : Int32} {n : Nat} {M : Nat → Nat → Int32} {j k : Nat} (h : okP M j) : okP (psM td n M k) j := okP_of (psM_n (by decide) (by decide) (by decide) (by decide) k) (psM_n (by decide) (by decide) (by decide) (by decide) k) h
/-- the discounts and the amounts of a buyer's bills that were paid early -/
def adS (M : Nat → Nat → Int32) (b : Nat) : Nat → Int32
  | 0 => 0
  | k + 1 => adS M b k + (if M 2 k = nI b ∧ M 6 k = 3 then M 4 k - M 8 k else 0)
def adA (M : Nat → Nat → Int32) (b : Nat) : Nat → Int32
  | 0 => 0
  | k + 1 => adA M b k + (if M 2 k = nI b ∧ M 6 k = 3 then M 4 k else 0)
theorem adS_t {M : Nat → Nat → Int32} {b k : Nat} (h : M 2 k = nI b ∧ M 6 k = 3) : adS M b (k + 1) = adS M b k + (M 4 k - M 8 k) := by rw [adS, if_pos h]
theorem adS_f {M : Nat → Nat → Int32} {b k : Nat} (h : ¬ (M 2 k = nI b ∧ M 6 k = 3)) : adS M b (k + 1) = adS M b k + 0 := by rw [adS, if_neg h]
theorem adA_t {M : Nat → Nat → Int32} {b k : Nat} (h : M 2 k = nI b ∧ M 6 k = 3) : adA M b (k + 1) = adA M b k + M 4 k := by rw [adA, if_pos h]
theorem adA_f {M : Nat → Nat → Int32} {b k : Nat} (h : ¬ (M 2 k = nI b ∧ M 6 k = 3)) : adA M b (k + 1) = adA M b k + 0 := by rw [adA, if_neg h]
theorem n32_of {r : UInt32} (h : Jvm.FP.Core.fIsNaN r = false) : vf_n32 r := by
  have h1 : ¬ 2139095040 < r.toNat % 2 ^ 31 := fun q => by rw [(Jvm.FP.Core.isNaN_bits32 r).mpr q] at h; cases h
  have h2 : (r &&& 0x7fffffff).toNat = r.toNat % 2 ^ 31 := by
    rw [UInt32.toNat_and]
    exact Nat.and_two_pow_sub_one_eq_mod r.toNat 31
  show r &&& 0x7fffffff ≤ 0x7f800000
  rw [UInt32.le_iff_toNat_le, h2]
  exact Nat.not_lt.mp h1
theorem fdNN {x y : Int32} (h : ¬ y = 0) : Jvm.FP.Core.fIsNaN (FP.fdiv (FP.i2f x) (FP.i2f y)) = false :=
  Jvm.FP.Core.fdiv_out (Jvm.FP.Core.i2f_fin x).notNaN (Jvm.FP.Core.i2f_fin y) (fun hz => Jvm.FP.Core.i2f_ne_zero h ((Jvm.FP.Core.zero_bits232 _).mp hz))
theorem fdN {x y : Int32} (h : ¬ y = 0) : vf_n32 (FP.fdiv (FP.i2f x) (FP.i2f y)) := n32_of (fdNN h)
set_option maxHeartbeats 4000000 in
set_option maxRecDepth 100000 in
theorem c_X2_pass_1 {l : Launch} {K : Ks} {A : Nat → Prop} {qm : Nat → Nat} {td nb th : Int32} {M X : Nat → Nat → Int32} {x : Int32} (hy : ¬ inR 1 400 x) : Met l yX2_pass wsX2_pass (kR 3 0 0) (kPr K A [.ref (qm 0), .int x] (Mfix K qm td nb th M X)) (kQi K A (fun _ w => w = Mfix K qm td nb 1 M X)) 0 0 A := by
  refine kent (cc := cX2_pass) (maxL := 5) (ret := (some .int)) (by decide) rfl (Nat.le_of_ble_eq_true rfl) ?_
  intro p e s m args below meth c ls hx hb hr hts hown hlocks hml hini hG hP hD hS hl
  have hinX2 : ∀ x ∈ wsX20, x ∈ wsX2_pass := by decide +kernel
  have hl : lv_has ls 5 [(0, .ref (qm 0)), (1, .int x)] := hl
  refine lv_aload_n hx hb dX2_pass_0 rfl (lv_at hl 0 rfl) ?_
  refine lv_iload_n hx hb dX2_pass_1 rfl (lv_at hl 1 rfl) ?_
  refine lv_iconst (v := 1) hx hb dX2_pass_2 (by decide) ?_
  refine lv_sipush (v := 400) hx hb dX2_pass_3 (by decide) ?_
  refine kc_i (va_runS (As := [.int x, .int 1, .int 400]) (rest := [.ref (qm 0)]) ⟨hx, hb, hml, hown, hts⟩ (c_X2_isIn (z := 0) (bi_f hy).symm) (va_cwS 3 hts gX2_pass_X2_isIn rfl rfl rfl (by decide +kernel) ⟨Nat.le_of_ble_eq_true rfl, Nat.le_of_ble_eq_true rfl⟩) (kps hG hP hD hS) rfl rfl hl.1 rfl (lv_room (Nat.le_of_ble_eq_true rfl)) dX2_pass_6 ⟨Nat.le_of_ble_eq_true rfl, Nat.le_of_ble_eq_true rfl⟩) hS (fun r6 w H locs hp hP hD hS => ?_)
  rw [hp.2] at hP hD
  rw [hp.1]
  refine lv_if_eq (tgt := 16) hx hb dX2_pass_9 (by decide) (fun h9 => ?_) (fun h9 => False.elim (absurd rfl h9))
  refine lv_iconst (v := 1) hx hb dX2_pass_16 (by decide) ?_
  refine kc_i (va_runV (As := [.int 1]) (rest := []) ⟨hx, hb, hml, hown, hts⟩ (c_X2_fails (x := 1) (z := 1) (by decide)) (cwV 1 hts gX2_pass_X2_fails rfl rfl rfl (by decide +kernel) ⟨Nat.le_of_ble_eq_true rfl, Nat.le_of_ble_eq_true rfl⟩) (kpv (q0 := 0) hG hP hD hS rfl rfl) rfl rfl hl.1 rfl (lv_room (Nat.le_of_ble_eq_true rfl)) dX2_pass_17 ⟨Nat.le_of_ble_eq_true rfl, Nat.le_of_ble_eq_true rfl⟩) hS (fun r17 w H locs hp hP hD hS => ?_)
  rw [hp.2] at hP hD
  rw [hp.1]
  refine lv_if_eq (tgt := 25) hx hb dX2_pass_20 (by decide) (fun h20 => False.elim (absurd h20 (by decide))) (fun h20 => ?_)
  refine lv_iconst (v := 0) hx hb dX2_pass_23 (by decide) ?_
  exact kr_i hx hb hr hlocks hP hD hS (Nat.zero_le _) (Nat.zero_le _) (rfl) dX2_pass_24
set_option maxHeartbeats 4000000 in
set_option maxRecDepth 100000 in
theorem c_X2_pass_ok {l : Launch} {K : Ks} {A : Nat → Prop} {qm : Nat → Nat} {td th : Int32} {M X : Nat → Nat → Int32} {n D : Nat} (hn : n ≤ 30) (hD4 : D ≤ 400) (hy : inR 1 400 (nI D)) (hok : ∀ j, j < n → okP M j) : Met l yX2_pass wsX2_pass (kR 3 0 0) (kPr K A [.ref (qm 0), .int (nI D)] (Mfix K qm td (nI n) th M X)) (kQi K A (fun r w => r = nI (psC td n M D) ∧ w = Mfix K qm (td + nI D) (nI n) 0 (psM td n M D) X)) 0 0 A := by
  refine kent (cc := cX2_pass) (maxL := 5) (ret := (some .int)) (by decide) rfl (Nat.le_of_ble_eq_true rfl) ?_
  intro p e s m args below meth c ls hx hb hr hts hown hlocks hml hini hG hP hD hS hl
  have hinX2 : ∀ x ∈ wsX20, x ∈ wsX2_pass := by decide +kernel
  have hl : lv_has ls 5 [(0, .ref (qm 0)), (1, .int (nI D))] := hl
  refine lv_aload_n hx hb dX2_pass_0 rfl (lv_at hl 0 rfl) ?_
  refine lv_iload_n hx hb dX2_pass_1 rfl (lv_at hl 1 rfl) ?_
  refine lv_iconst (v := 1) hx hb dX2_pass_2 (by decide) ?_
  refine lv_sipush (v := 400) hx hb dX2_pass_3 (by decide) ?_
  refine kc_i (va_runS (As := [.int (nI D), .int 1, .int 400]) (rest := [.ref (qm 0)]) ⟨hx, hb, hml, hown, hts⟩ (c_X2_isIn (z := 1) (bi_t hy).symm) (va_cwS 3 hts gX2_pass_X2_isIn rfl rfl rfl (by decide +kernel) ⟨Nat.le_of_ble_eq_true rfl, Nat.le_of_ble_eq_true rfl⟩) (kps hG hP hD hS) rfl rfl hl.1 rfl (lv_room (Nat.le_of_ble_eq_true rfl)) dX2_pass_6 ⟨Nat.le_of_ble_eq_true rfl, Nat.le_of_ble_eq_true rfl⟩) hS (fun r6 w H locs hp hP hD hS => ?_)
  rw [hp.2] at hP hD
  rw [hp.1]
  refine lv_if_eq (tgt := 16) hx hb dX2_pass_9 (by decide) (fun h9 => False.elim (absurd h9 (by decide))) (fun h9 => ?_)
  refine lv_iconst (v := 0) hx hb dX2_pass_12 (by decide) ?_
  refine lv_goto (tgt := 17) hx hb dX2_pass_13 (by decide) ?_
  refine kc_i (va_runV (As := [.int 0]) (rest := []) ⟨hx, hb, hml, hown, hts⟩ (c_X2_fails (x := 0) (z := 0) (by decide)) (cwV 1 hts gX2_pass_X2_fails rfl rfl rfl (by decide +kernel) ⟨Nat.le_of_ble_eq_true rfl, Nat.le_of_ble_eq_true rfl⟩) (kpv (q0 := 0) hG hP hD hS rfl rfl) rfl rfl hl.1 rfl (lv_room (Nat.le_of_ble_eq_true rfl)) dX2_pass_17 ⟨Nat.le_of_ble_eq_true rfl, Nat.le_of_ble_eq_true rfl⟩) hS (fun r17 w H locs hp hP hD hS => ?_)
  rw [hp.2] at hP hD
  rw [hp.1]
  refine lv_if_eq (tgt := 25) hx hb dX2_pass_20 (by decide) (fun h20 => ?_) (fun h20 => False.elim (absurd rfl h20))
  refine lv_iconst (v := 0) hx hb dX2_pass_25 (by decide) ?_
  refine lv_istore_n (lv' := [(2, .int 0), (0, .ref (qm 0)), (1, .int (nI D))]) hx hb dX2_pass_26 rfl hl (by decide) rfl (fun ls hl => ?_)
  refine lv_iconst (v := 0) hx hb dX2_pass_27 (by decide) ?_
  refine lv_istore_n (lv' := [(3, .int 0), (2, .int 0), (0, .ref (qm 0)), (1, .int (nI D))]) hx hb dX2_pass_28 rfl hl (by decide) rfl (fun ls hl => ?_)
  have hP : va_P K.1 kCl (Mfix K qm (td + nI 0) (nI n) 0 (psM td n M 0) X) H := by rw [show td + nI 0 = td from by rw [nI_0, Int32.add_zero]]; exact hP
  have hD : va_D A (Mfix K qm (td + nI 0) (nI n) 0 (psM td n M 0) X) := by rw [show td + nI 0 = td from by rw [nI_0, Int32.add_zero]]; exact hD
  have LOOPK : ∀ (Q' : State → Prop), (∀  (ls : Array Slot) (H : Heap) (locs : List Loc), va_P K.1 kCl (Mfix K qm (td + nI D) (nI n) 0 (psM td n M D) X) H → va_D A (Mfix K qm (td + nI D) (nI n) 0 (psM td n M D) X) → va_S A s.heap H locs → lv_has ls 5 [(0, .ref (qm 0)), (1, .int (nI D)), (2, .int (nI (psC td n M D))), (3, .int (nI D))] → W p l e (kR 3 0 0) s m args below meth c H locs 0 0 Q' (F0 m 110 ls [])) → ∀ (d k : Nat)  (ls : Array Slot) (H : Heap) (locs : List Loc), k + d = D → va_P K.1 kCl (Mfix K qm (td + nI k) (nI n) 0 (psM td n M k) X) H → va_D A (Mfix K qm (td + nI k) (nI n) 0 (psM td n M k) X) → va_S A s.heap H locs → lv_has ls 5 [(0, .ref (qm 0)), (1, .int (nI D)), (2, .int (nI (psC td n M k))), (3, .int (nI k))] → W p l e (kR 3 0 0) s m args below meth c H locs 0 0 Q' (F0 m 29 ls []) := by
    intro Q' kx d
    induction d with
    | zero =>
      intro k  ls H locs hk hP hD hS hl
      have hk2 : k = D := by omega
      refine lv_iload_n hx hb dX2_pass_29 rfl (lv_at hl 3 rfl) ?_
      refine lv_iload_n hx hb dX2_pass_30 rfl (lv_at hl 1 rfl) ?_
      refine lv_icmp_ge (tgt := 110) hx hb dX2_pass_31 (by decide) (fun h31 => ?_) (fun h31 => False.elim (absurd (nI_le (Nat.le_of_eq hk2.symm) (by omega)) h31))
      have hk3 : D = k := hk2.symm
      subst hk3
      exact kx  ls H locs hP hD hS (lv_sub hl [0, 1, 2, 3] rfl)
    | succ d ih =>
      intro k  ls H locs hk hP hD hS hl
      have hk2 : k < D := by omega
      refine lv_iload_n hx hb dX2_pass_29 rfl (lv_at hl 3 rfl) ?_
      refine lv_iload_n hx hb dX2_pass_30 rfl (lv_at hl 1 rfl) ?_
      refine lv_icmp_ge (tgt := 110) hx hb dX2_pass_31 (by decide) (fun h31 => False.elim (absurd h31 (nI_ge hk2 (by omega)))) (fun h31 => ?_)
      refine lv_aload_n hx hb dX2_pass_34 rfl (lv_at hl 0 rfl) ?_
      refine lv_dup hx hb dX2_pass_35 rfl ?_
      refine kget (ci := 3) (C := RX2) (T := TX2) (N := 18) hx hb hts hown hG hP 0 rfl rfl hinX2 0 (by decide) (by decide +kernel) rfl dX2_pass_36 ?_
      refine lv_iconst (v := 1) hx hb dX2_pass_39 (by decide) ?_
      refine lv_iadd hx hb dX2_pass_40 ?_
      refine ktop (z := (td + nI (k + 1))) (by rw [Int32.add_assoc]; exact congrArg (fun z => td + z) (nI_1 k)) ?_
      refine kput (ci := 3) (C := RX2) (T := TX2) (N := 18) hx hb hts hown hG hP hD hS 0 rfl rfl hinX2 tyX2 tyX2_ok nmX2 0 (by decide) (by decide +kernel) rfl (by decide +kernel) (Nat.le_of_ble_eq_true rfl) dX2_pass_41 (fun H locs hP hD hS => ?_)
      have hP : va_P K.1 kCl (Mfix K qm (td + nI (k + 1)) (nI n) 0 (psM td n M k) X) H := hP
      have hD : va_D A (Mfix K qm (td + nI (k + 1)) (nI n) 0 (psM td n M k) X) := hD
      refine lv_iconst (v := 0) hx hb dX2_pass_44 (by decide) ?_
      refine lv_istore (lv' := [(4, .int 0), (0, .ref (qm 0)), (1, .int (nI D)), (2, .int (nI (psC td n M k))), (3, .int (nI k))]) hx hb dX2_pass_45 hl (by decide) rfl (fun ls hl => ?_)
      have LOOPJ : ∀ (Q' : State → Prop), (∀  (ls : Array Slot) (H : Heap) (locs : List Loc), va_P K.1 kCl (Mfix K qm (td + nI (k + 1)) (nI n) 0 (dyM (td + nI (k + 1)) (psM td n M k) n) X) H → va_D A (Mfix K qm (td + nI (k + 1)) (nI n) 0 (dyM (td + nI (k + 1)) (psM td n M k) n) X) → va_S A s.heap H locs → lv_has ls 5 [(0, .ref (qm 0)), (1, .int (nI D)), (2, .int (nI (psC td n M k + dyC (td + nI (k + 1)) (psM td n M k) n))), (3, .int (nI k)), (4, .int (nI n))] → W p l e (kR 3 0 0) s m args below meth c H locs 0 0 Q' (F0 m 104 ls [])) → ∀ (d j : Nat)  (ls : Array Slot) (H : Heap) (locs : List Loc), j + d = n → va_P K.1 kCl (Mfix K qm (td + nI (k + 1)) (nI n) 0 (dyM (td + nI (k + 1)) (psM td n M k) j) X) H → va_D A (Mfix K qm (td + nI (k + 1)) (nI n) 0 (dyM (td + nI (k + 1)) (psM td n M k) j) X) → va_S A s.heap H locs → lv_has ls 5 [(0, .ref (qm 0)), (1, .int (nI D)), (2, .int (nI (psC td n M k + dyC (td + nI (k + 1)) (psM td n M k) j))), (3, .int (nI k)), (4, .int (nI j))] → W p l e (kR 3 0 0) s m args below meth c H locs 0 0 Q' (F0 m 47 ls []) := by
        intro Q' kx d
        induction d with
        | zero =>
          intro j  ls H locs hk hP hD hS hl
          have hk2 : j = n := by omega
          refine lv_iload hx hb dX2_pass_47 (lv_at hl 4 rfl) ?_
          refine lv_aload_n hx hb dX2_pass_49 rfl (lv_at hl 0 rfl) ?_
          refine kget (ci := 3) (C := RX2) (T := TX2) (N := 18) hx hb hts hown hG hP 0 rfl rfl hinX2 1 (by decide) (by decide +kernel) rfl dX2_pass_50 ?_
          refine lv_icmp_ge (tgt := 104) hx hb dX2_pass_53 (by decide) (fun h53 => ?_) (fun h53 => False.elim (absurd (nI_le (Nat.le_of_eq hk2.symm) (by omega)) h53))
          have hk3 : n = j := hk2.symm
          subst hk3
          exact kx  ls H locs hP hD hS (lv_sub hl [0, 1, 2, 3, 4] rfl)
        | succ d ih =>
          intro j  ls H locs hk hP hD hS hl
          have hk2 : j < n := by omega
          refine lv_iload hx hb dX2_pass_47 (lv_at hl 4 rfl) ?_
          refine lv_aload_n hx hb dX2_pass_49 rfl (lv_at hl 0 rfl) ?_
          refine kget (ci := 3) (C := RX2) (T := TX2) (N := 18) hx hb hts hown hG hP 0 rfl rfl hinX2 1 (by decide) (by decide +kernel) rfl dX2_pass_50 ?_
          refine lv_icmp_ge (tgt := 104) hx hb dX2_pass_53 (by decide) (fun h53 => False.elim (absurd h53 (nI_ge hk2 (by omega)))) (fun h53 => ?_)
          refine lv_aload_n hx hb dX2_pass_56 rfl (lv_at hl 0 rfl) ?_
          refine kget (ci := 3) (C := RX2) (T := TX2) (N := 18) hx hb hts hown hG hP 0 rfl rfl hinX2 6 (by decide) (by decide +kernel) rfl dX2_pass_57 ?_
          refine lv_iload hx hb dX2_pass_60 (lv_at hl 4 rfl) ?_
          refine kiald (n := 30) (j := j) hx hb hG hP 5 rfl (by omega) (by decide) dX2_pass_62 ?_
          refine lv_iconst (v := 1) hx hb dX2_pass_63 (by decide) ?_
          refine lv_icmp_ne (tgt := 98) hx hb dX2_pass_64 (by decide) (fun h64 => ?_) (fun h64 => ?_)
          · refine lv_iinc (v := nI (j + 1)) (lv' := [(4, .int (nI (j + 1))), (0, .ref (qm 0)), (1, .int (nI D)), (2, .int (nI (psC td n M k + dyC (td + nI (k + 1)) (psM td n M k) j))), (3, .int (nI k))]) hx hb dX2_pass_98 hl (k := 4) rfl (kinc j) (by decide) rfl (fun ls hl => ?_)
            refine lv_goto (tgt := 47) hx hb dX2_pass_101 (by decide) ?_
            exact (ih (j + 1)  ls H locs (by omega) (by rw [dyM_f (fun q => h64 q.1)]; exact hP) (by rw [dyM_f (fun q => h64 q.1)]; exact hD) hS (by rw [dyC_f (fun q => h64 q.1)]; exact lv_sub hl [1, 2, 3, 4, 0] rfl))
          · refine lv_aload_n hx hb dX2_pass_67 rfl (lv_at hl 0 rfl) ?_
            refine kget (ci := 3) (C := RX2) (T := TX2) (N := 18) hx hb hts hown hG hP 0 rfl rfl hinX2 5 (by decide) (by decide +kernel) rfl dX2_pass_68 ?_
            refine lv_iload hx hb dX2_pass_71 (lv_at hl 4 rfl) ?_
            refine kiald (n := 30) (j := j) hx hb hG hP 4 rfl (by omega) (by decide) dX2_pass_73 ?_
            refine lv_aload_n hx hb dX2_pass_74 rfl (lv_at hl 0 rfl) ?_
            refine kget (ci := 3) (C := RX2) (T := TX2) (N := 18) hx hb hts hown hG hP 0 rfl rfl hinX2 0 (by decide) (by decide +kernel) rfl dX2_pass_75 ?_
            refine lv_icmp_ne (tgt := 98) hx hb dX2_pass_78 (by decide) (fun h78 => ?_) (fun h78 => ?_)
            · refine lv_iinc (v := nI (j + 1)) (lv' := [(4, .int (nI (j + 1))), (0, .ref (qm 0)), (1, .int (nI D)), (2, .int (nI (psC td n M k + dyC (td + nI (k + 1)) (psM td n M k) j))), (3, .int (nI k))]) hx hb dX2_pass_98 hl (k := 4) rfl (kinc j) (by decide) rfl (fun ls hl => ?_)
              refine lv_goto (tgt := 47) hx hb dX2_pass_101 (by decide) ?_
              exact (ih (j + 1)  ls H locs (by omega) (by rw [dyM_f (fun q => h78 q.2)]; exact hP) (by rw [dyM_f (fun q => h78 q.2)]; exact hD) hS (by rw [dyC_f (fun q => h78 q.2)]; exact lv_sub hl [1, 2, 3, 4, 0] rfl))
            · refine lv_aload_n hx hb dX2_pass_81 rfl (lv_at hl 0 rfl) ?_
              refine lv_iload hx hb dX2_pass_82 (lv_at hl 4 rfl) ?_
              refine lv_aload_n hx hb dX2_pass_84 rfl (lv_at hl 0 rfl) ?_
              refine kget (ci := 3) (C := RX2) (T := TX2) (N := 18) hx hb hts hown hG hP 0 rfl rfl hinX2 4 (by decide) (by decide +kernel) rfl dX2_pass_85 ?_
              refine lv_iload hx hb dX2_pass_88 (lv_at hl 4 rfl) ?_
              refine kiald (n := 30) (j := j) hx hb hG hP 3 rfl (by omega) (by decide) dX2_pass_90 ?_
              refine lv_iconst (v := 4) hx hb dX2_pass_91 (by decide) ?_
              refine kc_v (va_runV (As := [.int (nI j), .int ((dyM (td + nI (k + 1)) (psM td n M k) j) 4 j), .int 4]) (rest := []) ⟨hx, hb, hml, hown, hts⟩ (c_X2_pays (M := dyM (td + nI (k + 1)) (psM td n M k) j) (by omega) (okP_dy (okP_ps (hok j hk2)))) (cwV 3 hts gX2_pass_X2_pays rfl rfl rfl (by decide +kernel) ⟨Nat.le_of_ble_eq_true rfl, Nat.le_of_ble_eq_true rfl⟩) (kpv (q0 := 0) hG hP hD hS rfl rfl) rfl rfl hl.1 rfl (lv_room (Nat.le_of_ble_eq_true rfl)) dX2_pass_92 ⟨Nat.le_of_ble_eq_true rfl, Nat.le_of_ble_eq_true rfl⟩) hS (fun w H locs hp hP hD hS => ?_)
              rw [hp] at hP hD
              refine lv_iinc (v := nI ((psC td n M k + dyC (td + nI (k + 1)) (psM td n M k) j) + 1)) (lv' := [(2, .int (nI ((psC td n M k + dyC (td + nI (k + 1)) (psM td n M k) j) + 1))), (0, .ref (qm 0)), (1, .int (nI D)), (3, .int (nI k)), (4, .int (nI j))]) hx hb dX2_pass_95 hl (k := 2) rfl (kinc (psC td n M k + dyC (td + nI (k + 1)) (psM td n M k) j)) (by decide) rfl (fun ls hl => ?_)
              refine lv_iinc (v := nI (j + 1)) (lv' := [(4, .int (nI (j + 1))), (2, .int (nI ((psC td n M k + dyC (td + nI (k + 1)) (psM td n M k) j) + 1))), (0, .ref (qm 0)), (1, .int (nI D)), (3, .int (nI k))]) hx hb dX2_pass_98 hl (k := 4) rfl (kinc j) (by decide) rfl (fun ls hl => ?_)
              refine lv_goto (tgt := 47) hx hb dX2_pass_101 (by decide) ?_
              exact (ih (j + 1)  ls H locs (by omega) (by rw [dyM_t ⟨h64, h78⟩]; exact hP) (by rw [dyM_t ⟨h64, h78⟩]; exact hD) hS (by rw [dyC_t ⟨h64, h78⟩]; exact lv_sub hl [2, 3, 1, 4, 0] rfl))
      refine LOOPJ _ (fun  ls H locs hP hD hS hl => ?_) n 0  ls _ _ (by omega) hP hD hS (lv_sub hl [1, 2, 3, 4, 0] rfl)
      refine lv_iinc (v := nI (k + 1)) (lv' := [(3, .int (nI (k + 1))), (0, .ref (qm 0)), (1, .int (nI D)), (2, .int (nI (psC td n M k + dyC (td + nI (k + 1)) (psM td n M k) n))), (4, .int (nI n))]) hx hb dX2_pass_104 hl (k := 3) rfl (kinc k) (by decide) rfl (fun ls hl => ?_)
      refine lv_goto (tgt := 29) hx hb dX2_pass_107 (by decide) ?_
      exact (ih (k + 1)  ls H locs (by omega) hP hD hS (lv_sub hl [1, 2, 3, 0] rfl))
  refine LOOPK _ (fun  ls H locs hP hD hS hl => ?_) D 0  ls _ _ (by omega) hP hD hS (lv_sub hl [2, 3, 1, 0] rfl)
  refine lv_iload_n hx hb dX2_pass_110 rfl (lv_at hl 2 rfl) ?_
  exact kr_i hx hb hr hlocks hP hD hS (Nat.zero_le _) (Nat.zero_le _) (⟨rfl, rfl⟩) dX2_pass_111
set_option maxHeartbeats 4000000 in
set_option maxRecDepth 100000 in
theorem c_X2_averageDiscount_1 {l : Launch} {K : Ks} {A : Nat → Prop} {qm : Nat → Nat} {td nb th : Int32} {M X : Nat → Nat → Int32} {x : Int32} (hx4 : ixBad 4 x) : Met l yX2_averageDiscount wsX2_averageDiscount (kR 3 0 0) (kPr K A [.ref (qm 0), .int x] (Mfix K qm td nb th M X)) (kQf K A (fun _ w => w = Mfix K qm td nb 1 M X)) 0 0 A := by
  refine kent (cc := cX2_averageDiscount) (maxL := 6) (ret := (some .float)) (by decide) rfl (Nat.le_of_ble_eq_true rfl) ?_
  intro p e s m args below meth c ls hx hb hr hts hown hlocks hml hini hG hP hD hS hl
  have hinX2 : ∀ x ∈ wsX20, x ∈ wsX2_averageDiscount := by decide +kernel
  have hl : lv_has ls 6 [(0, .ref (qm 0)), (1, .int x)] := hl
  refine lv_aload_n hx hb dX2_averageDiscount_0 rfl (lv_at hl 0 rfl) ?_
  refine lv_iload_n hx hb dX2_averageDiscount_1 rfl (lv_at hl 1 rfl) ?_
  refine kc_i (va_runS (As := [.int x]) (rest := [.ref (qm 0)]) ⟨hx, hb, hml, hown, hts⟩ (c_X2_isBuyer (z := 0) (bi_f (ix4b hx4)).symm) (va_cwS 1 hts gX2_averageDiscount_X2_isBuyer rfl rfl rfl (by decide +kernel) ⟨Nat.le_of_ble_eq_true rfl, Nat.le_of_ble_eq_true rfl⟩) (kps hG hP hD hS) rfl rfl hl.1 rfl (lv_room (Nat.le_of_ble_eq_true rfl)) dX2_averageDiscount_2 ⟨Nat.le_of_ble_eq_true rfl, Nat.le_of_ble_eq_true rfl⟩) hS (fun r2 w H locs hp hP hD hS => ?_)
  rw [hp.2] at hP hD
  rw [hp.1]
  refine lv_if_eq (tgt := 12) hx hb dX2_averageDiscount_5 (by decide) (fun h5 => ?_) (fun h5 => False.elim (absurd rfl h5))
  refine lv_iconst (v := 1) hx hb dX2_averageDiscount_12 (by decide) ?_
  refine kc_i (va_runV (As := [.int 1]) (rest := []) ⟨hx, hb, hml, hown, hts⟩ (c_X2_fails (x := 1) (z := 1) (by decide)) (cwV 1 hts gX2_averageDiscount_X2_fails rfl rfl rfl (by decide +kernel) ⟨Nat.le_of_ble_eq_true rfl, Nat.le_of_ble_eq_true rfl⟩) (kpv (q0 := 0) hG hP hD hS rfl rfl) rfl rfl hl.1 rfl (lv_room (Nat.le_of_ble_eq_true rfl)) dX2_averageDiscount_13 ⟨Nat.le_of_ble_eq_true rfl, Nat.le_of_ble_eq_true rfl⟩) hS (fun r13 w H locs hp hP hD hS => ?_)
  rw [hp.2] at hP hD
  rw [hp.1]
  refine lv_if_eq (tgt := 21) hx hb dX2_averageDiscount_16 (by decide) (fun h16 => False.elim (absurd h16 (by decide))) (fun h16 => ?_)
  refine lv_fconst0 hx hb dX2_averageDiscount_19 ?_
  exact kr_f hx hb hr hlocks hP hD hS (Nat.zero_le _) (Nat.zero_le _) (rfl) dX2_averageDiscount_20
set_option maxHeartbeats 4000000 in
set_option maxRecDepth 100000 in
theorem c_X2_averageDiscount_2 {l : Launch} {K : Ks} {A : Nat → Prop} {qm : Nat → Nat} {td th : Int32} {M X : Nat → Nat → Int32} {n b : Nat} (hn : n ≤ 30) (hx4 : b < 4) (hz : adA M b n = 0) : Met l yX2_averageDiscount wsX2_averageDiscount (kR 3 0 0) (kPr K A [.ref (qm 0), .int (nI b)] (Mfix K qm td (nI n) th M X)) (kQf K A (fun _ w => w = Mfix K qm td (nI n) 2 M X)) 0 0 A := by
  refine kent (cc := cX2_averageDiscount) (maxL := 6) (ret := (some .float)) (by decide) rfl (Nat.le_of_ble_eq_true rfl) ?_
  intro p e s m args below meth c ls hx hb hr hts hown hlocks hml hini hG hP hD hS hl
  have hinX2 : ∀ x ∈ wsX20, x ∈ wsX2_averageDiscount := by decide +kernel
  have hl : lv_has ls 6 [(0, .ref (qm 0)), (1, .int (nI b))] := hl
  refine lv_aload_n hx hb dX2_averageDiscount_0 rfl (lv_at hl 0 rfl) ?_
  refine lv_iload_n hx hb dX2_averageDiscount_1 rfl (lv_at hl 1 rfl) ?_
  refine kc_i (va_runS (As := [.int (nI b)]) (rest := [.ref (qm 0)]) ⟨hx, hb, hml, hown, hts⟩ (c_X2_isBuyer (z := 1) (bi_t (ix4 hx4)).symm) (va_cwS 1 hts gX2_averageDiscount_X2_isBuyer rfl rfl rfl (by decide +kernel) ⟨Nat.le_of_ble_eq_true rfl, Nat.le_of_ble_eq_true rfl⟩) (kps hG hP hD hS) rfl rfl hl.1 rfl (lv_room (Nat.le_of_ble_eq_true rfl)) dX2_averageDiscount_2 ⟨Nat.le_of_ble_eq_true rfl, Nat.le_of_ble_eq_true rfl⟩) hS (fun r2 w H locs hp hP hD hS => ?_)
  rw [hp.2] at hP hD
  rw [hp.1]
  refine lv_if_eq (tgt := 12) hx hb dX2_averageDiscount_5 (by decide) (fun h5 => False.elim (absurd h5 (by decide))) (fun h5 => ?_)
  refine lv_iconst (v := 0) hx hb dX2_averageDiscount_8 (by decide) ?_
  refine lv_goto (tgt := 13) hx hb dX2_averageDiscount_9 (by decide) ?_
  refine kc_i (va_runV (As := [.int 0]) (rest := []) ⟨hx, hb, hml, hown, hts⟩ (c_X2_fails (x := 0) (z := 0) (by decide)) (cwV 1 hts gX2_averageDiscount_X2_fails rfl rfl rfl (by decide +kernel) ⟨Nat.le_of_ble_eq_true rfl, Nat.le_of_ble_eq_true rfl⟩) (kpv (q0 := 0) hG hP hD hS rfl rfl) rfl rfl hl.1 rfl (lv_room (Nat.le_of_ble_eq_true rfl)) dX2_averageDiscount_13 ⟨Nat.le_of_ble_eq_true rfl, Nat.le_of_ble_eq_true rfl⟩) hS (fun r13 w H locs hp hP hD hS => ?_)
  rw [hp.2] at hP hD
  rw [hp.1]
  refine lv_if_eq (tgt := 21) hx hb dX2_averageDiscount_16 (by decide) (fun h16 => ?_) (fun h16 => False.elim (absurd rfl h16))
  refine lv_iconst (v := 0) hx hb dX2_averageDiscount_21 (by decide) ?_
  refine lv_istore_n (lv' := [(2, .int 0), (0, .ref (qm 0)), (1, .int (nI b))]) hx hb dX2_averageDiscount_22 rfl hl (by decide) rfl (fun ls hl => ?_)
  refine lv_iconst (v := 0) hx hb dX2_averageDiscount_23 (by decide) ?_
  refine lv_istore_n (lv' := [(3, .int 0), (2, .int 0), (0, .ref (qm 0)), (1, .int (nI b))]) hx hb dX2_averageDiscount_24 rfl hl (by decide) rfl (fun ls hl => ?_)
  refine lv_iconst (v := 0) hx hb dX2_averageDiscount_25 (by decide) ?_
  refine lv_istore (lv' := [(4, .int 0), (3, .int 0), (2, .int 0), (0, .ref (qm 0)), (1, .int (nI b))]) hx hb dX2_averageDiscount_26 hl (by decide) rfl (fun ls hl => ?_)
  have LOOP : ∀ (Q' : State → Prop), (∀  (ls : Array Slot) (H : Heap) (locs : List Loc), va_P K.1 kCl (Mfix K qm td (nI n) 0 M X) H → va_D A (Mfix K qm td (nI n) 0 M X) → va_S A s.heap H locs → lv_has ls 6 [(0, .ref (qm 0)), (1, .int (nI b)), (2, .int (adS M b n)), (3, .int (adA M b n)), (4, .int (nI n))] → W p l e (kR 3 0 0) s m args below meth c H locs 0 0 Q' (F0 m 118 ls [])) → ∀ (d k : Nat)  (ls : Array Slot) (H : Heap) (locs : List Loc), k + d = n → va_P K.1 kCl (Mfix K qm td (nI n) 0 M X) H → va_D A (Mfix K qm td (nI n) 0 M X) → va_S A s.heap H locs → lv_has ls 6 [(0, .ref (qm 0)), (1, .int (nI b)), (2, .int (adS M b k)), (3, .int (adA M b k)), (4, .int (nI k))] → W p l e (kR 3 0 0) s m args below meth c H locs 0 0 Q' (F0 m 28 ls []) := by
    intro Q' kx d
    induction d with
    | zero =>
      intro k  ls H locs hk hP hD hS hl
      have hk2 : k = n := by omega
      refine lv_iload hx hb dX2_averageDiscount_28 (lv_at hl 4 rfl) ?_
      refine lv_aload_n hx hb dX2_averageDiscount_30 rfl (lv_at hl 0 rfl) ?_
      refine kget (ci := 3) (C := RX2) (T := TX2) (N := 18) hx hb hts hown hG hP 0 rfl rfl hinX2 1 (by decide) (by decide +kernel) rfl dX2_averageDiscount_31 ?_
      refine lv_icmp_ge (tgt := 118) hx hb dX2_averageDiscount_34 (by decide) (fun h34 => ?_) (fun h34 => False.elim (absurd (nI_le (Nat.le_of_eq hk2.symm) (by omega)) h34))
      have hk3 : n = k := hk2.symm
      subst hk3
      exact kx  ls H locs hP hD hS (lv_sub hl [0, 1, 2, 3, 4] rfl)
    | succ d ih =>
      intro k  ls H locs hk hP hD hS hl
      have hk2 : k < n := by omega
      refine lv_iload hx hb dX2_averageDiscount_28 (lv_at hl 4 rfl) ?_
      refine lv_aload_n hx hb dX2_averageDiscount_30 rfl (lv_at hl 0 rfl) ?_
      refine kget (ci := 3) (C := RX2) (T := TX2) (N := 18) hx hb hts hown hG hP 0 rfl rfl hinX2 1 (by decide) (by decide +kernel) rfl dX2_averageDiscount_31 ?_
      refine lv_icmp_ge (tgt := 118) hx hb dX2_averageDiscount_34 (by decide) (fun h34 => False.elim (absurd h34 (nI_ge hk2 (by omega)))) (fun h34 => ?_)
      refine lv_aload_n hx hb dX2_averageDiscount_37 rfl (lv_at hl 0 rfl) ?_
      refine kget (ci := 3) (C := RX2) (T := TX2) (N := 18) hx hb hts hown hG hP 0 rfl rfl hinX2 2 (by decide) (by decide +kernel) rfl dX2_averageDiscount_38 ?_
      refine lv_iload hx hb dX2_averageDiscount_41 (lv_at hl 4 rfl) ?_
      refine kiald (n := 30) (j := k) hx hb hG hP 1 rfl (by omega) (by decide) dX2_averageDiscount_43 ?_
      refine lv_iload_n hx hb dX2_averageDiscount_44 rfl (lv_at hl 1 rfl) ?_
      refine lv_icmp_ne (tgt := 63) hx hb dX2_averageDiscount_45 (by decide) (fun h45 => ?_) (fun h45 => ?_)
      · refine lv_iconst (v := 0) hx hb dX2_averageDiscount_63 (by decide) ?_
        refine lv_istore (lv' := [(5, .int 0), (0, .ref (qm 0)), (1, .int (nI b)), (2, .int (adS M b k)), (3, .int (adA M b k)), (4, .int (nI k))]) hx hb dX2_averageDiscount_64 hl (by decide) rfl (fun ls hl => ?_)
        refine lv_iload_n hx hb dX2_averageDiscount_66 rfl (lv_at hl 3 rfl) ?_
        refine lv_iload hx hb dX2_averageDiscount_67 (lv_at hl 0 rfl) ?_
        refine lv_if_eq (tgt := 90) hx hb dX2_averageDiscount_69 (by decide) (fun h69 => ?_) (fun h69 => False.elim (absurd rfl h69))
        refine lv_iconst (v := 0) hx hb dX2_averageDiscount_90 (by decide) ?_
        refine lv_iadd hx hb dX2_averageDiscount_91 ?_
        refine lv_istore_n (lv' := [(2, .int (adS M b k + 0)), (5, .int 0), (0, .ref (qm 0)), (1, .int (nI b)), (3, .int (adA M b k)), (4, .int (nI k))]) hx hb dX2_averageDiscount_92 rfl hl (by decide) rfl (fun ls hl => ?_)
        refine lv_iload_n hx hb dX2_averageDiscount_93 rfl (lv_at hl 4 rfl) ?_
        refine lv_iload hx hb dX2_averageDiscount_94 (lv_at hl 1 rfl) ?_
        refine lv_if_eq (tgt := 109) hx hb dX2_averageDiscount_96 (by decide) (fun h96 => ?_) (fun h96 => False.elim (absurd rfl h96))
        refine lv_iconst (v := 0) hx hb dX2_averageDiscount_109 (by decide) ?_
        refine lv_iadd hx hb dX2_averageDiscount_110 ?_
        refine lv_istore_n (lv' := [(3, .int (adA M b k + 0)), (2, .int (adS M b k + 0)), (5, .int 0), (0, .ref (qm 0)), (1, .int (nI b)), (4, .int (nI k))]) hx hb dX2_averageDiscount_111 rfl hl (by decide) rfl (fun ls hl => ?_)
        refine lv_iinc (v := nI (k + 1)) (lv' := [(4, .int (nI (k + 1))), (3, .int (adA M b k + 0)), (2, .int (adS M b k + 0)), (5, .int 0), (0, .ref (qm 0)), (1, .int (nI b))]) hx hb dX2_averageDiscount_112 hl (k := 5) rfl (kinc k) (by decide) rfl (fun ls hl => ?_)
        refine lv_goto (tgt := 28) hx hb dX2_averageDiscount_115 (by decide) ?_
        exact (ih (k + 1)  ls H locs (by omega) hP hD hS (by rw [adS_f (fun q => h45 q.1), adA_f (fun q => h45 q.1)]; exact lv_sub hl [4, 5, 2, 1, 0] rfl))
      · refine lv_aload_n hx hb dX2_averageDiscount_48 rfl (lv_at hl 0 rfl) ?_
        refine kget (ci := 3) (C := RX2) (T := TX2) (N := 18) hx hb hts hown hG hP 0 rfl rfl hinX2 6 (by decide) (by decide +kernel) rfl dX2_averageDiscount_49 ?_
        refine lv_iload hx hb dX2_averageDiscount_52 (lv_at hl 4 rfl) ?_
        refine kiald (n := 30) (j := k) hx hb hG hP 5 rfl (by omega) (by decide) dX2_averageDiscount_54 ?_
        refine lv_iconst (v := 3) hx hb dX2_averageDiscount_55 (by decide) ?_
        refine lv_icmp_ne (tgt := 63) hx hb dX2_averageDiscount_56 (by decide) (fun h56 => ?_) (fun h56 => ?_)
        · refine lv_iconst (v := 0) hx hb dX2_averageDiscount_63 (by decide) ?_
          refine lv_istore (lv' := [(5, .int 0), (0, .ref (qm 0)), (1, .int (nI b)), (2, .int (adS M b k)), (3, .int (adA M b k)), (4, .int (nI k))]) hx hb dX2_averageDiscount_64 hl (by decide) rfl (fun ls hl => ?_)
          refine lv_iload_n hx hb dX2_averageDiscount_66 rfl (lv_at hl 3 rfl) ?_
          refine lv_iload hx hb dX2_averageDiscount_67 (lv_at hl 0 rfl) ?_
          refine lv_if_eq (tgt := 90) hx hb dX2_averageDiscount_69 (by decide) (fun h69 => ?_) (fun h69 => False.elim (absurd rfl h69))
          refine lv_iconst (v := 0) hx hb dX2_averageDiscount_90 (by decide) ?_
          refine lv_iadd hx hb dX2_averageDiscount_91 ?_
          refine lv_istore_n (lv' := [(2, .int (adS M b k + 0)), (5, .int 0), (0, .ref (qm 0)), (1, .int (nI b)), (3, .int (adA M b k)), (4, .int (nI k))]) hx hb dX2_averageDiscount_92 rfl hl (by decide) rfl (fun ls hl => ?_)
          refine lv_iload_n hx hb dX2_averageDiscount_93 rfl (lv_at hl 4 rfl) ?_
          refine lv_iload hx hb dX2_averageDiscount_94 (lv_at hl 1 rfl) ?_
          refine lv_if_eq (tgt := 109) hx hb dX2_averageDiscount_96 (by decide) (fun h96 => ?_) (fun h96 => False.elim (absurd rfl h96))
          refine lv_iconst (v := 0) hx hb dX2_averageDiscount_109 (by decide) ?_
          refine lv_iadd hx hb dX2_averageDiscount_110 ?_
          refine lv_istore_n (lv' := [(3, .int (adA M b k + 0)), (2, .int (adS M b k + 0)), (5, .int 0), (0, .ref (qm 0)), (1, .int (nI b)), (4, .int (nI k))]) hx hb dX2_averageDiscount_111 rfl hl (by decide) rfl (fun ls hl => ?_)
          refine lv_iinc (v := nI (k + 1)) (lv' := [(4, .int (nI (k + 1))), (3, .int (adA M b k + 0)), (2, .int (adS M b k + 0)), (5, .int 0), (0, .ref (qm 0)), (1, .int (nI b))]) hx hb dX2_averageDiscount_112 hl (k := 5) rfl (kinc k) (by decide) rfl (fun ls hl => ?_)
          refine lv_goto (tgt := 28) hx hb dX2_averageDiscount_115 (by decide) ?_
          exact (ih (k + 1)  ls H locs (by omega) hP hD hS (by rw [adS_f (fun q => h56 q.2), adA_f (fun q => h56 q.2)]; exact lv_sub hl [4, 5, 2, 1, 0] rfl))
        · refine lv_iconst (v := 1) hx hb dX2_averageDiscount_59 (by decide) ?_
          refine lv_goto (tgt := 64) hx hb dX2_averageDiscount_60 (by decide) ?_
          refine lv_istore (lv' := [(5, .int 1), (0, .ref (qm 0)), (1, .int (nI b)), (2, .int (adS M b k)), (3, .int (adA M b k)), (4, .int (nI k))]) hx hb dX2_averageDiscount_64 hl (by decide) rfl (fun ls hl => ?_)
          refine lv_iload_n hx hb dX2_averageDiscount_66 rfl (lv_at hl 3 rfl) ?_
          refine lv_iload hx hb dX2_averageDiscount_67 (lv_at hl 0 rfl) ?_
          refine lv_if_eq (tgt := 90) hx hb dX2_averageDiscount_69 (by decide) (fun h69 => False.elim (absurd h69 (by decide))) (fun h69 => ?_)
          refine lv_aload_n hx hb dX2_averageDiscount_72 rfl (lv_at hl 1 rfl) ?_
          refine kget (ci := 3) (C := RX2) (T := TX2) (N := 18) hx hb hts hown hG hP 0 rfl rfl hinX2 4 (by decide) (by decide +kernel) rfl dX2_averageDiscount_73 ?_
          refine lv_iload hx hb dX2_averageDiscount_76 (lv_at hl 5 rfl) ?_
          refine kiald (n := 30) (j := k) hx hb hG hP 3 rfl (by omega) (by decide) dX2_averageDiscount_78 ?_
          refine lv_aload_n hx hb dX2_averageDiscount_79 rfl (lv_at hl 1 rfl) ?_
          refine kget (ci := 3) (C := RX2) (T := TX2) (N := 18) hx hb hts hown hG hP 0 rfl rfl hinX2 8 (by decide) (by decide +kernel) rfl dX2_averageDiscount_80 ?_
          refine lv_iload hx hb dX2_averageDiscount_83 (lv_at hl 5 rfl) ?_
          refine kiald (n := 30) (j := k) hx hb hG hP 7 rfl (by omega) (by decide) dX2_averageDiscount_85 ?_
          refine lv_isub hx hb dX2_averageDiscount_86 ?_
          refine lv_goto (tgt := 91) hx hb dX2_averageDiscount_87 (by decide) ?_
          refine lv_iadd hx hb dX2_averageDiscount_91 ?_
          refine lv_istore_n (lv' := [(2, .int (adS M b k + ((M 4 k) - (M 8 k)))), (5, .int 1), (0, .ref (qm 0)), (1, .int (nI b)), (3, .int (adA M b k)), (4, .int (nI k))]) hx hb dX2_averageDiscount_92 rfl hl (by decide) rfl (fun ls hl => ?_)
          refine lv_iload_n hx hb dX2_averageDiscount_93 rfl (lv_at hl 4 rfl) ?_
          refine lv_iload hx hb dX2_averageDiscount_94 (lv_at hl 1 rfl) ?_
          refine lv_if_eq (tgt := 109) hx hb dX2_averageDiscount_96 (by decide) (fun h96 => False.elim (absurd h96 (by decide))) (fun h96 => ?_)
          refine lv_aload_n hx hb dX2_averageDiscount_99 rfl (lv_at hl 2 rfl) ?_
          refine kget (ci := 3) (C := RX2) (T := TX2) (N := 18) hx hb hts hown hG hP 0 rfl rfl hinX2 4 (by decide) (by decide +kernel) rfl dX2_averageDiscount_100 ?_
          refine lv_iload hx hb dX2_averageDiscount_103 (lv_at hl 5 rfl) ?_
          refine kiald (n := 30) (j := k) hx hb hG hP 3 rfl (by omega) (by decide) dX2_averageDiscount_105 ?_
          refine lv_goto (tgt := 110) hx hb dX2_averageDiscount_106 (by decide) ?_
          refine lv_iadd hx hb dX2_averageDiscount_110 ?_
          refine lv_istore_n (lv' := [(3, .int (adA M b k + (M 4 k))), (2, .int (adS M b k + ((M 4 k) - (M 8 k)))), (5, .int 1), (0, .ref (qm 0)), (1, .int (nI b)), (4, .int (nI k))]) hx hb dX2_averageDiscount_111 rfl hl (by decide) rfl (fun ls hl => ?_)
          refine lv_iinc (v := nI (k + 1)) (lv' := [(4, .int (nI (k + 1))), (3, .int (adA M b k + (M 4 k))), (2, .int (adS M b k + ((M 4 k) - (M 8 k)))), (5, .int 1), (0, .ref (qm 0)), (1, .int (nI b))]) hx hb dX2_averageDiscount_112 hl (k := 5) rfl (kinc k) (by decide) rfl (fun ls hl => ?_)
          refine lv_goto (tgt := 28) hx hb dX2_averageDiscount_115 (by decide) ?_
          exact (ih (k + 1)  ls H locs (by omega) hP hD hS (by rw [adS_t ⟨h45, h56⟩, adA_t ⟨h45, h56⟩]; exact lv_sub hl [4, 5, 2, 1, 0] rfl))
  refine LOOP _ (fun  ls H locs hP hD hS hl => ?_) n 0  ls _ _ (by omega) hP hD hS (lv_sub hl [3, 4, 2, 1, 0] rfl)
  refine lv_aload_n hx hb dX2_averageDiscount_118 rfl (lv_at hl 0 rfl) ?_
  refine lv_iload_n hx hb dX2_averageDiscount_119 rfl (lv_at hl 3 rfl) ?_
  refine lv_if_ne (tgt := 127) hx hb dX2_averageDiscount_120 (by decide) (fun h120 => False.elim (h120 hz)) (fun h120 => ?_)
  refine lv_iconst (v := 2) hx hb dX2_averageDiscount_123 (by decide) ?_
  refine lv_goto (tgt := 128) hx hb dX2_averageDiscount_124 (by decide) ?_
  refine kc_i (va_runV (As := [.int 2]) (rest := []) ⟨hx, hb, hml, hown, hts⟩ (c_X2_fails (x := 2) (z := 1) (by decide)) (cwV 1 hts gX2_averageDiscount_X2_fails rfl rfl rfl (by decide +kernel) ⟨Nat.le_of_ble_eq_true rfl, Nat.le_of_ble_eq_true rfl⟩) (kpv (q0 := 0) hG hP hD hS rfl rfl) rfl rfl hl.1 rfl (lv_room (Nat.le_of_ble_eq_true rfl)) dX2_averageDiscount_128 ⟨Nat.le_of_ble_eq_true rfl, Nat.le_of_ble_eq_true rfl⟩) hS (fun r128 w H locs hp hP hD hS => ?_)
  rw [hp.2] at hP hD
  rw [hp.1]
  refine lv_if_eq (tgt := 138) hx hb dX2_averageDiscount_131 (by decide) (fun h131 => False.elim (absurd h131 (by decide))) (fun h131 => ?_)
  refine lv_fconst0 hx hb dX2_averageDiscount_134 ?_
  refine lv_goto (tgt := 143) hx hb dX2_averageDiscount_135 (by decide) ?_
  exact kr_f hx hb hr hlocks hP hD hS (Nat.zero_le _) (Nat.zero_le _) (rfl) dX2_averageDiscount_143
set_option maxHeartbeats 4000000 in
set_option maxRecDepth 100000 in
theorem c_X2_averageDiscount_ok {l : Launch} {K : Ks} {A : Nat → Prop} {qm : Nat → Nat} {td th : Int32} {M X : Nat → Nat → Int32} {n b : Nat} (hn : n ≤ 30) (hx4 : b < 4) (hz : ¬ adA M b n = 0) : Met l yX2_averageDiscount wsX2_averageDiscount (kR 3 0 0) (kPr K A [.ref (qm 0), .int (nI b)] (Mfix K qm td (nI n) th M X)) (kQf K A (fun r w => r = FP.fdiv (FP.i2f (adS M b n)) (FP.i2f (adA M b n)) ∧ w = Mfix K qm td (nI n) 0 M X)) 0 0 A := by
  refine kent (cc := cX2_averageDiscount) (maxL := 6) (ret := (some .float)) (by decide) rfl (Nat.le_of_ble_eq_true rfl) ?_
  intro p e s m args below meth c ls hx hb hr hts hown hlocks hml hini hG hP hD hS hl
  have hinX2 : ∀ x ∈ wsX20, x ∈ wsX2_averageDiscount := by decide +kernel
  have hl : lv_has ls 6 [(0, .ref (qm 0)), (1, .int (nI b))] := hl
  refine lv_aload_n hx hb dX2_averageDiscount_0 rfl (lv_at hl 0 rfl) ?_
  refine lv_iload_n hx hb dX2_averageDiscount_1 rfl (lv_at hl 1 rfl) ?_
  refine kc_i (va_runS (As := [.int (nI b)]) (rest := [.ref (qm 0)]) ⟨hx, hb, hml, hown, hts⟩ (c_X2_isBuyer (z := 1) (bi_t (ix4 hx4)).symm) (va_cwS 1 hts gX2_averageDiscount_X2_isBuyer rfl rfl rfl (by decide +kernel) ⟨Nat.le_of_ble_eq_true rfl, Nat.le_of_ble_eq_true rfl⟩) (kps hG hP hD hS) rfl rfl hl.1 rfl (lv_room (Nat.le_of_ble_eq_true rfl)) dX2_averageDiscount_2 ⟨Nat.le_of_ble_eq_true rfl, Nat.le_of_ble_eq_true rfl⟩) hS (fun r2 w H locs hp hP hD hS => ?_)
  rw [hp.2] at hP hD
  rw [hp.1]
  refine lv_if_eq (tgt := 12) hx hb dX2_averageDiscount_5 (by decide) (fun h5 => False.elim (absurd h5 (by decide))) (fun h5 => ?_)
  refine lv_iconst (v := 0) hx hb dX2_averageDiscount_8 (by decide) ?_
  refine lv_goto (tgt := 13) hx hb dX2_averageDiscount_9 (by decide) ?_
  refine kc_i (va_runV (As := [.int 0]) (rest := []) ⟨hx, hb, hml, hown, hts⟩ (c_X2_fails (x := 0) (z := 0) (by decide)) (cwV 1 hts gX2_averageDiscount_X2_fails rfl rfl rfl (by decide +kernel) ⟨Nat.le_of_ble_eq_true rfl, Nat.le_of_ble_eq_true rfl⟩) (kpv (q0 := 0) hG hP hD hS rfl rfl) rfl rfl hl.1 rfl (lv_room (Nat.le_of_ble_eq_true rfl)) dX2_averageDiscount_13 ⟨Nat.le_of_ble_eq_true rfl, Nat.le_of_ble_eq_true rfl⟩) hS (fun r13 w H locs hp hP hD hS => ?_)
  rw [hp.2] at hP hD
  rw [hp.1]
  refine lv_if_eq (tgt := 21) hx hb dX2_averageDiscount_16 (by decide) (fun h16 => ?_) (fun h16 => False.elim (absurd rfl h16))
  refine lv_iconst (v := 0) hx hb dX2_averageDiscount_21 (by decide) ?_
  refine lv_istore_n (lv' := [(2, .int 0), (0, .ref (qm 0)), (1, .int (nI b))]) hx hb dX2_averageDiscount_22 rfl hl (by decide) rfl (fun ls hl => ?_)
  refine lv_iconst (v := 0) hx hb dX2_averageDiscount_23 (by decide) ?_
  refine lv_istore_n (lv' := [(3, .int 0), (2, .int 0), (0, .ref (qm 0)), (1, .int (nI b))]) hx hb dX2_averageDiscount_24 rfl hl (by decide) rfl (fun ls hl => ?_)
  refine lv_iconst (v := 0) hx hb dX2_averageDiscount_25 (by decide) ?_
  refine lv_istore (lv' := [(4, .int 0), (3, .int 0), (2, .int 0), (0, .ref (qm 0)), (1, .int (nI b))]) hx hb dX2_averageDiscount_26 hl (by decide) rfl (fun ls hl => ?_)
  have LOOP : ∀ (Q' : State → Prop), (∀  (ls : Array Slot) (H : Heap) (locs : List Loc), va_P K.1 kCl (Mfix K qm td (nI n) 0 M X) H → va_D A (Mfix K qm td (nI n) 0 M X) → va_S A s.heap H locs → lv_has ls 6 [(0, .ref (qm 0)), (1, .int (nI b)), (2, .int (adS M b n)), (3, .int (adA M b n)), (4, .int (nI n))] → W p l e (kR 3 0 0) s m args below meth c H locs 0 0 Q' (F0 m 118 ls [])) → ∀ (d k : Nat)  (ls : Array Slot) (H : Heap) (locs : List Loc), k + d = n → va_P K.1 kCl (Mfix K qm td (nI n) 0 M X) H → va_D A (Mfix K qm td (nI n) 0 M X) → va_S A s.heap H locs → lv_has ls 6 [(0, .ref (qm 0)), (1, .int (nI b)), (2, .int (adS M b k)), (3, .int (adA M b k)), (4, .int (nI k))] → W p l e (kR 3 0 0) s m args below meth c H locs 0 0 Q' (F0 m 28 ls []) := by
    intro Q' kx d
    induction d with
    | zero =>
      intro k  ls H locs hk hP hD hS hl
      have hk2 : k = n := by omega
      refine lv_iload hx hb dX2_averageDiscount_28 (lv_at hl 4 rfl) ?_
      refine lv_aload_n hx hb dX2_averageDiscount_30 rfl (lv_at hl 0 rfl) ?_
      refine kget (ci := 3) (C := RX2) (T := TX2) (N := 18) hx hb hts hown hG hP 0 rfl rfl hinX2 1 (by decide) (by decide +kernel) rfl dX2_averageDiscount_31 ?_
      refine lv_icmp_ge (tgt := 118) hx hb dX2_averageDiscount_34 (by decide) (fun h34 => ?_) (fun h34 => False.elim (absurd (nI_le (Nat.le_of_eq hk2.symm) (by omega)) h34))
      have hk3 : n = k := hk2.symm
      subst hk3
      exact kx  ls H locs hP hD hS (lv_sub hl [0, 1, 2, 3, 4] rfl)
    | succ d ih =>
      intro k  ls H locs hk hP hD hS hl
      have hk2 : k < n := by omega
      refine lv_iload hx hb dX2_averageDiscount_28 (lv_at hl 4 rfl) ?_
      refine lv_aload_n hx hb dX2_averageDiscount_30 rfl (lv_at hl 0 rfl) ?_
      refine kget (ci := 3) (C := RX2) (T := TX2) (N := 18) hx hb hts hown hG hP 0 rfl rfl hinX2 1 (by decide) (by decide +kernel) rfl dX2_averageDiscount_31 ?_
      refine lv_icmp_ge (tgt := 118) hx hb dX2_averageDiscount_34 (by decide) (fun h34 => False.elim (absurd h34 (nI_ge hk2 (by omega)))) (fun h34 => ?_)
      refine lv_aload_n hx hb dX2_averageDiscount_37 rfl (lv_at hl 0 rfl) ?_
      refine kget (ci := 3) (C := RX2) (T := TX2) (N := 18) hx hb hts hown hG hP 0 rfl rfl hinX2 2 (by decide) (by decide +kernel) rfl dX2_averageDiscount_38 ?_
      refine lv_iload hx hb dX2_averageDiscount_41 (lv_at hl 4 rfl) ?_
      refine kiald (n := 30) (j := k) hx hb hG hP 1 rfl (by omega) (by decide) dX2_averageDiscount_43 ?_
      refine lv_iload_n hx hb dX2_averageDiscount_44 rfl (lv_at hl 1 rfl) ?_
      refine lv_icmp_ne (tgt := 63) hx hb dX2_averageDiscount_45 (by decide) (fun h45 => ?_) (fun h45 => ?_)
      · refine lv_iconst (v := 0) hx hb dX2_averageDiscount_63 (by decide) ?_
        refine lv_istore (lv' := [(5, .int 0), (0, .ref (qm 0)), (1, .int (nI b)), (2, .int (adS M b k)), (3, .int (adA M b k)), (4, .int (nI k))]) hx hb dX2_averageDiscount_64 hl (by decide) rfl (fun ls hl => ?_)
        refine lv_iload_n hx hb dX2_averageDiscount_66 rfl (lv_at hl 3 rfl) ?_
        refine lv_iload hx hb dX2_averageDiscount_67 (lv_at hl 0 rfl) ?_
        refine lv_if_eq (tgt := 90) hx hb dX2_averageDiscount_69 (by decide) (fun h69 => ?_) (fun h69 => False.elim (absurd rfl h69))
        refine lv_iconst (v := 0) hx hb dX2_averageDiscount_90 (by decide) ?_
        refine lv_iadd hx hb dX2_averageDiscount_91 ?_
        refine lv_istore_n (lv' := [(2, .int (adS M b k + 0)), (5, .int 0), (0, .ref (qm 0)), (1, .int (nI b)), (3, .int (adA M b k)), (4, .int (nI k))]) hx hb dX2_averageDiscount_92 rfl hl (by decide) rfl (fun ls hl => ?_)
        refine lv_iload_n hx hb dX2_averageDiscount_93 rfl (lv_at hl 4 rfl) ?_
        refine lv_iload hx hb dX2_averageDiscount_94 (lv_at hl 1 rfl) ?_
        refine lv_if_eq (tgt := 109) hx hb dX2_averageDiscount_96 (by decide) (fun h96 => ?_) (fun h96 => False.elim (absurd rfl h96))
        refine lv_iconst (v := 0) hx hb dX2_averageDiscount_109 (by decide) ?_
        refine lv_iadd hx hb dX2_averageDiscount_110 ?_
        refine lv_istore_n (lv' := [(3, .int (adA M b k + 0)), (2, .int (adS M b k + 0)), (5, .int 0), (0, .ref (qm 0)), (1, .int (nI b)), (4, .int (nI k))]) hx hb dX2_averageDiscount_111 rfl hl (by decide) rfl (fun ls hl => ?_)
        refine lv_iinc (v := nI (k + 1)) (lv' := [(4, .int (nI (k + 1))), (3, .int (adA M b k + 0)), (2, .int (adS M b k + 0)), (5, .int 0), (0, .ref (qm 0)), (1, .int (nI b))]) hx hb dX2_averageDiscount_112 hl (k := 5) rfl (kinc k) (by decide) rfl (fun ls hl => ?_)
        refine lv_goto (tgt := 28) hx hb dX2_averageDiscount_115 (by decide) ?_
        exact (ih (k + 1)  ls H locs (by omega) hP hD hS (by rw [adS_f (fun q => h45 q.1), adA_f (fun q => h45 q.1)]; exact lv_sub hl [4, 5, 2, 1, 0] rfl))
      · refine lv_aload_n hx hb dX2_averageDiscount_48 rfl (lv_at hl 0 rfl) ?_
        refine kget (ci := 3) (C := RX2) (T := TX2) (N := 18) hx hb hts hown hG hP 0 rfl rfl hinX2 6 (by decide) (by decide +kernel) rfl dX2_averageDiscount_49 ?_
        refine lv_iload hx hb dX2_averageDiscount_52 (lv_at hl 4 rfl) ?_
        refine kiald (n := 30) (j := k) hx hb hG hP 5 rfl (by omega) (by decide) dX2_averageDiscount_54 ?_
        refine lv_iconst (v := 3) hx hb dX2_averageDiscount_55 (by decide) ?_
        refine lv_icmp_ne (tgt := 63) hx hb dX2_averageDiscount_56 (by decide) (fun h56 => ?_) (fun h56 => ?_)
        · refine lv_iconst (v := 0) hx hb dX2_averageDiscount_63 (by decide) ?_
          refine lv_istore (lv' := [(5, .int 0), (0, .ref (qm 0)), (1, .int (nI b)), (2, .int (adS M b k)), (3, .int (adA M b k)), (4, .int (nI k))]) hx hb dX2_averageDiscount_64 hl (by decide) rfl (fun ls hl => ?_)
          refine lv_iload_n hx hb dX2_averageDiscount_66 rfl (lv_at hl 3 rfl) ?_
          refine lv_iload hx hb dX2_averageDiscount_67 (lv_at hl 0 rfl) ?_
          refine lv_if_eq (tgt := 90) hx hb dX2_averageDiscount_69 (by decide) (fun h69 => ?_) (fun h69 => False.elim (absurd rfl h69))
          refine lv_iconst (v := 0) hx hb dX2_averageDiscount_90 (by decide) ?_
          refine lv_iadd hx hb dX2_averageDiscount_91 ?_
          refine lv_istore_n (lv' := [(2, .int (adS M b k + 0)), (5, .int 0), (0, .ref (qm 0)), (1, .int (nI b)), (3, .int (adA M b k)), (4, .int (nI k))]) hx hb dX2_averageDiscount_92 rfl hl (by decide) rfl (fun ls hl => ?_)
          refine lv_iload_n hx hb dX2_averageDiscount_93 rfl (lv_at hl 4 rfl) ?_
          refine lv_iload hx hb dX2_averageDiscount_94 (lv_at hl 1 rfl) ?_
          refine lv_if_eq (tgt := 109) hx hb dX2_averageDiscount_96 (by decide) (fun h96 => ?_) (fun h96 => False.elim (absurd rfl h96))
          refine lv_iconst (v := 0) hx hb dX2_averageDiscount_109 (by decide) ?_
          refine lv_iadd hx hb dX2_averageDiscount_110 ?_
          refine lv_istore_n (lv' := [(3, .int (adA M b k + 0)), (2, .int (adS M b k + 0)), (5, .int 0), (0, .ref (qm 0)), (1, .int (nI b)), (4, .int (nI k))]) hx hb dX2_averageDiscount_111 rfl hl (by decide) rfl (fun ls hl => ?_)
          refine lv_iinc (v := nI (k + 1)) (lv' := [(4, .int (nI (k + 1))), (3, .int (adA M b k + 0)), (2, .int (adS M b k + 0)), (5, .int 0), (0, .ref (qm 0)), (1, .int (nI b))]) hx hb dX2_averageDiscount_112 hl (k := 5) rfl (kinc k) (by decide) rfl (fun ls hl => ?_)
          refine lv_goto (tgt := 28) hx hb dX2_averageDiscount_115 (by decide) ?_
          exact (ih (k + 1)  ls H locs (by omega) hP hD hS (by rw [adS_f (fun q => h56 q.2), adA_f (fun q => h56 q.2)]; exact lv_sub hl [4, 5, 2, 1, 0] rfl))
        · refine lv_iconst (v := 1) hx hb dX2_averageDiscount_59 (by decide) ?_
          refine lv_goto (tgt := 64) hx hb dX2_averageDiscount_60 (by decide) ?_
          refine lv_istore (lv' := [(5, .int 1), (0, .ref (qm 0)), (1, .int (nI b)), (2, .int (adS M b k)), (3, .int (adA M b k)), (4, .int (nI k))]) hx hb dX2_averageDiscount_64 hl (by decide) rfl (fun ls hl => ?_)
          refine lv_iload_n hx hb dX2_averageDiscount_66 rfl (lv_at hl 3 rfl) ?_
          refine lv_iload hx hb dX2_averageDiscount_67 (lv_at hl 0 rfl) ?_
          refine lv_if_eq (tgt := 90) hx hb dX2_averageDiscount_69 (by decide) (fun h69 => False.elim (absurd h69 (by decide))) (fun h69 => ?_)
          refine lv_aload_n hx hb dX2_averageDiscount_72 rfl (lv_at hl 1 rfl) ?_
          refine kget (ci := 3) (C := RX2) (T := TX2) (N := 18) hx hb hts hown hG hP 0 rfl rfl hinX2 4 (by decide) (by decide +kernel) rfl dX2_averageDiscount_73 ?_
          refine lv_iload hx hb dX2_averageDiscount_76 (lv_at hl 5 rfl) ?_
          refine kiald (n := 30) (j := k) hx hb hG hP 3 rfl (by omega) (by decide) dX2_averageDiscount_78 ?_
          refine lv_aload_n hx hb dX2_averageDiscount_79 rfl (lv_at hl 1 rfl) ?_
          refine kget (ci := 3) (C := RX2) (T := TX2) (N := 18) hx hb hts hown hG hP 0 rfl rfl hinX2 8 (by decide) (by decide +kernel) rfl dX2_averageDiscount_80 ?_
          refine lv_iload hx hb dX2_averageDiscount_83 (lv_at hl 5 rfl) ?_
          refine kiald (n := 30) (j := k) hx hb hG hP 7 rfl (by omega) (by decide) dX2_averageDiscount_85 ?_
          refine lv_isub hx hb dX2_averageDiscount_86 ?_
          refine lv_goto (tgt := 91) hx hb dX2_averageDiscount_87 (by decide) ?_
          refine lv_iadd hx hb dX2_averageDiscount_91 ?_
          refine lv_istore_n (lv' := [(2, .int (adS M b k + ((M 4 k) - (M 8 k)))), (5, .int 1), (0, .ref (qm 0)), (1, .int (nI b)), (3, .int (adA M b k)), (4, .int (nI k))]) hx hb dX2_averageDiscount_92 rfl hl (by decide) rfl (fun ls hl => ?_)
          refine lv_iload_n hx hb dX2_averageDiscount_93 rfl (lv_at hl 4 rfl) ?_
          refine lv_iload hx hb dX2_averageDiscount_94 (lv_at hl 1 rfl) ?_
          refine lv_if_eq (tgt := 109) hx hb dX2_averageDiscount_96 (by decide) (fun h96 => False.elim (absurd h96 (by decide))) (fun h96 => ?_)
          refine lv_aload_n hx hb dX2_averageDiscount_99 rfl (lv_at hl 2 rfl) ?_
          refine kget (ci := 3) (C := RX2) (T := TX2) (N := 18) hx hb hts hown hG hP 0 rfl rfl hinX2 4 (by decide) (by decide +kernel) rfl dX2_averageDiscount_100 ?_
          refine lv_iload hx hb dX2_averageDiscount_103 (lv_at hl 5 rfl) ?_
          refine kiald (n := 30) (j := k) hx hb hG hP 3 rfl (by omega) (by decide) dX2_averageDiscount_105 ?_
          refine lv_goto (tgt := 110) hx hb dX2_averageDiscount_106 (by decide) ?_
          refine lv_iadd hx hb dX2_averageDiscount_110 ?_
          refine lv_istore_n (lv' := [(3, .int (adA M b k + (M 4 k))), (2, .int (adS M b k + ((M 4 k) - (M 8 k)))), (5, .int 1), (0, .ref (qm 0)), (1, .int (nI b)), (4, .int (nI k))]) hx hb dX2_averageDiscount_111 rfl hl (by decide) rfl (fun ls hl => ?_)
          refine lv_iinc (v := nI (k + 1)) (lv' := [(4, .int (nI (k + 1))), (3, .int (adA M b k + (M 4 k))), (2, .int (adS M b k + ((M 4 k) - (M 8 k)))), (5, .int 1), (0, .ref (qm 0)), (1, .int (nI b))]) hx hb dX2_averageDiscount_112 hl (k := 5) rfl (kinc k) (by decide) rfl (fun ls hl => ?_)
          refine lv_goto (tgt := 28) hx hb dX2_averageDiscount_115 (by decide) ?_
          exact (ih (k + 1)  ls H locs (by omega) hP hD hS (by rw [adS_t ⟨h45, h56⟩, adA_t ⟨h45, h56⟩]; exact lv_sub hl [4, 5, 2, 1, 0] rfl))
  refine LOOP _ (fun  ls H locs hP hD hS hl => ?_) n 0  ls _ _ (by omega) hP hD hS (lv_sub hl [3, 4, 2, 1, 0] rfl)
  refine lv_aload_n hx hb dX2_averageDiscount_118 rfl (lv_at hl 0 rfl) ?_
  refine lv_iload_n hx hb dX2_averageDiscount_119 rfl (lv_at hl 3 rfl) ?_
  refine lv_if_ne (tgt := 127) hx hb dX2_averageDiscount_120 (by decide) (fun h120 => ?_) (fun h120 => False.elim (hz h120))
  refine lv_iconst (v := 0) hx hb dX2_averageDiscount_127 (by decide) ?_
  refine kc_i (va_runV (As := [.int 0]) (rest := []) ⟨hx, hb, hml, hown, hts⟩ (c_X2_fails (x := 0) (z := 0) (by decide)) (cwV 1 hts gX2_averageDiscount_X2_fails rfl rfl rfl (by decide +kernel) ⟨Nat.le_of_ble_eq_true rfl, Nat.le_of_ble_eq_true rfl⟩) (kpv (q0 := 0) hG hP hD hS rfl rfl) rfl rfl hl.1 rfl (lv_room (Nat.le_of_ble_eq_true rfl)) dX2_averageDiscount_128 ⟨Nat.le_of_ble_eq_true rfl, Nat.le_of_ble_eq_true rfl⟩) hS (fun r128 w H locs hp hP hD hS => ?_)
  rw [hp.2] at hP hD
  rw [hp.1]
  refine lv_if_eq (tgt := 138) hx hb dX2_averageDiscount_131 (by decide) (fun h131 => ?_) (fun h131 => False.elim (absurd rfl h131))
  refine lv_iload_n hx hb dX2_averageDiscount_138 rfl (lv_at hl 2 rfl) ?_
  refine lv_i2f hx hb dX2_averageDiscount_139 ?_
  refine lv_iload_n hx hb dX2_averageDiscount_140 rfl (lv_at hl 3 rfl) ?_
  refine lv_i2f hx hb dX2_averageDiscount_141 ?_
  refine lv_fdiv hx hb dX2_averageDiscount_142 (fdN hz) ?_
  exact kr_f hx hb hr hlocks hP hD hS (Nat.zero_le _) (Nat.zero_le _) (⟨rfl, rfl⟩) dX2_averageDiscount_143
