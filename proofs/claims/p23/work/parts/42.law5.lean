/-! The law: one step each: bills, approvals, offers, notes -/
theorem ixb {k a : Nat} (hk : k < 2 ^ 31) (ha : a < 2 ^ 31) (h : nI k ≤ nI a) : ixBad k (nI a) := fun j hj e => by
  rw [nI_iff ha (by omega)] at e
  subst e
  exact absurd h (nI_ge hj hk)
theorem ixe {n i : Nat} (hn : n ≤ 30) (h : nI i = nI n) : ixBad n (nI i) := by rw [h]; exact ixn hn
theorem ltn {n i : Nat} (h : i ≤ n) (hn : n < 2 ^ 31) (hne : ¬ nI i = nI n) : i < n := by
  rcases Nat.lt_or_ge i n with q | q
  · exact q
  · exact absurd (congrArg nI (Nat.le_antisymm h q)) hne
theorem am30 {t : Nat} (h : t < 7000) : ¬ (1 : Int32) + nI t * 30 < 1 := by
  have e : (1 : Int32) + nI t * 30 = nI (1 + t * 30) := by rw [show (30 : Int32) = nI 30 from rfl, pk_mul]; exact nI_add 1 (t * 30)
  rw [e, i32_lt, nI_toInt (by omega)]
  have e1 : (1 : Int32).toInt = 1 := rfl
  omega
theorem dd1 {t : Nat} (h : t < 7000) : ¬ (1 : Int32) + nI t < 1 := by
  have e : (1 : Int32) + nI t = nI (1 + t) := nI_add 1 t
  rw [e, i32_lt, nI_toInt (by omega)]
  have e1 : (1 : Int32).toInt = 1 := rfl
  omega
theorem bill_4 {td : Int32} {n : Nat} {M : Nat → Nat → Int32} {b o : Nat} {ct dd : Int32} : billM td n M b o ct dd 4 n = ct := by simp [billM, up2_at]
theorem i2t : (2 : Int32).toInt = 2 := rfl
theorem i3t : (3 : Int32).toInt = 3 := rfl
theorem st01 {s n i : Nat} {td : Int32} {M : Nat → Nat → Int32} (h : Jv s td n M) (hi : i < n) (h2 : ¬ 2 ≤ M 6 i) : M 6 i = 0 ∨ M 6 i = 1 := by
  rcases (h.1.1.2.2.1 i hi).2.2.1 with r | r | r | r | r
  · exact Or.inl r
  · exact Or.inr r
  · rw [r] at h2; exact absurd (by decide) h2
  · rw [r] at h2; exact absurd (by decide) h2
  · rw [r] at h2; exact absurd (by decide) h2
theorem st01n {x : Int32} (h : 2 ≤ x) : ¬ (x = 0 ∨ x = 1) := by
  rintro (r | r) <;> rw [r] at h <;> exact absurd h (by decide)
theorem st3 {x : Int32} (h : x = 3 ∨ x = 4) (q : ¬ 3 ≤ x) : False := by
  rcases h with r | r <;> rw [r] at q <;> exact q (by decide)
theorem st3n {td : Int32} {M : Nat → Nat → Int32} {i : Nat} (h : bOk td M i) (hn : ¬ (M 6 i = 3 ∨ M 6 i = 4)) (q : 3 ≤ M 6 i) : False := by
  rcases h.2.2.1 with r | r | r | r | r
  · rw [r] at q; exact absurd q (by decide)
  · rw [r] at q; exact absurd q (by decide)
  · rw [r] at q; exact absurd q (by decide)
  · exact hn (Or.inl r)
  · exact hn (Or.inr r)
section ID
variable {n : Nat} {td : Int32} {M : Nat → Nat → Int32} {fb ft fn fm fl fu fg : Nat → Int32}
theorem LR.id1 (h : LR td n M fb ft fn fm fl fu fg) {i : Nat} (hn : n ≤ 30) (hi : i < n) : LR td n M fb (upd ft i (M 6 i)) fn fm fl fu fg :=
  h.sft (fun j hj => by
    rw [pk_un (by omega : 30 + j ≠ i)]
    refine ⟨?_, h.t1 hj⟩
    by_cases e : j = i
    · subst e; exact upd_e _ _ _
    · rw [pk_un e]; exact h.t0 hj)
theorem LR.id2 (h : LR td n M fb ft fn fm fl fu fg) {i : Nat} (hn : n ≤ 30) (hi : i < n) : LR td n M fb (upd (upd ft i (M 6 i)) (30 + i) (M 7 i)) fn fm fl fu fg := by
  have h1 := h.id1 hn hi
  refine h1.sft (fun j hj => ?_)
  rw [pk_un (by omega : j ≠ 30 + i)]
  refine ⟨h1.t0 hj, ?_⟩
  by_cases e : j = i
  · subst e; exact upd_e _ _ _
  · rw [pk_un (by omega : 30 + j ≠ 30 + i)]; exact h1.t1 hj
end ID
theorem noteM_n {M : Nat → Nat → Int32} {i j f : Nat} {y : Int32} (h1 : f ≠ 10) (h2 : f ≠ 13) : noteM M i y f j = M f j := by
  unfold noteM
  rw [up2_ne _ _ _ _ h2, up2_ne _ _ _ _ h1]
theorem noteM_13 {M : Nat → Nat → Int32} {i : Nat} {y : Int32} : noteM M i y 13 (pr M i) = M 13 (pr M i) + moreS M i y := by
  unfold noteM
  exact up2_e _ _ _ _
theorem note_I {td : Int32} {M : Nat → Nat → Int32} {u : Nat} {y : Int32} (h : bOk td M u) (hy : inR 1 (M 4 u - M 10 u) y) : inR 1 1000000 (M 4 u) ∧ ¬ M 4 u = 0 ∧ (0 ≤ (M 10 u + y).toInt ∧ (M 10 u + y).toInt ≤ 1000000) ∧ (0 ≤ (M 4 u - y).toInt ∧ (M 4 u - y).toInt ≤ 1000000) := by
  obtain ⟨-, g2, -, -, g5, -⟩ := h
  have hy' := inR_I.mp hy
  have e1 : (1 : Int32).toInt = 1 := rfl
  have e2 : (1000000 : Int32).toInt = 1000000 := rfl
  have e3 : (M 4 u - M 10 u).toInt = (M 4 u).toInt - (M 10 u).toInt := i32_sub (by omega) (by omega)
  have e4 : (M 10 u + y).toInt = (M 10 u).toInt + y.toInt := i32_add (by omega) (by omega)
  have e5 : (M 4 u - y).toInt = (M 4 u).toInt - y.toInt := i32_sub (by omega) (by omega)
  refine ⟨inR_I.mpr ⟨by omega, by omega⟩, fun q => ?_, ⟨by omega, by omega⟩, by omega, by omega⟩
  have e0 : (M 4 u).toInt = 0 := by rw [q]; rfl
  omega
section NT
variable {s n i : Nat} {td : Int32} {M : Nat → Nat → Int32} {y : Int32}
theorem note_4 (h : Jv s td n M) (hi : i < n) (hy : inR 1 (M 4 i - M 10 i) y) : 1 ≤ (M 4 i).toInt ∧ (M 4 i).toInt ≤ 1000000 := by
  have := inR_I.mp (note_I (h.1.1.2.2.1 i hi) hy).1
  have e1 : (1 : Int32).toInt = 1 := rfl
  have e2 : (1000000 : Int32).toInt = 1000000 := rfl
  omega
theorem note_y (h : Jv s td n M) (hi : i < n) (hy : inR 1 (M 4 i - M 10 i) y) : 1 ≤ y.toInt ∧ y.toInt ≤ 1000000 := by
  have g2 := h.1.a4 hi
  have g5 := (h.1.1.2.2.1 i hi).2.2.2.2.1
  have hy' := inR_I.mp hy
  have e1 : (1 : Int32).toInt = 1 := rfl
  have e3 : (M 4 i - M 10 i).toInt = (M 4 i).toInt - (M 10 i).toInt := i32_sub (by omega) (by omega)
  omega
theorem note_0 {x : Int32} (h : 0 ≤ x.toInt) (q : x < 0) : False := by rw [i32_lt, z0] at q; omega
theorem note_1 {x y : Int32} (h : x.toInt ≤ y.toInt) (q : y < x) : False := by rw [i32_lt] at q; omega
theorem mul_b {a b : Int} (h1 : 0 ≤ a ∧ a ≤ 1000001) (h2 : 0 ≤ b ∧ b ≤ 1000000) : 0 ≤ a * b ∧ a * b ≤ 1000001000000 := by
  have p1 : 0 ≤ a * b := Int.mul_nonneg h1.1 h2.1
  have p2 : a * b ≤ a * 1000000 := Int.mul_le_mul_of_nonneg_left h2.2 h1.1
  exact ⟨p1, by omega⟩
theorem m64 {a b : Int32} (h1 : 0 ≤ a.toInt ∧ a.toInt ≤ 1000001) (h2 : 0 ≤ b.toInt ∧ b.toInt ≤ 1000000) : (a.toInt64 * b.toInt64).toInt = a.toInt * b.toInt := by
  have := mul_b h1 h2
  rw [i64_mul (by rw [Int32.toInt_toInt64, Int32.toInt_toInt64]; omega) (by rw [Int32.toInt_toInt64, Int32.toInt_toInt64]; omega), Int32.toInt_toInt64, Int32.toInt_toInt64]
theorem note_a (h4 : 1 ≤ (M 4 i).toInt ∧ (M 4 i).toInt ≤ 1000000) (hy : 1 ≤ y.toInt ∧ y.toInt ≤ 1000000) (h8 : 0 ≤ (M 8 i).toInt ∧ (M 8 i).toInt ≤ (M 4 i).toInt) (h : (0 ≤ (moreS M i y).toInt ∧ (moreS M i y).toInt ≤ y.toInt) ∧ (moreS M i y).toInt * (M 4 i).toInt ≤ y.toInt * (M 8 i).toInt ∧ y.toInt * (M 8 i).toInt < ((moreS M i y).toInt + 1) * (M 4 i).toInt)
    (q : 0 < lg_cmp ((moreS M i y : Int32).toInt64 * (M 4 i : Int32).toInt64) ((y : Int32).toInt64 * (M 8 i : Int32).toInt64)) : False := by
  have r := (lg_cmp_gt _ _).mp q
  rw [Int64.lt_iff_toInt_lt, m64 ⟨by omega, by omega⟩ ⟨by omega, by omega⟩, m64 ⟨by omega, by omega⟩ ⟨by omega, by omega⟩] at r
  have := h.2.1
  omega
theorem note_b (h4 : 1 ≤ (M 4 i).toInt ∧ (M 4 i).toInt ≤ 1000000) (hy : 1 ≤ y.toInt ∧ y.toInt ≤ 1000000) (h8 : 0 ≤ (M 8 i).toInt ∧ (M 8 i).toInt ≤ (M 4 i).toInt) (h : (0 ≤ (moreS M i y).toInt ∧ (moreS M i y).toInt ≤ y.toInt) ∧ (moreS M i y).toInt * (M 4 i).toInt ≤ y.toInt * (M 8 i).toInt ∧ y.toInt * (M 8 i).toInt < ((moreS M i y).toInt + 1) * (M 4 i).toInt)
    (q : lg_cmp ((moreS M i y + 1 : Int32).toInt64 * (M 4 i : Int32).toInt64) ((y : Int32).toInt64 * (M 8 i : Int32).toInt64) ≤ 0) : False := by
  have r := (lg_cmp_le _ _).mp q
  have e1 : (1 : Int32).toInt = 1 := rfl
  have e : (moreS M i y + 1).toInt = (moreS M i y).toInt + 1 := by rw [i32_add (by omega) (by omega), e1]
  rw [Int64.le_iff_toInt_le, m64 ⟨by omega, by omega⟩ ⟨by omega, by omega⟩, m64 ⟨by omega, by omega⟩ ⟨by omega, by omega⟩, e] at r
  have := h.2.2
  omega
/-- an offer's price -/
theorem off_law (h : Jv s td n M) (hi : i < n) {y : Nat} (hy : inR 0 5000 (nI y)) (h1 : M 6 i = 1) (hd : ¬ M 5 i ≤ td) (hs : s ≤ 100000) :
    ¬ price td (up2 M 7 i (nI y)) i < 0 ∧ ¬ 0 < lg_cmp ((M 4 i - price td (up2 M 7 i (nI y)) i : Int32).toInt64 * 3600000) ((M 4 i : Int32).toInt64 * (nI y : Int32).toInt64 * (M 5 i - td : Int32).toInt64) ∧ ¬ lg_cmp (((M 4 i - price td (up2 M 7 i (nI y)) i : Int32).toInt64 + 1) * 3600000) ((M 4 i : Int32).toInt64 * (nI y : Int32).toInt64 * (M 5 i - td : Int32).toInt64) ≤ 0 := by
  obtain ⟨g1, g2, g3, g4, g5, g6⟩ := h.1.1.2.2.1 i hi
  have ht := h.1.1.2.1
  have hr := inR_I.mp hy
  have e0 : (5000 : Int32).toInt = 5000 := rfl
  have ed : (M 5 i - td).toInt = (M 5 i).toInt - td.toInt := i32_sub (by omega) (by omega)
  rw [i32_le] at hd
  rw [z0, e0] at hr
  have f4 : up2 M 7 i (nI y) 4 i = M 4 i := up2_ne _ _ _ _ (by decide)
  have f5 : up2 M 7 i (nI y) 5 i = M 5 i := up2_ne _ _ _ _ (by decide)
  have f7 : up2 M 7 i (nI y) 7 i = nI y := up2_e _ _ _ _
  have hD : 0 ≤ (M 5 i - td).toInt ∧ (M 5 i - td).toInt ≤ 360 := ⟨by omega, by omega⟩
  have p1 : 0 ≤ (M 4 i).toInt * (nI y).toInt := Int.mul_nonneg g2.1 hr.1
  have p2 : (M 4 i).toInt * (nI y).toInt ≤ (M 4 i).toInt * 5000 := Int.mul_le_mul_of_nonneg_left hr.2 g2.1
  have q1 : 0 ≤ (M 4 i).toInt * (nI y).toInt * (M 5 i - td).toInt := Int.mul_nonneg p1 hD.1
  have q2 : (M 4 i).toInt * (nI y).toInt * (M 5 i - td).toInt ≤ (M 4 i).toInt * (nI y).toInt * 360 := Int.mul_le_mul_of_nonneg_left hD.2 p1
  have e1 : ((M 4 i).toInt64 * (nI y).toInt64).toInt = (M 4 i).toInt * (nI y).toInt := by
    rw [i64_mul (by rw [Int32.toInt_toInt64, Int32.toInt_toInt64]; omega) (by rw [Int32.toInt_toInt64, Int32.toInt_toInt64]; omega), Int32.toInt_toInt64, Int32.toInt_toInt64]
  have e2 : ((M 4 i).toInt64 * (nI y).toInt64 * (M 5 i - td).toInt64).toInt = (M 4 i).toInt * (nI y).toInt * (M 5 i - td).toInt := by
    rw [i64_mul (by rw [e1, Int32.toInt_toInt64]; omega) (by rw [e1, Int32.toInt_toInt64]; omega), e1, Int32.toInt_toInt64]
  have e3 : (3600000 : Int64).toInt = 3600000 := rfl
  have d1 : ((M 4 i).toInt * (nI y).toInt * (M 5 i - td).toInt).tdiv 3600000 = (M 4 i).toInt * (nI y).toInt * (M 5 i - td).toInt / 3600000 := Int.tdiv_eq_ediv_of_nonneg q1
  have e5 : (disc td (up2 M 7 i (nI y)) i).toInt = (M 4 i).toInt * (nI y).toInt * (M 5 i - td).toInt / 3600000 := by
    unfold disc
    rw [f4, f5, f7]
    have e4 : ((M 4 i).toInt64 * (nI y).toInt64 * (M 5 i - td).toInt64 / 3600000).toInt = (M 4 i).toInt * (nI y).toInt * (M 5 i - td).toInt / 3600000 := by
      rw [Int64.toInt_div, e2, e3, d1]
      exact Int.bmod_eq_of_le (by omega) (by omega)
    rw [Int64.toInt_toInt32, e4]
    exact Int.bmod_eq_of_le (by omega) (by omega)
  have ep : price td (up2 M 7 i (nI y)) i = M 4 i - disc td (up2 M 7 i (nI y)) i := by unfold price; rw [f4]
  have epI : (price td (up2 M 7 i (nI y)) i).toInt = (M 4 i).toInt - (disc td (up2 M 7 i (nI y)) i).toInt := by
    rw [ep]; exact i32_sub (by omega) (by omega)
  have eq : (M 4 i - price td (up2 M 7 i (nI y)) i).toInt = (disc td (up2 M 7 i (nI y)) i).toInt := by
    rw [i32_sub (by omega) (by omega)]; omega
  have m1 : ((M 4 i - price td (up2 M 7 i (nI y)) i : Int32).toInt64 * 3600000).toInt = (disc td (up2 M 7 i (nI y)) i).toInt * 3600000 := by
    rw [i64_mul (by rw [Int32.toInt_toInt64, eq, e3]; omega) (by rw [Int32.toInt_toInt64, eq, e3]; omega), Int32.toInt_toInt64, eq, e3]
  have a1 : ((M 4 i - price td (up2 M 7 i (nI y)) i : Int32).toInt64 + 1).toInt = (disc td (up2 M 7 i (nI y)) i).toInt + 1 := by
    rw [Int64.toInt_add, Int32.toInt_toInt64, eq]
    have o1 : (1 : Int64).toInt = 1 := rfl
    rw [o1]
    exact Int.bmod_eq_of_le (by omega) (by omega)
  have m2 : (((M 4 i - price td (up2 M 7 i (nI y)) i : Int32).toInt64 + 1) * 3600000).toInt = ((disc td (up2 M 7 i (nI y)) i).toInt + 1) * 3600000 := by
    rw [i64_mul (by rw [a1, e3]; omega) (by rw [a1, e3]; omega), a1, e3]
  refine ⟨by rw [i32_lt, z0]; omega, fun q => ?_, fun q => ?_⟩
  · have r := (lg_cmp_gt _ _).mp q
    rw [Int64.lt_iff_toInt_lt, m1, e2, e5] at r
    omega
  · have r := (lg_cmp_le _ _).mp q
    rw [Int64.le_iff_toInt_le, m2, e2, e5] at r
    omega
end NT
set_option maxHeartbeats 4000000 in
set_option maxRecDepth 100000 in
theorem c_isBill {l : Launch} {K : Ks} {A : Nat → Prop} {ad q : Nat → Nat} {sn : Nat} {td : Int32} {n : Nat} {M : Nat → Nat → Int32} {w : va_W} {fb ft fn fm fl fu fg : Nat → Int32} (hlt : l.stackTraces = false) (hDk : DE K ad td n M w) (hR : LR td n M fb ft fn fm fl fu fg) (hJ : Jv sn td n M) (hsn : sn ≤ 1000) {one two three : Nat} (h1 : one < 6000) (h2 : two < 7000) (h3 : three < 8000) : Met l yL_isBill wsL_isBill (kR 9 2 70) (kPr K A [.ref (ad 0), .ref (q 1), .ref (q 2), .ref (q 3), .ref (q 7), .int (nI one), .int (nI two), .int (nI three)] (w ++ LA K q fb ft fn fm fl fu fg)) (kQi K A (fun r w1 => r = 1 ∧ LSw K ad q (sn + 1) w1)) 2 70 A := by
  have hn30 := hJ.1.1.1
  have hok := hJ.1.ok
  refine kent (cc := cL_isBill) (maxL := 15) (ret := (some .boolean)) (by decide) rfl (Nat.le_of_ble_eq_true rfl) ?_
  intro p e s m args below meth c ls hx hb hr hts hown hlocks hml hini hG hP hD hS hl
  have hl : lv_has ls 15 [(0, .ref (ad 0)), (1, .ref (q 1)), (2, .ref (q 2)), (3, .ref (q 3)), (4, .ref (q 7)), (5, .int (nI one)), (6, .int (nI two)), (7, .int (nI three))] := hl
  refine lv_iload hx hb dL_isBill_0 (lv_at hl 5 rfl) ?_
  refine lv_iconst (v := 5) hx hb dL_isBill_2 (by decide) ?_
  refine lv_irem hx hb dL_isBill_3 (by decide) ?_
  refine ktop (z := nI (one % 5)) (nI_rem (b := 5) (by omega) (by decide)) ?_
  refine lv_istore (lv' := [(8, .int (nI (one % 5))), (0, .ref (ad 0)), (1, .ref (q 1)), (2, .ref (q 2)), (3, .ref (q 3)), (4, .ref (q 7)), (5, .int (nI one)), (6, .int (nI two)), (7, .int (nI three))]) hx hb dL_isBill_4 hl (by decide) rfl (fun ls hl => ?_)
  refine lv_iload hx hb dL_isBill_6 (lv_at hl 6 rfl) ?_
  refine lv_iconst (v := 5) hx hb dL_isBill_8 (by decide) ?_
  refine lv_idiv hx hb dL_isBill_9 (by decide) ?_
  refine ktop (z := nI (one / 5)) (nI_div (b := 5) (by omega) (by decide)) ?_
  refine lv_bipush (v := 9) hx hb dL_isBill_10 (by decide) ?_
  refine lv_irem hx hb dL_isBill_12 (by decide) ?_
  refine ktop (z := nI (one / 5 % 9)) (nI_rem (b := 9) (by omega) (by decide)) ?_
  refine lv_istore (lv' := [(9, .int (nI (one / 5 % 9))), (8, .int (nI (one % 5))), (0, .ref (ad 0)), (1, .ref (q 1)), (2, .ref (q 2)), (3, .ref (q 3)), (4, .ref (q 7)), (5, .int (nI one)), (6, .int (nI two)), (7, .int (nI three))]) hx hb dL_isBill_13 hl (by decide) rfl (fun ls hl => ?_)
  have J35 : ∀ (ct : Int32), ¬ ct < 1 → W p l e (kR 9 2 70) s m args below meth c s.heap [] 0 0 (MQ below (kQi K A (fun r w1 => r = 1 ∧ LSw K ad q (sn + 1) w1)) args s 2 70 A) (F0 m 35 ls [.int ct]) := by
    intro ct hct
    refine lv_istore (lv' := [(10, .int ct), (9, .int (nI (one / 5 % 9))), (8, .int (nI (one % 5))), (0, .ref (ad 0)), (1, .ref (q 1)), (2, .ref (q 2)), (3, .ref (q 3)), (4, .ref (q 7)), (5, .int (nI one)), (6, .int (nI two)), (7, .int (nI three))]) hx hb dL_isBill_35 hl (by decide) rfl (fun ls hl => ?_)
    have J58 : ∀ (dd : Int32), ¬ dd < 1 → W p l e (kR 9 2 70) s m args below meth c s.heap [] 0 0 (MQ below (kQi K A (fun r w1 => r = 1 ∧ LSw K ad q (sn + 1) w1)) args s 2 70 A) (F0 m 58 ls [.int dd]) := by
      intro dd hdd
      refine lv_istore (lv' := [(11, .int dd), (10, .int ct), (9, .int (nI (one / 5 % 9))), (8, .int (nI (one % 5))), (0, .ref (ad 0)), (1, .ref (q 1)), (2, .ref (q 2)), (3, .ref (q 3)), (4, .ref (q 7)), (5, .int (nI one)), (6, .int (nI two)), (7, .int (nI three))]) hx hb dL_isBill_58 hl (by decide) rfl (fun ls hl => ?_)
      refine lv_iload hx hb dL_isBill_60 (lv_at hl 3 rfl) ?_
      refine lv_iconst (v := 4) hx hb dL_isBill_62 (by decide) ?_
      refine lv_icmp_ge (tgt := 77) hx hb dL_isBill_63 (by decide) (fun h63 => ?_) (fun h63 => ?_)
      · refine lv_iconst (v := 0) hx hb dL_isBill_77 (by decide) ?_
        refine lv_istore (lv' := [(12, .int 0), (11, .int dd), (10, .int ct), (9, .int (nI (one / 5 % 9))), (8, .int (nI (one % 5))), (0, .ref (ad 0)), (1, .ref (q 1)), (2, .ref (q 2)), (3, .ref (q 3)), (4, .ref (q 7)), (5, .int (nI one)), (6, .int (nI two)), (7, .int (nI three))]) hx hb dL_isBill_78 hl (by decide) rfl (fun ls hl => ?_)
        refine lv_iload hx hb dL_isBill_80 (lv_at hl 2 rfl) ?_
        refine lv_ldc (v := 1000000) hx hb hown (hts (.constant RL 98 1000000) (by decide +kernel)) dL_isBill_82 ?_
        refine lv_icmp_gt (tgt := 99) hx hb dL_isBill_84 (by decide) (fun h84 => ?_) (fun h84 => ?_)
        · refine lv_iconst (v := 0) hx hb dL_isBill_99 (by decide) ?_
          refine lv_istore (lv' := [(13, .int 0), (12, .int 0), (11, .int dd), (10, .int ct), (9, .int (nI (one / 5 % 9))), (8, .int (nI (one % 5))), (0, .ref (ad 0)), (1, .ref (q 1)), (2, .ref (q 2)), (3, .ref (q 3)), (4, .ref (q 7)), (5, .int (nI one)), (6, .int (nI two)), (7, .int (nI three))]) hx hb dL_isBill_100 hl (by decide) rfl (fun ls hl => ?_)
          refine lv_iload hx hb dL_isBill_102 (lv_at hl 1 rfl) ?_
          refine lv_if_ne (tgt := 112) hx hb dL_isBill_104 (by decide) (fun h104 => False.elim (absurd (by decide) h104)) (fun h104 => ?_)
          refine lv_bipush (v := (-30)) hx hb dL_isBill_107 (by decide) ?_
          refine lv_goto (tgt := 140) hx hb dL_isBill_109 (by decide) ?_
          refine lv_istore (lv' := [(14, .int (-30)), (13, .int 0), (12, .int 0), (11, .int dd), (10, .int ct), (9, .int (nI (one / 5 % 9))), (8, .int (nI (one % 5))), (0, .ref (ad 0)), (1, .ref (q 1)), (2, .ref (q 2)), (3, .ref (q 3)), (4, .ref (q 7)), (5, .int (nI one)), (6, .int (nI two)), (7, .int (nI three))]) hx hb dL_isBill_140 hl (by decide) rfl (fun ls hl => ?_)
          refine lv_iload hx hb dL_isBill_142 (lv_at hl 0 rfl) ?_
          refine lv_if_lt (tgt := 202) hx hb dL_isBill_144 (by decide) (fun h144 => ?_) (fun h144 => False.elim (absurd (by decide) h144))
          refine lv_aload_n hx hb dL_isBill_202 rfl (lv_at hl 7 rfl) ?_
          refine lv_iconst (v := 2) hx hb dL_isBill_203 (by decide) ?_
          refine lv_iload hx hb dL_isBill_204 (lv_at hl 6 rfl) ?_
          refine lv_iload hx hb dL_isBill_206 (lv_at hl 5 rfl) ?_
          refine lv_iload hx hb dL_isBill_208 (lv_at hl 4 rfl) ?_
          refine lv_iload hx hb dL_isBill_210 (lv_at hl 3 rfl) ?_
          refine kf_i (W2 := LA K q fb ft fn fm fl fu fg) (vx_runSW (As := [.ref (ad 0), .int 2, .int (nI (one % 5)), .int (nI (one / 5 % 9)), .int ct, .int dd]) (rest := []) ⟨hx, hb, hml, hown, hts⟩ (h_bill_tb hDk hlt (ixb (k := 4) (by decide) (by omega) h63)) (vx_cwSW 6 hts gL_isBill_L_does rfl rfl rfl (by decide +kernel) ⟨(Nat.le_of_ble_eq_true rfl), (Nat.le_of_ble_eq_true rfl)⟩) (lps hG hP hD hS) rfl rfl hl.1 rfl (lv_room (Nat.le_of_ble_eq_true rfl)) dL_isBill_212 ⟨(Nat.le_of_ble_eq_true rfl), (Nat.le_of_ble_eq_true rfl)⟩) hS hP hD (fun r212 w H locs hp hP hD hS => ?_)
          obtain ⟨hv9, hp⟩ := hp
          rw [hv9]
          have hDk : DE K ad td n M w := hp
          refine lv_iload hx hb dL_isBill_215 (lv_at hl 0 rfl) ?_
          refine lv_icmp_ne (tgt := 240) hx hb dL_isBill_217 (by decide) (fun h217 => False.elim (absurd (by decide) h217)) (fun h217 => ?_)
          refine lv_iload hx hb dL_isBill_220 (lv_at hl 0 rfl) ?_
          refine lv_if_lt (tgt := 236) hx hb dL_isBill_222 (by decide) (fun h222 => ?_) (fun h222 => False.elim (absurd (by decide) h222))
          refine lv_iconst (v := 1) hx hb dL_isBill_236 (by decide) ?_
          refine lv_goto (tgt := 241) hx hb dL_isBill_237 (by decide) ?_
          exact kr_z hx hb hr hlocks hP hD hS (Nat.le_of_ble_eq_true rfl) (Nat.le_of_ble_eq_true rfl) (Or.inr rfl) (⟨rfl, _, _, _, _, _, _, _, _, _, _, _, rfl, hDk, hR, hJ.up⟩) dL_isBill_241
        · refine lv_iload hx hb dL_isBill_87 (lv_at hl 1 rfl) ?_
          refine lv_sipush (v := 360) hx hb dL_isBill_89 (by decide) ?_
          refine lv_icmp_gt (tgt := 99) hx hb dL_isBill_92 (by decide) (fun h92 => ?_) (fun h92 => ?_)
          · refine lv_iconst (v := 0) hx hb dL_isBill_99 (by decide) ?_
            refine lv_istore (lv' := [(13, .int 0), (12, .int 0), (11, .int dd), (10, .int ct), (9, .int (nI (one / 5 % 9))), (8, .int (nI (one % 5))), (0, .ref (ad 0)), (1, .ref (q 1)), (2, .ref (q 2)), (3, .ref (q 3)), (4, .ref (q 7)), (5, .int (nI one)), (6, .int (nI two)), (7, .int (nI three))]) hx hb dL_isBill_100 hl (by decide) rfl (fun ls hl => ?_)
            refine lv_iload hx hb dL_isBill_102 (lv_at hl 1 rfl) ?_
            refine lv_if_ne (tgt := 112) hx hb dL_isBill_104 (by decide) (fun h104 => False.elim (absurd (by decide) h104)) (fun h104 => ?_)
            refine lv_bipush (v := (-30)) hx hb dL_isBill_107 (by decide) ?_
            refine lv_goto (tgt := 140) hx hb dL_isBill_109 (by decide) ?_
            refine lv_istore (lv' := [(14, .int (-30)), (13, .int 0), (12, .int 0), (11, .int dd), (10, .int ct), (9, .int (nI (one / 5 % 9))), (8, .int (nI (one % 5))), (0, .ref (ad 0)), (1, .ref (q 1)), (2, .ref (q 2)), (3, .ref (q 3)), (4, .ref (q 7)), (5, .int (nI one)), (6, .int (nI two)), (7, .int (nI three))]) hx hb dL_isBill_140 hl (by decide) rfl (fun ls hl => ?_)
            refine lv_iload hx hb dL_isBill_142 (lv_at hl 0 rfl) ?_
            refine lv_if_lt (tgt := 202) hx hb dL_isBill_144 (by decide) (fun h144 => ?_) (fun h144 => False.elim (absurd (by decide) h144))
            refine lv_aload_n hx hb dL_isBill_202 rfl (lv_at hl 7 rfl) ?_
            refine lv_iconst (v := 2) hx hb dL_isBill_203 (by decide) ?_
            refine lv_iload hx hb dL_isBill_204 (lv_at hl 6 rfl) ?_
            refine lv_iload hx hb dL_isBill_206 (lv_at hl 5 rfl) ?_
            refine lv_iload hx hb dL_isBill_208 (lv_at hl 4 rfl) ?_
            refine lv_iload hx hb dL_isBill_210 (lv_at hl 3 rfl) ?_
            refine kf_i (W2 := LA K q fb ft fn fm fl fu fg) (vx_runSW (As := [.ref (ad 0), .int 2, .int (nI (one % 5)), .int (nI (one / 5 % 9)), .int ct, .int dd]) (rest := []) ⟨hx, hb, hml, hown, hts⟩ (h_bill_tb hDk hlt (ixb (k := 4) (by decide) (by omega) h63)) (vx_cwSW 6 hts gL_isBill_L_does rfl rfl rfl (by decide +kernel) ⟨(Nat.le_of_ble_eq_true rfl), (Nat.le_of_ble_eq_true rfl)⟩) (lps hG hP hD hS) rfl rfl hl.1 rfl (lv_room (Nat.le_of_ble_eq_true rfl)) dL_isBill_212 ⟨(Nat.le_of_ble_eq_true rfl), (Nat.le_of_ble_eq_true rfl)⟩) hS hP hD (fun r212 w H locs hp hP hD hS => ?_)
            obtain ⟨hv9, hp⟩ := hp
            rw [hv9]
            have hDk : DE K ad td n M w := hp
            refine lv_iload hx hb dL_isBill_215 (lv_at hl 0 rfl) ?_
            refine lv_icmp_ne (tgt := 240) hx hb dL_isBill_217 (by decide) (fun h217 => False.elim (absurd (by decide) h217)) (fun h217 => ?_)
            refine lv_iload hx hb dL_isBill_220 (lv_at hl 0 rfl) ?_
            refine lv_if_lt (tgt := 236) hx hb dL_isBill_222 (by decide) (fun h222 => ?_) (fun h222 => False.elim (absurd (by decide) h222))
            refine lv_iconst (v := 1) hx hb dL_isBill_236 (by decide) ?_
            refine lv_goto (tgt := 241) hx hb dL_isBill_237 (by decide) ?_
            exact kr_z hx hb hr hlocks hP hD hS (Nat.le_of_ble_eq_true rfl) (Nat.le_of_ble_eq_true rfl) (Or.inr rfl) (⟨rfl, _, _, _, _, _, _, _, _, _, _, _, rfl, hDk, hR, hJ.up⟩) dL_isBill_241
          · refine lv_iconst (v := 1) hx hb dL_isBill_95 (by decide) ?_
            refine lv_goto (tgt := 100) hx hb dL_isBill_96 (by decide) ?_
            refine lv_istore (lv' := [(13, .int 1), (12, .int 0), (11, .int dd), (10, .int ct), (9, .int (nI (one / 5 % 9))), (8, .int (nI (one % 5))), (0, .ref (ad 0)), (1, .ref (q 1)), (2, .ref (q 2)), (3, .ref (q 3)), (4, .ref (q 7)), (5, .int (nI one)), (6, .int (nI two)), (7, .int (nI three))]) hx hb dL_isBill_100 hl (by decide) rfl (fun ls hl => ?_)
            refine lv_iload hx hb dL_isBill_102 (lv_at hl 1 rfl) ?_
            refine lv_if_ne (tgt := 112) hx hb dL_isBill_104 (by decide) (fun h104 => False.elim (absurd (by decide) h104)) (fun h104 => ?_)
            refine lv_bipush (v := (-30)) hx hb dL_isBill_107 (by decide) ?_
            refine lv_goto (tgt := 140) hx hb dL_isBill_109 (by decide) ?_
            refine lv_istore (lv' := [(14, .int (-30)), (13, .int 1), (12, .int 0), (11, .int dd), (10, .int ct), (9, .int (nI (one / 5 % 9))), (8, .int (nI (one % 5))), (0, .ref (ad 0)), (1, .ref (q 1)), (2, .ref (q 2)), (3, .ref (q 3)), (4, .ref (q 7)), (5, .int (nI one)), (6, .int (nI two)), (7, .int (nI three))]) hx hb dL_isBill_140 hl (by decide) rfl (fun ls hl => ?_)
            refine lv_iload hx hb dL_isBill_142 (lv_at hl 0 rfl) ?_
            refine lv_if_lt (tgt := 202) hx hb dL_isBill_144 (by decide) (fun h144 => ?_) (fun h144 => False.elim (absurd (by decide) h144))
            refine lv_aload_n hx hb dL_isBill_202 rfl (lv_at hl 7 rfl) ?_
            refine lv_iconst (v := 2) hx hb dL_isBill_203 (by decide) ?_
            refine lv_iload hx hb dL_isBill_204 (lv_at hl 6 rfl) ?_
            refine lv_iload hx hb dL_isBill_206 (lv_at hl 5 rfl) ?_
            refine lv_iload hx hb dL_isBill_208 (lv_at hl 4 rfl) ?_
            refine lv_iload hx hb dL_isBill_210 (lv_at hl 3 rfl) ?_
            refine kf_i (W2 := LA K q fb ft fn fm fl fu fg) (vx_runSW (As := [.ref (ad 0), .int 2, .int (nI (one % 5)), .int (nI (one / 5 % 9)), .int ct, .int dd]) (rest := []) ⟨hx, hb, hml, hown, hts⟩ (h_bill_tb hDk hlt (ixb (k := 4) (by decide) (by omega) h63)) (vx_cwSW 6 hts gL_isBill_L_does rfl rfl rfl (by decide +kernel) ⟨(Nat.le_of_ble_eq_true rfl), (Nat.le_of_ble_eq_true rfl)⟩) (lps hG hP hD hS) rfl rfl hl.1 rfl (lv_room (Nat.le_of_ble_eq_true rfl)) dL_isBill_212 ⟨(Nat.le_of_ble_eq_true rfl), (Nat.le_of_ble_eq_true rfl)⟩) hS hP hD (fun r212 w H locs hp hP hD hS => ?_)
            obtain ⟨hv9, hp⟩ := hp
            rw [hv9]
            have hDk : DE K ad td n M w := hp
            refine lv_iload hx hb dL_isBill_215 (lv_at hl 0 rfl) ?_
            refine lv_icmp_ne (tgt := 240) hx hb dL_isBill_217 (by decide) (fun h217 => False.elim (absurd (by decide) h217)) (fun h217 => ?_)
            refine lv_iload hx hb dL_isBill_220 (lv_at hl 0 rfl) ?_
            refine lv_if_lt (tgt := 236) hx hb dL_isBill_222 (by decide) (fun h222 => ?_) (fun h222 => False.elim (absurd (by decide) h222))
            refine lv_iconst (v := 1) hx hb dL_isBill_236 (by decide) ?_
            refine lv_goto (tgt := 241) hx hb dL_isBill_237 (by decide) ?_
            exact kr_z hx hb hr hlocks hP hD hS (Nat.le_of_ble_eq_true rfl) (Nat.le_of_ble_eq_true rfl) (Or.inr rfl) (⟨rfl, _, _, _, _, _, _, _, _, _, _, _, rfl, hDk, hR, hJ.up⟩) dL_isBill_241
      · refine lv_iload hx hb dL_isBill_66 (lv_at hl 2 rfl) ?_
        refine lv_bipush (v := 8) hx hb dL_isBill_68 (by decide) ?_
        refine lv_icmp_ge (tgt := 77) hx hb dL_isBill_70 (by decide) (fun h70 => ?_) (fun h70 => ?_)
        · refine lv_iconst (v := 0) hx hb dL_isBill_77 (by decide) ?_
          refine lv_istore (lv' := [(12, .int 0), (11, .int dd), (10, .int ct), (9, .int (nI (one / 5 % 9))), (8, .int (nI (one % 5))), (0, .ref (ad 0)), (1, .ref (q 1)), (2, .ref (q 2)), (3, .ref (q 3)), (4, .ref (q 7)), (5, .int (nI one)), (6, .int (nI two)), (7, .int (nI three))]) hx hb dL_isBill_78 hl (by decide) rfl (fun ls hl => ?_)
          refine lv_iload hx hb dL_isBill_80 (lv_at hl 2 rfl) ?_
          refine lv_ldc (v := 1000000) hx hb hown (hts (.constant RL 98 1000000) (by decide +kernel)) dL_isBill_82 ?_
          refine lv_icmp_gt (tgt := 99) hx hb dL_isBill_84 (by decide) (fun h84 => ?_) (fun h84 => ?_)
          · refine lv_iconst (v := 0) hx hb dL_isBill_99 (by decide) ?_
            refine lv_istore (lv' := [(13, .int 0), (12, .int 0), (11, .int dd), (10, .int ct), (9, .int (nI (one / 5 % 9))), (8, .int (nI (one % 5))), (0, .ref (ad 0)), (1, .ref (q 1)), (2, .ref (q 2)), (3, .ref (q 3)), (4, .ref (q 7)), (5, .int (nI one)), (6, .int (nI two)), (7, .int (nI three))]) hx hb dL_isBill_100 hl (by decide) rfl (fun ls hl => ?_)
            refine lv_iload hx hb dL_isBill_102 (lv_at hl 1 rfl) ?_
            refine lv_if_ne (tgt := 112) hx hb dL_isBill_104 (by decide) (fun h104 => False.elim (absurd (by decide) h104)) (fun h104 => ?_)
            refine lv_bipush (v := (-30)) hx hb dL_isBill_107 (by decide) ?_
            refine lv_goto (tgt := 140) hx hb dL_isBill_109 (by decide) ?_
            refine lv_istore (lv' := [(14, .int (-30)), (13, .int 0), (12, .int 0), (11, .int dd), (10, .int ct), (9, .int (nI (one / 5 % 9))), (8, .int (nI (one % 5))), (0, .ref (ad 0)), (1, .ref (q 1)), (2, .ref (q 2)), (3, .ref (q 3)), (4, .ref (q 7)), (5, .int (nI one)), (6, .int (nI two)), (7, .int (nI three))]) hx hb dL_isBill_140 hl (by decide) rfl (fun ls hl => ?_)
            refine lv_iload hx hb dL_isBill_142 (lv_at hl 0 rfl) ?_
            refine lv_if_lt (tgt := 202) hx hb dL_isBill_144 (by decide) (fun h144 => ?_) (fun h144 => False.elim (absurd (by decide) h144))
            refine lv_aload_n hx hb dL_isBill_202 rfl (lv_at hl 7 rfl) ?_
            refine lv_iconst (v := 2) hx hb dL_isBill_203 (by decide) ?_
            refine lv_iload hx hb dL_isBill_204 (lv_at hl 6 rfl) ?_
            refine lv_iload hx hb dL_isBill_206 (lv_at hl 5 rfl) ?_
            refine lv_iload hx hb dL_isBill_208 (lv_at hl 4 rfl) ?_
            refine lv_iload hx hb dL_isBill_210 (lv_at hl 3 rfl) ?_
            refine kf_i (W2 := LA K q fb ft fn fm fl fu fg) (vx_runSW (As := [.ref (ad 0), .int 2, .int (nI (one % 5)), .int (nI (one / 5 % 9)), .int ct, .int dd]) (rest := []) ⟨hx, hb, hml, hown, hts⟩ (h_bill_ts hDk hlt (nI_ltL (L := 4) h63 (by omega)) (ixb (k := 8) (by decide) (by omega) h70)) (vx_cwSW 6 hts gL_isBill_L_does rfl rfl rfl (by decide +kernel) ⟨(Nat.le_of_ble_eq_true rfl), (Nat.le_of_ble_eq_true rfl)⟩) (lps hG hP hD hS) rfl rfl hl.1 rfl (lv_room (Nat.le_of_ble_eq_true rfl)) dL_isBill_212 ⟨(Nat.le_of_ble_eq_true rfl), (Nat.le_of_ble_eq_true rfl)⟩) hS hP hD (fun r212 w H locs hp hP hD hS => ?_)
            obtain ⟨hv9, hp⟩ := hp
            rw [hv9]
            have hDk : DE K ad td n M w := hp
            refine lv_iload hx hb dL_isBill_215 (lv_at hl 0 rfl) ?_
            refine lv_icmp_ne (tgt := 240) hx hb dL_isBill_217 (by decide) (fun h217 => False.elim (absurd (by decide) h217)) (fun h217 => ?_)
            refine lv_iload hx hb dL_isBill_220 (lv_at hl 0 rfl) ?_
            refine lv_if_lt (tgt := 236) hx hb dL_isBill_222 (by decide) (fun h222 => ?_) (fun h222 => False.elim (absurd (by decide) h222))
            refine lv_iconst (v := 1) hx hb dL_isBill_236 (by decide) ?_
            refine lv_goto (tgt := 241) hx hb dL_isBill_237 (by decide) ?_
            exact kr_z hx hb hr hlocks hP hD hS (Nat.le_of_ble_eq_true rfl) (Nat.le_of_ble_eq_true rfl) (Or.inr rfl) (⟨rfl, _, _, _, _, _, _, _, _, _, _, _, rfl, hDk, hR, hJ.up⟩) dL_isBill_241
          · refine lv_iload hx hb dL_isBill_87 (lv_at hl 1 rfl) ?_
            refine lv_sipush (v := 360) hx hb dL_isBill_89 (by decide) ?_
            refine lv_icmp_gt (tgt := 99) hx hb dL_isBill_92 (by decide) (fun h92 => ?_) (fun h92 => ?_)
            · refine lv_iconst (v := 0) hx hb dL_isBill_99 (by decide) ?_
              refine lv_istore (lv' := [(13, .int 0), (12, .int 0), (11, .int dd), (10, .int ct), (9, .int (nI (one / 5 % 9))), (8, .int (nI (one % 5))), (0, .ref (ad 0)), (1, .ref (q 1)), (2, .ref (q 2)), (3, .ref (q 3)), (4, .ref (q 7)), (5, .int (nI one)), (6, .int (nI two)), (7, .int (nI three))]) hx hb dL_isBill_100 hl (by decide) rfl (fun ls hl => ?_)
              refine lv_iload hx hb dL_isBill_102 (lv_at hl 1 rfl) ?_
              refine lv_if_ne (tgt := 112) hx hb dL_isBill_104 (by decide) (fun h104 => False.elim (absurd (by decide) h104)) (fun h104 => ?_)
              refine lv_bipush (v := (-30)) hx hb dL_isBill_107 (by decide) ?_
              refine lv_goto (tgt := 140) hx hb dL_isBill_109 (by decide) ?_
              refine lv_istore (lv' := [(14, .int (-30)), (13, .int 0), (12, .int 0), (11, .int dd), (10, .int ct), (9, .int (nI (one / 5 % 9))), (8, .int (nI (one % 5))), (0, .ref (ad 0)), (1, .ref (q 1)), (2, .ref (q 2)), (3, .ref (q 3)), (4, .ref (q 7)), (5, .int (nI one)), (6, .int (nI two)), (7, .int (nI three))]) hx hb dL_isBill_140 hl (by decide) rfl (fun ls hl => ?_)
              refine lv_iload hx hb dL_isBill_142 (lv_at hl 0 rfl) ?_
              refine lv_if_lt (tgt := 202) hx hb dL_isBill_144 (by decide) (fun h144 => ?_) (fun h144 => False.elim (absurd (by decide) h144))
              refine lv_aload_n hx hb dL_isBill_202 rfl (lv_at hl 7 rfl) ?_
              refine lv_iconst (v := 2) hx hb dL_isBill_203 (by decide) ?_
              refine lv_iload hx hb dL_isBill_204 (lv_at hl 6 rfl) ?_
              refine lv_iload hx hb dL_isBill_206 (lv_at hl 5 rfl) ?_
              refine lv_iload hx hb dL_isBill_208 (lv_at hl 4 rfl) ?_
              refine lv_iload hx hb dL_isBill_210 (lv_at hl 3 rfl) ?_
              refine kf_i (W2 := LA K q fb ft fn fm fl fu fg) (vx_runSW (As := [.ref (ad 0), .int 2, .int (nI (one % 5)), .int (nI (one / 5 % 9)), .int ct, .int dd]) (rest := []) ⟨hx, hb, hml, hown, hts⟩ (h_bill_ts hDk hlt (nI_ltL (L := 4) h63 (by omega)) (ixb (k := 8) (by decide) (by omega) h70)) (vx_cwSW 6 hts gL_isBill_L_does rfl rfl rfl (by decide +kernel) ⟨(Nat.le_of_ble_eq_true rfl), (Nat.le_of_ble_eq_true rfl)⟩) (lps hG hP hD hS) rfl rfl hl.1 rfl (lv_room (Nat.le_of_ble_eq_true rfl)) dL_isBill_212 ⟨(Nat.le_of_ble_eq_true rfl), (Nat.le_of_ble_eq_true rfl)⟩) hS hP hD (fun r212 w H locs hp hP hD hS => ?_)
              obtain ⟨hv9, hp⟩ := hp
              rw [hv9]
              have hDk : DE K ad td n M w := hp
              refine lv_iload hx hb dL_isBill_215 (lv_at hl 0 rfl) ?_
              refine lv_icmp_ne (tgt := 240) hx hb dL_isBill_217 (by decide) (fun h217 => False.elim (absurd (by decide) h217)) (fun h217 => ?_)
              refine lv_iload hx hb dL_isBill_220 (lv_at hl 0 rfl) ?_
              refine lv_if_lt (tgt := 236) hx hb dL_isBill_222 (by decide) (fun h222 => ?_) (fun h222 => False.elim (absurd (by decide) h222))
              refine lv_iconst (v := 1) hx hb dL_isBill_236 (by decide) ?_
              refine lv_goto (tgt := 241) hx hb dL_isBill_237 (by decide) ?_
              exact kr_z hx hb hr hlocks hP hD hS (Nat.le_of_ble_eq_true rfl) (Nat.le_of_ble_eq_true rfl) (Or.inr rfl) (⟨rfl, _, _, _, _, _, _, _, _, _, _, _, rfl, hDk, hR, hJ.up⟩) dL_isBill_241
            · refine lv_iconst (v := 1) hx hb dL_isBill_95 (by decide) ?_
              refine lv_goto (tgt := 100) hx hb dL_isBill_96 (by decide) ?_
              refine lv_istore (lv' := [(13, .int 1), (12, .int 0), (11, .int dd), (10, .int ct), (9, .int (nI (one / 5 % 9))), (8, .int (nI (one % 5))), (0, .ref (ad 0)), (1, .ref (q 1)), (2, .ref (q 2)), (3, .ref (q 3)), (4, .ref (q 7)), (5, .int (nI one)), (6, .int (nI two)), (7, .int (nI three))]) hx hb dL_isBill_100 hl (by decide) rfl (fun ls hl => ?_)
              refine lv_iload hx hb dL_isBill_102 (lv_at hl 1 rfl) ?_
              refine lv_if_ne (tgt := 112) hx hb dL_isBill_104 (by decide) (fun h104 => False.elim (absurd (by decide) h104)) (fun h104 => ?_)
              refine lv_bipush (v := (-30)) hx hb dL_isBill_107 (by decide) ?_
              refine lv_goto (tgt := 140) hx hb dL_isBill_109 (by decide) ?_
              refine lv_istore (lv' := [(14, .int (-30)), (13, .int 1), (12, .int 0), (11, .int dd), (10, .int ct), (9, .int (nI (one / 5 % 9))), (8, .int (nI (one % 5))), (0, .ref (ad 0)), (1, .ref (q 1)), (2, .ref (q 2)), (3, .ref (q 3)), (4, .ref (q 7)), (5, .int (nI one)), (6, .int (nI two)), (7, .int (nI three))]) hx hb dL_isBill_140 hl (by decide) rfl (fun ls hl => ?_)
              refine lv_iload hx hb dL_isBill_142 (lv_at hl 0 rfl) ?_
              refine lv_if_lt (tgt := 202) hx hb dL_isBill_144 (by decide) (fun h144 => ?_) (fun h144 => False.elim (absurd (by decide) h144))
              refine lv_aload_n hx hb dL_isBill_202 rfl (lv_at hl 7 rfl) ?_
              refine lv_iconst (v := 2) hx hb dL_isBill_203 (by decide) ?_
              refine lv_iload hx hb dL_isBill_204 (lv_at hl 6 rfl) ?_
              refine lv_iload hx hb dL_isBill_206 (lv_at hl 5 rfl) ?_
              refine lv_iload hx hb dL_isBill_208 (lv_at hl 4 rfl) ?_
              refine lv_iload hx hb dL_isBill_210 (lv_at hl 3 rfl) ?_
              refine kf_i (W2 := LA K q fb ft fn fm fl fu fg) (vx_runSW (As := [.ref (ad 0), .int 2, .int (nI (one % 5)), .int (nI (one / 5 % 9)), .int ct, .int dd]) (rest := []) ⟨hx, hb, hml, hown, hts⟩ (h_bill_ts hDk hlt (nI_ltL (L := 4) h63 (by omega)) (ixb (k := 8) (by decide) (by omega) h70)) (vx_cwSW 6 hts gL_isBill_L_does rfl rfl rfl (by decide +kernel) ⟨(Nat.le_of_ble_eq_true rfl), (Nat.le_of_ble_eq_true rfl)⟩) (lps hG hP hD hS) rfl rfl hl.1 rfl (lv_room (Nat.le_of_ble_eq_true rfl)) dL_isBill_212 ⟨(Nat.le_of_ble_eq_true rfl), (Nat.le_of_ble_eq_true rfl)⟩) hS hP hD (fun r212 w H locs hp hP hD hS => ?_)
              obtain ⟨hv9, hp⟩ := hp
              rw [hv9]
              have hDk : DE K ad td n M w := hp
              refine lv_iload hx hb dL_isBill_215 (lv_at hl 0 rfl) ?_
              refine lv_icmp_ne (tgt := 240) hx hb dL_isBill_217 (by decide) (fun h217 => False.elim (absurd (by decide) h217)) (fun h217 => ?_)
              refine lv_iload hx hb dL_isBill_220 (lv_at hl 0 rfl) ?_
              refine lv_if_lt (tgt := 236) hx hb dL_isBill_222 (by decide) (fun h222 => ?_) (fun h222 => False.elim (absurd (by decide) h222))
              refine lv_iconst (v := 1) hx hb dL_isBill_236 (by decide) ?_
              refine lv_goto (tgt := 241) hx hb dL_isBill_237 (by decide) ?_
              exact kr_z hx hb hr hlocks hP hD hS (Nat.le_of_ble_eq_true rfl) (Nat.le_of_ble_eq_true rfl) (Or.inr rfl) (⟨rfl, _, _, _, _, _, _, _, _, _, _, _, rfl, hDk, hR, hJ.up⟩) dL_isBill_241
        · refine lv_iconst (v := 1) hx hb dL_isBill_73 (by decide) ?_
          refine lv_goto (tgt := 78) hx hb dL_isBill_74 (by decide) ?_
          refine lv_istore (lv' := [(12, .int 1), (11, .int dd), (10, .int ct), (9, .int (nI (one / 5 % 9))), (8, .int (nI (one % 5))), (0, .ref (ad 0)), (1, .ref (q 1)), (2, .ref (q 2)), (3, .ref (q 3)), (4, .ref (q 7)), (5, .int (nI one)), (6, .int (nI two)), (7, .int (nI three))]) hx hb dL_isBill_78 hl (by decide) rfl (fun ls hl => ?_)
          refine lv_iload hx hb dL_isBill_80 (lv_at hl 2 rfl) ?_
          refine lv_ldc (v := 1000000) hx hb hown (hts (.constant RL 98 1000000) (by decide +kernel)) dL_isBill_82 ?_
          refine lv_icmp_gt (tgt := 99) hx hb dL_isBill_84 (by decide) (fun h84 => ?_) (fun h84 => ?_)
          · refine lv_iconst (v := 0) hx hb dL_isBill_99 (by decide) ?_
            refine lv_istore (lv' := [(13, .int 0), (12, .int 1), (11, .int dd), (10, .int ct), (9, .int (nI (one / 5 % 9))), (8, .int (nI (one % 5))), (0, .ref (ad 0)), (1, .ref (q 1)), (2, .ref (q 2)), (3, .ref (q 3)), (4, .ref (q 7)), (5, .int (nI one)), (6, .int (nI two)), (7, .int (nI three))]) hx hb dL_isBill_100 hl (by decide) rfl (fun ls hl => ?_)
            refine lv_iload hx hb dL_isBill_102 (lv_at hl 1 rfl) ?_
            refine lv_if_ne (tgt := 112) hx hb dL_isBill_104 (by decide) (fun h104 => ?_) (fun h104 => False.elim (absurd h104 (by decide)))
            refine lv_iload hx hb dL_isBill_112 (lv_at hl 0 rfl) ?_
            refine lv_if_ne (tgt := 122) hx hb dL_isBill_114 (by decide) (fun h114 => False.elim (absurd (by decide) h114)) (fun h114 => ?_)
            refine lv_bipush (v := (-20)) hx hb dL_isBill_117 (by decide) ?_
            refine lv_goto (tgt := 140) hx hb dL_isBill_119 (by decide) ?_
            refine lv_istore (lv' := [(14, .int (-20)), (13, .int 0), (12, .int 1), (11, .int dd), (10, .int ct), (9, .int (nI (one / 5 % 9))), (8, .int (nI (one % 5))), (0, .ref (ad 0)), (1, .ref (q 1)), (2, .ref (q 2)), (3, .ref (q 3)), (4, .ref (q 7)), (5, .int (nI one)), (6, .int (nI two)), (7, .int (nI three))]) hx hb dL_isBill_140 hl (by decide) rfl (fun ls hl => ?_)
            refine lv_iload hx hb dL_isBill_142 (lv_at hl 0 rfl) ?_
            refine lv_if_lt (tgt := 202) hx hb dL_isBill_144 (by decide) (fun h144 => ?_) (fun h144 => False.elim (absurd (by decide) h144))
            refine lv_aload_n hx hb dL_isBill_202 rfl (lv_at hl 7 rfl) ?_
            refine lv_iconst (v := 2) hx hb dL_isBill_203 (by decide) ?_
            refine lv_iload hx hb dL_isBill_204 (lv_at hl 6 rfl) ?_
            refine lv_iload hx hb dL_isBill_206 (lv_at hl 5 rfl) ?_
            refine lv_iload hx hb dL_isBill_208 (lv_at hl 4 rfl) ?_
            refine lv_iload hx hb dL_isBill_210 (lv_at hl 3 rfl) ?_
            refine kf_i (W2 := LA K q fb ft fn fm fl fu fg) (vx_runSW (As := [.ref (ad 0), .int 2, .int (nI (one % 5)), .int (nI (one / 5 % 9)), .int ct, .int dd]) (rest := []) ⟨hx, hb, hml, hown, hts⟩ (h_bill_tc hDk hlt (nI_ltL (L := 4) h63 (by omega)) (nI_ltL (L := 8) h70 (by omega)) (fun q => q.2 h84)) (vx_cwSW 6 hts gL_isBill_L_does rfl rfl rfl (by decide +kernel) ⟨(Nat.le_of_ble_eq_true rfl), (Nat.le_of_ble_eq_true rfl)⟩) (lps hG hP hD hS) rfl rfl hl.1 rfl (lv_room (Nat.le_of_ble_eq_true rfl)) dL_isBill_212 ⟨(Nat.le_of_ble_eq_true rfl), (Nat.le_of_ble_eq_true rfl)⟩) hS hP hD (fun r212 w H locs hp hP hD hS => ?_)
            obtain ⟨hv9, hp⟩ := hp
            rw [hv9]
            have hDk : DE K ad td n M w := hp
            refine lv_iload hx hb dL_isBill_215 (lv_at hl 0 rfl) ?_
            refine lv_icmp_ne (tgt := 240) hx hb dL_isBill_217 (by decide) (fun h217 => False.elim (absurd (by decide) h217)) (fun h217 => ?_)
            refine lv_iload hx hb dL_isBill_220 (lv_at hl 0 rfl) ?_
            refine lv_if_lt (tgt := 236) hx hb dL_isBill_222 (by decide) (fun h222 => ?_) (fun h222 => False.elim (absurd (by decide) h222))
            refine lv_iconst (v := 1) hx hb dL_isBill_236 (by decide) ?_
            refine lv_goto (tgt := 241) hx hb dL_isBill_237 (by decide) ?_
            exact kr_z hx hb hr hlocks hP hD hS (Nat.le_of_ble_eq_true rfl) (Nat.le_of_ble_eq_true rfl) (Or.inr rfl) (⟨rfl, _, _, _, _, _, _, _, _, _, _, _, rfl, hDk, hR, hJ.up⟩) dL_isBill_241
          · refine lv_iload hx hb dL_isBill_87 (lv_at hl 1 rfl) ?_
            refine lv_sipush (v := 360) hx hb dL_isBill_89 (by decide) ?_
            refine lv_icmp_gt (tgt := 99) hx hb dL_isBill_92 (by decide) (fun h92 => ?_) (fun h92 => ?_)
            · refine lv_iconst (v := 0) hx hb dL_isBill_99 (by decide) ?_
              refine lv_istore (lv' := [(13, .int 0), (12, .int 1), (11, .int dd), (10, .int ct), (9, .int (nI (one / 5 % 9))), (8, .int (nI (one % 5))), (0, .ref (ad 0)), (1, .ref (q 1)), (2, .ref (q 2)), (3, .ref (q 3)), (4, .ref (q 7)), (5, .int (nI one)), (6, .int (nI two)), (7, .int (nI three))]) hx hb dL_isBill_100 hl (by decide) rfl (fun ls hl => ?_)
              refine lv_iload hx hb dL_isBill_102 (lv_at hl 1 rfl) ?_
              refine lv_if_ne (tgt := 112) hx hb dL_isBill_104 (by decide) (fun h104 => ?_) (fun h104 => False.elim (absurd h104 (by decide)))
              refine lv_iload hx hb dL_isBill_112 (lv_at hl 0 rfl) ?_
              refine lv_if_ne (tgt := 122) hx hb dL_isBill_114 (by decide) (fun h114 => False.elim (absurd (by decide) h114)) (fun h114 => ?_)
              refine lv_bipush (v := (-20)) hx hb dL_isBill_117 (by decide) ?_
              refine lv_goto (tgt := 140) hx hb dL_isBill_119 (by decide) ?_
              refine lv_istore (lv' := [(14, .int (-20)), (13, .int 0), (12, .int 1), (11, .int dd), (10, .int ct), (9, .int (nI (one / 5 % 9))), (8, .int (nI (one % 5))), (0, .ref (ad 0)), (1, .ref (q 1)), (2, .ref (q 2)), (3, .ref (q 3)), (4, .ref (q 7)), (5, .int (nI one)), (6, .int (nI two)), (7, .int (nI three))]) hx hb dL_isBill_140 hl (by decide) rfl (fun ls hl => ?_)
              refine lv_iload hx hb dL_isBill_142 (lv_at hl 0 rfl) ?_
              refine lv_if_lt (tgt := 202) hx hb dL_isBill_144 (by decide) (fun h144 => ?_) (fun h144 => False.elim (absurd (by decide) h144))
              refine lv_aload_n hx hb dL_isBill_202 rfl (lv_at hl 7 rfl) ?_
              refine lv_iconst (v := 2) hx hb dL_isBill_203 (by decide) ?_
              refine lv_iload hx hb dL_isBill_204 (lv_at hl 6 rfl) ?_
              refine lv_iload hx hb dL_isBill_206 (lv_at hl 5 rfl) ?_
              refine lv_iload hx hb dL_isBill_208 (lv_at hl 4 rfl) ?_
              refine lv_iload hx hb dL_isBill_210 (lv_at hl 3 rfl) ?_
              refine kf_i (W2 := LA K q fb ft fn fm fl fu fg) (vx_runSW (As := [.ref (ad 0), .int 2, .int (nI (one % 5)), .int (nI (one / 5 % 9)), .int ct, .int dd]) (rest := []) ⟨hx, hb, hml, hown, hts⟩ (h_bill_td hDk hlt (nI_ltL (L := 4) h63 (by omega)) (nI_ltL (L := 8) h70 (by omega)) ⟨hct, h84⟩ (fun q => q.2 h92)) (vx_cwSW 6 hts gL_isBill_L_does rfl rfl rfl (by decide +kernel) ⟨(Nat.le_of_ble_eq_true rfl), (Nat.le_of_ble_eq_true rfl)⟩) (lps hG hP hD hS) rfl rfl hl.1 rfl (lv_room (Nat.le_of_ble_eq_true rfl)) dL_isBill_212 ⟨(Nat.le_of_ble_eq_true rfl), (Nat.le_of_ble_eq_true rfl)⟩) hS hP hD (fun r212 w H locs hp hP hD hS => ?_)
              obtain ⟨hv9, hp⟩ := hp
              rw [hv9]
              have hDk : DE K ad td n M w := hp
              refine lv_iload hx hb dL_isBill_215 (lv_at hl 0 rfl) ?_
              refine lv_icmp_ne (tgt := 240) hx hb dL_isBill_217 (by decide) (fun h217 => False.elim (absurd (by decide) h217)) (fun h217 => ?_)
              refine lv_iload hx hb dL_isBill_220 (lv_at hl 0 rfl) ?_
              refine lv_if_lt (tgt := 236) hx hb dL_isBill_222 (by decide) (fun h222 => ?_) (fun h222 => False.elim (absurd (by decide) h222))
              refine lv_iconst (v := 1) hx hb dL_isBill_236 (by decide) ?_
              refine lv_goto (tgt := 241) hx hb dL_isBill_237 (by decide) ?_
              exact kr_z hx hb hr hlocks hP hD hS (Nat.le_of_ble_eq_true rfl) (Nat.le_of_ble_eq_true rfl) (Or.inr rfl) (⟨rfl, _, _, _, _, _, _, _, _, _, _, _, rfl, hDk, hR, hJ.up⟩) dL_isBill_241
            · refine lv_iconst (v := 1) hx hb dL_isBill_95 (by decide) ?_
              refine lv_goto (tgt := 100) hx hb dL_isBill_96 (by decide) ?_
              refine lv_istore (lv' := [(13, .int 1), (12, .int 1), (11, .int dd), (10, .int ct), (9, .int (nI (one / 5 % 9))), (8, .int (nI (one % 5))), (0, .ref (ad 0)), (1, .ref (q 1)), (2, .ref (q 2)), (3, .ref (q 3)), (4, .ref (q 7)), (5, .int (nI one)), (6, .int (nI two)), (7, .int (nI three))]) hx hb dL_isBill_100 hl (by decide) rfl (fun ls hl => ?_)
              refine lv_iload hx hb dL_isBill_102 (lv_at hl 1 rfl) ?_
              refine lv_if_ne (tgt := 112) hx hb dL_isBill_104 (by decide) (fun h104 => ?_) (fun h104 => False.elim (absurd h104 (by decide)))
              refine lv_iload hx hb dL_isBill_112 (lv_at hl 0 rfl) ?_
              refine lv_if_ne (tgt := 122) hx hb dL_isBill_114 (by decide) (fun h114 => ?_) (fun h114 => False.elim (absurd h114 (by decide)))
              refine lv_aload hx hb dL_isBill_122 (lv_at hl 10 rfl) ?_
              refine lv_iconst (v := 0) hx hb dL_isBill_124 (by decide) ?_
              refine kla_ld (n := 2) (j := 0) (z := (nI n)) hx hb hG hP 6 rfl hR.g0 rfl (by omega) (by decide) dL_isBill_125 ?_
              refine lv_bipush (v := 30) hx hb dL_isBill_126 (by decide) ?_
              refine lv_icmp_ne (tgt := 136) hx hb dL_isBill_128 (by decide) (fun h128 => ?_) (fun h128 => ?_)
              · have hb4 : one % 5 < 4 := nI_ltL (L := 4) h63 (by omega)
                have hu : one / 5 % 9 < 8 := nI_ltL (L := 8) h70 (by omega)
                have hn : n < 30 := by have := mt (nI_iff (a := n) (b := 30) (by omega) (by decide)).mpr h128; omega
                have hz := hJ.1.1.2.2.2 n (Nat.le_refl n)
                refine lv_aload hx hb dL_isBill_136 (lv_at hl 10 rfl) ?_
                refine lv_iconst (v := 0) hx hb dL_isBill_138 (by decide) ?_
                refine kla_ld (n := 2) (j := 0) (z := (nI n)) hx hb hG hP 6 rfl hR.g0 rfl (by omega) (by decide) dL_isBill_139 ?_
                refine lv_istore (lv' := [(14, .int (nI n)), (13, .int 1), (12, .int 1), (11, .int dd), (10, .int ct), (9, .int (nI (one / 5 % 9))), (8, .int (nI (one % 5))), (0, .ref (ad 0)), (1, .ref (q 1)), (2, .ref (q 2)), (3, .ref (q 3)), (4, .ref (q 7)), (5, .int (nI one)), (6, .int (nI two)), (7, .int (nI three))]) hx hb dL_isBill_140 hl (by decide) rfl (fun ls hl => ?_)
                refine lv_iload hx hb dL_isBill_142 (lv_at hl 0 rfl) ?_
                refine lv_if_lt (tgt := 202) hx hb dL_isBill_144 (by decide) (fun h144 => False.elim (absurd h144 (nI_pos (by omega)))) (fun h144 => ?_)
                refine lv_aload_n hx hb dL_isBill_147 rfl (lv_at hl 8 rfl) ?_
                refine lv_iconst (v := 2) hx hb dL_isBill_148 (by decide) ?_
                refine lv_iload hx hb dL_isBill_149 (lv_at hl 0 rfl) ?_
                refine lv_imul hx hb dL_isBill_151 ?_
                refine lv_bipush (v := 8) hx hb dL_isBill_152 (by decide) ?_
                refine lv_iload hx hb dL_isBill_154 (lv_at hl 6 rfl) ?_
                refine lv_imul hx hb dL_isBill_156 ?_
                refine lv_iload hx hb dL_isBill_157 (lv_at hl 5 rfl) ?_
                refine lv_iadd hx hb dL_isBill_159 ?_
                refine ktop (z := nI (8 * (one % 5) + one / 5 % 9)) (p8 _ _) ?_
                refine kla_st (n := 60) (j := 2 * n) hx hb hG hP hD hS 0 (x2 n) rfl (by omega) (by decide) dL_isBill_160 (fun H locs hP hD hS => ?_)
                have hP : va_P K.1 kCl (w ++ LA K q (upd fb (2 * n) (nI (8 * (one % 5) + one / 5 % 9))) ft fn fm fl fu fg) H := hP
                have hD : va_D A (w ++ LA K q (upd fb (2 * n) (nI (8 * (one % 5) + one / 5 % 9))) ft fn fm fl fu fg) := hD
                refine lv_aload_n hx hb dL_isBill_161 rfl (lv_at hl 8 rfl) ?_
                refine lv_iconst (v := 2) hx hb dL_isBill_162 (by decide) ?_
                refine lv_iload hx hb dL_isBill_163 (lv_at hl 0 rfl) ?_
                refine lv_imul hx hb dL_isBill_165 ?_
                refine lv_iconst (v := 1) hx hb dL_isBill_166 (by decide) ?_
                refine lv_iadd hx hb dL_isBill_167 ?_
                refine lv_aload hx hb dL_isBill_168 (lv_at hl 11 rfl) ?_
                refine lv_iconst (v := 1) hx hb dL_isBill_170 (by decide) ?_
                refine kla_ld (n := 2) (j := 1) (z := td) hx hb hG hP 6 rfl hR.g1 rfl (by omega) (by decide) dL_isBill_171 ?_
                refine lv_iload hx hb dL_isBill_172 (lv_at hl 3 rfl) ?_
                refine lv_iadd hx hb dL_isBill_174 ?_
                refine kla_st (n := 60) (j := 2 * n + 1) hx hb hG hP hD hS 0 (x21 n) rfl (by omega) (by decide) dL_isBill_175 (fun H locs hP hD hS => ?_)
                have hP : va_P K.1 kCl (w ++ LA K q (upd (upd fb (2 * n) (nI (8 * (one % 5) + one / 5 % 9))) (2 * n + 1) (td + dd)) ft fn fm fl fu fg) H := hP
                have hD : va_D A (w ++ LA K q (upd (upd fb (2 * n) (nI (8 * (one % 5) + one / 5 % 9))) (2 * n + 1) (td + dd)) ft fn fm fl fu fg) := hD
                refine lv_aload_n hx hb dL_isBill_176 rfl (lv_at hl 9 rfl) ?_
                refine lv_iload hx hb dL_isBill_177 (lv_at hl 0 rfl) ?_
                refine lv_iconst (v := 0) hx hb dL_isBill_179 (by decide) ?_
                refine kla_st (n := 60) (j := n) hx hb hG hP hD hS 1 rfl rfl (by omega) (by decide) dL_isBill_180 (fun H locs hP hD hS => ?_)
                have hP : va_P K.1 kCl (w ++ LA K q (upd (upd fb (2 * n) (nI (8 * (one % 5) + one / 5 % 9))) (2 * n + 1) (td + dd)) (upd ft n 0) fn fm fl fu fg) H := hP
                have hD : va_D A (w ++ LA K q (upd (upd fb (2 * n) (nI (8 * (one % 5) + one / 5 % 9))) (2 * n + 1) (td + dd)) (upd ft n 0) fn fm fl fu fg) := hD
                refine lv_aload_n hx hb dL_isBill_181 rfl (lv_at hl 9 rfl) ?_
                refine lv_bipush (v := 30) hx hb dL_isBill_182 (by decide) ?_
                refine lv_iload hx hb dL_isBill_184 (lv_at hl 0 rfl) ?_
                refine lv_iadd hx hb dL_isBill_186 ?_
                refine lv_iconst (v := (-1)) hx hb dL_isBill_187 (by decide) ?_
                refine kla_st (n := 60) (j := 30 + n) hx hb hG hP hD hS 1 (x30 n) rfl (by omega) (by decide) dL_isBill_188 (fun H locs hP hD hS => ?_)
                have hP : va_P K.1 kCl (w ++ LA K q (upd (upd fb (2 * n) (nI (8 * (one % 5) + one / 5 % 9))) (2 * n + 1) (td + dd)) (upd (upd ft n 0) (30 + n) (-1)) fn fm fl fu fg) H := hP
                have hD : va_D A (w ++ LA K q (upd (upd fb (2 * n) (nI (8 * (one % 5) + one / 5 % 9))) (2 * n + 1) (td + dd)) (upd (upd ft n 0) (30 + n) (-1)) fn fm fl fu fg) := hD
                refine lv_aload_n hx hb dL_isBill_189 rfl (lv_at hl 10 rfl) ?_
                refine lv_iload hx hb dL_isBill_190 (lv_at hl 0 rfl) ?_
                refine lv_iconst (v := 0) hx hb dL_isBill_192 (by decide) ?_
                refine kla_st (n := 30) (j := n) hx hb hG hP hD hS 2 rfl rfl (by omega) (by decide) dL_isBill_193 (fun H locs hP hD hS => ?_)
                have hP : va_P K.1 kCl (w ++ LA K q (upd (upd fb (2 * n) (nI (8 * (one % 5) + one / 5 % 9))) (2 * n + 1) (td + dd)) (upd (upd ft n 0) (30 + n) (-1)) (upd fn n 0) fm fl fu fg) H := hP
                have hD : va_D A (w ++ LA K q (upd (upd fb (2 * n) (nI (8 * (one % 5) + one / 5 % 9))) (2 * n + 1) (td + dd)) (upd (upd ft n 0) (30 + n) (-1)) (upd fn n 0) fm fl fu fg) := hD
                refine lv_aload hx hb dL_isBill_194 (lv_at hl 11 rfl) ?_
                refine lv_iconst (v := 0) hx hb dL_isBill_196 (by decide) ?_
                refine lv_dup2_11 hx hb dL_isBill_197 rfl rfl ?_
                refine kla_ld (n := 2) (j := 0) (z := (nI n)) hx hb hG hP 6 rfl hR.g0 rfl (by omega) (by decide) dL_isBill_198 ?_
                refine lv_iconst (v := 1) hx hb dL_isBill_199 (by decide) ?_
                refine lv_iadd hx hb dL_isBill_200 ?_
                refine ktop (z := nI (n + 1)) (nI_1 n) ?_
                refine kla_st (n := 2) (j := 0) hx hb hG hP hD hS 6 rfl rfl (by omega) (by decide) dL_isBill_201 (fun H locs hP hD hS => ?_)
                have hP : va_P K.1 kCl (w ++ LA K q (upd (upd fb (2 * n) (nI (8 * (one % 5) + one / 5 % 9))) (2 * n + 1) (td + dd)) (upd (upd ft n 0) (30 + n) (-1)) (upd fn n 0) fm fl fu (upd fg 0 (nI (n + 1)))) H := hP
                have hD : va_D A (w ++ LA K q (upd (upd fb (2 * n) (nI (8 * (one % 5) + one / 5 % 9))) (2 * n + 1) (td + dd)) (upd (upd ft n 0) (30 + n) (-1)) (upd fn n 0) fm fl fu (upd fg 0 (nI (n + 1)))) := hD
                refine lv_aload_n hx hb dL_isBill_202 rfl (lv_at hl 7 rfl) ?_
                refine lv_iconst (v := 2) hx hb dL_isBill_203 (by decide) ?_
                refine lv_iload hx hb dL_isBill_204 (lv_at hl 6 rfl) ?_
                refine lv_iload hx hb dL_isBill_206 (lv_at hl 5 rfl) ?_
                refine lv_iload hx hb dL_isBill_208 (lv_at hl 4 rfl) ?_
                refine lv_iload hx hb dL_isBill_210 (lv_at hl 3 rfl) ?_
                refine kf_i (W2 := LA K q (upd (upd fb (2 * n) (nI (8 * (one % 5) + one / 5 % 9))) (2 * n + 1) (td + dd)) (upd (upd ft n 0) (30 + n) (-1)) (upd fn n 0) fm fl fu (upd fg 0 (nI (n + 1)))) (vx_runSW (As := [.ref (ad 0), .int 2, .int (nI (one % 5)), .int (nI (one / 5 % 9)), .int ct, .int dd]) (rest := []) ⟨hx, hb, hml, hown, hts⟩ (h_bill hDk hb4 hu ⟨hct, h84⟩ ⟨hdd, h92⟩ hn hz.1 hz.2.1 hz.2.2.1 hz.2.2.2) (vx_cwSW 6 hts gL_isBill_L_does rfl rfl rfl (by decide +kernel) ⟨(Nat.le_of_ble_eq_true rfl), (Nat.le_of_ble_eq_true rfl)⟩) (lps hG hP hD hS) rfl rfl hl.1 rfl (lv_room (Nat.le_of_ble_eq_true rfl)) dL_isBill_212 ⟨(Nat.le_of_ble_eq_true rfl), (Nat.le_of_ble_eq_true rfl)⟩) hS hP hD (fun r212 w H locs hp hP hD hS => ?_)
                obtain ⟨hv9, hp⟩ := hp
                rw [hv9]
                have hDk : DE K ad td (n + 1) (billM td n M (one % 5) (one / 5 % 9) ct dd) w := hp
                refine lv_iload hx hb dL_isBill_215 (lv_at hl 0 rfl) ?_
                refine lv_icmp_ne (tgt := 240) hx hb dL_isBill_217 (by decide) (fun h217 => False.elim (absurd rfl h217)) (fun h217 => ?_)
                refine lv_iload hx hb dL_isBill_220 (lv_at hl 0 rfl) ?_
                refine lv_if_lt (tgt := 236) hx hb dL_isBill_222 (by decide) (fun h222 => False.elim (absurd h222 (nI_pos (by omega)))) (fun h222 => ?_)
                refine lv_aload_n hx hb dL_isBill_225 rfl (lv_at hl 7 rfl) ?_
                refine lv_iload hx hb dL_isBill_226 (lv_at hl 0 rfl) ?_
                obtain ⟨bad, rm, kq, idx, hQ⟩ := hDk
                refine kf_i (W2 := LA K q (upd (upd fb (2 * n) (nI (8 * (one % 5) + one / 5 % 9))) (2 * n + 1) (td + dd)) (upd (upd ft n 0) (30 + n) (-1)) (upd fn n 0) fm fl fu (upd fg 0 (nI (n + 1)))) (va_runV (As := [.int (nI n)]) (rest := []) ⟨hx, hb, hml, hown, hts⟩ (c_X1_amount hQ (Nat.lt_succ_self n)) (cwV 1 hts gL_isBill_X1_amount rfl rfl rfl (by decide +kernel) ⟨(Nat.le_of_ble_eq_true rfl), (Nat.le_of_ble_eq_true rfl)⟩) (lpv (q0 := 0) hG hP hD hS hQ.x rfl) rfl rfl hl.1 rfl (lv_room (Nat.le_of_ble_eq_true rfl)) dL_isBill_228 ⟨(Nat.le_of_ble_eq_true rfl), (Nat.le_of_ble_eq_true rfl)⟩) hS hP hD (fun r228 w H locs hp hP hD hS => ?_)
                obtain ⟨hv9, hp⟩ := hp
                rw [hv9]
                have hDk : DE K ad td (n + 1) (billM td n M (one % 5) (one / 5 % 9) ct dd) w := ⟨_, _, _, _, hp⟩
                refine ktop (z := ct) bill_4 ?_
                refine lv_iload hx hb dL_isBill_231 (lv_at hl 4 rfl) ?_
                refine lv_icmp_ne (tgt := 240) hx hb dL_isBill_233 (by decide) (fun h233 => False.elim (absurd rfl h233)) (fun h233 => ?_)
                refine lv_iconst (v := 1) hx hb dL_isBill_236 (by decide) ?_
                refine lv_goto (tgt := 241) hx hb dL_isBill_237 (by decide) ?_
                exact kr_z hx hb hr hlocks hP hD hS (Nat.le_of_ble_eq_true rfl) (Nat.le_of_ble_eq_true rfl) (Or.inr rfl) (⟨rfl, _, _, _, _, _, _, _, _, _, _, _, rfl, hDk, hR.bill hn hb4 hu hz.1 hz.2.2.1 hz.2.2.2, hJ.bill hb4 hu ⟨hct, h84⟩ ⟨hdd, h92⟩ hn (by omega)⟩) dL_isBill_241
              · refine lv_bipush (v := (-10)) hx hb dL_isBill_131 (by decide) ?_
                refine lv_goto (tgt := 140) hx hb dL_isBill_133 (by decide) ?_
                refine lv_istore (lv' := [(14, .int (-10)), (13, .int 1), (12, .int 1), (11, .int dd), (10, .int ct), (9, .int (nI (one / 5 % 9))), (8, .int (nI (one % 5))), (0, .ref (ad 0)), (1, .ref (q 1)), (2, .ref (q 2)), (3, .ref (q 3)), (4, .ref (q 7)), (5, .int (nI one)), (6, .int (nI two)), (7, .int (nI three))]) hx hb dL_isBill_140 hl (by decide) rfl (fun ls hl => ?_)
                refine lv_iload hx hb dL_isBill_142 (lv_at hl 0 rfl) ?_
                refine lv_if_lt (tgt := 202) hx hb dL_isBill_144 (by decide) (fun h144 => ?_) (fun h144 => False.elim (absurd (by decide) h144))
                refine lv_aload_n hx hb dL_isBill_202 rfl (lv_at hl 7 rfl) ?_
                refine lv_iconst (v := 2) hx hb dL_isBill_203 (by decide) ?_
                refine lv_iload hx hb dL_isBill_204 (lv_at hl 6 rfl) ?_
                refine lv_iload hx hb dL_isBill_206 (lv_at hl 5 rfl) ?_
                refine lv_iload hx hb dL_isBill_208 (lv_at hl 4 rfl) ?_
                refine lv_iload hx hb dL_isBill_210 (lv_at hl 3 rfl) ?_
                refine kf_i (W2 := LA K q fb ft fn fm fl fu fg) (vx_runSW (As := [.ref (ad 0), .int 2, .int (nI (one % 5)), .int (nI (one / 5 % 9)), .int ct, .int dd]) (rest := []) ⟨hx, hb, hml, hown, hts⟩ (h_bill_tp hDk hlt (nI_ltL (L := 4) h63 (by omega)) (nI_ltL (L := 8) h70 (by omega)) ⟨hct, h84⟩ ⟨hdd, h92⟩ ((nI_iff (b := 30) (by omega) (by decide)).mp h128)) (vx_cwSW 6 hts gL_isBill_L_does rfl rfl rfl (by decide +kernel) ⟨(Nat.le_of_ble_eq_true rfl), (Nat.le_of_ble_eq_true rfl)⟩) (lps hG hP hD hS) rfl rfl hl.1 rfl (lv_room (Nat.le_of_ble_eq_true rfl)) dL_isBill_212 ⟨(Nat.le_of_ble_eq_true rfl), (Nat.le_of_ble_eq_true rfl)⟩) hS hP hD (fun r212 w H locs hp hP hD hS => ?_)
                obtain ⟨hv9, hp⟩ := hp
                rw [hv9]
                have hDk : DE K ad td n M w := hp
                refine lv_iload hx hb dL_isBill_215 (lv_at hl 0 rfl) ?_
                refine lv_icmp_ne (tgt := 240) hx hb dL_isBill_217 (by decide) (fun h217 => False.elim (absurd (by decide) h217)) (fun h217 => ?_)
                refine lv_iload hx hb dL_isBill_220 (lv_at hl 0 rfl) ?_
                refine lv_if_lt (tgt := 236) hx hb dL_isBill_222 (by decide) (fun h222 => ?_) (fun h222 => False.elim (absurd (by decide) h222))
                refine lv_iconst (v := 1) hx hb dL_isBill_236 (by decide) ?_
                refine lv_goto (tgt := 241) hx hb dL_isBill_237 (by decide) ?_
                exact kr_z hx hb hr hlocks hP hD hS (Nat.le_of_ble_eq_true rfl) (Nat.le_of_ble_eq_true rfl) (Or.inr rfl) (⟨rfl, _, _, _, _, _, _, _, _, _, _, _, rfl, hDk, hR, hJ.up⟩) dL_isBill_241
    refine lv_iload hx hb dL_isBill_37 (lv_at hl 10 rfl) ?_
    refine lv_bipush (v := 20) hx hb dL_isBill_39 (by decide) ?_
    refine lv_irem hx hb dL_isBill_41 (by decide) ?_
    refine ktop (z := nI (three % 20)) (nI_rem (b := 20) (by omega) (by decide)) ?_
    refine lv_if_ne (tgt := 51) hx hb dL_isBill_42 (by decide) (fun h42 => ?_) (fun h42 => ?_)
    · refine lv_iconst (v := 1) hx hb dL_isBill_51 (by decide) ?_
      refine lv_iload hx hb dL_isBill_52 (lv_at hl 10 rfl) ?_
      refine lv_bipush (v := 120) hx hb dL_isBill_54 (by decide) ?_
      refine lv_irem hx hb dL_isBill_56 (by decide) ?_
      refine ktop (z := nI (three % 120)) (nI_rem (b := 120) (by omega) (by decide)) ?_
      refine lv_iadd hx hb dL_isBill_57 ?_
      exact J58 _ (dd1 (by omega))
    · refine lv_sipush (v := 361) hx hb dL_isBill_45 (by decide) ?_
      refine lv_goto (tgt := 58) hx hb dL_isBill_48 (by decide) ?_
      exact J58 _ (by decide)
  refine lv_iload hx hb dL_isBill_15 (lv_at hl 8 rfl) ?_
  refine lv_bipush (v := 40) hx hb dL_isBill_17 (by decide) ?_
  refine lv_irem hx hb dL_isBill_19 (by decide) ?_
  refine ktop (z := nI (two % 40)) (nI_rem (b := 40) (by omega) (by decide)) ?_
  refine lv_if_ne (tgt := 28) hx hb dL_isBill_20 (by decide) (fun h20 => ?_) (fun h20 => ?_)
  · refine lv_iconst (v := 1) hx hb dL_isBill_28 (by decide) ?_
    refine lv_iload hx hb dL_isBill_29 (lv_at hl 8 rfl) ?_
    refine lv_bipush (v := 30) hx hb dL_isBill_31 (by decide) ?_
    refine lv_imul hx hb dL_isBill_33 ?_
    refine lv_iadd hx hb dL_isBill_34 ?_
    exact J35 _ (am30 (by omega))
  · refine lv_ldc (v := 1000001) hx hb hown (hts (.constant RL 110 1000001) (by decide +kernel)) dL_isBill_23 ?_
    refine lv_goto (tgt := 35) hx hb dL_isBill_25 (by decide) ?_
    exact J35 _ (by decide)
set_option maxHeartbeats 4000000 in
set_option maxRecDepth 100000 in
theorem c_isApproved_0 {l : Launch} {K : Ks} {A : Nat → Prop} {ad q : Nat → Nat} {sn : Nat} {td : Int32} {n : Nat} {M : Nat → Nat → Int32} {w : va_W} {fb ft fn fm fl fu fg : Nat → Int32} (hlt : l.stackTraces = false) (hDk : DE K ad td n M w) (hR : LR td n M fb ft fn fm fl fu fg) (hJ : Jv sn td n M) (hsn : sn ≤ 1000) {i : Nat} (hile : i ≤ n) : Met l yL_isApproved wsL_isApproved (kR 7 2 12) (kPr K A [.ref (ad 0), .ref (q 1), .ref (q 2), .ref (q 7), .int (nI i), .int 0] (w ++ LA K q fb ft fn fm fl fu fg)) (kQi K A (fun r w1 => r = 1 ∧ LSw K ad q (sn + 1) w1)) 2 12 A := by
  have hn30 := hJ.1.1.1
  have hok := hJ.1.ok
  refine kent (cc := cL_isApproved) (maxL := 8) (ret := (some .boolean)) (by decide) rfl (Nat.le_of_ble_eq_true rfl) ?_
  intro p e s m args below meth c ls hx hb hr hts hown hlocks hml hini hG hP hD hS hl
  have hl : lv_has ls 8 [(0, .ref (ad 0)), (1, .ref (q 1)), (2, .ref (q 2)), (3, .ref (q 7)), (4, .int (nI i)), (5, .int 0)] := hl
  refine lv_iload hx hb dL_isApproved_0 (lv_at hl 4 rfl) ?_
  refine lv_aload_n hx hb dL_isApproved_2 rfl (lv_at hl 3 rfl) ?_
  refine lv_iconst (v := 0) hx hb dL_isApproved_3 (by decide) ?_
  refine kla_ld (n := 2) (j := 0) (z := (nI n)) hx hb hG hP 6 rfl hR.g0 rfl (by omega) (by decide) dL_isApproved_4 ?_
  refine lv_icmp_ne (tgt := 44) hx hb dL_isApproved_5 (by decide) (fun h5 => ?_) (fun h5 => ?_)
  · have hin : i < n := ltn hile (by omega) h5
    refine lv_iload hx hb dL_isApproved_44 (lv_at hl 5 rfl) ?_
    refine lv_if_eq (tgt := 134) hx hb dL_isApproved_46 (by decide) (fun h46 => ?_) (fun h46 => False.elim (absurd (by decide) h46))
    refine lv_aload_n hx hb dL_isApproved_134 rfl (lv_at hl 2 rfl) ?_
    refine lv_iload hx hb dL_isApproved_135 (lv_at hl 4 rfl) ?_
    refine kla_ld (n := 60) (j := i) (z := (M 6 i)) hx hb hG hP 1 rfl (hR.t0 hin) rfl (by omega) (by decide) dL_isApproved_137 ?_
    refine lv_if_eq (tgt := 149) hx hb dL_isApproved_138 (by decide) (fun h138 => ?_) (fun h138 => ?_)
    · refine lv_iconst (v := 1) hx hb dL_isApproved_149 (by decide) ?_
      refine lv_goto (tgt := 154) hx hb dL_isApproved_150 (by decide) ?_
      refine lv_istore (lv' := [(6, .int 1), (0, .ref (ad 0)), (1, .ref (q 1)), (2, .ref (q 2)), (3, .ref (q 7)), (4, .int (nI i)), (5, .int 0)]) hx hb dL_isApproved_154 hl (by decide) rfl (fun ls hl => ?_)
      refine lv_aload_n hx hb dL_isApproved_156 rfl (lv_at hl 2 rfl) ?_
      refine lv_iconst (v := 2) hx hb dL_isApproved_157 (by decide) ?_
      refine lv_iload hx hb dL_isApproved_158 (lv_at hl 5 rfl) ?_
      refine lv_imul hx hb dL_isApproved_160 ?_
      refine lv_iconst (v := 1) hx hb dL_isApproved_161 (by decide) ?_
      refine lv_iadd hx hb dL_isApproved_162 ?_
      refine kla_ld (n := 60) (j := 2 * i + 1) (z := (M 5 i)) hx hb hG hP 0 (x21 i) (hR.b1 hin) rfl (by omega) (by decide) dL_isApproved_163 ?_
      refine lv_aload_n hx hb dL_isApproved_164 rfl (lv_at hl 4 rfl) ?_
      refine lv_iconst (v := 1) hx hb dL_isApproved_165 (by decide) ?_
      refine kla_ld (n := 2) (j := 1) (z := td) hx hb hG hP 6 rfl hR.g1 rfl (by omega) (by decide) dL_isApproved_166 ?_
      refine lv_icmp_gt (tgt := 174) hx hb dL_isApproved_167 (by decide) (fun h167 => ?_) (fun h167 => ?_)
      · refine lv_iconst (v := 0) hx hb dL_isApproved_174 (by decide) ?_
        refine lv_istore (lv' := [(7, .int 0), (6, .int 1), (0, .ref (ad 0)), (1, .ref (q 1)), (2, .ref (q 2)), (3, .ref (q 7)), (4, .int (nI i)), (5, .int 0)]) hx hb dL_isApproved_175 hl (by decide) rfl (fun ls hl => ?_)
        refine lv_aload_n hx hb dL_isApproved_177 rfl (lv_at hl 4 rfl) ?_
        refine lv_iload hx hb dL_isApproved_178 (lv_at hl 6 rfl) ?_
        refine lv_iload hx hb dL_isApproved_180 (lv_at hl 1 rfl) ?_
        refine lv_if_ne (tgt := 192) hx hb dL_isApproved_182 (by decide) (fun h182 => ?_) (fun h182 => False.elim (absurd h182 (by decide)))
        refine lv_iload hx hb dL_isApproved_192 (lv_at hl 0 rfl) ?_
        refine lv_if_eq (tgt := 201) hx hb dL_isApproved_194 (by decide) (fun h194 => ?_) (fun h194 => False.elim (absurd (by decide) h194))
        refine lv_iconst (v := 1) hx hb dL_isApproved_201 (by decide) ?_
        refine kla_st (n := 60) (j := i) hx hb hG hP hD hS 1 rfl rfl (by omega) (by decide) dL_isApproved_202 (fun H locs hP hD hS => ?_)
        have hP : va_P K.1 kCl (w ++ LA K q fb (upd ft i 1) fn fm fl fu fg) H := hP
        have hD : va_D A (w ++ LA K q fb (upd ft i 1) fn fm fl fu fg) := hD
        refine lv_aload_n hx hb dL_isApproved_203 rfl (lv_at hl 2 rfl) ?_
        refine lv_iconst (v := 3) hx hb dL_isApproved_204 (by decide) ?_
        refine lv_iload hx hb dL_isApproved_205 (lv_at hl 6 rfl) ?_
        refine lv_iconst (v := 0) hx hb dL_isApproved_207 (by decide) ?_
        refine lv_iconst (v := 0) hx hb dL_isApproved_208 (by decide) ?_
        refine lv_iconst (v := 0) hx hb dL_isApproved_209 (by decide) ?_
        refine kf_i (W2 := LA K q fb (upd ft i 1) fn fm fl fu fg) (vx_runSW (As := [.ref (ad 0), .int 3, .int (nI i), .int 0, .int 0, .int 0]) (rest := []) ⟨hx, hb, hml, hown, hts⟩ (h_approve_a hDk hin (Or.inl h138) (i32_nle.mpr h167)) (vx_cwSW 6 hts gL_isApproved_L_does rfl rfl rfl (by decide +kernel) ⟨(Nat.le_of_ble_eq_true rfl), (Nat.le_of_ble_eq_true rfl)⟩) (lps hG hP hD hS) rfl rfl hl.1 rfl (lv_room (Nat.le_of_ble_eq_true rfl)) dL_isApproved_210 ⟨(Nat.le_of_ble_eq_true rfl), (Nat.le_of_ble_eq_true rfl)⟩) hS hP hD (fun r210 w H locs hp hP hD hS => ?_)
        obtain ⟨hv9, hp⟩ := hp
        rw [hv9]
        have hDk : DE K ad td n (up2 M 6 i 1) w := hp
        refine lv_iload hx hb dL_isApproved_213 (lv_at hl 1 rfl) ?_
        refine lv_if_ne (tgt := 223) hx hb dL_isApproved_215 (by decide) (fun h215 => ?_) (fun h215 => False.elim (absurd h215 (by decide)))
        refine lv_iload hx hb dL_isApproved_223 (lv_at hl 0 rfl) ?_
        refine lv_if_eq (tgt := 232) hx hb dL_isApproved_225 (by decide) (fun h225 => ?_) (fun h225 => False.elim (absurd (by decide) h225))
        refine lv_iconst (v := 0) hx hb dL_isApproved_232 (by decide) ?_
        refine lv_icmp_ne (tgt := 240) hx hb dL_isApproved_233 (by decide) (fun h233 => False.elim (absurd (by decide) h233)) (fun h233 => ?_)
        refine lv_iconst (v := 1) hx hb dL_isApproved_236 (by decide) ?_
        refine lv_goto (tgt := 241) hx hb dL_isApproved_237 (by decide) ?_
        exact kr_z hx hb hr hlocks hP hD hS (Nat.le_of_ble_eq_true rfl) (Nat.le_of_ble_eq_true rfl) (Or.inr rfl) (⟨rfl, _, _, _, _, _, _, _, _, _, _, _, rfl, hDk, hR.st (by omega), hJ.apprA hin (Or.inl h138) (i32_nle.mpr h167)⟩) dL_isApproved_241
      · refine lv_iconst (v := 1) hx hb dL_isApproved_170 (by decide) ?_
        refine lv_goto (tgt := 175) hx hb dL_isApproved_171 (by decide) ?_
        refine lv_istore (lv' := [(7, .int 1), (6, .int 1), (0, .ref (ad 0)), (1, .ref (q 1)), (2, .ref (q 2)), (3, .ref (q 7)), (4, .int (nI i)), (5, .int 0)]) hx hb dL_isApproved_175 hl (by decide) rfl (fun ls hl => ?_)
        refine lv_aload_n hx hb dL_isApproved_177 rfl (lv_at hl 4 rfl) ?_
        refine lv_iload hx hb dL_isApproved_178 (lv_at hl 6 rfl) ?_
        refine lv_iload hx hb dL_isApproved_180 (lv_at hl 1 rfl) ?_
        refine lv_if_ne (tgt := 192) hx hb dL_isApproved_182 (by decide) (fun h182 => ?_) (fun h182 => False.elim (absurd h182 (by decide)))
        refine lv_iload hx hb dL_isApproved_192 (lv_at hl 0 rfl) ?_
        refine lv_if_eq (tgt := 201) hx hb dL_isApproved_194 (by decide) (fun h194 => False.elim (absurd h194 (by decide))) (fun h194 => ?_)
        refine lv_iconst (v := 4) hx hb dL_isApproved_197 (by decide) ?_
        refine lv_goto (tgt := 202) hx hb dL_isApproved_198 (by decide) ?_
        refine kla_st (n := 60) (j := i) hx hb hG hP hD hS 1 rfl rfl (by omega) (by decide) dL_isApproved_202 (fun H locs hP hD hS => ?_)
        have hP : va_P K.1 kCl (w ++ LA K q fb (upd ft i 4) fn fm fl fu fg) H := hP
        have hD : va_D A (w ++ LA K q fb (upd ft i 4) fn fm fl fu fg) := hD
        refine lv_aload_n hx hb dL_isApproved_203 rfl (lv_at hl 2 rfl) ?_
        refine lv_iconst (v := 3) hx hb dL_isApproved_204 (by decide) ?_
        refine lv_iload hx hb dL_isApproved_205 (lv_at hl 6 rfl) ?_
        refine lv_iconst (v := 0) hx hb dL_isApproved_207 (by decide) ?_
        refine lv_iconst (v := 0) hx hb dL_isApproved_208 (by decide) ?_
        refine lv_iconst (v := 0) hx hb dL_isApproved_209 (by decide) ?_
        refine kf_i (W2 := LA K q fb (upd ft i 4) fn fm fl fu fg) (vx_runSW (As := [.ref (ad 0), .int 3, .int (nI i), .int 0, .int 0, .int 0]) (rest := []) ⟨hx, hb, hml, hown, hts⟩ (h_approve_p hDk hin (hok i hin) (Or.inl h138) (i32_nlt.mp h167)) (vx_cwSW 6 hts gL_isApproved_L_does rfl rfl rfl (by decide +kernel) ⟨(Nat.le_of_ble_eq_true rfl), (Nat.le_of_ble_eq_true rfl)⟩) (lps hG hP hD hS) rfl rfl hl.1 rfl (lv_room (Nat.le_of_ble_eq_true rfl)) dL_isApproved_210 ⟨(Nat.le_of_ble_eq_true rfl), (Nat.le_of_ble_eq_true rfl)⟩) hS hP hD (fun r210 w H locs hp hP hD hS => ?_)
        obtain ⟨hv9, hp⟩ := hp
        rw [hv9]
        have hDk : DE K ad td n (payM M i (M 4 i) 4) w := hp
        refine lv_iload hx hb dL_isApproved_213 (lv_at hl 1 rfl) ?_
        refine lv_if_ne (tgt := 223) hx hb dL_isApproved_215 (by decide) (fun h215 => ?_) (fun h215 => False.elim (absurd h215 (by decide)))
        refine lv_iload hx hb dL_isApproved_223 (lv_at hl 0 rfl) ?_
        refine lv_if_eq (tgt := 232) hx hb dL_isApproved_225 (by decide) (fun h225 => False.elim (absurd h225 (by decide))) (fun h225 => ?_)
        refine lv_iconst (v := 1) hx hb dL_isApproved_228 (by decide) ?_
        refine lv_goto (tgt := 233) hx hb dL_isApproved_229 (by decide) ?_
        refine lv_icmp_ne (tgt := 240) hx hb dL_isApproved_233 (by decide) (fun h233 => False.elim (absurd (by decide) h233)) (fun h233 => ?_)
        refine lv_iconst (v := 1) hx hb dL_isApproved_236 (by decide) ?_
        refine lv_goto (tgt := 241) hx hb dL_isApproved_237 (by decide) ?_
        exact kr_z hx hb hr hlocks hP hD hS (Nat.le_of_ble_eq_true rfl) (Nat.le_of_ble_eq_true rfl) (Or.inr rfl) (⟨rfl, _, _, _, _, _, _, _, _, _, _, _, rfl, hDk, hR.pay hin hn30 ((hJ.1.2.1 i hin).unp (n02 (Or.inl h138))).2.1, hJ.apprP hin (Or.inl h138)⟩) dL_isApproved_241
    · refine lv_aload_n hx hb dL_isApproved_141 rfl (lv_at hl 2 rfl) ?_
      refine lv_iload hx hb dL_isApproved_142 (lv_at hl 4 rfl) ?_
      refine kla_ld (n := 60) (j := i) (z := (M 6 i)) hx hb hG hP 1 rfl (hR.t0 hin) rfl (by omega) (by decide) dL_isApproved_144 ?_
      refine lv_iconst (v := 2) hx hb dL_isApproved_145 (by decide) ?_
      refine lv_icmp_ne (tgt := 153) hx hb dL_isApproved_146 (by decide) (fun h146 => ?_) (fun h146 => ?_)
      · refine lv_iconst (v := 0) hx hb dL_isApproved_153 (by decide) ?_
        refine lv_istore (lv' := [(6, .int 0), (0, .ref (ad 0)), (1, .ref (q 1)), (2, .ref (q 2)), (3, .ref (q 7)), (4, .int (nI i)), (5, .int 0)]) hx hb dL_isApproved_154 hl (by decide) rfl (fun ls hl => ?_)
        refine lv_aload_n hx hb dL_isApproved_156 rfl (lv_at hl 2 rfl) ?_
        refine lv_iconst (v := 2) hx hb dL_isApproved_157 (by decide) ?_
        refine lv_iload hx hb dL_isApproved_158 (lv_at hl 5 rfl) ?_
        refine lv_imul hx hb dL_isApproved_160 ?_
        refine lv_iconst (v := 1) hx hb dL_isApproved_161 (by decide) ?_
        refine lv_iadd hx hb dL_isApproved_162 ?_
        refine kla_ld (n := 60) (j := 2 * i + 1) (z := (M 5 i)) hx hb hG hP 0 (x21 i) (hR.b1 hin) rfl (by omega) (by decide) dL_isApproved_163 ?_
        refine lv_aload_n hx hb dL_isApproved_164 rfl (lv_at hl 4 rfl) ?_
        refine lv_iconst (v := 1) hx hb dL_isApproved_165 (by decide) ?_
        refine kla_ld (n := 2) (j := 1) (z := td) hx hb hG hP 6 rfl hR.g1 rfl (by omega) (by decide) dL_isApproved_166 ?_
        refine lv_icmp_gt (tgt := 174) hx hb dL_isApproved_167 (by decide) (fun h167 => ?_) (fun h167 => ?_)
        · refine lv_iconst (v := 0) hx hb dL_isApproved_174 (by decide) ?_
          refine lv_istore (lv' := [(7, .int 0), (6, .int 0), (0, .ref (ad 0)), (1, .ref (q 1)), (2, .ref (q 2)), (3, .ref (q 7)), (4, .int (nI i)), (5, .int 0)]) hx hb dL_isApproved_175 hl (by decide) rfl (fun ls hl => ?_)
          refine lv_aload_n hx hb dL_isApproved_177 rfl (lv_at hl 4 rfl) ?_
          refine lv_iload hx hb dL_isApproved_178 (lv_at hl 6 rfl) ?_
          refine lv_iload hx hb dL_isApproved_180 (lv_at hl 1 rfl) ?_
          refine lv_if_ne (tgt := 192) hx hb dL_isApproved_182 (by decide) (fun h182 => False.elim (absurd (by decide) h182)) (fun h182 => ?_)
          refine lv_aload_n hx hb dL_isApproved_185 rfl (lv_at hl 4 rfl) ?_
          refine lv_iload hx hb dL_isApproved_186 (lv_at hl 6 rfl) ?_
          refine kla_ld (n := 60) (j := i) (z := (M 6 i)) hx hb hG hP 1 rfl (hR.t0 hin) rfl (by omega) (by decide) dL_isApproved_188 ?_
          refine lv_goto (tgt := 202) hx hb dL_isApproved_189 (by decide) ?_
          refine kla_st (n := 60) (j := i) hx hb hG hP hD hS 1 rfl rfl (by omega) (by decide) dL_isApproved_202 (fun H locs hP hD hS => ?_)
          have hP : va_P K.1 kCl (w ++ LA K q fb (upd ft i (M 6 i)) fn fm fl fu fg) H := hP
          have hD : va_D A (w ++ LA K q fb (upd ft i (M 6 i)) fn fm fl fu fg) := hD
          refine lv_aload_n hx hb dL_isApproved_203 rfl (lv_at hl 2 rfl) ?_
          refine lv_iconst (v := 3) hx hb dL_isApproved_204 (by decide) ?_
          refine lv_iload hx hb dL_isApproved_205 (lv_at hl 6 rfl) ?_
          refine lv_iconst (v := 0) hx hb dL_isApproved_207 (by decide) ?_
          refine lv_iconst (v := 0) hx hb dL_isApproved_208 (by decide) ?_
          refine lv_iconst (v := 0) hx hb dL_isApproved_209 (by decide) ?_
          refine kf_i (W2 := LA K q fb (upd ft i (M 6 i)) fn fm fl fu fg) (vx_runSW (As := [.ref (ad 0), .int 3, .int (nI i), .int 0, .int 0, .int 0]) (rest := []) ⟨hx, hb, hml, hown, hts⟩ (h_approve_tp hDk hlt hin (fun q => q.elim h138 h146)) (vx_cwSW 6 hts gL_isApproved_L_does rfl rfl rfl (by decide +kernel) ⟨(Nat.le_of_ble_eq_true rfl), (Nat.le_of_ble_eq_true rfl)⟩) (lps hG hP hD hS) rfl rfl hl.1 rfl (lv_room (Nat.le_of_ble_eq_true rfl)) dL_isApproved_210 ⟨(Nat.le_of_ble_eq_true rfl), (Nat.le_of_ble_eq_true rfl)⟩) hS hP hD (fun r210 w H locs hp hP hD hS => ?_)
          obtain ⟨hv9, hp⟩ := hp
          rw [hv9]
          have hDk : DE K ad td n M w := hp
          refine lv_iload hx hb dL_isApproved_213 (lv_at hl 1 rfl) ?_
          refine lv_if_ne (tgt := 223) hx hb dL_isApproved_215 (by decide) (fun h215 => False.elim (absurd (by decide) h215)) (fun h215 => ?_)
          refine lv_bipush (v := (-10)) hx hb dL_isApproved_218 (by decide) ?_
          refine lv_goto (tgt := 233) hx hb dL_isApproved_220 (by decide) ?_
          refine lv_icmp_ne (tgt := 240) hx hb dL_isApproved_233 (by decide) (fun h233 => False.elim (absurd (by decide) h233)) (fun h233 => ?_)
          refine lv_iconst (v := 1) hx hb dL_isApproved_236 (by decide) ?_
          refine lv_goto (tgt := 241) hx hb dL_isApproved_237 (by decide) ?_
          exact kr_z hx hb hr hlocks hP hD hS (Nat.le_of_ble_eq_true rfl) (Nat.le_of_ble_eq_true rfl) (Or.inr rfl) (⟨rfl, _, _, _, _, _, _, _, _, _, _, _, rfl, hDk, hR.id1 hn30 hin, hJ.up⟩) dL_isApproved_241
        · refine lv_iconst (v := 1) hx hb dL_isApproved_170 (by decide) ?_
          refine lv_goto (tgt := 175) hx hb dL_isApproved_171 (by decide) ?_
          refine lv_istore (lv' := [(7, .int 1), (6, .int 0), (0, .ref (ad 0)), (1, .ref (q 1)), (2, .ref (q 2)), (3, .ref (q 7)), (4, .int (nI i)), (5, .int 0)]) hx hb dL_isApproved_175 hl (by decide) rfl (fun ls hl => ?_)
          refine lv_aload_n hx hb dL_isApproved_177 rfl (lv_at hl 4 rfl) ?_
          refine lv_iload hx hb dL_isApproved_178 (lv_at hl 6 rfl) ?_
          refine lv_iload hx hb dL_isApproved_180 (lv_at hl 1 rfl) ?_
          refine lv_if_ne (tgt := 192) hx hb dL_isApproved_182 (by decide) (fun h182 => False.elim (absurd (by decide) h182)) (fun h182 => ?_)
          refine lv_aload_n hx hb dL_isApproved_185 rfl (lv_at hl 4 rfl) ?_
          refine lv_iload hx hb dL_isApproved_186 (lv_at hl 6 rfl) ?_
          refine kla_ld (n := 60) (j := i) (z := (M 6 i)) hx hb hG hP 1 rfl (hR.t0 hin) rfl (by omega) (by decide) dL_isApproved_188 ?_
          refine lv_goto (tgt := 202) hx hb dL_isApproved_189 (by decide) ?_
          refine kla_st (n := 60) (j := i) hx hb hG hP hD hS 1 rfl rfl (by omega) (by decide) dL_isApproved_202 (fun H locs hP hD hS => ?_)
          have hP : va_P K.1 kCl (w ++ LA K q fb (upd ft i (M 6 i)) fn fm fl fu fg) H := hP
          have hD : va_D A (w ++ LA K q fb (upd ft i (M 6 i)) fn fm fl fu fg) := hD
          refine lv_aload_n hx hb dL_isApproved_203 rfl (lv_at hl 2 rfl) ?_
          refine lv_iconst (v := 3) hx hb dL_isApproved_204 (by decide) ?_
          refine lv_iload hx hb dL_isApproved_205 (lv_at hl 6 rfl) ?_
          refine lv_iconst (v := 0) hx hb dL_isApproved_207 (by decide) ?_
          refine lv_iconst (v := 0) hx hb dL_isApproved_208 (by decide) ?_
          refine lv_iconst (v := 0) hx hb dL_isApproved_209 (by decide) ?_
          refine kf_i (W2 := LA K q fb (upd ft i (M 6 i)) fn fm fl fu fg) (vx_runSW (As := [.ref (ad 0), .int 3, .int (nI i), .int 0, .int 0, .int 0]) (rest := []) ⟨hx, hb, hml, hown, hts⟩ (h_approve_tp hDk hlt hin (fun q => q.elim h138 h146)) (vx_cwSW 6 hts gL_isApproved_L_does rfl rfl rfl (by decide +kernel) ⟨(Nat.le_of_ble_eq_true rfl), (Nat.le_of_ble_eq_true rfl)⟩) (lps hG hP hD hS) rfl rfl hl.1 rfl (lv_room (Nat.le_of_ble_eq_true rfl)) dL_isApproved_210 ⟨(Nat.le_of_ble_eq_true rfl), (Nat.le_of_ble_eq_true rfl)⟩) hS hP hD (fun r210 w H locs hp hP hD hS => ?_)
          obtain ⟨hv9, hp⟩ := hp
          rw [hv9]
          have hDk : DE K ad td n M w := hp
          refine lv_iload hx hb dL_isApproved_213 (lv_at hl 1 rfl) ?_
          refine lv_if_ne (tgt := 223) hx hb dL_isApproved_215 (by decide) (fun h215 => False.elim (absurd (by decide) h215)) (fun h215 => ?_)
          refine lv_bipush (v := (-10)) hx hb dL_isApproved_218 (by decide) ?_
          refine lv_goto (tgt := 233) hx hb dL_isApproved_220 (by decide) ?_
          refine lv_icmp_ne (tgt := 240) hx hb dL_isApproved_233 (by decide) (fun h233 => False.elim (absurd (by decide) h233)) (fun h233 => ?_)
          refine lv_iconst (v := 1) hx hb dL_isApproved_236 (by decide) ?_
          refine lv_goto (tgt := 241) hx hb dL_isApproved_237 (by decide) ?_
          exact kr_z hx hb hr hlocks hP hD hS (Nat.le_of_ble_eq_true rfl) (Nat.le_of_ble_eq_true rfl) (Or.inr rfl) (⟨rfl, _, _, _, _, _, _, _, _, _, _, _, rfl, hDk, hR.id1 hn30 hin, hJ.up⟩) dL_isApproved_241
      · refine lv_iconst (v := 1) hx hb dL_isApproved_149 (by decide) ?_
        refine lv_goto (tgt := 154) hx hb dL_isApproved_150 (by decide) ?_
        refine lv_istore (lv' := [(6, .int 1), (0, .ref (ad 0)), (1, .ref (q 1)), (2, .ref (q 2)), (3, .ref (q 7)), (4, .int (nI i)), (5, .int 0)]) hx hb dL_isApproved_154 hl (by decide) rfl (fun ls hl => ?_)
        refine lv_aload_n hx hb dL_isApproved_156 rfl (lv_at hl 2 rfl) ?_
        refine lv_iconst (v := 2) hx hb dL_isApproved_157 (by decide) ?_
        refine lv_iload hx hb dL_isApproved_158 (lv_at hl 5 rfl) ?_
        refine lv_imul hx hb dL_isApproved_160 ?_
        refine lv_iconst (v := 1) hx hb dL_isApproved_161 (by decide) ?_
        refine lv_iadd hx hb dL_isApproved_162 ?_
        refine kla_ld (n := 60) (j := 2 * i + 1) (z := (M 5 i)) hx hb hG hP 0 (x21 i) (hR.b1 hin) rfl (by omega) (by decide) dL_isApproved_163 ?_
        refine lv_aload_n hx hb dL_isApproved_164 rfl (lv_at hl 4 rfl) ?_
        refine lv_iconst (v := 1) hx hb dL_isApproved_165 (by decide) ?_
        refine kla_ld (n := 2) (j := 1) (z := td) hx hb hG hP 6 rfl hR.g1 rfl (by omega) (by decide) dL_isApproved_166 ?_
        refine lv_icmp_gt (tgt := 174) hx hb dL_isApproved_167 (by decide) (fun h167 => ?_) (fun h167 => ?_)
        · refine lv_iconst (v := 0) hx hb dL_isApproved_174 (by decide) ?_
          refine lv_istore (lv' := [(7, .int 0), (6, .int 1), (0, .ref (ad 0)), (1, .ref (q 1)), (2, .ref (q 2)), (3, .ref (q 7)), (4, .int (nI i)), (5, .int 0)]) hx hb dL_isApproved_175 hl (by decide) rfl (fun ls hl => ?_)
          refine lv_aload_n hx hb dL_isApproved_177 rfl (lv_at hl 4 rfl) ?_
          refine lv_iload hx hb dL_isApproved_178 (lv_at hl 6 rfl) ?_
          refine lv_iload hx hb dL_isApproved_180 (lv_at hl 1 rfl) ?_
          refine lv_if_ne (tgt := 192) hx hb dL_isApproved_182 (by decide) (fun h182 => ?_) (fun h182 => False.elim (absurd h182 (by decide)))
          refine lv_iload hx hb dL_isApproved_192 (lv_at hl 0 rfl) ?_
          refine lv_if_eq (tgt := 201) hx hb dL_isApproved_194 (by decide) (fun h194 => ?_) (fun h194 => False.elim (absurd (by decide) h194))
          refine lv_iconst (v := 1) hx hb dL_isApproved_201 (by decide) ?_
          refine kla_st (n := 60) (j := i) hx hb hG hP hD hS 1 rfl rfl (by omega) (by decide) dL_isApproved_202 (fun H locs hP hD hS => ?_)
          have hP : va_P K.1 kCl (w ++ LA K q fb (upd ft i 1) fn fm fl fu fg) H := hP
          have hD : va_D A (w ++ LA K q fb (upd ft i 1) fn fm fl fu fg) := hD
          refine lv_aload_n hx hb dL_isApproved_203 rfl (lv_at hl 2 rfl) ?_
          refine lv_iconst (v := 3) hx hb dL_isApproved_204 (by decide) ?_
          refine lv_iload hx hb dL_isApproved_205 (lv_at hl 6 rfl) ?_
          refine lv_iconst (v := 0) hx hb dL_isApproved_207 (by decide) ?_
          refine lv_iconst (v := 0) hx hb dL_isApproved_208 (by decide) ?_
          refine lv_iconst (v := 0) hx hb dL_isApproved_209 (by decide) ?_
          refine kf_i (W2 := LA K q fb (upd ft i 1) fn fm fl fu fg) (vx_runSW (As := [.ref (ad 0), .int 3, .int (nI i), .int 0, .int 0, .int 0]) (rest := []) ⟨hx, hb, hml, hown, hts⟩ (h_approve_a hDk hin (Or.inr h146) (i32_nle.mpr h167)) (vx_cwSW 6 hts gL_isApproved_L_does rfl rfl rfl (by decide +kernel) ⟨(Nat.le_of_ble_eq_true rfl), (Nat.le_of_ble_eq_true rfl)⟩) (lps hG hP hD hS) rfl rfl hl.1 rfl (lv_room (Nat.le_of_ble_eq_true rfl)) dL_isApproved_210 ⟨(Nat.le_of_ble_eq_true rfl), (Nat.le_of_ble_eq_true rfl)⟩) hS hP hD (fun r210 w H locs hp hP hD hS => ?_)
          obtain ⟨hv9, hp⟩ := hp
          rw [hv9]
          have hDk : DE K ad td n (up2 M 6 i 1) w := hp
          refine lv_iload hx hb dL_isApproved_213 (lv_at hl 1 rfl) ?_
          refine lv_if_ne (tgt := 223) hx hb dL_isApproved_215 (by decide) (fun h215 => ?_) (fun h215 => False.elim (absurd h215 (by decide)))
          refine lv_iload hx hb dL_isApproved_223 (lv_at hl 0 rfl) ?_
          refine lv_if_eq (tgt := 232) hx hb dL_isApproved_225 (by decide) (fun h225 => ?_) (fun h225 => False.elim (absurd (by decide) h225))
          refine lv_iconst (v := 0) hx hb dL_isApproved_232 (by decide) ?_
          refine lv_icmp_ne (tgt := 240) hx hb dL_isApproved_233 (by decide) (fun h233 => False.elim (absurd (by decide) h233)) (fun h233 => ?_)
          refine lv_iconst (v := 1) hx hb dL_isApproved_236 (by decide) ?_
          refine lv_goto (tgt := 241) hx hb dL_isApproved_237 (by decide) ?_
          exact kr_z hx hb hr hlocks hP hD hS (Nat.le_of_ble_eq_true rfl) (Nat.le_of_ble_eq_true rfl) (Or.inr rfl) (⟨rfl, _, _, _, _, _, _, _, _, _, _, _, rfl, hDk, hR.st (by omega), hJ.apprA hin (Or.inr h146) (i32_nle.mpr h167)⟩) dL_isApproved_241
        · refine lv_iconst (v := 1) hx hb dL_isApproved_170 (by decide) ?_
          refine lv_goto (tgt := 175) hx hb dL_isApproved_171 (by decide) ?_
          refine lv_istore (lv' := [(7, .int 1), (6, .int 1), (0, .ref (ad 0)), (1, .ref (q 1)), (2, .ref (q 2)), (3, .ref (q 7)), (4, .int (nI i)), (5, .int 0)]) hx hb dL_isApproved_175 hl (by decide) rfl (fun ls hl => ?_)
          refine lv_aload_n hx hb dL_isApproved_177 rfl (lv_at hl 4 rfl) ?_
          refine lv_iload hx hb dL_isApproved_178 (lv_at hl 6 rfl) ?_
          refine lv_iload hx hb dL_isApproved_180 (lv_at hl 1 rfl) ?_
          refine lv_if_ne (tgt := 192) hx hb dL_isApproved_182 (by decide) (fun h182 => ?_) (fun h182 => False.elim (absurd h182 (by decide)))
          refine lv_iload hx hb dL_isApproved_192 (lv_at hl 0 rfl) ?_
          refine lv_if_eq (tgt := 201) hx hb dL_isApproved_194 (by decide) (fun h194 => False.elim (absurd h194 (by decide))) (fun h194 => ?_)
          refine lv_iconst (v := 4) hx hb dL_isApproved_197 (by decide) ?_
          refine lv_goto (tgt := 202) hx hb dL_isApproved_198 (by decide) ?_
          refine kla_st (n := 60) (j := i) hx hb hG hP hD hS 1 rfl rfl (by omega) (by decide) dL_isApproved_202 (fun H locs hP hD hS => ?_)
          have hP : va_P K.1 kCl (w ++ LA K q fb (upd ft i 4) fn fm fl fu fg) H := hP
          have hD : va_D A (w ++ LA K q fb (upd ft i 4) fn fm fl fu fg) := hD
          refine lv_aload_n hx hb dL_isApproved_203 rfl (lv_at hl 2 rfl) ?_
          refine lv_iconst (v := 3) hx hb dL_isApproved_204 (by decide) ?_
          refine lv_iload hx hb dL_isApproved_205 (lv_at hl 6 rfl) ?_
          refine lv_iconst (v := 0) hx hb dL_isApproved_207 (by decide) ?_
          refine lv_iconst (v := 0) hx hb dL_isApproved_208 (by decide) ?_
          refine lv_iconst (v := 0) hx hb dL_isApproved_209 (by decide) ?_
          refine kf_i (W2 := LA K q fb (upd ft i 4) fn fm fl fu fg) (vx_runSW (As := [.ref (ad 0), .int 3, .int (nI i), .int 0, .int 0, .int 0]) (rest := []) ⟨hx, hb, hml, hown, hts⟩ (h_approve_p hDk hin (hok i hin) (Or.inr h146) (i32_nlt.mp h167)) (vx_cwSW 6 hts gL_isApproved_L_does rfl rfl rfl (by decide +kernel) ⟨(Nat.le_of_ble_eq_true rfl), (Nat.le_of_ble_eq_true rfl)⟩) (lps hG hP hD hS) rfl rfl hl.1 rfl (lv_room (Nat.le_of_ble_eq_true rfl)) dL_isApproved_210 ⟨(Nat.le_of_ble_eq_true rfl), (Nat.le_of_ble_eq_true rfl)⟩) hS hP hD (fun r210 w H locs hp hP hD hS => ?_)
          obtain ⟨hv9, hp⟩ := hp
          rw [hv9]
          have hDk : DE K ad td n (payM M i (M 4 i) 4) w := hp
          refine lv_iload hx hb dL_isApproved_213 (lv_at hl 1 rfl) ?_
          refine lv_if_ne (tgt := 223) hx hb dL_isApproved_215 (by decide) (fun h215 => ?_) (fun h215 => False.elim (absurd h215 (by decide)))
          refine lv_iload hx hb dL_isApproved_223 (lv_at hl 0 rfl) ?_
          refine lv_if_eq (tgt := 232) hx hb dL_isApproved_225 (by decide) (fun h225 => False.elim (absurd h225 (by decide))) (fun h225 => ?_)
          refine lv_iconst (v := 1) hx hb dL_isApproved_228 (by decide) ?_
          refine lv_goto (tgt := 233) hx hb dL_isApproved_229 (by decide) ?_
          refine lv_icmp_ne (tgt := 240) hx hb dL_isApproved_233 (by decide) (fun h233 => False.elim (absurd (by decide) h233)) (fun h233 => ?_)
          refine lv_iconst (v := 1) hx hb dL_isApproved_236 (by decide) ?_
          refine lv_goto (tgt := 241) hx hb dL_isApproved_237 (by decide) ?_
          exact kr_z hx hb hr hlocks hP hD hS (Nat.le_of_ble_eq_true rfl) (Nat.le_of_ble_eq_true rfl) (Or.inr rfl) (⟨rfl, _, _, _, _, _, _, _, _, _, _, _, rfl, hDk, hR.pay hin hn30 ((hJ.1.2.1 i hin).unp (n02 (Or.inr h146))).2.1, hJ.apprP hin (Or.inr h146)⟩) dL_isApproved_241
  · refine lv_aload_n hx hb dL_isApproved_8 rfl (lv_at hl 0 rfl) ?_
    refine lv_iconst (v := 3) hx hb dL_isApproved_9 (by decide) ?_
    refine lv_iload hx hb dL_isApproved_10 (lv_at hl 4 rfl) ?_
    refine lv_iconst (v := 0) hx hb dL_isApproved_12 (by decide) ?_
    refine lv_iconst (v := 0) hx hb dL_isApproved_13 (by decide) ?_
    refine lv_iconst (v := 0) hx hb dL_isApproved_14 (by decide) ?_
    refine kf_i (W2 := LA K q fb ft fn fm fl fu fg) (vx_runSW (As := [.ref (ad 0), .int 3, .int (nI i), .int 0, .int 0, .int 0]) (rest := []) ⟨hx, hb, hml, hown, hts⟩ (h_approve_tb hDk hlt (ixe hn30 h5)) (vx_cwSW 6 hts gL_isApproved_L_does rfl rfl rfl (by decide +kernel) ⟨(Nat.le_of_ble_eq_true rfl), (Nat.le_of_ble_eq_true rfl)⟩) (lps hG hP hD hS) rfl rfl hl.1 rfl (lv_room (Nat.le_of_ble_eq_true rfl)) dL_isApproved_15 ⟨(Nat.le_of_ble_eq_true rfl), (Nat.le_of_ble_eq_true rfl)⟩) hS hP hD (fun r15 w H locs hp hP hD hS => ?_)
    obtain ⟨hv9, hp⟩ := hp
    rw [hv9]
    have hDk : DE K ad td n M w := hp
    refine lv_bipush (v := (-30)) hx hb dL_isApproved_18 (by decide) ?_
    refine lv_icmp_ne (tgt := 42) hx hb dL_isApproved_20 (by decide) (fun h20 => False.elim (absurd (by decide) h20)) (fun h20 => ?_)
    refine lv_aload_n hx hb dL_isApproved_23 rfl (lv_at hl 0 rfl) ?_
    refine lv_iconst (v := 4) hx hb dL_isApproved_24 (by decide) ?_
    refine lv_iload hx hb dL_isApproved_25 (lv_at hl 4 rfl) ?_
    refine lv_iconst (v := 0) hx hb dL_isApproved_27 (by decide) ?_
    refine lv_iconst (v := 0) hx hb dL_isApproved_28 (by decide) ?_
    refine lv_iconst (v := 0) hx hb dL_isApproved_29 (by decide) ?_
    refine kf_i (W2 := LA K q fb ft fn fm fl fu fg) (vx_runSW (As := [.ref (ad 0), .int 4, .int (nI i), .int 0, .int 0, .int 0]) (rest := []) ⟨hx, hb, hml, hown, hts⟩ (h_dispute_tb hDk hlt (ixe hn30 h5)) (vx_cwSW 6 hts gL_isApproved_L_does rfl rfl rfl (by decide +kernel) ⟨(Nat.le_of_ble_eq_true rfl), (Nat.le_of_ble_eq_true rfl)⟩) (lps hG hP hD hS) rfl rfl hl.1 rfl (lv_room (Nat.le_of_ble_eq_true rfl)) dL_isApproved_30 ⟨(Nat.le_of_ble_eq_true rfl), (Nat.le_of_ble_eq_true rfl)⟩) hS hP hD (fun r30 w H locs hp hP hD hS => ?_)
    obtain ⟨hv9, hp⟩ := hp
    rw [hv9]
    have hDk : DE K ad td n M w := hp
    refine lv_bipush (v := (-30)) hx hb dL_isApproved_33 (by decide) ?_
    refine lv_icmp_ne (tgt := 42) hx hb dL_isApproved_35 (by decide) (fun h35 => False.elim (absurd (by decide) h35)) (fun h35 => ?_)
    refine lv_iconst (v := 1) hx hb dL_isApproved_38 (by decide) ?_
    refine lv_goto (tgt := 43) hx hb dL_isApproved_39 (by decide) ?_
    exact kr_z hx hb hr hlocks hP hD hS (Nat.le_of_ble_eq_true rfl) (Nat.le_of_ble_eq_true rfl) (Or.inr rfl) (⟨rfl, _, _, _, _, _, _, _, _, _, _, _, rfl, hDk, hR, hJ.up⟩) dL_isApproved_43
set_option maxHeartbeats 4000000 in
set_option maxRecDepth 100000 in
theorem c_isApproved_1 {l : Launch} {K : Ks} {A : Nat → Prop} {ad q : Nat → Nat} {sn : Nat} {td : Int32} {n : Nat} {M : Nat → Nat → Int32} {w : va_W} {fb ft fn fm fl fu fg : Nat → Int32} (hlt : l.stackTraces = false) (hDk : DE K ad td n M w) (hR : LR td n M fb ft fn fm fl fu fg) (hJ : Jv sn td n M) (hsn : sn ≤ 1000) {i : Nat} (hile : i ≤ n) : Met l yL_isApproved wsL_isApproved (kR 7 2 12) (kPr K A [.ref (ad 0), .ref (q 1), .ref (q 2), .ref (q 7), .int (nI i), .int 1] (w ++ LA K q fb ft fn fm fl fu fg)) (kQi K A (fun r w1 => r = 1 ∧ LSw K ad q (sn + 1) w1)) 2 12 A := by
  have hn30 := hJ.1.1.1
  have hok := hJ.1.ok
  refine kent (cc := cL_isApproved) (maxL := 8) (ret := (some .boolean)) (by decide) rfl (Nat.le_of_ble_eq_true rfl) ?_
  intro p e s m args below meth c ls hx hb hr hts hown hlocks hml hini hG hP hD hS hl
  have hl : lv_has ls 8 [(0, .ref (ad 0)), (1, .ref (q 1)), (2, .ref (q 2)), (3, .ref (q 7)), (4, .int (nI i)), (5, .int 1)] := hl
  refine lv_iload hx hb dL_isApproved_0 (lv_at hl 4 rfl) ?_
  refine lv_aload_n hx hb dL_isApproved_2 rfl (lv_at hl 3 rfl) ?_
  refine lv_iconst (v := 0) hx hb dL_isApproved_3 (by decide) ?_
  refine kla_ld (n := 2) (j := 0) (z := (nI n)) hx hb hG hP 6 rfl hR.g0 rfl (by omega) (by decide) dL_isApproved_4 ?_
  refine lv_icmp_ne (tgt := 44) hx hb dL_isApproved_5 (by decide) (fun h5 => ?_) (fun h5 => ?_)
  · have hin : i < n := ltn hile (by omega) h5
    refine lv_iload hx hb dL_isApproved_44 (lv_at hl 5 rfl) ?_
    refine lv_if_eq (tgt := 134) hx hb dL_isApproved_46 (by decide) (fun h46 => False.elim (absurd h46 (by decide))) (fun h46 => ?_)
    refine lv_aload_n hx hb dL_isApproved_49 rfl (lv_at hl 2 rfl) ?_
    refine lv_iload hx hb dL_isApproved_50 (lv_at hl 4 rfl) ?_
    refine kla_ld (n := 60) (j := i) (z := (M 6 i)) hx hb hG hP 1 rfl (hR.t0 hin) rfl (by omega) (by decide) dL_isApproved_52 ?_
    refine lv_iconst (v := 2) hx hb dL_isApproved_53 (by decide) ?_
    refine lv_icmp_ge (tgt := 61) hx hb dL_isApproved_54 (by decide) (fun h54 => ?_) (fun h54 => ?_)
    · refine lv_iconst (v := 0) hx hb dL_isApproved_61 (by decide) ?_
      refine lv_istore (lv' := [(6, .int 0), (0, .ref (ad 0)), (1, .ref (q 1)), (2, .ref (q 2)), (3, .ref (q 7)), (4, .int (nI i)), (5, .int 1)]) hx hb dL_isApproved_62 hl (by decide) rfl (fun ls hl => ?_)
      refine lv_aload_n hx hb dL_isApproved_64 rfl (lv_at hl 3 rfl) ?_
      refine lv_iload hx hb dL_isApproved_65 (lv_at hl 5 rfl) ?_
      refine lv_iload hx hb dL_isApproved_67 (lv_at hl 0 rfl) ?_
      refine lv_if_eq (tgt := 76) hx hb dL_isApproved_69 (by decide) (fun h69 => ?_) (fun h69 => False.elim (absurd (by decide) h69))
      refine lv_aload_n hx hb dL_isApproved_76 rfl (lv_at hl 3 rfl) ?_
      refine lv_iload hx hb dL_isApproved_77 (lv_at hl 5 rfl) ?_
      refine kla_ld (n := 60) (j := i) (z := (M 6 i)) hx hb hG hP 1 rfl (hR.t0 hin) rfl (by omega) (by decide) dL_isApproved_79 ?_
      refine kla_st (n := 60) (j := i) hx hb hG hP hD hS 1 rfl rfl (by omega) (by decide) dL_isApproved_80 (fun H locs hP hD hS => ?_)
      have hP : va_P K.1 kCl (w ++ LA K q fb (upd ft i (M 6 i)) fn fm fl fu fg) H := hP
      have hD : va_D A (w ++ LA K q fb (upd ft i (M 6 i)) fn fm fl fu fg) := hD
      refine lv_aload_n hx hb dL_isApproved_81 rfl (lv_at hl 3 rfl) ?_
      refine lv_bipush (v := 30) hx hb dL_isApproved_82 (by decide) ?_
      refine lv_iload hx hb dL_isApproved_84 (lv_at hl 5 rfl) ?_
      refine lv_iadd hx hb dL_isApproved_86 ?_
      refine lv_iload hx hb dL_isApproved_87 (lv_at hl 0 rfl) ?_
      refine lv_if_eq (tgt := 96) hx hb dL_isApproved_89 (by decide) (fun h89 => ?_) (fun h89 => False.elim (absurd (by decide) h89))
      refine lv_aload_n hx hb dL_isApproved_96 rfl (lv_at hl 3 rfl) ?_
      refine lv_bipush (v := 30) hx hb dL_isApproved_97 (by decide) ?_
      refine lv_iload hx hb dL_isApproved_99 (lv_at hl 5 rfl) ?_
      refine lv_iadd hx hb dL_isApproved_101 ?_
      refine kla_ld (n := 60) (j := 30 + i) (z := (M 7 i)) hx hb hG hP 1 (x30 i) (by rw [pk_un (by omega)]; exact hR.t1 hin) rfl (by omega) (by decide) dL_isApproved_102 ?_
      refine kla_st (n := 60) (j := 30 + i) hx hb hG hP hD hS 1 (x30 i) rfl (by omega) (by decide) dL_isApproved_103 (fun H locs hP hD hS => ?_)
      have hP : va_P K.1 kCl (w ++ LA K q fb (upd (upd ft i (M 6 i)) (30 + i) (M 7 i)) fn fm fl fu fg) H := hP
      have hD : va_D A (w ++ LA K q fb (upd (upd ft i (M 6 i)) (30 + i) (M 7 i)) fn fm fl fu fg) := hD
      refine lv_aload_n hx hb dL_isApproved_104 rfl (lv_at hl 1 rfl) ?_
      refine lv_iconst (v := 4) hx hb dL_isApproved_105 (by decide) ?_
      refine lv_iload hx hb dL_isApproved_106 (lv_at hl 5 rfl) ?_
      refine lv_iconst (v := 0) hx hb dL_isApproved_108 (by decide) ?_
      refine lv_iconst (v := 0) hx hb dL_isApproved_109 (by decide) ?_
      refine lv_iconst (v := 0) hx hb dL_isApproved_110 (by decide) ?_
      refine kf_i (W2 := LA K q fb (upd (upd ft i (M 6 i)) (30 + i) (M 7 i)) fn fm fl fu fg) (vx_runSW (As := [.ref (ad 0), .int 4, .int (nI i), .int 0, .int 0, .int 0]) (rest := []) ⟨hx, hb, hml, hown, hts⟩ (h_dispute_tp hDk hlt hin (st01n h54)) (vx_cwSW 6 hts gL_isApproved_L_does rfl rfl rfl (by decide +kernel) ⟨(Nat.le_of_ble_eq_true rfl), (Nat.le_of_ble_eq_true rfl)⟩) (lps hG hP hD hS) rfl rfl hl.1 rfl (lv_room (Nat.le_of_ble_eq_true rfl)) dL_isApproved_111 ⟨(Nat.le_of_ble_eq_true rfl), (Nat.le_of_ble_eq_true rfl)⟩) hS hP hD (fun r111 w H locs hp hP hD hS => ?_)
      obtain ⟨hv9, hp⟩ := hp
      rw [hv9]
      have hDk : DE K ad td n M w := hp
      refine lv_iload hx hb dL_isApproved_114 (lv_at hl 0 rfl) ?_
      refine lv_if_eq (tgt := 123) hx hb dL_isApproved_116 (by decide) (fun h116 => ?_) (fun h116 => False.elim (absurd (by decide) h116))
      refine lv_bipush (v := (-10)) hx hb dL_isApproved_123 (by decide) ?_
      refine lv_icmp_ne (tgt := 132) hx hb dL_isApproved_125 (by decide) (fun h125 => False.elim (absurd (by decide) h125)) (fun h125 => ?_)
      refine lv_iconst (v := 1) hx hb dL_isApproved_128 (by decide) ?_
      refine lv_goto (tgt := 133) hx hb dL_isApproved_129 (by decide) ?_
      exact kr_z hx hb hr hlocks hP hD hS (Nat.le_of_ble_eq_true rfl) (Nat.le_of_ble_eq_true rfl) (Or.inr rfl) (⟨rfl, _, _, _, _, _, _, _, _, _, _, _, rfl, hDk, hR.id2 hn30 hin, hJ.up⟩) dL_isApproved_133
    · refine lv_iconst (v := 1) hx hb dL_isApproved_57 (by decide) ?_
      refine lv_goto (tgt := 62) hx hb dL_isApproved_58 (by decide) ?_
      refine lv_istore (lv' := [(6, .int 1), (0, .ref (ad 0)), (1, .ref (q 1)), (2, .ref (q 2)), (3, .ref (q 7)), (4, .int (nI i)), (5, .int 1)]) hx hb dL_isApproved_62 hl (by decide) rfl (fun ls hl => ?_)
      refine lv_aload_n hx hb dL_isApproved_64 rfl (lv_at hl 3 rfl) ?_
      refine lv_iload hx hb dL_isApproved_65 (lv_at hl 5 rfl) ?_
      refine lv_iload hx hb dL_isApproved_67 (lv_at hl 0 rfl) ?_
      refine lv_if_eq (tgt := 76) hx hb dL_isApproved_69 (by decide) (fun h69 => False.elim (absurd h69 (by decide))) (fun h69 => ?_)
      refine lv_iconst (v := 2) hx hb dL_isApproved_72 (by decide) ?_
      refine lv_goto (tgt := 80) hx hb dL_isApproved_73 (by decide) ?_
      refine kla_st (n := 60) (j := i) hx hb hG hP hD hS 1 rfl rfl (by omega) (by decide) dL_isApproved_80 (fun H locs hP hD hS => ?_)
      have hP : va_P K.1 kCl (w ++ LA K q fb (upd ft i 2) fn fm fl fu fg) H := hP
      have hD : va_D A (w ++ LA K q fb (upd ft i 2) fn fm fl fu fg) := hD
      refine lv_aload_n hx hb dL_isApproved_81 rfl (lv_at hl 3 rfl) ?_
      refine lv_bipush (v := 30) hx hb dL_isApproved_82 (by decide) ?_
      refine lv_iload hx hb dL_isApproved_84 (lv_at hl 5 rfl) ?_
      refine lv_iadd hx hb dL_isApproved_86 ?_
      refine lv_iload hx hb dL_isApproved_87 (lv_at hl 0 rfl) ?_
      refine lv_if_eq (tgt := 96) hx hb dL_isApproved_89 (by decide) (fun h89 => False.elim (absurd h89 (by decide))) (fun h89 => ?_)
      refine lv_iconst (v := (-1)) hx hb dL_isApproved_92 (by decide) ?_
      refine lv_goto (tgt := 103) hx hb dL_isApproved_93 (by decide) ?_
      refine kla_st (n := 60) (j := 30 + i) hx hb hG hP hD hS 1 (x30 i) rfl (by omega) (by decide) dL_isApproved_103 (fun H locs hP hD hS => ?_)
      have hP : va_P K.1 kCl (w ++ LA K q fb (upd (upd ft i 2) (30 + i) (-1)) fn fm fl fu fg) H := hP
      have hD : va_D A (w ++ LA K q fb (upd (upd ft i 2) (30 + i) (-1)) fn fm fl fu fg) := hD
      refine lv_aload_n hx hb dL_isApproved_104 rfl (lv_at hl 1 rfl) ?_
      refine lv_iconst (v := 4) hx hb dL_isApproved_105 (by decide) ?_
      refine lv_iload hx hb dL_isApproved_106 (lv_at hl 5 rfl) ?_
      refine lv_iconst (v := 0) hx hb dL_isApproved_108 (by decide) ?_
      refine lv_iconst (v := 0) hx hb dL_isApproved_109 (by decide) ?_
      refine lv_iconst (v := 0) hx hb dL_isApproved_110 (by decide) ?_
      refine kf_i (W2 := LA K q fb (upd (upd ft i 2) (30 + i) (-1)) fn fm fl fu fg) (vx_runSW (As := [.ref (ad 0), .int 4, .int (nI i), .int 0, .int 0, .int 0]) (rest := []) ⟨hx, hb, hml, hown, hts⟩ (h_dispute hDk hin (st01 hJ hin h54)) (vx_cwSW 6 hts gL_isApproved_L_does rfl rfl rfl (by decide +kernel) ⟨(Nat.le_of_ble_eq_true rfl), (Nat.le_of_ble_eq_true rfl)⟩) (lps hG hP hD hS) rfl rfl hl.1 rfl (lv_room (Nat.le_of_ble_eq_true rfl)) dL_isApproved_111 ⟨(Nat.le_of_ble_eq_true rfl), (Nat.le_of_ble_eq_true rfl)⟩) hS hP hD (fun r111 w H locs hp hP hD hS => ?_)
      obtain ⟨hv9, hp⟩ := hp
      rw [hv9]
      have hDk : DE K ad td n (up2 (up2 M 6 i 2) 7 i (-1)) w := hp
      refine lv_iload hx hb dL_isApproved_114 (lv_at hl 0 rfl) ?_
      refine lv_if_eq (tgt := 123) hx hb dL_isApproved_116 (by decide) (fun h116 => False.elim (absurd h116 (by decide))) (fun h116 => ?_)
      refine lv_iconst (v := 0) hx hb dL_isApproved_119 (by decide) ?_
      refine lv_goto (tgt := 125) hx hb dL_isApproved_120 (by decide) ?_
      refine lv_icmp_ne (tgt := 132) hx hb dL_isApproved_125 (by decide) (fun h125 => False.elim (absurd (by decide) h125)) (fun h125 => ?_)
      refine lv_iconst (v := 1) hx hb dL_isApproved_128 (by decide) ?_
      refine lv_goto (tgt := 133) hx hb dL_isApproved_129 (by decide) ?_
      exact kr_z hx hb hr hlocks hP hD hS (Nat.le_of_ble_eq_true rfl) (Nat.le_of_ble_eq_true rfl) (Or.inr rfl) (⟨rfl, _, _, _, _, _, _, _, _, _, _, _, rfl, hDk, (hR.st (by omega)).rate hn30, hJ.disp hin (st01 hJ hin h54)⟩) dL_isApproved_133
  · refine lv_aload_n hx hb dL_isApproved_8 rfl (lv_at hl 0 rfl) ?_
    refine lv_iconst (v := 3) hx hb dL_isApproved_9 (by decide) ?_
    refine lv_iload hx hb dL_isApproved_10 (lv_at hl 4 rfl) ?_
    refine lv_iconst (v := 0) hx hb dL_isApproved_12 (by decide) ?_
    refine lv_iconst (v := 0) hx hb dL_isApproved_13 (by decide) ?_
    refine lv_iconst (v := 0) hx hb dL_isApproved_14 (by decide) ?_
    refine kf_i (W2 := LA K q fb ft fn fm fl fu fg) (vx_runSW (As := [.ref (ad 0), .int 3, .int (nI i), .int 0, .int 0, .int 0]) (rest := []) ⟨hx, hb, hml, hown, hts⟩ (h_approve_tb hDk hlt (ixe hn30 h5)) (vx_cwSW 6 hts gL_isApproved_L_does rfl rfl rfl (by decide +kernel) ⟨(Nat.le_of_ble_eq_true rfl), (Nat.le_of_ble_eq_true rfl)⟩) (lps hG hP hD hS) rfl rfl hl.1 rfl (lv_room (Nat.le_of_ble_eq_true rfl)) dL_isApproved_15 ⟨(Nat.le_of_ble_eq_true rfl), (Nat.le_of_ble_eq_true rfl)⟩) hS hP hD (fun r15 w H locs hp hP hD hS => ?_)
    obtain ⟨hv9, hp⟩ := hp
    rw [hv9]
    have hDk : DE K ad td n M w := hp
    refine lv_bipush (v := (-30)) hx hb dL_isApproved_18 (by decide) ?_
    refine lv_icmp_ne (tgt := 42) hx hb dL_isApproved_20 (by decide) (fun h20 => False.elim (absurd (by decide) h20)) (fun h20 => ?_)
    refine lv_aload_n hx hb dL_isApproved_23 rfl (lv_at hl 0 rfl) ?_
    refine lv_iconst (v := 4) hx hb dL_isApproved_24 (by decide) ?_
    refine lv_iload hx hb dL_isApproved_25 (lv_at hl 4 rfl) ?_
    refine lv_iconst (v := 0) hx hb dL_isApproved_27 (by decide) ?_
    refine lv_iconst (v := 0) hx hb dL_isApproved_28 (by decide) ?_
    refine lv_iconst (v := 0) hx hb dL_isApproved_29 (by decide) ?_
    refine kf_i (W2 := LA K q fb ft fn fm fl fu fg) (vx_runSW (As := [.ref (ad 0), .int 4, .int (nI i), .int 0, .int 0, .int 0]) (rest := []) ⟨hx, hb, hml, hown, hts⟩ (h_dispute_tb hDk hlt (ixe hn30 h5)) (vx_cwSW 6 hts gL_isApproved_L_does rfl rfl rfl (by decide +kernel) ⟨(Nat.le_of_ble_eq_true rfl), (Nat.le_of_ble_eq_true rfl)⟩) (lps hG hP hD hS) rfl rfl hl.1 rfl (lv_room (Nat.le_of_ble_eq_true rfl)) dL_isApproved_30 ⟨(Nat.le_of_ble_eq_true rfl), (Nat.le_of_ble_eq_true rfl)⟩) hS hP hD (fun r30 w H locs hp hP hD hS => ?_)
    obtain ⟨hv9, hp⟩ := hp
    rw [hv9]
    have hDk : DE K ad td n M w := hp
    refine lv_bipush (v := (-30)) hx hb dL_isApproved_33 (by decide) ?_
    refine lv_icmp_ne (tgt := 42) hx hb dL_isApproved_35 (by decide) (fun h35 => False.elim (absurd (by decide) h35)) (fun h35 => ?_)
    refine lv_iconst (v := 1) hx hb dL_isApproved_38 (by decide) ?_
    refine lv_goto (tgt := 43) hx hb dL_isApproved_39 (by decide) ?_
    exact kr_z hx hb hr hlocks hP hD hS (Nat.le_of_ble_eq_true rfl) (Nat.le_of_ble_eq_true rfl) (Or.inr rfl) (⟨rfl, _, _, _, _, _, _, _, _, _, _, _, rfl, hDk, hR, hJ.up⟩) dL_isApproved_43
set_option maxHeartbeats 4000000 in
set_option maxRecDepth 100000 in
theorem c_isOffer {l : Launch} {K : Ks} {A : Nat → Prop} {ad q : Nat → Nat} {sn : Nat} {td : Int32} {n : Nat} {M : Nat → Nat → Int32} {w : va_W} {fb ft fn fm fl fu fg : Nat → Int32} (hlt : l.stackTraces = false) (hDk : DE K ad td n M w) (hR : LR td n M fb ft fn fm fl fu fg) (hJ : Jv sn td n M) (hsn : sn ≤ 1000) {i : Nat} (hile : i ≤ n) {y : Nat} (hyy : y < 5003) : Met l yL_isOffer wsL_isOffer (kR 7 2 12) (kPr K A [.ref (ad 0), .ref (q 1), .ref (q 2), .ref (q 7), .int (nI i), .int (nI y)] (w ++ LA K q fb ft fn fm fl fu fg)) (kQi K A (fun r w1 => r = 1 ∧ LSw K ad q (sn + 1) w1)) 2 12 A := by
  have hn30 := hJ.1.1.1
  have hok := hJ.1.ok
  refine kent (cc := cL_isOffer) (maxL := 12) (ret := (some .boolean)) (by decide) rfl (Nat.le_of_ble_eq_true rfl) ?_
  intro p e s m args below meth c ls hx hb hr hts hown hlocks hml hini hG hP hD hS hl
  have hl : lv_has ls 12 [(0, .ref (ad 0)), (1, .ref (q 1)), (2, .ref (q 2)), (3, .ref (q 7)), (4, .int (nI i)), (5, .int (nI y))] := hl
  refine lv_iload hx hb dL_isOffer_0 (lv_at hl 4 rfl) ?_
  refine lv_aload_n hx hb dL_isOffer_2 rfl (lv_at hl 3 rfl) ?_
  refine lv_iconst (v := 0) hx hb dL_isOffer_3 (by decide) ?_
  refine kla_ld (n := 2) (j := 0) (z := (nI n)) hx hb hG hP 6 rfl hR.g0 rfl (by omega) (by decide) dL_isOffer_4 ?_
  refine lv_icmp_ne (tgt := 46) hx hb dL_isOffer_5 (by decide) (fun h5 => ?_) (fun h5 => ?_)
  · have hin : i < n := ltn hile (by omega) h5
    refine lv_aload_n hx hb dL_isOffer_46 rfl (lv_at hl 2 rfl) ?_
    refine lv_iload hx hb dL_isOffer_47 (lv_at hl 4 rfl) ?_
    refine kla_ld (n := 60) (j := i) (z := (M 6 i)) hx hb hG hP 1 rfl (hR.t0 hin) rfl (by omega) (by decide) dL_isOffer_49 ?_
    refine lv_iconst (v := 1) hx hb dL_isOffer_50 (by decide) ?_
    refine lv_icmp_ne (tgt := 72) hx hb dL_isOffer_51 (by decide) (fun h51 => ?_) (fun h51 => ?_)
    · refine lv_iconst (v := 0) hx hb dL_isOffer_72 (by decide) ?_
      refine lv_istore (lv' := [(6, .int 0), (0, .ref (ad 0)), (1, .ref (q 1)), (2, .ref (q 2)), (3, .ref (q 7)), (4, .int (nI i)), (5, .int (nI y))]) hx hb dL_isOffer_73 hl (by decide) rfl (fun ls hl => ?_)
      refine lv_aload_n hx hb dL_isOffer_75 rfl (lv_at hl 1 rfl) ?_
      refine lv_bipush (v := 6) hx hb dL_isOffer_76 (by decide) ?_
      refine lv_iload hx hb dL_isOffer_78 (lv_at hl 5 rfl) ?_
      refine lv_iload hx hb dL_isOffer_80 (lv_at hl 6 rfl) ?_
      refine lv_iconst (v := 0) hx hb dL_isOffer_82 (by decide) ?_
      refine lv_iconst (v := 0) hx hb dL_isOffer_83 (by decide) ?_
      by_cases hy : inR 0 5000 (nI y)
      · refine kf_i (W2 := LA K q fb ft fn fm fl fu fg) (vx_runSW (As := [.ref (ad 0), .int 6, .int (nI i), .int (nI y), .int 0, .int 0]) (rest := []) ⟨hx, hb, hml, hown, hts⟩ (h_offer_tp hDk hlt hin hy (fun q => h51 q.1)) (vx_cwSW 6 hts gL_isOffer_L_does rfl rfl rfl (by decide +kernel) ⟨(Nat.le_of_ble_eq_true rfl), (Nat.le_of_ble_eq_true rfl)⟩) (lps hG hP hD hS) rfl rfl hl.1 rfl (lv_room (Nat.le_of_ble_eq_true rfl)) dL_isOffer_84 ⟨(Nat.le_of_ble_eq_true rfl), (Nat.le_of_ble_eq_true rfl)⟩) hS hP hD (fun r84 w H locs hp hP hD hS => ?_)
        obtain ⟨hv9, hp⟩ := hp
        rw [hv9]
        have hDk : DE K ad td n M w := hp
        refine lv_istore (lv' := [(7, .int (-10)), (6, .int 0), (0, .ref (ad 0)), (1, .ref (q 1)), (2, .ref (q 2)), (3, .ref (q 7)), (4, .int (nI i)), (5, .int (nI y))]) hx hb dL_isOffer_87 hl (by decide) rfl (fun ls hl => ?_)
        refine lv_iload hx hb dL_isOffer_89 (lv_at hl 7 rfl) ?_
        refine lv_sipush (v := 5000) hx hb dL_isOffer_91 (by decide) ?_
        refine lv_icmp_gt (tgt := 102) hx hb dL_isOffer_94 (by decide) (fun h94 => False.elim (hy.2 h94)) (fun h94 => ?_)
        refine lv_iload hx hb dL_isOffer_97 (lv_at hl 1 rfl) ?_
        refine lv_if_ne (tgt := 128) hx hb dL_isOffer_99 (by decide) (fun h99 => False.elim (absurd (by decide) h99)) (fun h99 => ?_)
        refine lv_iload hx hb dL_isOffer_102 (lv_at hl 0 rfl) ?_
        refine lv_iload hx hb dL_isOffer_104 (lv_at hl 7 rfl) ?_
        refine lv_sipush (v := 5000) hx hb dL_isOffer_106 (by decide) ?_
        refine lv_icmp_le (tgt := 117) hx hb dL_isOffer_109 (by decide) (fun h109 => ?_) (fun h109 => False.elim (hy.2 (i32_nle.mp h109)))
        refine lv_bipush (v := (-10)) hx hb dL_isOffer_117 (by decide) ?_
        refine lv_icmp_ne (tgt := 126) hx hb dL_isOffer_119 (by decide) (fun h119 => False.elim (absurd (by decide) h119)) (fun h119 => ?_)
        refine lv_iconst (v := 1) hx hb dL_isOffer_122 (by decide) ?_
        refine lv_goto (tgt := 127) hx hb dL_isOffer_123 (by decide) ?_
        exact kr_z hx hb hr hlocks hP hD hS (Nat.le_of_ble_eq_true rfl) (Nat.le_of_ble_eq_true rfl) (Or.inr rfl) (⟨rfl, _, _, _, _, _, _, _, _, _, _, _, rfl, hDk, hR, hJ.up⟩) dL_isOffer_127
      · refine kf_i (W2 := LA K q fb ft fn fm fl fu fg) (vx_runSW (As := [.ref (ad 0), .int 6, .int (nI i), .int (nI y), .int 0, .int 0]) (rest := []) ⟨hx, hb, hml, hown, hts⟩ (h_offer_tr hDk hlt hin hy) (vx_cwSW 6 hts gL_isOffer_L_does rfl rfl rfl (by decide +kernel) ⟨(Nat.le_of_ble_eq_true rfl), (Nat.le_of_ble_eq_true rfl)⟩) (lps hG hP hD hS) rfl rfl hl.1 rfl (lv_room (Nat.le_of_ble_eq_true rfl)) dL_isOffer_84 ⟨(Nat.le_of_ble_eq_true rfl), (Nat.le_of_ble_eq_true rfl)⟩) hS hP hD (fun r84 w H locs hp hP hD hS => ?_)
        obtain ⟨hv9, hp⟩ := hp
        rw [hv9]
        have hDk : DE K ad td n M w := hp
        refine lv_istore (lv' := [(7, .int (-20)), (6, .int 0), (0, .ref (ad 0)), (1, .ref (q 1)), (2, .ref (q 2)), (3, .ref (q 7)), (4, .int (nI i)), (5, .int (nI y))]) hx hb dL_isOffer_87 hl (by decide) rfl (fun ls hl => ?_)
        refine lv_iload hx hb dL_isOffer_89 (lv_at hl 7 rfl) ?_
        refine lv_sipush (v := 5000) hx hb dL_isOffer_91 (by decide) ?_
        refine lv_icmp_gt (tgt := 102) hx hb dL_isOffer_94 (by decide) (fun h94 => ?_) (fun h94 => False.elim (hy ⟨nI_pos (by omega), h94⟩))
        refine lv_iload hx hb dL_isOffer_102 (lv_at hl 0 rfl) ?_
        refine lv_iload hx hb dL_isOffer_104 (lv_at hl 7 rfl) ?_
        refine lv_sipush (v := 5000) hx hb dL_isOffer_106 (by decide) ?_
        refine lv_icmp_le (tgt := 117) hx hb dL_isOffer_109 (by decide) (fun h109 => False.elim (hy ⟨nI_pos (by omega), i32_nlt.mpr h109⟩)) (fun h109 => ?_)
        refine lv_bipush (v := (-20)) hx hb dL_isOffer_112 (by decide) ?_
        refine lv_goto (tgt := 119) hx hb dL_isOffer_114 (by decide) ?_
        refine lv_icmp_ne (tgt := 126) hx hb dL_isOffer_119 (by decide) (fun h119 => False.elim (absurd (by decide) h119)) (fun h119 => ?_)
        refine lv_iconst (v := 1) hx hb dL_isOffer_122 (by decide) ?_
        refine lv_goto (tgt := 127) hx hb dL_isOffer_123 (by decide) ?_
        exact kr_z hx hb hr hlocks hP hD hS (Nat.le_of_ble_eq_true rfl) (Nat.le_of_ble_eq_true rfl) (Or.inr rfl) (⟨rfl, _, _, _, _, _, _, _, _, _, _, _, rfl, hDk, hR, hJ.up⟩) dL_isOffer_127
    · refine lv_aload_n hx hb dL_isOffer_54 rfl (lv_at hl 1 rfl) ?_
      refine lv_iconst (v := 2) hx hb dL_isOffer_55 (by decide) ?_
      refine lv_iload hx hb dL_isOffer_56 (lv_at hl 4 rfl) ?_
      refine lv_imul hx hb dL_isOffer_58 ?_
      refine lv_iconst (v := 1) hx hb dL_isOffer_59 (by decide) ?_
      refine lv_iadd hx hb dL_isOffer_60 ?_
      refine kla_ld (n := 60) (j := 2 * i + 1) (z := (M 5 i)) hx hb hG hP 0 (x21 i) (hR.b1 hin) rfl (by omega) (by decide) dL_isOffer_61 ?_
      refine lv_aload_n hx hb dL_isOffer_62 rfl (lv_at hl 3 rfl) ?_
      refine lv_iconst (v := 1) hx hb dL_isOffer_63 (by decide) ?_
      refine kla_ld (n := 2) (j := 1) (z := td) hx hb hG hP 6 rfl hR.g1 rfl (by omega) (by decide) dL_isOffer_64 ?_
      refine lv_icmp_le (tgt := 72) hx hb dL_isOffer_65 (by decide) (fun h65 => ?_) (fun h65 => ?_)
      · refine lv_iconst (v := 0) hx hb dL_isOffer_72 (by decide) ?_
        refine lv_istore (lv' := [(6, .int 0), (0, .ref (ad 0)), (1, .ref (q 1)), (2, .ref (q 2)), (3, .ref (q 7)), (4, .int (nI i)), (5, .int (nI y))]) hx hb dL_isOffer_73 hl (by decide) rfl (fun ls hl => ?_)
        refine lv_aload_n hx hb dL_isOffer_75 rfl (lv_at hl 1 rfl) ?_
        refine lv_bipush (v := 6) hx hb dL_isOffer_76 (by decide) ?_
        refine lv_iload hx hb dL_isOffer_78 (lv_at hl 5 rfl) ?_
        refine lv_iload hx hb dL_isOffer_80 (lv_at hl 6 rfl) ?_
        refine lv_iconst (v := 0) hx hb dL_isOffer_82 (by decide) ?_
        refine lv_iconst (v := 0) hx hb dL_isOffer_83 (by decide) ?_
        by_cases hy : inR 0 5000 (nI y)
        · refine kf_i (W2 := LA K q fb ft fn fm fl fu fg) (vx_runSW (As := [.ref (ad 0), .int 6, .int (nI i), .int (nI y), .int 0, .int 0]) (rest := []) ⟨hx, hb, hml, hown, hts⟩ (h_offer_tp hDk hlt hin hy (fun q => q.2 h65)) (vx_cwSW 6 hts gL_isOffer_L_does rfl rfl rfl (by decide +kernel) ⟨(Nat.le_of_ble_eq_true rfl), (Nat.le_of_ble_eq_true rfl)⟩) (lps hG hP hD hS) rfl rfl hl.1 rfl (lv_room (Nat.le_of_ble_eq_true rfl)) dL_isOffer_84 ⟨(Nat.le_of_ble_eq_true rfl), (Nat.le_of_ble_eq_true rfl)⟩) hS hP hD (fun r84 w H locs hp hP hD hS => ?_)
          obtain ⟨hv9, hp⟩ := hp
          rw [hv9]
          have hDk : DE K ad td n M w := hp
          refine lv_istore (lv' := [(7, .int (-10)), (6, .int 0), (0, .ref (ad 0)), (1, .ref (q 1)), (2, .ref (q 2)), (3, .ref (q 7)), (4, .int (nI i)), (5, .int (nI y))]) hx hb dL_isOffer_87 hl (by decide) rfl (fun ls hl => ?_)
          refine lv_iload hx hb dL_isOffer_89 (lv_at hl 7 rfl) ?_
          refine lv_sipush (v := 5000) hx hb dL_isOffer_91 (by decide) ?_
          refine lv_icmp_gt (tgt := 102) hx hb dL_isOffer_94 (by decide) (fun h94 => False.elim (hy.2 h94)) (fun h94 => ?_)
          refine lv_iload hx hb dL_isOffer_97 (lv_at hl 1 rfl) ?_
          refine lv_if_ne (tgt := 128) hx hb dL_isOffer_99 (by decide) (fun h99 => False.elim (absurd (by decide) h99)) (fun h99 => ?_)
          refine lv_iload hx hb dL_isOffer_102 (lv_at hl 0 rfl) ?_
          refine lv_iload hx hb dL_isOffer_104 (lv_at hl 7 rfl) ?_
          refine lv_sipush (v := 5000) hx hb dL_isOffer_106 (by decide) ?_
          refine lv_icmp_le (tgt := 117) hx hb dL_isOffer_109 (by decide) (fun h109 => ?_) (fun h109 => False.elim (hy.2 (i32_nle.mp h109)))
          refine lv_bipush (v := (-10)) hx hb dL_isOffer_117 (by decide) ?_
          refine lv_icmp_ne (tgt := 126) hx hb dL_isOffer_119 (by decide) (fun h119 => False.elim (absurd (by decide) h119)) (fun h119 => ?_)
          refine lv_iconst (v := 1) hx hb dL_isOffer_122 (by decide) ?_
          refine lv_goto (tgt := 127) hx hb dL_isOffer_123 (by decide) ?_
          exact kr_z hx hb hr hlocks hP hD hS (Nat.le_of_ble_eq_true rfl) (Nat.le_of_ble_eq_true rfl) (Or.inr rfl) (⟨rfl, _, _, _, _, _, _, _, _, _, _, _, rfl, hDk, hR, hJ.up⟩) dL_isOffer_127
        · refine kf_i (W2 := LA K q fb ft fn fm fl fu fg) (vx_runSW (As := [.ref (ad 0), .int 6, .int (nI i), .int (nI y), .int 0, .int 0]) (rest := []) ⟨hx, hb, hml, hown, hts⟩ (h_offer_tr hDk hlt hin hy) (vx_cwSW 6 hts gL_isOffer_L_does rfl rfl rfl (by decide +kernel) ⟨(Nat.le_of_ble_eq_true rfl), (Nat.le_of_ble_eq_true rfl)⟩) (lps hG hP hD hS) rfl rfl hl.1 rfl (lv_room (Nat.le_of_ble_eq_true rfl)) dL_isOffer_84 ⟨(Nat.le_of_ble_eq_true rfl), (Nat.le_of_ble_eq_true rfl)⟩) hS hP hD (fun r84 w H locs hp hP hD hS => ?_)
          obtain ⟨hv9, hp⟩ := hp
          rw [hv9]
          have hDk : DE K ad td n M w := hp
          refine lv_istore (lv' := [(7, .int (-20)), (6, .int 0), (0, .ref (ad 0)), (1, .ref (q 1)), (2, .ref (q 2)), (3, .ref (q 7)), (4, .int (nI i)), (5, .int (nI y))]) hx hb dL_isOffer_87 hl (by decide) rfl (fun ls hl => ?_)
          refine lv_iload hx hb dL_isOffer_89 (lv_at hl 7 rfl) ?_
          refine lv_sipush (v := 5000) hx hb dL_isOffer_91 (by decide) ?_
          refine lv_icmp_gt (tgt := 102) hx hb dL_isOffer_94 (by decide) (fun h94 => ?_) (fun h94 => False.elim (hy ⟨nI_pos (by omega), h94⟩))
          refine lv_iload hx hb dL_isOffer_102 (lv_at hl 0 rfl) ?_
          refine lv_iload hx hb dL_isOffer_104 (lv_at hl 7 rfl) ?_
          refine lv_sipush (v := 5000) hx hb dL_isOffer_106 (by decide) ?_
          refine lv_icmp_le (tgt := 117) hx hb dL_isOffer_109 (by decide) (fun h109 => False.elim (hy ⟨nI_pos (by omega), i32_nlt.mpr h109⟩)) (fun h109 => ?_)
          refine lv_bipush (v := (-20)) hx hb dL_isOffer_112 (by decide) ?_
          refine lv_goto (tgt := 119) hx hb dL_isOffer_114 (by decide) ?_
          refine lv_icmp_ne (tgt := 126) hx hb dL_isOffer_119 (by decide) (fun h119 => False.elim (absurd (by decide) h119)) (fun h119 => ?_)
          refine lv_iconst (v := 1) hx hb dL_isOffer_122 (by decide) ?_
          refine lv_goto (tgt := 127) hx hb dL_isOffer_123 (by decide) ?_
          exact kr_z hx hb hr hlocks hP hD hS (Nat.le_of_ble_eq_true rfl) (Nat.le_of_ble_eq_true rfl) (Or.inr rfl) (⟨rfl, _, _, _, _, _, _, _, _, _, _, _, rfl, hDk, hR, hJ.up⟩) dL_isOffer_127
      · refine lv_iconst (v := 1) hx hb dL_isOffer_68 (by decide) ?_
        refine lv_goto (tgt := 73) hx hb dL_isOffer_69 (by decide) ?_
        refine lv_istore (lv' := [(6, .int 1), (0, .ref (ad 0)), (1, .ref (q 1)), (2, .ref (q 2)), (3, .ref (q 7)), (4, .int (nI i)), (5, .int (nI y))]) hx hb dL_isOffer_73 hl (by decide) rfl (fun ls hl => ?_)
        refine lv_aload_n hx hb dL_isOffer_75 rfl (lv_at hl 1 rfl) ?_
        refine lv_bipush (v := 6) hx hb dL_isOffer_76 (by decide) ?_
        refine lv_iload hx hb dL_isOffer_78 (lv_at hl 5 rfl) ?_
        refine lv_iload hx hb dL_isOffer_80 (lv_at hl 6 rfl) ?_
        refine lv_iconst (v := 0) hx hb dL_isOffer_82 (by decide) ?_
        refine lv_iconst (v := 0) hx hb dL_isOffer_83 (by decide) ?_
        by_cases hy : inR 0 5000 (nI y)
        · refine kf_i (W2 := LA K q fb ft fn fm fl fu fg) (vx_runSW (As := [.ref (ad 0), .int 6, .int (nI i), .int (nI y), .int 0, .int 0]) (rest := []) ⟨hx, hb, hml, hown, hts⟩ (h_offer hDk hin hy ⟨h51, h65⟩) (vx_cwSW 6 hts gL_isOffer_L_does rfl rfl rfl (by decide +kernel) ⟨(Nat.le_of_ble_eq_true rfl), (Nat.le_of_ble_eq_true rfl)⟩) (lps hG hP hD hS) rfl rfl hl.1 rfl (lv_room (Nat.le_of_ble_eq_true rfl)) dL_isOffer_84 ⟨(Nat.le_of_ble_eq_true rfl), (Nat.le_of_ble_eq_true rfl)⟩) hS hP hD (fun r84 w H locs hp hP hD hS => ?_)
          obtain ⟨hv9, hp⟩ := hp
          rw [hv9]
          have hDk : DE K ad td n (up2 M 7 i (nI y)) w := hp
          have hO := off_law hJ hin hy h51 h65 (by omega)
          refine lv_istore (lv' := [(7, .int (price td (up2 M 7 i (nI y)) i)), (6, .int 1), (0, .ref (ad 0)), (1, .ref (q 1)), (2, .ref (q 2)), (3, .ref (q 7)), (4, .int (nI i)), (5, .int (nI y))]) hx hb dL_isOffer_87 hl (by decide) rfl (fun ls hl => ?_)
          refine lv_iload hx hb dL_isOffer_89 (lv_at hl 7 rfl) ?_
          refine lv_sipush (v := 5000) hx hb dL_isOffer_91 (by decide) ?_
          refine lv_icmp_gt (tgt := 102) hx hb dL_isOffer_94 (by decide) (fun h94 => False.elim (hy.2 h94)) (fun h94 => ?_)
          refine lv_iload hx hb dL_isOffer_97 (lv_at hl 1 rfl) ?_
          refine lv_if_ne (tgt := 128) hx hb dL_isOffer_99 (by decide) (fun h99 => ?_) (fun h99 => False.elim (absurd h99 (by decide)))
          refine lv_aload_n hx hb dL_isOffer_128 rfl (lv_at hl 4 rfl) ?_
          refine lv_bipush (v := 30) hx hb dL_isOffer_129 (by decide) ?_
          refine lv_iload hx hb dL_isOffer_131 (lv_at hl 6 rfl) ?_
          refine lv_iadd hx hb dL_isOffer_133 ?_
          refine lv_iload hx hb dL_isOffer_134 (lv_at hl 7 rfl) ?_
          refine kla_st (n := 60) (j := 30 + i) hx hb hG hP hD hS 1 (x30 i) rfl (by omega) (by decide) dL_isOffer_136 (fun H locs hP hD hS => ?_)
          have hP : va_P K.1 kCl (w ++ LA K q fb (upd ft (30 + i) (nI y)) fn fm fl fu fg) H := hP
          have hD : va_D A (w ++ LA K q fb (upd ft (30 + i) (nI y)) fn fm fl fu fg) := hD
          refine lv_aload_n hx hb dL_isOffer_137 rfl (lv_at hl 3 rfl) ?_
          refine lv_iconst (v := 2) hx hb dL_isOffer_138 (by decide) ?_
          refine lv_iload hx hb dL_isOffer_139 (lv_at hl 6 rfl) ?_
          refine lv_imul hx hb dL_isOffer_141 ?_
          refine lv_iconst (v := 1) hx hb dL_isOffer_142 (by decide) ?_
          refine lv_iadd hx hb dL_isOffer_143 ?_
          refine kla_ld (n := 60) (j := 2 * i + 1) (z := (M 5 i)) hx hb hG hP 0 (x21 i) (hR.b1 hin) rfl (by omega) (by decide) dL_isOffer_144 ?_
          refine lv_aload_n hx hb dL_isOffer_145 rfl (lv_at hl 5 rfl) ?_
          refine lv_iconst (v := 1) hx hb dL_isOffer_146 (by decide) ?_
          refine kla_ld (n := 2) (j := 1) (z := td) hx hb hG hP 6 rfl hR.g1 rfl (by omega) (by decide) dL_isOffer_147 ?_
          refine lv_isub hx hb dL_isOffer_148 ?_
          refine lv_i2l (v := (((M 5 i) - td) : Int32).toInt64) hx hb dL_isOffer_149 rfl ?_
          refine lv_lstore (lv' := [(8, .long ((((M 5 i) - td) : Int32).toInt64)), (7, .int (price td (up2 M 7 i (nI y)) i)), (6, .int 1), (0, .ref (ad 0)), (1, .ref (q 1)), (2, .ref (q 2)), (3, .ref (q 7)), (4, .int (nI i)), (5, .int (nI y))]) hx hb dL_isOffer_150 hl (by decide) rfl (fun ls hl => ?_)
          refine lv_aload_n hx hb dL_isOffer_152 rfl (lv_at hl 3 rfl) ?_
          refine lv_iload hx hb dL_isOffer_153 (lv_at hl 7 rfl) ?_
          obtain ⟨bad, rm, kq, idx, hQ⟩ := hDk
          refine kf_i (W2 := LA K q fb (upd ft (30 + i) (nI y)) fn fm fl fu fg) (va_runV (As := [.int (nI i)]) (rest := []) ⟨hx, hb, hml, hown, hts⟩ (c_X1_amount hQ hin) (cwV 1 hts gL_isOffer_X1_amount rfl rfl rfl (by decide +kernel) ⟨(Nat.le_of_ble_eq_true rfl), (Nat.le_of_ble_eq_true rfl)⟩) (lpv (q0 := 0) hG hP hD hS hQ.x rfl) rfl rfl hl.1 rfl (lv_room (Nat.le_of_ble_eq_true rfl)) dL_isOffer_155 ⟨(Nat.le_of_ble_eq_true rfl), (Nat.le_of_ble_eq_true rfl)⟩) hS hP hD (fun r155 w H locs hp hP hD hS => ?_)
          obtain ⟨hv9, hp⟩ := hp
          rw [hv9]
          have hDk : DE K ad td n (up2 M 7 i (nI y)) w := ⟨_, _, _, _, hp⟩
          refine ktop (z := (M 4 i)) (up2_ne _ _ _ _ (by decide)) ?_
          refine lv_iload hx hb dL_isOffer_158 (lv_at hl 1 rfl) ?_
          refine lv_isub hx hb dL_isOffer_160 ?_
          refine lv_i2l (v := (((M 4 i) - (price td (up2 M 7 i (nI y)) i)) : Int32).toInt64) hx hb dL_isOffer_161 rfl ?_
          refine lv_lstore (lv' := [(10, .long ((((M 4 i) - (price td (up2 M 7 i (nI y)) i)) : Int32).toInt64)), (8, .long ((((M 5 i) - td) : Int32).toInt64)), (7, .int (price td (up2 M 7 i (nI y)) i)), (6, .int 1), (0, .ref (ad 0)), (1, .ref (q 1)), (2, .ref (q 2)), (3, .ref (q 7)), (4, .int (nI i)), (5, .int (nI y))]) hx hb dL_isOffer_162 hl (by decide) rfl (fun ls hl => ?_)
          refine lv_iload hx hb dL_isOffer_164 (lv_at hl 2 rfl) ?_
          refine lv_if_lt (tgt := 223) hx hb dL_isOffer_166 (by decide) (fun h166 => False.elim (hO.1 h166)) (fun h166 => ?_)
          refine lv_lload hx hb dL_isOffer_169 (lv_at hl 0 rfl) ?_
          refine lv_ldc2 (v := 3600000) hx hb hown (hts (.constantLong RL 111 3600000) (by decide +kernel)) dL_isOffer_171 ?_
          refine lv_lmul hx hb dL_isOffer_174 ?_
          refine lv_aload_n hx hb dL_isOffer_175 rfl (lv_at hl 4 rfl) ?_
          refine lv_iload hx hb dL_isOffer_176 (lv_at hl 8 rfl) ?_
          obtain ⟨bad, rm, kq, idx, hQ⟩ := hDk
          refine kf_i (W2 := LA K q fb (upd ft (30 + i) (nI y)) fn fm fl fu fg) (va_runV (As := [.int (nI i)]) (rest := [.long ((((M 4 i) - (price td (up2 M 7 i (nI y)) i)) : Int32).toInt64 * 3600000)]) ⟨hx, hb, hml, hown, hts⟩ (c_X1_amount hQ hin) (cwV 1 hts gL_isOffer_X1_amount rfl rfl rfl (by decide +kernel) ⟨(Nat.le_of_ble_eq_true rfl), (Nat.le_of_ble_eq_true rfl)⟩) (lpv (q0 := 0) hG hP hD hS hQ.x rfl) rfl rfl hl.1 rfl (lv_room (Nat.le_of_ble_eq_true rfl)) dL_isOffer_178 ⟨(Nat.le_of_ble_eq_true rfl), (Nat.le_of_ble_eq_true rfl)⟩) hS hP hD (fun r178 w H locs hp hP hD hS => ?_)
          obtain ⟨hv9, hp⟩ := hp
          rw [hv9]
          have hDk : DE K ad td n (up2 M 7 i (nI y)) w := ⟨_, _, _, _, hp⟩
          refine ktop (z := (M 4 i)) (up2_ne _ _ _ _ (by decide)) ?_
          refine lv_i2l (v := ((M 4 i) : Int32).toInt64) hx hb dL_isOffer_181 rfl ?_
          refine lv_iload hx hb dL_isOffer_182 (lv_at hl 9 rfl) ?_
          refine lv_i2l (v := (nI y : Int32).toInt64) hx hb dL_isOffer_184 rfl ?_
          refine lv_lmul hx hb dL_isOffer_185 ?_
          refine lv_lload hx hb dL_isOffer_186 (lv_at hl 1 rfl) ?_
          refine lv_lmul hx hb dL_isOffer_188 ?_
          refine W.lcmp hx hb dL_isOffer_189 ?_
          refine lv_if_gt (tgt := 223) hx hb dL_isOffer_190 (by decide) (fun h190 => False.elim (hO.2.1 h190)) (fun h190 => ?_)
          refine lv_lload hx hb dL_isOffer_193 (lv_at hl 0 rfl) ?_
          refine lv_lconst (v := 1) hx hb dL_isOffer_195 (by decide) ?_
          refine lv_ladd hx hb dL_isOffer_196 ?_
          refine lv_ldc2 (v := 3600000) hx hb hown (hts (.constantLong RL 111 3600000) (by decide +kernel)) dL_isOffer_197 ?_
          refine lv_lmul hx hb dL_isOffer_200 ?_
          refine lv_aload_n hx hb dL_isOffer_201 rfl (lv_at hl 4 rfl) ?_
          refine lv_iload hx hb dL_isOffer_202 (lv_at hl 8 rfl) ?_
          obtain ⟨bad, rm, kq, idx, hQ⟩ := hDk
          refine kf_i (W2 := LA K q fb (upd ft (30 + i) (nI y)) fn fm fl fu fg) (va_runV (As := [.int (nI i)]) (rest := [.long (((((M 4 i) - (price td (up2 M 7 i (nI y)) i)) : Int32).toInt64 + 1) * 3600000)]) ⟨hx, hb, hml, hown, hts⟩ (c_X1_amount hQ hin) (cwV 1 hts gL_isOffer_X1_amount rfl rfl rfl (by decide +kernel) ⟨(Nat.le_of_ble_eq_true rfl), (Nat.le_of_ble_eq_true rfl)⟩) (lpv (q0 := 0) hG hP hD hS hQ.x rfl) rfl rfl hl.1 rfl (lv_room (Nat.le_of_ble_eq_true rfl)) dL_isOffer_204 ⟨(Nat.le_of_ble_eq_true rfl), (Nat.le_of_ble_eq_true rfl)⟩) hS hP hD (fun r204 w H locs hp hP hD hS => ?_)
          obtain ⟨hv9, hp⟩ := hp
          rw [hv9]
          have hDk : DE K ad td n (up2 M 7 i (nI y)) w := ⟨_, _, _, _, hp⟩
          refine ktop (z := (M 4 i)) (up2_ne _ _ _ _ (by decide)) ?_
          refine lv_i2l (v := ((M 4 i) : Int32).toInt64) hx hb dL_isOffer_207 rfl ?_
          refine lv_iload hx hb dL_isOffer_208 (lv_at hl 9 rfl) ?_
          refine lv_i2l (v := (nI y : Int32).toInt64) hx hb dL_isOffer_210 rfl ?_
          refine lv_lmul hx hb dL_isOffer_211 ?_
          refine lv_lload hx hb dL_isOffer_212 (lv_at hl 1 rfl) ?_
          refine lv_lmul hx hb dL_isOffer_214 ?_
          refine W.lcmp hx hb dL_isOffer_215 ?_
          refine lv_if_le (tgt := 223) hx hb dL_isOffer_216 (by decide) (fun h216 => False.elim (hO.2.2 h216)) (fun h216 => ?_)
          refine lv_iconst (v := 1) hx hb dL_isOffer_219 (by decide) ?_
          refine lv_goto (tgt := 224) hx hb dL_isOffer_220 (by decide) ?_
          exact kr_z hx hb hr hlocks hP hD hS (Nat.le_of_ble_eq_true rfl) (Nat.le_of_ble_eq_true rfl) (Or.inr rfl) (⟨rfl, _, _, _, _, _, _, _, _, _, _, _, rfl, hDk, hR.rate hn30, hJ.rate hin (n1 h51) (Or.inr hy)⟩) dL_isOffer_224
        · refine kf_i (W2 := LA K q fb ft fn fm fl fu fg) (vx_runSW (As := [.ref (ad 0), .int 6, .int (nI i), .int (nI y), .int 0, .int 0]) (rest := []) ⟨hx, hb, hml, hown, hts⟩ (h_offer_tr hDk hlt hin hy) (vx_cwSW 6 hts gL_isOffer_L_does rfl rfl rfl (by decide +kernel) ⟨(Nat.le_of_ble_eq_true rfl), (Nat.le_of_ble_eq_true rfl)⟩) (lps hG hP hD hS) rfl rfl hl.1 rfl (lv_room (Nat.le_of_ble_eq_true rfl)) dL_isOffer_84 ⟨(Nat.le_of_ble_eq_true rfl), (Nat.le_of_ble_eq_true rfl)⟩) hS hP hD (fun r84 w H locs hp hP hD hS => ?_)
          obtain ⟨hv9, hp⟩ := hp
          rw [hv9]
          have hDk : DE K ad td n M w := hp
          refine lv_istore (lv' := [(7, .int (-20)), (6, .int 1), (0, .ref (ad 0)), (1, .ref (q 1)), (2, .ref (q 2)), (3, .ref (q 7)), (4, .int (nI i)), (5, .int (nI y))]) hx hb dL_isOffer_87 hl (by decide) rfl (fun ls hl => ?_)
          refine lv_iload hx hb dL_isOffer_89 (lv_at hl 7 rfl) ?_
          refine lv_sipush (v := 5000) hx hb dL_isOffer_91 (by decide) ?_
          refine lv_icmp_gt (tgt := 102) hx hb dL_isOffer_94 (by decide) (fun h94 => ?_) (fun h94 => False.elim (hy ⟨nI_pos (by omega), h94⟩))
          refine lv_iload hx hb dL_isOffer_102 (lv_at hl 0 rfl) ?_
          refine lv_iload hx hb dL_isOffer_104 (lv_at hl 7 rfl) ?_
          refine lv_sipush (v := 5000) hx hb dL_isOffer_106 (by decide) ?_
          refine lv_icmp_le (tgt := 117) hx hb dL_isOffer_109 (by decide) (fun h109 => False.elim (hy ⟨nI_pos (by omega), i32_nlt.mpr h109⟩)) (fun h109 => ?_)
          refine lv_bipush (v := (-20)) hx hb dL_isOffer_112 (by decide) ?_
          refine lv_goto (tgt := 119) hx hb dL_isOffer_114 (by decide) ?_
          refine lv_icmp_ne (tgt := 126) hx hb dL_isOffer_119 (by decide) (fun h119 => False.elim (absurd (by decide) h119)) (fun h119 => ?_)
          refine lv_iconst (v := 1) hx hb dL_isOffer_122 (by decide) ?_
          refine lv_goto (tgt := 127) hx hb dL_isOffer_123 (by decide) ?_
          exact kr_z hx hb hr hlocks hP hD hS (Nat.le_of_ble_eq_true rfl) (Nat.le_of_ble_eq_true rfl) (Or.inr rfl) (⟨rfl, _, _, _, _, _, _, _, _, _, _, _, rfl, hDk, hR, hJ.up⟩) dL_isOffer_127
  · refine lv_aload_n hx hb dL_isOffer_8 rfl (lv_at hl 0 rfl) ?_
    refine lv_bipush (v := 6) hx hb dL_isOffer_9 (by decide) ?_
    refine lv_iload hx hb dL_isOffer_11 (lv_at hl 4 rfl) ?_
    refine lv_iconst (v := 0) hx hb dL_isOffer_13 (by decide) ?_
    refine lv_iconst (v := 0) hx hb dL_isOffer_14 (by decide) ?_
    refine lv_iconst (v := 0) hx hb dL_isOffer_15 (by decide) ?_
    refine kf_i (W2 := LA K q fb ft fn fm fl fu fg) (vx_runSW (As := [.ref (ad 0), .int 6, .int (nI i), .int 0, .int 0, .int 0]) (rest := []) ⟨hx, hb, hml, hown, hts⟩ (h_offer_tb hDk hlt (ixe hn30 h5)) (vx_cwSW 6 hts gL_isOffer_L_does rfl rfl rfl (by decide +kernel) ⟨(Nat.le_of_ble_eq_true rfl), (Nat.le_of_ble_eq_true rfl)⟩) (lps hG hP hD hS) rfl rfl hl.1 rfl (lv_room (Nat.le_of_ble_eq_true rfl)) dL_isOffer_16 ⟨(Nat.le_of_ble_eq_true rfl), (Nat.le_of_ble_eq_true rfl)⟩) hS hP hD (fun r16 w H locs hp hP hD hS => ?_)
    obtain ⟨hv9, hp⟩ := hp
    rw [hv9]
    have hDk : DE K ad td n M w := hp
    refine lv_bipush (v := (-30)) hx hb dL_isOffer_19 (by decide) ?_
    refine lv_icmp_ne (tgt := 44) hx hb dL_isOffer_21 (by decide) (fun h21 => False.elim (absurd (by decide) h21)) (fun h21 => ?_)
    refine lv_aload_n hx hb dL_isOffer_24 rfl (lv_at hl 0 rfl) ?_
    refine lv_bipush (v := 7) hx hb dL_isOffer_25 (by decide) ?_
    refine lv_iload hx hb dL_isOffer_27 (lv_at hl 4 rfl) ?_
    refine lv_iconst (v := 0) hx hb dL_isOffer_29 (by decide) ?_
    refine lv_iconst (v := 0) hx hb dL_isOffer_30 (by decide) ?_
    refine lv_iconst (v := 0) hx hb dL_isOffer_31 (by decide) ?_
    refine kf_i (W2 := LA K q fb ft fn fm fl fu fg) (vx_runSW (As := [.ref (ad 0), .int 7, .int (nI i), .int 0, .int 0, .int 0]) (rest := []) ⟨hx, hb, hml, hown, hts⟩ (h_takeBack_tb hDk hlt (ixe hn30 h5)) (vx_cwSW 6 hts gL_isOffer_L_does rfl rfl rfl (by decide +kernel) ⟨(Nat.le_of_ble_eq_true rfl), (Nat.le_of_ble_eq_true rfl)⟩) (lps hG hP hD hS) rfl rfl hl.1 rfl (lv_room (Nat.le_of_ble_eq_true rfl)) dL_isOffer_32 ⟨(Nat.le_of_ble_eq_true rfl), (Nat.le_of_ble_eq_true rfl)⟩) hS hP hD (fun r32 w H locs hp hP hD hS => ?_)
    obtain ⟨hv9, hp⟩ := hp
    rw [hv9]
    have hDk : DE K ad td n M w := hp
    refine lv_bipush (v := (-30)) hx hb dL_isOffer_35 (by decide) ?_
    refine lv_icmp_ne (tgt := 44) hx hb dL_isOffer_37 (by decide) (fun h37 => False.elim (absurd (by decide) h37)) (fun h37 => ?_)
    refine lv_iconst (v := 1) hx hb dL_isOffer_40 (by decide) ?_
    refine lv_goto (tgt := 45) hx hb dL_isOffer_41 (by decide) ?_
    exact kr_z hx hb hr hlocks hP hD hS (Nat.le_of_ble_eq_true rfl) (Nat.le_of_ble_eq_true rfl) (Or.inr rfl) (⟨rfl, _, _, _, _, _, _, _, _, _, _, _, rfl, hDk, hR, hJ.up⟩) dL_isOffer_45
set_option maxHeartbeats 4000000 in
set_option maxRecDepth 100000 in
theorem c_isNote {l : Launch} {K : Ks} {A : Nat → Prop} {ad q : Nat → Nat} {sn : Nat} {td : Int32} {n : Nat} {M : Nat → Nat → Int32} {w : va_W} {fb ft fn fm fl fu fg : Nat → Int32} (hlt : l.stackTraces = false) (hDk : DE K ad td n M w) (hR : LR td n M fb ft fn fm fl fu fg) (hJ : Jv sn td n M) (hsn : sn ≤ 1000) {i : Nat} (hile : i ≤ n) {yy : Nat} (hyy : yy < 7000) : Met l yL_isNote wsL_isNote (kR 7 1 6) (kPr K A [.ref (ad 0), .ref (q 1), .ref (q 2), .ref (q 3), .ref (q 4), .ref (q 7), .int (nI i), .int (nI yy)] (w ++ LA K q fb ft fn fm fl fu fg)) (kQi K A (fun r w1 => r = 1 ∧ LSw K ad q (sn + 1) w1)) 1 6 A := by
  have hn30 := hJ.1.1.1
  have hok := hJ.1.ok
  refine kent (cc := cL_isNote) (maxL := 13) (ret := (some .boolean)) (by decide) rfl (Nat.le_of_ble_eq_true rfl) ?_
  intro p e s m args below meth c ls hx hb hr hts hown hlocks hml hini hG hP hD hS hl
  have hl : lv_has ls 13 [(0, .ref (ad 0)), (1, .ref (q 1)), (2, .ref (q 2)), (3, .ref (q 3)), (4, .ref (q 4)), (5, .ref (q 7)), (6, .int (nI i)), (7, .int (nI yy))] := hl
  refine lv_iload hx hb dL_isNote_0 (lv_at hl 6 rfl) ?_
  refine lv_aload hx hb dL_isNote_2 (lv_at hl 5 rfl) ?_
  refine lv_iconst (v := 0) hx hb dL_isNote_4 (by decide) ?_
  refine kla_ld (n := 2) (j := 0) (z := (nI n)) hx hb hG hP 6 rfl hR.g0 rfl (by omega) (by decide) dL_isNote_5 ?_
  refine lv_icmp_ne (tgt := 30) hx hb dL_isNote_6 (by decide) (fun h6 => ?_) (fun h6 => ?_)
  · have hin : i < n := ltn hile (by omega) h6
    have hprl := pr_lt (hok i hin)
    refine lv_aload_n hx hb dL_isNote_30 rfl (lv_at hl 0 rfl) ?_
    refine lv_iload hx hb dL_isNote_31 (lv_at hl 6 rfl) ?_
    obtain ⟨bad, rm, kq, idx, hQ⟩ := hDk
    refine kf_i (W2 := LA K q fb ft fn fm fl fu fg) (va_runV (As := [.int (nI i)]) (rest := []) ⟨hx, hb, hml, hown, hts⟩ (c_X1_amount hQ hin) (cwV 1 hts gL_isNote_X1_amount rfl rfl rfl (by decide +kernel) ⟨(Nat.le_of_ble_eq_true rfl), (Nat.le_of_ble_eq_true rfl)⟩) (lpv (q0 := 0) hG hP hD hS hQ.x rfl) rfl rfl hl.1 rfl (lv_room (Nat.le_of_ble_eq_true rfl)) dL_isNote_33 ⟨(Nat.le_of_ble_eq_true rfl), (Nat.le_of_ble_eq_true rfl)⟩) hS hP hD (fun r33 w H locs hp hP hD hS => ?_)
    obtain ⟨hv9, hp⟩ := hp
    rw [hv9]
    have hDk : DE K ad td n M w := ⟨_, _, _, _, hp⟩
    refine lv_istore (lv' := [(8, .int (M 4 i)), (0, .ref (ad 0)), (1, .ref (q 1)), (2, .ref (q 2)), (3, .ref (q 3)), (4, .ref (q 4)), (5, .ref (q 7)), (6, .int (nI i)), (7, .int (nI yy))]) hx hb dL_isNote_36 hl (by decide) rfl (fun ls hl => ?_)
    refine lv_iload hx hb dL_isNote_38 (lv_at hl 0 rfl) ?_
    refine lv_aload_n hx hb dL_isNote_40 rfl (lv_at hl 4 rfl) ?_
    refine lv_iload hx hb dL_isNote_41 (lv_at hl 7 rfl) ?_
    refine kla_ld (n := 30) (j := i) (z := (M 10 i)) hx hb hG hP 2 rfl (hR.n0 hin) rfl (by omega) (by decide) dL_isNote_43 ?_
    refine lv_isub hx hb dL_isNote_44 ?_
    refine lv_istore (lv' := [(9, .int ((M 4 i) - (M 10 i))), (8, .int (M 4 i)), (0, .ref (ad 0)), (1, .ref (q 1)), (2, .ref (q 2)), (3, .ref (q 3)), (4, .ref (q 4)), (5, .ref (q 7)), (6, .int (nI i)), (7, .int (nI yy))]) hx hb dL_isNote_45 hl (by decide) rfl (fun ls hl => ?_)
    have J81 : ∀ (am : Int32), W p l e (kR 7 1 6) s m args below meth c H locs 0 0 (MQ below (kQi K A (fun r w1 => r = 1 ∧ LSw K ad q (sn + 1) w1)) args s 1 6 A) (F0 m 81 ls [.int am]) := by
      intro am
      refine lv_istore (lv' := [(10, .int am), (9, .int ((M 4 i) - (M 10 i))), (8, .int (M 4 i)), (0, .ref (ad 0)), (1, .ref (q 1)), (2, .ref (q 2)), (3, .ref (q 3)), (4, .ref (q 4)), (5, .ref (q 7)), (6, .int (nI i)), (7, .int (nI yy))]) hx hb dL_isNote_81 hl (by decide) rfl (fun ls hl => ?_)
      refine lv_aload_n hx hb dL_isNote_83 rfl (lv_at hl 3 rfl) ?_
      refine lv_aload_n hx hb dL_isNote_84 rfl (lv_at hl 4 rfl) ?_
      refine lv_iconst (v := 2) hx hb dL_isNote_85 (by decide) ?_
      refine lv_iload hx hb dL_isNote_86 (lv_at hl 9 rfl) ?_
      refine lv_imul hx hb dL_isNote_88 ?_
      refine kla_ld (n := 60) (j := 2 * i) (z := (nI (pr M i))) hx hb hG hP 0 (x2 i) (hR.b0 hin) rfl (by omega) (by decide) dL_isNote_89 ?_
      refine lv_bipush (v := 8) hx hb dL_isNote_90 (by decide) ?_
      refine lv_idiv hx hb dL_isNote_92 (by decide) ?_
      refine ktop (z := nI (pr M i / 8)) (d8 (by omega)) ?_
      refine lv_aload_n hx hb dL_isNote_93 rfl (lv_at hl 4 rfl) ?_
      refine lv_iconst (v := 2) hx hb dL_isNote_94 (by decide) ?_
      refine lv_iload hx hb dL_isNote_95 (lv_at hl 9 rfl) ?_
      refine lv_imul hx hb dL_isNote_97 ?_
      refine kla_ld (n := 60) (j := 2 * i) (z := (nI (pr M i))) hx hb hG hP 0 (x2 i) (hR.b0 hin) rfl (by omega) (by decide) dL_isNote_98 ?_
      refine lv_bipush (v := 8) hx hb dL_isNote_99 (by decide) ?_
      refine lv_irem hx hb dL_isNote_101 (by decide) ?_
      refine ktop (z := nI (pr M i % 8)) (m8 (by omega)) ?_
      obtain ⟨bad, rm, kq, idx, hQ⟩ := hDk
      refine kf_i (W2 := LA K q fb ft fn fm fl fu fg) (va_runV (As := [.int (nI (pr M i / 8)), .int (nI (pr M i % 8))]) (rest := []) ⟨hx, hb, hml, hown, hts⟩ (c_claim_p hQ hprl.1) (cwV 2 hts gL_isNote_X1_claim rfl rfl rfl (by decide +kernel) ⟨(Nat.le_of_ble_eq_true rfl), (Nat.le_of_ble_eq_true rfl)⟩) (lpv (q0 := 0) hG hP hD hS hQ.x rfl) rfl rfl hl.1 rfl (lv_room (Nat.le_of_ble_eq_true rfl)) dL_isNote_102 ⟨(Nat.le_of_ble_eq_true rfl), (Nat.le_of_ble_eq_true rfl)⟩) hS hP hD (fun r102 w H locs hp hP hD hS => ?_)
      obtain ⟨hv9, hp⟩ := hp
      rw [hv9]
      have hDk : DE K ad td n M w := ⟨_, _, _, _, hp⟩
      refine lv_istore (lv' := [(11, .int (M 13 (pr M i))), (10, .int am), (9, .int ((M 4 i) - (M 10 i))), (8, .int (M 4 i)), (0, .ref (ad 0)), (1, .ref (q 1)), (2, .ref (q 2)), (3, .ref (q 3)), (4, .ref (q 4)), (5, .ref (q 7)), (6, .int (nI i)), (7, .int (nI yy))]) hx hb dL_isNote_105 hl (by decide) rfl (fun ls hl => ?_)
      refine lv_aload_n hx hb dL_isNote_107 rfl (lv_at hl 4 rfl) ?_
      refine lv_iconst (v := 5) hx hb dL_isNote_108 (by decide) ?_
      refine lv_iload hx hb dL_isNote_109 (lv_at hl 10 rfl) ?_
      refine lv_iload hx hb dL_isNote_111 (lv_at hl 1 rfl) ?_
      refine lv_iconst (v := 0) hx hb dL_isNote_113 (by decide) ?_
      refine lv_iconst (v := 0) hx hb dL_isNote_114 (by decide) ?_
      by_cases hy : inR 1 (M 4 i - M 10 i) am
      · by_cases hst : M 6 i = 3 ∨ M 6 i = 4
        · have hni := note_I (hJ.1.1.2.2.1 i hin) hy
          have hmo := more_I (M := M) (i := i) (y := am) (note_4 hJ hin hy) (hJ.1.2.1 i hin).2.1 (note_y hJ hin hy)
          refine kf_i (W2 := LA K q fb ft fn fm fl fu fg) (vx_runSW (As := [.ref (ad 0), .int 5, .int (nI i), .int am, .int 0, .int 0]) (rest := []) ⟨hx, hb, hml, hown, hts⟩ (h_note_p hDk hin (hok i hin) hni.1 hy hst) (vx_cwSW 6 hts gL_isNote_L_does rfl rfl rfl (by decide +kernel) ⟨(Nat.le_of_ble_eq_true rfl), (Nat.le_of_ble_eq_true rfl)⟩) (lps hG hP hD hS) rfl rfl hl.1 rfl (lv_room (Nat.le_of_ble_eq_true rfl)) dL_isNote_115 ⟨(Nat.le_of_ble_eq_true rfl), (Nat.le_of_ble_eq_true rfl)⟩) hS hP hD (fun r115 w H locs hp hP hD hS => ?_)
          obtain ⟨hv9, hp⟩ := hp
          rw [hv9]
          have hDk : DE K ad td n (noteM M i am) w := hp
          refine lv_istore (lv' := [(12, .int (moreS M i am)), (11, .int (M 13 (pr M i))), (10, .int am), (9, .int ((M 4 i) - (M 10 i))), (8, .int (M 4 i)), (0, .ref (ad 0)), (1, .ref (q 1)), (2, .ref (q 2)), (3, .ref (q 3)), (4, .ref (q 4)), (5, .ref (q 7)), (6, .int (nI i)), (7, .int (nI yy))]) hx hb dL_isNote_118 hl (by decide) rfl (fun ls hl => ?_)
          refine lv_iload hx hb dL_isNote_120 (lv_at hl 2 rfl) ?_
          refine lv_iconst (v := 1) hx hb dL_isNote_122 (by decide) ?_
          refine lv_icmp_lt (tgt := 133) hx hb dL_isNote_123 (by decide) (fun h123 => False.elim (hy.1 h123)) (fun h123 => ?_)
          refine lv_iload hx hb dL_isNote_126 (lv_at hl 2 rfl) ?_
          refine lv_iload hx hb dL_isNote_128 (lv_at hl 3 rfl) ?_
          refine lv_icmp_le (tgt := 157) hx hb dL_isNote_130 (by decide) (fun h130 => ?_) (fun h130 => False.elim (hy.2 (i32_nle.mp h130)))
          refine lv_aload_n hx hb dL_isNote_157 rfl (lv_at hl 7 rfl) ?_
          refine lv_iload hx hb dL_isNote_158 (lv_at hl 11 rfl) ?_
          refine kla_ld (n := 60) (j := i) (z := (M 6 i)) hx hb hG hP 1 rfl (hR.t0 hin) rfl (by omega) (by decide) dL_isNote_160 ?_
          refine lv_iconst (v := 3) hx hb dL_isNote_161 (by decide) ?_
          refine lv_icmp_ge (tgt := 192) hx hb dL_isNote_162 (by decide) (fun h162 => ?_) (fun h162 => False.elim (st3 hst h162))
          refine lv_aload_n hx hb dL_isNote_192 rfl (lv_at hl 8 rfl) ?_
          refine lv_iload hx hb dL_isNote_193 (lv_at hl 11 rfl) ?_
          refine lv_dup2_11 hx hb dL_isNote_195 rfl rfl ?_
          refine kla_ld (n := 30) (j := i) (z := (M 10 i)) hx hb hG hP 2 rfl (hR.n0 hin) rfl (by omega) (by decide) dL_isNote_196 ?_
          refine lv_iload hx hb dL_isNote_197 (lv_at hl 2 rfl) ?_
          refine lv_iadd hx hb dL_isNote_199 ?_
          refine kla_st (n := 30) (j := i) hx hb hG hP hD hS 2 rfl rfl (by omega) (by decide) dL_isNote_200 (fun H locs hP hD hS => ?_)
          have hP : va_P K.1 kCl (w ++ LA K q fb ft (upd fn i ((M 10 i) + am)) fm fl fu fg) H := hP
          have hD : va_D A (w ++ LA K q fb ft (upd fn i ((M 10 i) + am)) fm fl fu fg) := hD
          refine lv_aload hx hb dL_isNote_201 (lv_at hl 9 rfl) ?_
          refine lv_aload_n hx hb dL_isNote_203 rfl (lv_at hl 6 rfl) ?_
          refine lv_iconst (v := 2) hx hb dL_isNote_204 (by decide) ?_
          refine lv_iload hx hb dL_isNote_205 (lv_at hl 11 rfl) ?_
          refine lv_imul hx hb dL_isNote_207 ?_
          refine kla_ld (n := 60) (j := 2 * i) (z := (nI (pr M i))) hx hb hG hP 0 (x2 i) (hR.b0 hin) rfl (by omega) (by decide) dL_isNote_208 ?_
          refine lv_dup2_11 hx hb dL_isNote_209 rfl rfl ?_
          refine kla_ld (n := 32) (j := pr M i) (z := (fm (pr M i))) hx hb hG hP 3 rfl rfl rfl hprl.1 (by decide) dL_isNote_210 ?_
          refine lv_iload hx hb dL_isNote_211 (lv_at hl 0 rfl) ?_
          refine lv_iadd hx hb dL_isNote_213 ?_
          refine kla_st (n := 32) (j := pr M i) hx hb hG hP hD hS 3 rfl rfl hprl.1 (by decide) dL_isNote_214 (fun H locs hP hD hS => ?_)
          have hP : va_P K.1 kCl (w ++ LA K q fb ft (upd fn i ((M 10 i) + am)) (upd fm (pr M i) ((fm (pr M i)) + (moreS M i am))) fl fu fg) H := hP
          have hD : va_D A (w ++ LA K q fb ft (upd fn i ((M 10 i) + am)) (upd fm (pr M i) ((fm (pr M i)) + (moreS M i am))) fl fu fg) := hD
          refine lv_aload_n hx hb dL_isNote_215 rfl (lv_at hl 5 rfl) ?_
          refine lv_iload hx hb dL_isNote_216 (lv_at hl 11 rfl) ?_
          obtain ⟨bad, rm, kq, idx, hQ⟩ := hDk
          refine kf_i (W2 := LA K q fb ft (upd fn i ((M 10 i) + am)) (upd fm (pr M i) ((fm (pr M i)) + (moreS M i am))) fl fu fg) (va_runV (As := [.int (nI i)]) (rest := []) ⟨hx, hb, hml, hown, hts⟩ (c_X1_amount hQ hin) (cwV 1 hts gL_isNote_X1_amount rfl rfl rfl (by decide +kernel) ⟨(Nat.le_of_ble_eq_true rfl), (Nat.le_of_ble_eq_true rfl)⟩) (lpv (q0 := 0) hG hP hD hS hQ.x rfl) rfl rfl hl.1 rfl (lv_room (Nat.le_of_ble_eq_true rfl)) dL_isNote_218 ⟨(Nat.le_of_ble_eq_true rfl), (Nat.le_of_ble_eq_true rfl)⟩) hS hP hD (fun r218 w H locs hp hP hD hS => ?_)
          obtain ⟨hv9, hp⟩ := hp
          rw [hv9]
          have hDk : DE K ad td n (noteM M i am) w := ⟨_, _, _, _, hp⟩
          refine ktop (z := (M 4 i)) (noteM_n (by decide) (by decide)) ?_
          refine lv_iload hx hb dL_isNote_221 (lv_at hl 4 rfl) ?_
          refine lv_icmp_ne (tgt := 318) hx hb dL_isNote_223 (by decide) (fun h223 => False.elim (absurd rfl h223)) (fun h223 => ?_)
          refine lv_iload hx hb dL_isNote_226 (lv_at hl 0 rfl) ?_
          refine lv_if_lt (tgt := 318) hx hb dL_isNote_228 (by decide) (fun h228 => False.elim (note_0 hmo.1.1 h228)) (fun h228 => ?_)
          refine lv_iload hx hb dL_isNote_231 (lv_at hl 0 rfl) ?_
          refine lv_iload hx hb dL_isNote_233 (lv_at hl 2 rfl) ?_
          refine lv_icmp_gt (tgt := 318) hx hb dL_isNote_235 (by decide) (fun h235 => False.elim (note_1 hmo.1.2 h235)) (fun h235 => ?_)
          refine lv_aload_n hx hb dL_isNote_238 rfl (lv_at hl 5 rfl) ?_
          refine lv_aload_n hx hb dL_isNote_239 rfl (lv_at hl 6 rfl) ?_
          refine lv_iconst (v := 2) hx hb dL_isNote_240 (by decide) ?_
          refine lv_iload hx hb dL_isNote_241 (lv_at hl 11 rfl) ?_
          refine lv_imul hx hb dL_isNote_243 ?_
          refine kla_ld (n := 60) (j := 2 * i) (z := (nI (pr M i))) hx hb hG hP 0 (x2 i) (hR.b0 hin) rfl (by omega) (by decide) dL_isNote_244 ?_
          refine lv_bipush (v := 8) hx hb dL_isNote_245 (by decide) ?_
          refine lv_idiv hx hb dL_isNote_247 (by decide) ?_
          refine ktop (z := nI (pr M i / 8)) (d8 (by omega)) ?_
          refine lv_aload_n hx hb dL_isNote_248 rfl (lv_at hl 6 rfl) ?_
          refine lv_iconst (v := 2) hx hb dL_isNote_249 (by decide) ?_
          refine lv_iload hx hb dL_isNote_250 (lv_at hl 11 rfl) ?_
          refine lv_imul hx hb dL_isNote_252 ?_
          refine kla_ld (n := 60) (j := 2 * i) (z := (nI (pr M i))) hx hb hG hP 0 (x2 i) (hR.b0 hin) rfl (by omega) (by decide) dL_isNote_253 ?_
          refine lv_bipush (v := 8) hx hb dL_isNote_254 (by decide) ?_
          refine lv_irem hx hb dL_isNote_256 (by decide) ?_
          refine ktop (z := nI (pr M i % 8)) (m8 (by omega)) ?_
          obtain ⟨bad, rm, kq, idx, hQ⟩ := hDk
          refine kf_i (W2 := LA K q fb ft (upd fn i ((M 10 i) + am)) (upd fm (pr M i) ((fm (pr M i)) + (moreS M i am))) fl fu fg) (va_runV (As := [.int (nI (pr M i / 8)), .int (nI (pr M i % 8))]) (rest := []) ⟨hx, hb, hml, hown, hts⟩ (c_claim_p hQ hprl.1) (cwV 2 hts gL_isNote_X1_claim rfl rfl rfl (by decide +kernel) ⟨(Nat.le_of_ble_eq_true rfl), (Nat.le_of_ble_eq_true rfl)⟩) (lpv (q0 := 0) hG hP hD hS hQ.x rfl) rfl rfl hl.1 rfl (lv_room (Nat.le_of_ble_eq_true rfl)) dL_isNote_257 ⟨(Nat.le_of_ble_eq_true rfl), (Nat.le_of_ble_eq_true rfl)⟩) hS hP hD (fun r257 w H locs hp hP hD hS => ?_)
          obtain ⟨hv9, hp⟩ := hp
          rw [hv9]
          have hDk : DE K ad td n (noteM M i am) w := ⟨_, _, _, _, hp⟩
          refine ktop (z := ((M 13 (pr M i)) + (moreS M i am))) noteM_13 ?_
          refine lv_iload hx hb dL_isNote_260 (lv_at hl 1 rfl) ?_
          refine lv_iload hx hb dL_isNote_262 (lv_at hl 0 rfl) ?_
          refine lv_iadd hx hb dL_isNote_264 ?_
          refine lv_icmp_ne (tgt := 318) hx hb dL_isNote_265 (by decide) (fun h265 => False.elim (absurd rfl h265)) (fun h265 => ?_)
          refine lv_iload hx hb dL_isNote_268 (lv_at hl 0 rfl) ?_
          refine lv_i2l (v := ((moreS M i am) : Int32).toInt64) hx hb dL_isNote_270 rfl ?_
          refine lv_iload hx hb dL_isNote_271 (lv_at hl 4 rfl) ?_
          refine lv_i2l (v := ((M 4 i) : Int32).toInt64) hx hb dL_isNote_273 rfl ?_
          refine lv_lmul hx hb dL_isNote_274 ?_
          refine lv_iload hx hb dL_isNote_275 (lv_at hl 2 rfl) ?_
          refine lv_i2l (v := (am : Int32).toInt64) hx hb dL_isNote_277 rfl ?_
          refine lv_aload_n hx hb dL_isNote_278 rfl (lv_at hl 5 rfl) ?_
          refine lv_iload hx hb dL_isNote_279 (lv_at hl 11 rfl) ?_
          obtain ⟨bad, rm, kq, idx, hQ⟩ := hDk
          refine kf_i (W2 := LA K q fb ft (upd fn i ((M 10 i) + am)) (upd fm (pr M i) ((fm (pr M i)) + (moreS M i am))) fl fu fg) (va_runV (As := [.int (nI i)]) (rest := [.long ((am : Int32).toInt64), .long (((moreS M i am) : Int32).toInt64 * ((M 4 i) : Int32).toInt64)]) ⟨hx, hb, hml, hown, hts⟩ (c_X1_paid hQ hin) (cwV 1 hts gL_isNote_X1_paid rfl rfl rfl (by decide +kernel) ⟨(Nat.le_of_ble_eq_true rfl), (Nat.le_of_ble_eq_true rfl)⟩) (lpv (q0 := 0) hG hP hD hS hQ.x rfl) rfl rfl hl.1 rfl (lv_room (Nat.le_of_ble_eq_true rfl)) dL_isNote_281 ⟨(Nat.le_of_ble_eq_true rfl), (Nat.le_of_ble_eq_true rfl)⟩) hS hP hD (fun r281 w H locs hp hP hD hS => ?_)
          obtain ⟨hv9, hp⟩ := hp
          rw [hv9]
          have hDk : DE K ad td n (noteM M i am) w := ⟨_, _, _, _, hp⟩
          refine ktop (z := (M 8 i)) (noteM_n (by decide) (by decide)) ?_
          refine lv_i2l (v := ((M 8 i) : Int32).toInt64) hx hb dL_isNote_284 rfl ?_
          refine lv_lmul hx hb dL_isNote_285 ?_
          refine W.lcmp hx hb dL_isNote_286 ?_
          refine lv_if_gt (tgt := 318) hx hb dL_isNote_287 (by decide) (fun h287 => False.elim (note_a (note_4 hJ hin hy) (note_y hJ hin hy) (hJ.1.2.1 i hin).2.1 hmo h287)) (fun h287 => ?_)
          refine lv_iload hx hb dL_isNote_290 (lv_at hl 0 rfl) ?_
          refine lv_iconst (v := 1) hx hb dL_isNote_292 (by decide) ?_
          refine lv_iadd hx hb dL_isNote_293 ?_
          refine lv_i2l (v := (((moreS M i am) + 1) : Int32).toInt64) hx hb dL_isNote_294 rfl ?_
          refine lv_iload hx hb dL_isNote_295 (lv_at hl 4 rfl) ?_
          refine lv_i2l (v := ((M 4 i) : Int32).toInt64) hx hb dL_isNote_297 rfl ?_
          refine lv_lmul hx hb dL_isNote_298 ?_
          refine lv_iload hx hb dL_isNote_299 (lv_at hl 2 rfl) ?_
          refine lv_i2l (v := (am : Int32).toInt64) hx hb dL_isNote_301 rfl ?_
          refine lv_aload_n hx hb dL_isNote_302 rfl (lv_at hl 5 rfl) ?_
          refine lv_iload hx hb dL_isNote_303 (lv_at hl 11 rfl) ?_
          obtain ⟨bad, rm, kq, idx, hQ⟩ := hDk
          refine kf_i (W2 := LA K q fb ft (upd fn i ((M 10 i) + am)) (upd fm (pr M i) ((fm (pr M i)) + (moreS M i am))) fl fu fg) (va_runV (As := [.int (nI i)]) (rest := [.long ((am : Int32).toInt64), .long ((((moreS M i am) + 1) : Int32).toInt64 * ((M 4 i) : Int32).toInt64)]) ⟨hx, hb, hml, hown, hts⟩ (c_X1_paid hQ hin) (cwV 1 hts gL_isNote_X1_paid rfl rfl rfl (by decide +kernel) ⟨(Nat.le_of_ble_eq_true rfl), (Nat.le_of_ble_eq_true rfl)⟩) (lpv (q0 := 0) hG hP hD hS hQ.x rfl) rfl rfl hl.1 rfl (lv_room (Nat.le_of_ble_eq_true rfl)) dL_isNote_305 ⟨(Nat.le_of_ble_eq_true rfl), (Nat.le_of_ble_eq_true rfl)⟩) hS hP hD (fun r305 w H locs hp hP hD hS => ?_)
          obtain ⟨hv9, hp⟩ := hp
          rw [hv9]
          have hDk : DE K ad td n (noteM M i am) w := ⟨_, _, _, _, hp⟩
          refine ktop (z := (M 8 i)) (noteM_n (by decide) (by decide)) ?_
          refine lv_i2l (v := ((M 8 i) : Int32).toInt64) hx hb dL_isNote_308 rfl ?_
          refine lv_lmul hx hb dL_isNote_309 ?_
          refine W.lcmp hx hb dL_isNote_310 ?_
          refine lv_if_le (tgt := 318) hx hb dL_isNote_311 (by decide) (fun h311 => False.elim (note_b (note_4 hJ hin hy) (note_y hJ hin hy) (hJ.1.2.1 i hin).2.1 hmo h311)) (fun h311 => ?_)
          refine lv_iconst (v := 1) hx hb dL_isNote_314 (by decide) ?_
          refine lv_goto (tgt := 319) hx hb dL_isNote_315 (by decide) ?_
          exact kr_z hx hb hr hlocks hP hD hS (Nat.le_of_ble_eq_true rfl) (Nat.le_of_ble_eq_true rfl) (Or.inr rfl) (⟨rfl, _, _, _, _, _, _, _, _, _, _, _, rfl, hDk, hR.noteP hin, hJ.noteP hin hst hy (by omega)⟩) dL_isNote_319
        · have hni := note_I (hJ.1.1.2.2.1 i hin) hy
          refine kf_i (W2 := LA K q fb ft fn fm fl fu fg) (vx_runSW (As := [.ref (ad 0), .int 5, .int (nI i), .int am, .int 0, .int 0]) (rest := []) ⟨hx, hb, hml, hown, hts⟩ (h_note_u hDk hin hy hst) (vx_cwSW 6 hts gL_isNote_L_does rfl rfl rfl (by decide +kernel) ⟨(Nat.le_of_ble_eq_true rfl), (Nat.le_of_ble_eq_true rfl)⟩) (lps hG hP hD hS) rfl rfl hl.1 rfl (lv_room (Nat.le_of_ble_eq_true rfl)) dL_isNote_115 ⟨(Nat.le_of_ble_eq_true rfl), (Nat.le_of_ble_eq_true rfl)⟩) hS hP hD (fun r115 w H locs hp hP hD hS => ?_)
          obtain ⟨hv9, hp⟩ := hp
          rw [hv9]
          have hDk : DE K ad td n (up2 M 4 i (M 4 i - am)) w := hp
          refine lv_istore (lv' := [(12, .int ((M 4 i) - am)), (11, .int (M 13 (pr M i))), (10, .int am), (9, .int ((M 4 i) - (M 10 i))), (8, .int (M 4 i)), (0, .ref (ad 0)), (1, .ref (q 1)), (2, .ref (q 2)), (3, .ref (q 3)), (4, .ref (q 4)), (5, .ref (q 7)), (6, .int (nI i)), (7, .int (nI yy))]) hx hb dL_isNote_118 hl (by decide) rfl (fun ls hl => ?_)
          refine lv_iload hx hb dL_isNote_120 (lv_at hl 2 rfl) ?_
          refine lv_iconst (v := 1) hx hb dL_isNote_122 (by decide) ?_
          refine lv_icmp_lt (tgt := 133) hx hb dL_isNote_123 (by decide) (fun h123 => False.elim (hy.1 h123)) (fun h123 => ?_)
          refine lv_iload hx hb dL_isNote_126 (lv_at hl 2 rfl) ?_
          refine lv_iload hx hb dL_isNote_128 (lv_at hl 3 rfl) ?_
          refine lv_icmp_le (tgt := 157) hx hb dL_isNote_130 (by decide) (fun h130 => ?_) (fun h130 => False.elim (hy.2 (i32_nle.mp h130)))
          refine lv_aload_n hx hb dL_isNote_157 rfl (lv_at hl 7 rfl) ?_
          refine lv_iload hx hb dL_isNote_158 (lv_at hl 11 rfl) ?_
          refine kla_ld (n := 60) (j := i) (z := (M 6 i)) hx hb hG hP 1 rfl (hR.t0 hin) rfl (by omega) (by decide) dL_isNote_160 ?_
          refine lv_iconst (v := 3) hx hb dL_isNote_161 (by decide) ?_
          refine lv_icmp_ge (tgt := 192) hx hb dL_isNote_162 (by decide) (fun h162 => False.elim (st3n (hJ.1.1.2.2.1 i hin) hst h162)) (fun h162 => ?_)
          refine lv_iload hx hb dL_isNote_165 (lv_at hl 0 rfl) ?_
          refine lv_iload hx hb dL_isNote_167 (lv_at hl 4 rfl) ?_
          refine lv_iload hx hb dL_isNote_169 (lv_at hl 2 rfl) ?_
          refine lv_isub hx hb dL_isNote_171 ?_
          refine lv_icmp_ne (tgt := 190) hx hb dL_isNote_172 (by decide) (fun h172 => False.elim (absurd rfl h172)) (fun h172 => ?_)
          refine lv_aload_n hx hb dL_isNote_175 rfl (lv_at hl 5 rfl) ?_
          refine lv_iload hx hb dL_isNote_176 (lv_at hl 11 rfl) ?_
          obtain ⟨bad, rm, kq, idx, hQ⟩ := hDk
          refine kf_i (W2 := LA K q fb ft fn fm fl fu fg) (va_runV (As := [.int (nI i)]) (rest := []) ⟨hx, hb, hml, hown, hts⟩ (c_X1_amount hQ hin) (cwV 1 hts gL_isNote_X1_amount rfl rfl rfl (by decide +kernel) ⟨(Nat.le_of_ble_eq_true rfl), (Nat.le_of_ble_eq_true rfl)⟩) (lpv (q0 := 0) hG hP hD hS hQ.x rfl) rfl rfl hl.1 rfl (lv_room (Nat.le_of_ble_eq_true rfl)) dL_isNote_178 ⟨(Nat.le_of_ble_eq_true rfl), (Nat.le_of_ble_eq_true rfl)⟩) hS hP hD (fun r178 w H locs hp hP hD hS => ?_)
          obtain ⟨hv9, hp⟩ := hp
          rw [hv9]
          have hDk : DE K ad td n (up2 M 4 i (M 4 i - am)) w := ⟨_, _, _, _, hp⟩
          refine ktop (z := ((M 4 i) - am)) (up2_e _ _ _ _) ?_
          refine lv_iload hx hb dL_isNote_181 (lv_at hl 0 rfl) ?_
          refine lv_icmp_ne (tgt := 190) hx hb dL_isNote_183 (by decide) (fun h183 => False.elim (absurd rfl h183)) (fun h183 => ?_)
          refine lv_iconst (v := 1) hx hb dL_isNote_186 (by decide) ?_
          refine lv_goto (tgt := 191) hx hb dL_isNote_187 (by decide) ?_
          exact kr_z hx hb hr hlocks hP hD hS (Nat.le_of_ble_eq_true rfl) (Nat.le_of_ble_eq_true rfl) (Or.inr rfl) (⟨rfl, _, _, _, _, _, _, _, _, _, _, _, rfl, hDk, hR.amt, hJ.noteU hin hst hni.2.2.2⟩) dL_isNote_191
      · refine kf_i (W2 := LA K q fb ft fn fm fl fu fg) (vx_runSW (As := [.ref (ad 0), .int 5, .int (nI i), .int am, .int 0, .int 0]) (rest := []) ⟨hx, hb, hml, hown, hts⟩ (h_note_tr hDk hlt hin hy) (vx_cwSW 6 hts gL_isNote_L_does rfl rfl rfl (by decide +kernel) ⟨(Nat.le_of_ble_eq_true rfl), (Nat.le_of_ble_eq_true rfl)⟩) (lps hG hP hD hS) rfl rfl hl.1 rfl (lv_room (Nat.le_of_ble_eq_true rfl)) dL_isNote_115 ⟨(Nat.le_of_ble_eq_true rfl), (Nat.le_of_ble_eq_true rfl)⟩) hS hP hD (fun r115 w H locs hp hP hD hS => ?_)
        obtain ⟨hv9, hp⟩ := hp
        rw [hv9]
        have hDk : DE K ad td n M w := hp
        refine lv_istore (lv' := [(12, .int (-20)), (11, .int (M 13 (pr M i))), (10, .int am), (9, .int ((M 4 i) - (M 10 i))), (8, .int (M 4 i)), (0, .ref (ad 0)), (1, .ref (q 1)), (2, .ref (q 2)), (3, .ref (q 3)), (4, .ref (q 4)), (5, .ref (q 7)), (6, .int (nI i)), (7, .int (nI yy))]) hx hb dL_isNote_118 hl (by decide) rfl (fun ls hl => ?_)
        refine lv_iload hx hb dL_isNote_120 (lv_at hl 2 rfl) ?_
        refine lv_iconst (v := 1) hx hb dL_isNote_122 (by decide) ?_
        refine lv_icmp_lt (tgt := 133) hx hb dL_isNote_123 (by decide) (fun h123 => ?_) (fun h123 => ?_)
        · refine lv_iload hx hb dL_isNote_133 (lv_at hl 0 rfl) ?_
          refine lv_bipush (v := (-20)) hx hb dL_isNote_135 (by decide) ?_
          refine lv_icmp_ne (tgt := 155) hx hb dL_isNote_137 (by decide) (fun h137 => False.elim (absurd (by decide) h137)) (fun h137 => ?_)
          refine lv_aload_n hx hb dL_isNote_140 rfl (lv_at hl 5 rfl) ?_
          refine lv_iload hx hb dL_isNote_141 (lv_at hl 11 rfl) ?_
          obtain ⟨bad, rm, kq, idx, hQ⟩ := hDk
          refine kf_i (W2 := LA K q fb ft fn fm fl fu fg) (va_runV (As := [.int (nI i)]) (rest := []) ⟨hx, hb, hml, hown, hts⟩ (c_X1_amount hQ hin) (cwV 1 hts gL_isNote_X1_amount rfl rfl rfl (by decide +kernel) ⟨(Nat.le_of_ble_eq_true rfl), (Nat.le_of_ble_eq_true rfl)⟩) (lpv (q0 := 0) hG hP hD hS hQ.x rfl) rfl rfl hl.1 rfl (lv_room (Nat.le_of_ble_eq_true rfl)) dL_isNote_143 ⟨(Nat.le_of_ble_eq_true rfl), (Nat.le_of_ble_eq_true rfl)⟩) hS hP hD (fun r143 w H locs hp hP hD hS => ?_)
          obtain ⟨hv9, hp⟩ := hp
          rw [hv9]
          have hDk : DE K ad td n M w := ⟨_, _, _, _, hp⟩
          refine lv_iload hx hb dL_isNote_146 (lv_at hl 4 rfl) ?_
          refine lv_icmp_ne (tgt := 155) hx hb dL_isNote_148 (by decide) (fun h148 => False.elim (absurd rfl h148)) (fun h148 => ?_)
          refine lv_iconst (v := 1) hx hb dL_isNote_151 (by decide) ?_
          refine lv_goto (tgt := 156) hx hb dL_isNote_152 (by decide) ?_
          exact kr_z hx hb hr hlocks hP hD hS (Nat.le_of_ble_eq_true rfl) (Nat.le_of_ble_eq_true rfl) (Or.inr rfl) (⟨rfl, _, _, _, _, _, _, _, _, _, _, _, rfl, hDk, hR, hJ.up⟩) dL_isNote_156
        · refine lv_iload hx hb dL_isNote_126 (lv_at hl 2 rfl) ?_
          refine lv_iload hx hb dL_isNote_128 (lv_at hl 3 rfl) ?_
          refine lv_icmp_le (tgt := 157) hx hb dL_isNote_130 (by decide) (fun h130 => False.elim (hy ⟨h123, i32_nlt.mpr h130⟩)) (fun h130 => ?_)
          refine lv_iload hx hb dL_isNote_133 (lv_at hl 0 rfl) ?_
          refine lv_bipush (v := (-20)) hx hb dL_isNote_135 (by decide) ?_
          refine lv_icmp_ne (tgt := 155) hx hb dL_isNote_137 (by decide) (fun h137 => False.elim (absurd (by decide) h137)) (fun h137 => ?_)
          refine lv_aload_n hx hb dL_isNote_140 rfl (lv_at hl 5 rfl) ?_
          refine lv_iload hx hb dL_isNote_141 (lv_at hl 11 rfl) ?_
          obtain ⟨bad, rm, kq, idx, hQ⟩ := hDk
          refine kf_i (W2 := LA K q fb ft fn fm fl fu fg) (va_runV (As := [.int (nI i)]) (rest := []) ⟨hx, hb, hml, hown, hts⟩ (c_X1_amount hQ hin) (cwV 1 hts gL_isNote_X1_amount rfl rfl rfl (by decide +kernel) ⟨(Nat.le_of_ble_eq_true rfl), (Nat.le_of_ble_eq_true rfl)⟩) (lpv (q0 := 0) hG hP hD hS hQ.x rfl) rfl rfl hl.1 rfl (lv_room (Nat.le_of_ble_eq_true rfl)) dL_isNote_143 ⟨(Nat.le_of_ble_eq_true rfl), (Nat.le_of_ble_eq_true rfl)⟩) hS hP hD (fun r143 w H locs hp hP hD hS => ?_)
          obtain ⟨hv9, hp⟩ := hp
          rw [hv9]
          have hDk : DE K ad td n M w := ⟨_, _, _, _, hp⟩
          refine lv_iload hx hb dL_isNote_146 (lv_at hl 4 rfl) ?_
          refine lv_icmp_ne (tgt := 155) hx hb dL_isNote_148 (by decide) (fun h148 => False.elim (absurd rfl h148)) (fun h148 => ?_)
          refine lv_iconst (v := 1) hx hb dL_isNote_151 (by decide) ?_
          refine lv_goto (tgt := 156) hx hb dL_isNote_152 (by decide) ?_
          exact kr_z hx hb hr hlocks hP hD hS (Nat.le_of_ble_eq_true rfl) (Nat.le_of_ble_eq_true rfl) (Or.inr rfl) (⟨rfl, _, _, _, _, _, _, _, _, _, _, _, rfl, hDk, hR, hJ.up⟩) dL_isNote_156
    refine lv_iload hx hb dL_isNote_47 (lv_at hl 9 rfl) ?_
    refine lv_bipush (v := 9) hx hb dL_isNote_49 (by decide) ?_
    refine lv_irem hx hb dL_isNote_51 (by decide) ?_
    refine ktop (z := nI (yy % 9)) (nI_rem (b := 9) (by omega) (by decide)) ?_
    refine lv_if_ne (tgt := 62) hx hb dL_isNote_52 (by decide) (fun h52 => ?_) (fun h52 => ?_)
    · refine lv_iload hx hb dL_isNote_62 (lv_at hl 0 rfl) ?_
      refine lv_if_ne (tgt := 71) hx hb dL_isNote_64 (by decide) (fun h64 => ?_) (fun h64 => ?_)
      · refine lv_iconst (v := 1) hx hb dL_isNote_71 (by decide) ?_
        refine lv_iload hx hb dL_isNote_72 (lv_at hl 9 rfl) ?_
        refine lv_bipush (v := 31) hx hb dL_isNote_74 (by decide) ?_
        refine lv_imul hx hb dL_isNote_76 ?_
        refine lv_iload hx hb dL_isNote_77 (lv_at hl 0 rfl) ?_
        refine lv_irem hx hb dL_isNote_79 h64 ?_
        refine lv_iadd hx hb dL_isNote_80 ?_
        exact J81 _
      · refine lv_iconst (v := 0) hx hb dL_isNote_67 (by decide) ?_
        refine lv_goto (tgt := 81) hx hb dL_isNote_68 (by decide) ?_
        exact J81 _
    · refine lv_iload hx hb dL_isNote_55 (lv_at hl 0 rfl) ?_
      refine lv_iconst (v := 1) hx hb dL_isNote_57 (by decide) ?_
      refine lv_iadd hx hb dL_isNote_58 ?_
      refine lv_goto (tgt := 81) hx hb dL_isNote_59 (by decide) ?_
      exact J81 _
  · refine lv_aload_n hx hb dL_isNote_9 rfl (lv_at hl 0 rfl) ?_
    refine lv_iconst (v := 5) hx hb dL_isNote_10 (by decide) ?_
    refine lv_iload hx hb dL_isNote_11 (lv_at hl 6 rfl) ?_
    refine lv_iconst (v := 0) hx hb dL_isNote_13 (by decide) ?_
    refine lv_iconst (v := 0) hx hb dL_isNote_14 (by decide) ?_
    refine lv_iconst (v := 0) hx hb dL_isNote_15 (by decide) ?_
    refine kf_i (W2 := LA K q fb ft fn fm fl fu fg) (vx_runSW (As := [.ref (ad 0), .int 5, .int (nI i), .int 0, .int 0, .int 0]) (rest := []) ⟨hx, hb, hml, hown, hts⟩ (h_note_tb hDk hlt (ixe hn30 h6)) (vx_cwSW 6 hts gL_isNote_L_does rfl rfl rfl (by decide +kernel) ⟨(Nat.le_of_ble_eq_true rfl), (Nat.le_of_ble_eq_true rfl)⟩) (lps hG hP hD hS) rfl rfl hl.1 rfl (lv_room (Nat.le_of_ble_eq_true rfl)) dL_isNote_16 ⟨(Nat.le_of_ble_eq_true rfl), (Nat.le_of_ble_eq_true rfl)⟩) hS hP hD (fun r16 w H locs hp hP hD hS => ?_)
    obtain ⟨hv9, hp⟩ := hp
    rw [hv9]
    have hDk : DE K ad td n M w := hp
    refine lv_bipush (v := (-30)) hx hb dL_isNote_19 (by decide) ?_
    refine lv_icmp_ne (tgt := 28) hx hb dL_isNote_21 (by decide) (fun h21 => False.elim (absurd (by decide) h21)) (fun h21 => ?_)
    refine lv_iconst (v := 1) hx hb dL_isNote_24 (by decide) ?_
    refine lv_goto (tgt := 29) hx hb dL_isNote_25 (by decide) ?_
    exact kr_z hx hb hr hlocks hP hD hS (Nat.le_of_ble_eq_true rfl) (Nat.le_of_ble_eq_true rfl) (Or.inr rfl) (⟨rfl, _, _, _, _, _, _, _, _, _, _, _, rfl, hDk, hR, hJ.up⟩) dL_isNote_29
