/-! Clearing: what the law looks at -/
section CR
variable {s n b : Nat} {td : Int32} {M : Nat → Nat → Int32}
/-- the table behind a clearing; its discounts -/
abbrev clT (td : Int32) (n : Nat) (M : Nat → Nat → Int32) (b : Nat) : Nat → Nat → Int32 := (clN td n M b (gaL td M b n).length).1
abbrev clD (td : Int32) (n : Nat) (M : Nat → Nat → Int32) (b : Nat) : Int32 := (clN td n M b (gaL td M b n).length).2
theorem clT_n {f : Nat} (h6 : f ≠ 6) (h8 : f ≠ 8) (h9 : f ≠ 9) (h13 : f ≠ 13) (h11 : f ≠ 11) : clT td n M b f = M f := clS_23 h6 h8 h9 h13 h11 _
theorem cb_take (hn : n ≤ 30) (i : Nat) : (i ∈ (gaL td M b n).take (gaL td M b n).length ∧ cBt td n M b i = true) ↔ cBt td n M b i = true := by
  rw [List.take_length]
  exact ⟨fun q => q.2, fun q => ⟨cb_mem hn q, q⟩⟩
theorem clT_6 (h : Jv s td n M) (hs : s ≤ 100000) (hb : b < 4) (i : Nat) : clT td n M b 6 i = if cBt td n M b i = true then 3 else M 6 i := by
  have q := (cl_st h hs hb _ (Nat.le_refl _)).2.1 i
  have e := cb_take (td := td) (M := M) (b := b) h.1.1.1 i
  refine q.trans ?_
  by_cases c : cBt td n M b i = true
  · rw [if_pos c, if_pos (e.mpr c)]
  · rw [if_neg c, if_neg (fun r => c (e.mp r))]
theorem clT_8 (h : Jv s td n M) (hs : s ≤ 100000) (hb : b < 4) (i : Nat) : clT td n M b 8 i = if cBt td n M b i = true then price td M i else M 8 i := by
  have q := (cl_st h hs hb _ (Nat.le_refl _)).2.2.1 i
  have e := cb_take (td := td) (M := M) (b := b) h.1.1.1 i
  refine q.trans ?_
  by_cases c : cBt td n M b i = true
  · rw [if_pos c, if_pos (e.mpr c)]
  · rw [if_neg c, if_neg (fun r => c (e.mp r))]
theorem Jv.clear (h : Jv s td n M) (hs : s ≤ 100000) (hb : b < 4) : Jv (s + 1) td n (clT td n M b) := by
  refine ⟨((cl_st h hs hb _ (Nat.le_refl _)).1).up, fun i hi q => ?_⟩
  rw [clT_6 h hs hb] at q
  rw [clT_n (by decide) (by decide) (by decide) (by decide) (by decide)]
  by_cases c : cBt td n M b i = true
  · rw [if_pos c] at q; exact absurd q (by decide)
  · rw [if_neg c] at q; exact h.2 i hi q
theorem sumC_rng (hn : n ≤ 30) (f : Nat → Int) : sumC (cBt td n M b) f (List.range n) = sumC (cBt td n M b) f (gaL td M b n) := by
  rw [sumC_ofL (fun i q => (cb_off hn q).2) n]
  exact (sumC_perm _ f (ga_of n)).symm
theorem clD_law (h : Jv s td n M) (hs : s ≤ 100000) (hb : b < 4) : clD td n M b = smS (cBt td n M b) (disc td M) n := by
  have q := (cl_st h hs hb _ (Nat.le_refl _)).2.2.2.2.1
  rw [List.take_length] at q
  have hn := h.1.1.1
  obtain ⟨e, -, -⟩ := smS_I (c := cBt td n M b) (f := disc td M) n hn (fun i hi hc => by
    have r := (price_I h hs (cb_mem hn hc)).1
    exact ⟨r.1, by have := r.2; show dI td M i ≤ 1000000; omega⟩)
  refine Int32.toInt_inj.mp ?_
  rw [q, e]
  exact (sumC_rng hn _).symm
theorem clP_law (h : Jv s td n M) (hs : s ≤ 100000) (hb : b < 4) : clT td n M b 11 b = M 11 b - smS (cBt td n M b) (price td M) n := by
  have q := (cl_st h hs hb _ (Nat.le_refl _)).2.2.2.1 b
  rw [if_pos rfl] at q
  have hn := h.1.1.1
  have hu := h.1.2.2.2 b hb
  obtain ⟨e, e2, e3⟩ := smS_I (c := cBt td n M b) (f := price td M) n hn (fun i hi hc => (price_I h hs (cb_mem hn hc)).2.1)
  have hI := (ac_I (td := td) (M := M) (b := b) (rm0 := rm8 td n M b) (c := cBt td n M b) (fun j hj => cb_F hn hj) (fun i hi => (price_I h hs hi).2.1) _ (Nat.le_refl _)).1
  rw [List.take_length] at hI
  refine Int32.toInt_inj.mp ?_
  rw [show clT td n M b 11 b = (acN td n M b (gaL td M b n).length).1 from q]
  have e4 : (M 11 b - smS (cBt td n M b) (price td M) n).toInt = (M 11 b).toInt - (smS (cBt td n M b) (price td M) n).toInt := i32_sub (by omega) (by omega)
  rw [e4, e, sumC_rng hn]
  exact hI
/-- what is left for a supplier who was paid early -/
theorem cl_left (h : Jv s td n M) (hs : s ≤ 100000) (hb : b < 4) {i : Nat} (hc : cBt td n M b i = true) : 0 ≤ (loM td (clT td n M b) b (su M i) n).toInt := by
  have hn := h.1.1.1
  have hok := h.1.ok i (cb_off hn hc).1
  rw [(cl_st h hs hb _ (Nat.le_refl _)).2.2.2.2.2.2 (su M i) hok.2.2.2]
  exact (ac_I (td := td) (M := M) (b := b) (rm0 := rm8 td n M b) (c := cBt td n M b) (fun j hj => cb_F hn hj) (fun i hi => (price_I h hs hi).2.1) _ (Nat.le_refl _)).2.2.2 (su M i) ⟨i, by rw [List.take_length]; exact cb_mem hn hc, hc, rfl⟩
/-- the plan is no negative number; its bits are bills of the buyer -/
theorem plan_nn (hn : n ≤ 30) : 0 ≤ acC td n M b := by
  rw [i32_le]
  show (0 : Int) ≤ (acC td n M b).toBitVec.toInt
  refine BitVec.toInt_nonneg_of_msb_false ?_
  rw [BitVec.msb_eq_getLsbD_last]
  cases hq : (acC td n M b).toBitVec.getLsbD (32 - 1) with
  | false => rfl
  | true =>
    have := (cb_off (td := td) (M := M) (b := b) hn (i := 31) hq).1
    omega
theorem plan_bits (hn : n ≤ 30) : btS (acC td n M b) 30 = nI (cntN (cBt td n M b) n) := by
  rw [btS_cnt 30 (Nat.le_refl _)]
  have e := cntN_z (c := cBt td n M b) (n := n) (fun i q => (cb_off hn q).1) (30 - n)
  rw [show n + (30 - n) = 30 by omega] at e
  exact congrArg nI e
/-- the law's offers -/
def oFF (M : Nat → Nat → Int32) (b i : Nat) : Bool := decide (M 2 i = nI b ∧ M 6 i = 1 ∧ 0 ≤ M 7 i)
theorem off_iff (h : Jv s td n M) {i : Nat} (hi : i < n) : oFF M b i = true ↔ offM td M b i := by
  have hB := (h.1.1.2.2.1 i hi).2.2.2.1
  have e1 : (-1 : Int32).toInt = -1 := rfl
  unfold oFF
  rw [decide_eq_true_eq, i32_le, z0]
  constructor
  · rintro ⟨q1, q2, q3⟩
    exact ⟨q1, q2, fun q => by rw [q] at q3; omega, h.2 i hi q2⟩
  · rintro ⟨q1, q2, q3, q4⟩
    exact ⟨q1, q2, hB.elim (fun q => absurd q q3) (fun q => q.1)⟩
theorem off_len (h : Jv s td n M) : (gaL td M b n).length = cntN (oFF M b) n := by
  rw [ga_len, ofL_cnt]
  refine cntN_congr n (fun i hi => ?_)
  have q := off_iff h hi (b := b)
  by_cases c : offM td M b i
  · rw [decide_eq_true c, q.mpr c]
  · rw [decide_eq_false c]
    cases hq : oFF M b i with
    | false => rfl
    | true => exact absurd (q.mp hq) c
theorem plan_cnt (h : Jv s td n M) : cntN (cBt td n M b) n ≤ cntN (oFF M b) n :=
  cntN_mono n (fun i hi q => (off_iff h hi).mpr (cb_off h.1.1.1 q).2)
/-- no more than the most -/
theorem cl_most (h : Jv s td n M) (hs : s ≤ 100000) (hb : b < 4) {rm : Nat → Int32} : (clD td n M b).toInt ≤ (bfS td M (ix (gaL td M b n)) (gaL td M b n).length 0 (mrm td n M b rm 8) (M 11 b) (toS td M (ix (gaL td M b n)) (gaL td M b n).length)).toInt := by
  have hn := h.1.1.1
  have hl := gaL_len td M b n
  have hrg := h.1.1.offer hs (b := b)
  have e1 := bf_I (td := td) (M := M) (L := gaL td M b n) (by omega) (fun i hi => ⟨(hrg i hi).1, (hrg i hi).2.1, (hrg i hi).2.2.1⟩) (gaL td M b n).length 0 (by omega) (mrm td n M b rm 8) (M 11 b) (toS td M (ix (gaL td M b n)) (gaL td M b n).length) (by
    rw [toS_I (by omega) (fun i hi => ⟨(hrg i hi).1, (hrg i hi).2.1⟩) _ (Nat.le_refl _), List.take_length]; rfl)
  rw [show (gaL td M b n).drop 0 = gaL td M b n from rfl] at e1
  have q := (cl_st h hs hb _ (Nat.le_refl _)).2.2.2.2.1
  rw [List.take_length] at q
  rw [e1]
  have hf := ac_fit (td := td) (M := M) (b := b) (rm0 := rm8 td n M b) (c := cBt td n M b) (fun j hj => cb_F hn hj) (fun i hi => (price_I h hs hi).2.1)
  have hf2 := fit_congr (c' := cBt td n M b) (rm' := fun o => (mrm td n M b rm 8 o).toInt) (fun _ _ => rfl) (fun i hi => by
    have := (h.1.ok i (gaL_mem.mp hi).1).2.2.2
    show (mrm td n M b (fun _ => 0) 8 (su M i)).toInt = (mrm td n M b rm 8 (su M i)).toInt
    rw [mrm_at, mrm_at, if_pos this, if_pos this]) hf
  have := bI_A1 (p := pI td M) (d := dI td M) (s := su M) (T := gaL td M b n) (fun i hi => (hrg i hi).2.2.1) hf2
  show (clD td n M b).toInt ≤ _
  have q2 : (clD td n M b).toInt = sumC (cBt td n M b) (dI td M) (gaL td M b n) := q
  omega
theorem LR.clear {fb ft fn fm fl fu fg : Nat → Int32} (hR : LR td n M fb ft fn fm fl fu fg) (h : Jv s td n M) (hs : s ≤ 100000) (hb : b < 4) : LR td n (clT td n M b) fb (ptS 3 (cBt td n M b) ft n) fn fm fl (upd fu b (fu b - smS (cBt td n M b) (price td M) n)) fg := by
  have hn := h.1.1.1
  have e : ∀ f, f ≠ 6 → f ≠ 8 → f ≠ 9 → f ≠ 13 → f ≠ 11 → clT td n M b f = M f := fun f h6 h8 h9 h13 h11 => clT_n h6 h8 h9 h13 h11
  refine hR.of (e 2 (by decide) (by decide) (by decide) (by decide) (by decide)) (e 3 (by decide) (by decide) (by decide) (by decide) (by decide)) (e 5 (by decide) (by decide) (by decide) (by decide) (by decide)) (e 12 (by decide) (by decide) (by decide) (by decide) (by decide)) (fun i hi => ?_) (fun i hi => ?_) (fun p hp => ?_) (fun b' hb' => ?_)
  · rw [e 7 (by decide) (by decide) (by decide) (by decide) (by decide), clT_6 h hs hb, ptS_at, ptS_at, if_neg (fun q => by have := q.1; omega : ¬ (30 + i < n ∧ cBt td n M b (30 + i) = true))]
    refine ⟨?_, hR.t1 hi⟩
    by_cases c : cBt td n M b i = true
    · rw [if_pos c, if_pos ⟨hi, c⟩]
    · rw [if_neg c, if_neg (fun q => c q.2)]; exact hR.t0 hi
  · rw [e 10 (by decide) (by decide) (by decide) (by decide) (by decide)]; exact hR.n0 hi
  · rw [(cl_st h hs hb _ (Nat.le_refl _)).2.2.2.2.2.1 p]; exact hR.m hp
  · by_cases q : b' = b
    · subst q; rw [upd_e, hR.u hb', clP_law h hs hb']
    · have e9 := (cl_st h hs hb _ (Nat.le_refl _)).2.2.2.1 b'
      rw [if_neg q] at e9
      rw [pk_un q, hR.u hb']
      exact e9.symm
end CR
