/-! Days that pass -/
def cntN (c : Nat → Bool) : Nat → Nat
  | 0 => 0
  | j + 1 => cntN c j + (if c j = true then 1 else 0)
theorem cntN_t {c : Nat → Bool} {j : Nat} (h : c j = true) : cntN c (j + 1) = cntN c j + 1 := by rw [cntN, if_pos h]
theorem cntN_f {c : Nat → Bool} {j : Nat} (h : ¬ c j = true) : cntN c (j + 1) = cntN c j := by rw [cntN, if_neg h]; rfl
theorem cntN_le (c : Nat → Bool) : ∀ k, cntN c k ≤ k
  | 0 => Nat.le_refl _
  | k + 1 => by
    have ih := cntN_le c k
    by_cases h : c k = true
    · rw [cntN_t h]; omega
    · rw [cntN_f h]; omega
theorem cntN_congr {a c : Nat → Bool} : ∀ k, (∀ i, i < k → a i = c i) → cntN a k = cntN c k
  | 0, _ => rfl
  | k + 1, h => by
    have ih := cntN_congr k (fun i hi => h i (by omega))
    unfold cntN
    rw [ih, h k (by omega)]
theorem cntN_add {a b c : Nat → Bool} : ∀ k, (∀ i, i < k → (c i = true ↔ a i = true ∨ b i = true) ∧ ¬ (a i = true ∧ b i = true)) → cntN c k = cntN a k + cntN b k
  | 0, _ => rfl
  | k + 1, h => by
    have ih := cntN_add k (fun i hi => h i (by omega))
    obtain ⟨h1, h2⟩ := h k (by omega)
    by_cases ha : a k = true
    · have hb : ¬ b k = true := fun q => h2 ⟨ha, q⟩
      rw [cntN_t (h1.mpr (Or.inl ha)), cntN_t ha, cntN_f hb]; omega
    · by_cases hb : b k = true
      · rw [cntN_t (h1.mpr (Or.inr hb)), cntN_f ha, cntN_t hb]; omega
      · rw [cntN_f (fun q => (h1.mp q).elim ha hb), cntN_f ha, cntN_f hb]; omega
/-- the states with some set to v -/
def ptS (v : Int32) (c : Nat → Bool) (ft : Nat → Int32) : Nat → Nat → Int32
  | 0 => ft
  | k + 1 => if c k = true then upd (ptS v c ft k) k v else ptS v c ft k
theorem ptS_t {v : Int32} {c : Nat → Bool} {ft : Nat → Int32} {k : Nat} (h : c k = true) : ptS v c ft (k + 1) = upd (ptS v c ft k) k v := by rw [ptS, if_pos h]
theorem ptS_f {v : Int32} {c : Nat → Bool} {ft : Nat → Int32} {k : Nat} (h : ¬ c k = true) : ptS v c ft (k + 1) = ptS v c ft k := by rw [ptS, if_neg h]
theorem ptS_at {v : Int32} {c : Nat → Bool} {ft : Nat → Int32} : ∀ k i, ptS v c ft k i = if i < k ∧ c i = true then v else ft i
  | 0, i => by rw [if_neg (fun q => absurd q.1 (Nat.not_lt_zero i))]; rfl
  | k + 1, i => by
    have ih := ptS_at (v := v) (c := c) (ft := ft) k i
    by_cases hk : i = k
    · subst hk
      by_cases h : c i = true
      · rw [ptS_t h, upd_e, if_pos ⟨Nat.lt_succ_self i, h⟩]
      · rw [ptS_f h, ih, if_neg (fun q => h q.2), if_neg (fun q => h q.2)]
    · have e : ptS v c ft (k + 1) i = ptS v c ft k i := by
        by_cases h : c k = true
        · rw [ptS_t h, pk_un hk]
        · rw [ptS_f h]
      rw [e, ih]
      by_cases q : i < k ∧ c i = true
      · rw [if_pos q, if_pos ⟨by omega, q.2⟩]
      · rw [if_neg q, if_neg (fun r => q ⟨by omega, r.2⟩)]
section DY
variable {s n : Nat} {td t : Int32} {M : Nat → Nat → Int32}
theorem dy_at {f i : Nat} (hf : f ≤ 10) : ∀ k, k ≤ i → dyM t M k f i = M f i
  | 0, _ => rfl
  | k + 1, hk => by
    have ih := dy_at (i := i) hf k (by omega)
    by_cases hc : dyM t M k 6 k = 1 ∧ dyM t M k 5 k = t
    · rw [dyM_t hc, payM_j hf (by omega)]; exact ih
    · rw [dyM_f hc]; exact ih
theorem dy_6 : ∀ k i, dyM t M k 6 i = if i < k ∧ M 6 i = 1 ∧ M 5 i = t then 4 else M 6 i
  | 0, i => by rw [if_neg (fun q => absurd q.1 (Nat.not_lt_zero i))]; rfl
  | k + 1, i => by
    have ih := dy_6 k i
    have e6 := dy_at (M := M) (t := t) (f := 6) (by decide) k (Nat.le_refl k)
    have e5 := dy_at (M := M) (t := t) (f := 5) (by decide) k (Nat.le_refl k)
    by_cases hc : dyM t M k 6 k = 1 ∧ dyM t M k 5 k = t
    · rw [dyM_t hc, payM_6]
      rw [e6, e5] at hc
      by_cases hk : i = k
      · subst hk; rw [upd_e, if_pos ⟨Nat.lt_succ_self i, hc⟩]
      · rw [pk_un hk, ih]
        by_cases q : i < k ∧ M 6 i = 1 ∧ M 5 i = t
        · rw [if_pos q, if_pos ⟨by omega, q.2⟩]
        · rw [if_neg q, if_neg (fun r => q ⟨by omega, r.2⟩)]
    · rw [dyM_f hc, ih]
      rw [e6, e5] at hc
      by_cases q : i < k ∧ M 6 i = 1 ∧ M 5 i = t
      · rw [if_pos q, if_pos ⟨by omega, q.2⟩]
      · rw [if_neg q, if_neg (fun r => by
          by_cases hk : i = k
          · subst hk; exact hc r.2
          · exact q ⟨by omega, r.2⟩)]
theorem dy_c : ∀ k, dyC t M k = cntN (fun i => decide (M 6 i = 1 ∧ M 5 i = t)) k
  | 0 => rfl
  | k + 1 => by
    have ih := dy_c k
    have e6 := dy_at (M := M) (t := t) (f := 6) (by decide) k (Nat.le_refl k)
    have e5 := dy_at (M := M) (t := t) (f := 5) (by decide) k (Nat.le_refl k)
    by_cases hc : dyM t M k 6 k = 1 ∧ dyM t M k 5 k = t
    · rw [dyC_t hc, ih, cntN_t]
      rw [e6, e5] at hc
      exact decide_eq_true hc
    · rw [dyC_f hc, ih, cntN_f]
      rw [e6, e5] at hc
      exact fun q => hc (of_decide_eq_true q)
theorem Jw.dy (h : Jw s td n M) : ∀ k, k ≤ n → Jw s td n (dyM t M k)
  | 0, _ => h
  | k + 1, hk => by
    have ih := Jw.dy h k (by omega)
    by_cases hc : dyM t M k 6 k = 1 ∧ dyM t M k 5 k = t
    · rw [dyM_t hc]
      exact ih.pay (by omega) (n1 hc.1) ⟨(ih.a4 (by omega)).1, Int.le_refl _⟩ (Or.inr ⟨rfl, rfl⟩)
    · rw [dyM_f hc]; exact ih
theorem hs_dy (h : Jw s td n M) {p : Nat} : ∀ k, k ≤ n → dyM t M k 13 p + hsS (dyM t M k) p n = M 13 p + hsS M p n
  | 0, _ => rfl
  | k + 1, hk => by
    have ih := hs_dy h (p := p) k (by omega)
    have hJ := h.dy (t := t) k (by omega)
    by_cases hc : dyM t M k 6 k = 1 ∧ dyM t M k 5 k = t
    · rw [dyM_t hc, hs_pay (by omega) ((hJ.2.1 k (by omega)).unp (n1 hc.1)).2.1]
      exact ih
    · rw [dyM_f hc]; exact ih
theorem Jw.ps (h : Jw s td n M) : ∀ k, Jw s td n (psM td n M k)
  | 0 => h
  | k + 1 => (Jw.ps h k).dy n (Nat.le_refl n)
theorem hs_ps (h : Jw s td n M) {p : Nat} : ∀ k, psM td n M k 13 p + hsS (psM td n M k) p n = M 13 p + hsS M p n
  | 0 => rfl
  | k + 1 => (hs_dy (h.ps k) (p := p) n (Nat.le_refl n)).trans (hs_ps h k)
theorem td_k (h : Iv s td n M) (hs : s ≤ 100000) {k : Nat} (hk : k ≤ 401) : (td + nI k).toInt = td.toInt + k := by
  have h1 := h.2.1
  have e : (nI k).toInt = k := nI_toInt (by omega)
  rw [i32_add (by omega) (by omega), e]
theorem ps_6 (h : Jv s td n M) (hs : s ≤ 100000) : ∀ k, k ≤ 400 → ∀ i, i < n → psM td n M k 6 i = if M 6 i = 1 ∧ (M 5 i).toInt ≤ td.toInt + k then 4 else M 6 i
  | 0, _, i, hi => by
    show M 6 i = _
    rw [if_neg (fun q => h.2 i hi q.1 (by rw [i32_le]; have := q.2; omega))]
  | k + 1, hk, i, hi => by
    have ih := ps_6 h hs k (by omega) i hi
    have e5 : psM td n M k 5 i = M 5 i := by rw [psM_n (by decide) (by decide) (by decide) (by decide)]
    have et := td_k h.1.1 hs (k := k + 1) (by omega)
    show dyM (td + nI (k + 1)) (psM td n M k) n 6 i = _
    rw [dy_6, e5]
    by_cases h1 : M 6 i = 1
    · by_cases h2 : (M 5 i).toInt ≤ td.toInt + k
      · rw [if_pos ⟨h1, h2⟩] at ih
        rw [ih, if_neg (fun q => absurd q.2.1 (by decide) : ¬ (i < n ∧ (4 : Int32) = 1 ∧ M 5 i = td + nI (k + 1))), if_pos ⟨h1, by push_cast; omega⟩]
      · rw [if_neg (fun q => h2 q.2)] at ih
        rw [ih]
        by_cases h3 : M 5 i = td + nI (k + 1)
        · rw [if_pos ⟨hi, h1, h3⟩, if_pos ⟨h1, by rw [h3, et]; omega⟩]
        · rw [if_neg (fun q => h3 q.2.2), if_neg (fun q => h3 (Int32.toInt_inj.mp (by rw [et]; have := q.2; push_cast at this ⊢; omega)))]
    · rw [if_neg (fun q => h1 q.1)] at ih
      rw [ih, if_neg (fun q => h1 q.2.1), if_neg (fun q => h1 q.1)]
theorem ps_c (h : Jv s td n M) (hs : s ≤ 100000) : ∀ k, k ≤ 400 → psC td n M k = cntN (fun i => decide (M 6 i = 1 ∧ (M 5 i).toInt ≤ td.toInt + k)) n
  | 0, _ => by
    show 0 = _
    have e : ∀ m, m ≤ n → cntN (fun i => decide (M 6 i = 1 ∧ (M 5 i).toInt ≤ td.toInt + (0 : Nat))) m = 0 := by
      intro m
      induction m with
      | zero => intro _; rfl
      | succ m ih =>
        intro hm
        rw [cntN_f (fun q => by
          have q := of_decide_eq_true q
          exact h.2 m (by omega) q.1 (by rw [i32_le]; have := q.2; omega))]
        exact ih (by omega)
    exact (e n (Nat.le_refl n)).symm
  | k + 1, hk => by
    have ih := ps_c h hs k (by omega)
    have et := td_k h.1.1 hs (k := k + 1) (by omega)
    show psC td n M k + dyC (td + nI (k + 1)) (psM td n M k) n = _
    rw [ih, dy_c]
    refine (cntN_add n (fun i hi => ?_)).symm
    have e5 : psM td n M k 5 i = M 5 i := by rw [psM_n (by decide) (by decide) (by decide) (by decide)]
    have e6 := ps_6 h hs k (by omega) i hi
    simp only [decide_eq_true_eq]
    rw [e5, e6]
    by_cases h1 : M 6 i = 1
    · by_cases h2 : (M 5 i).toInt ≤ td.toInt + k
      · rw [if_pos ⟨h1, h2⟩]
        exact ⟨⟨fun _ => Or.inl ⟨h1, h2⟩, fun _ => ⟨h1, by push_cast; omega⟩⟩, fun q => absurd q.2.1 (by decide)⟩
      · rw [if_neg (fun q => h2 q.2)]
        refine ⟨⟨fun q => Or.inr ⟨h1, Int32.toInt_inj.mp (by rw [et]; have := q.2; push_cast at this ⊢; omega)⟩, fun q => ⟨h1, ?_⟩⟩, fun q => h2 q.1.2⟩
        rcases q with q | q
        · exact absurd q.2 h2
        · rw [q.2, et]; omega
    · rw [if_neg (fun q => h1 q.1)]
      exact ⟨⟨fun q => absurd q.1 h1, fun q => q.elim (fun q => absurd q.1 h1) (fun q => absurd q.1 h1)⟩, fun q => h1 q.1.1⟩
/-- those that fall due within D days -/
def cDu (td : Int32) (M : Nat → Nat → Int32) (D : Nat) (i : Nat) : Bool := decide (M 6 i = 1 ∧ ¬ td + nI D < M 5 i)
theorem cDu_I (h : Jv s td n M) (hs : s ≤ 100000) {D : Nat} (hD : D ≤ 400) (i : Nat) : cDu td M D i = decide (M 6 i = 1 ∧ (M 5 i).toInt ≤ td.toInt + D) := by
  have et := td_k h.1.1 hs (k := D) (by omega)
  unfold cDu
  refine decide_eq_decide.mpr ?_
  rw [i32_lt, et]
  exact ⟨fun q => ⟨q.1, by have := q.2; omega⟩, fun q => ⟨q.1, by have := q.2; omega⟩⟩
theorem psC_law (h : Jv s td n M) (hs : s ≤ 100000) {D : Nat} (hD : D ≤ 400) : psC td n M D = cntN (cDu td M D) n := by
  rw [ps_c h hs D hD]
  exact cntN_congr n (fun i _ => (cDu_I h hs hD i).symm)
theorem Jv.pass (h : Jv s td n M) (hs : s ≤ 100000) {D : Nat} (hD : D ≤ 400) : Jv (s + 1) (td + nI D) n (psM td n M D) := by
  have hJ := (h.1.ps D).up
  refine ⟨⟨h.1.1.pass hD hs, hJ.2⟩, fun i hi q => ?_⟩
  rw [ps_6 h hs D hD i hi] at q
  have e5 : psM td n M D 5 i = M 5 i := by rw [psM_n (by decide) (by decide) (by decide) (by decide)]
  rw [e5, i32_le, td_k h.1.1 hs (by omega)]
  by_cases c : M 6 i = 1 ∧ (M 5 i).toInt ≤ td.toInt + D
  · rw [if_pos c] at q; exact absurd q (by decide)
  · rw [if_neg c] at q
    exact fun r => c ⟨q, r⟩
theorem LR.pass {fb ft fn fm fl fu fg : Nat → Int32} (hR : LR td n M fb ft fn fm fl fu fg) (h : Jv s td n M) (hs : s ≤ 100000) {D : Nat} (hD : D ≤ 400) : LR (td + nI D) n (psM td n M D) fb (ptS 4 (cDu td M D) ft n) fn fm fl fu (upd fg 1 (td + nI D)) := by
  have e : ∀ f, f ≠ 6 → f ≠ 8 → f ≠ 9 → f ≠ 13 → psM td n M D f = M f := fun f h6 h8 h9 h13 => psM_n h6 h8 h9 h13 D
  have hn := h.1.1.1
  refine ⟨fun i hi => ?_, fun p hp => ?_, fun p hp => ?_, fun b hb => ?_, ?_, upd_e _ _ _⟩
  · rw [pr_same (e 2 (by decide) (by decide) (by decide) (by decide)) (e 3 (by decide) (by decide) (by decide) (by decide)), e 5 (by decide) (by decide) (by decide) (by decide), e 7 (by decide) (by decide) (by decide) (by decide), e 10 (by decide) (by decide) (by decide) (by decide), ptS_at, ptS_at, if_neg (fun q => by have := q.1; omega : ¬ (30 + i < n ∧ cDu td M D (30 + i) = true)), ps_6 h hs D hD i hi, cDu_I h hs hD i]
    refine ⟨hR.b0 hi, hR.b1 hi, ?_, hR.t1 hi, hR.n0 hi⟩
    by_cases c : M 6 i = 1 ∧ (M 5 i).toInt ≤ td.toInt + D
    · rw [if_pos c, if_pos ⟨hi, decide_eq_true c⟩]
    · rw [if_neg c, if_neg (fun q => c (of_decide_eq_true q.2))]; exact hR.t0 hi
  · rw [hs_ps h.1]; exact hR.m hp
  · rw [e 12 (by decide) (by decide) (by decide) (by decide)]; exact hR.l hp
  · rw [e 11 (by decide) (by decide) (by decide) (by decide)]; exact hR.u hb
  · rw [pk_un (by decide : (0 : Nat) ≠ 1)]; exact hR.g0
end DY
