/-! What holds after each step: ranges -/
def bOk (td : Int32) (M : Nat → Nat → Int32) (i : Nat) : Prop := okP M i ∧ (0 ≤ (M 4 i).toInt ∧ (M 4 i).toInt ≤ 1000000) ∧ (M 6 i = 0 ∨ M 6 i = 1 ∨ M 6 i = 2 ∨ M 6 i = 3 ∨ M 6 i = 4) ∧ (M 7 i = -1 ∨ (0 ≤ (M 7 i).toInt ∧ (M 7 i).toInt ≤ 5000)) ∧ (0 ≤ (M 10 i).toInt ∧ (M 10 i).toInt ≤ 1000000) ∧ (0 ≤ (M 5 i).toInt ∧ (M 5 i).toInt ≤ td.toInt + 360)
def Iv (s : Nat) (td : Int32) (n : Nat) (M : Nat → Nat → Int32) : Prop := n ≤ 30 ∧ (0 ≤ td.toInt ∧ td.toInt ≤ 400 * s) ∧ (∀ i, i < n → bOk td M i) ∧ ∀ i, n ≤ i → M 6 i = 0 ∧ M 8 i = 0 ∧ M 9 i = 0 ∧ M 10 i = 0
theorem up2_at (M : Nat → Nat → Int32) (f i : Nat) (v : Int32) (g j : Nat) : up2 M f i v g j = if g = f ∧ j = i then v else M g j := by
  by_cases hg : g = f
  · subst hg
    rw [up2_s]
    by_cases hj : j = i
    · simp [upd, hj]
    · simp [upd, hj]
  · rw [up2_n _ _ hg, if_neg (fun q => hg q.1)]
theorem up2_ne (M : Nat → Nat → Int32) {f g : Nat} (i : Nat) (v : Int32) (j : Nat) (h : g ≠ f) : up2 M f i v g j = M g j := by rw [up2_n _ _ h]
section IV
variable {s n : Nat} {td : Int32} {M : Nat → Nat → Int32}
theorem Iv.ok (h : Iv s td n M) : ∀ j, j < n → okP M j := fun j hj => (h.2.2.1 j hj).1
theorem Iv.up (h : Iv s td n M) : Iv (s + 1) td n M := ⟨h.1, ⟨h.2.1.1, by have := h.2.1.2; push_cast; omega⟩, h.2.2⟩
theorem Iv.day (h : Iv s td n M) {s' : Nat} {td' : Int32} (h1 : td.toInt ≤ td'.toInt) (h2 : td'.toInt ≤ 400 * s') : Iv s' td' n M := by
  refine ⟨h.1, ⟨by have := h.2.1.1; omega, h2⟩, fun i hi => ?_, h.2.2.2⟩
  obtain ⟨g1, g2, g3, g4, g5, g6⟩ := h.2.2.1 i hi
  exact ⟨g1, g2, g3, g4, g5, g6.1, by omega⟩
theorem okP_up {f i j : Nat} {v : Int32} (h2 : 2 ≠ f) (h3 : 3 ≠ f) (h : okP M j) : okP (up2 M f i v) j := okP_of (up2_n _ _ h2) (up2_n _ _ h3) h
/-- budgets, limits, claims -/
theorem Iv.hi (h : Iv s td n M) {f i : Nat} {v : Int32} (hf : 10 < f) : Iv s td n (up2 M f i v) := by
  refine ⟨h.1, h.2.1, fun j hj => ?_, fun j hj => ?_⟩
  · obtain ⟨g1, g2, g3, g4, g5, g6⟩ := h.2.2.1 j hj
    unfold bOk
    rw [up2_ne _ _ _ _ (by omega : 4 ≠ f), up2_ne _ _ _ _ (by omega : 6 ≠ f), up2_ne _ _ _ _ (by omega : 7 ≠ f), up2_ne _ _ _ _ (by omega : 10 ≠ f), up2_ne _ _ _ _ (by omega : 5 ≠ f)]
    exact ⟨okP_up (by omega) (by omega) g1, g2, g3, g4, g5, g6⟩
  · rw [up2_ne _ _ _ _ (by omega : 6 ≠ f), up2_ne _ _ _ _ (by omega : 8 ≠ f), up2_ne _ _ _ _ (by omega : 9 ≠ f), up2_ne _ _ _ _ (by omega : 10 ≠ f)]
    exact h.2.2.2 j hj
/-- a number of one bill -/
theorem Iv.one (h : Iv s td n M) {f i : Nat} {v : Int32} (hi : i < n) (hf : f = 8 ∨ f = 9 ∨ (f = 6 ∧ (v = 0 ∨ v = 1 ∨ v = 2 ∨ v = 3 ∨ v = 4)) ∨ (f = 7 ∧ (v = -1 ∨ (0 ≤ v.toInt ∧ v.toInt ≤ 5000))) ∨ (f = 4 ∧ 0 ≤ v.toInt ∧ v.toInt ≤ 1000000) ∨ (f = 10 ∧ 0 ≤ v.toInt ∧ v.toInt ≤ 1000000)) : Iv s td n (up2 M f i v) := by
  refine ⟨h.1, h.2.1, fun j hj => ?_, fun j hj => ?_⟩
  · obtain ⟨g1, g2, g3, g4, g5, g6⟩ := h.2.2.1 j hj
    unfold bOk
    simp only [up2_at]
    refine ⟨okP_up (by rcases hf with h | h | h | h | h | h <;> omega) (by rcases hf with h | h | h | h | h | h <;> omega) g1, ?_, ?_, ?_, ?_, ?_⟩
    · split
      · rename_i q
        rcases hf with h | h | h | h | h | h
        · omega
        · omega
        · omega
        · omega
        · exact h.2
        · omega
      · exact g2
    · split
      · rename_i q
        rcases hf with h | h | h | h | h | h
        · omega
        · omega
        · exact h.2
        · omega
        · omega
        · omega
      · exact g3
    · split
      · rename_i q
        rcases hf with h | h | h | h | h | h
        · omega
        · omega
        · omega
        · exact h.2
        · omega
        · omega
      · exact g4
    · split
      · rename_i q
        rcases hf with h | h | h | h | h | h
        · omega
        · omega
        · omega
        · omega
        · omega
        · exact h.2
      · exact g5
    · split
      · rename_i q
        rcases hf with h | h | h | h | h | h <;> omega
      · exact g6
  · have hji : j ≠ i := by omega
    simp only [up2_at, hji, and_false, if_false]
    exact h.2.2.2 j hj
theorem Iv.pay (h : Iv s td n M) {j : Nat} {sm how : Int32} (hj : j < n) (hh : how = 3 ∨ how = 4) : Iv s td n (payM M j sm how) := by
  rw [← payM_m]
  refine (((h.hi (by decide)).one hj (Or.inl rfl)).one hj (Or.inr (Or.inl rfl))).one hj (Or.inr (Or.inr (Or.inl ⟨rfl, ?_⟩)))
  rcases hh with h | h
  · exact Or.inr (Or.inr (Or.inr (Or.inl h)))
  · exact Or.inr (Or.inr (Or.inr (Or.inr h)))
theorem Iv.dy (h : Iv s td n M) {t : Int32} : ∀ j, j ≤ n → Iv s td n (dyM t M j)
  | 0, _ => h
  | j + 1, hj => by
    have ih := Iv.dy h (t := t) j (by omega)
    by_cases hc : dyM t M j 6 j = 1 ∧ dyM t M j 5 j = t
    · rw [dyM_t hc]; exact ih.pay (by omega) (Or.inr rfl)
    · rw [dyM_f hc]; exact ih
theorem Iv.ps (h : Iv s td n M) {t : Int32} : ∀ k, Iv s td n (psM t n M k)
  | 0 => h
  | k + 1 => (Iv.ps h (t := t) k).dy n (Nat.le_refl _)
theorem Iv.pass (h : Iv s td n M) {D : Nat} (hD : D ≤ 400) (hs : s ≤ 100000) : Iv (s + 1) (td + nI D) n (psM td n M D) := by
  have e : (nI D).toInt = D := nI_toInt (by omega)
  have h1 := h.2.1
  have e2 : (td + nI D).toInt = td.toInt + D := by rw [i32_add (by omega) (by omega), e]
  exact (h.ps (t := td) D).day (by omega) (by push_cast; omega)
theorem Iv.cl (h : Iv s td n M) {b : Nat} {X : Nat → Nat → Int32} {L : List Nat} (hL : ∀ k, k < L.length → ix L k < n) : ∀ k, k ≤ L.length → Iv s td n (clR td M L b X k).1
  | 0, _ => h
  | k + 1, hk => by
    have ih := Iv.cl h (b := b) (X := X) hL k (by omega)
    by_cases hc : X 14 (ix L k) = 0
    · rw [clR_f hc]; exact ih
    · rw [clR_t hc]
      exact (ih.hi (f := 11) (by decide)).pay (hL k (by omega)) (Or.inl rfl)
theorem inR_I {lo hi x : Int32} : inR lo hi x ↔ lo.toInt ≤ x.toInt ∧ x.toInt ≤ hi.toInt := by
  unfold inR
  rw [i32_lt, i32_lt]
  constructor
  · intro q; exact ⟨by omega, by omega⟩
  · intro q; exact ⟨by omega, by omega⟩
theorem Iv.bill (h : Iv s td n M) {b o : Nat} {ct dd : Int32} (hb : b < 4) (ho : o < 8) (hc : inR 1 1000000 ct) (hd : inR 1 360 dd) (hn : n < 30) (hs : s ≤ 100000) : Iv s td (n + 1) (billM td n M b o ct dd) := by
  have hc' := inR_I.mp hc
  have hd' := inR_I.mp hd
  have e1 : (1 : Int32).toInt = 1 := rfl
  have e2 : (1000000 : Int32).toInt = 1000000 := rfl
  have e3 : (360 : Int32).toInt = 360 := rfl
  have h1 := h.2.1
  have e4 : (td + dd).toInt = td.toInt + dd.toInt := i32_add (by omega) (by omega)
  refine ⟨by omega, h1, fun i hi => ?_, fun i hi => ?_⟩
  · by_cases hin : i = n
    · subst hin
      have hz := h.2.2.2 i (Nat.le_refl _)
      have f2 : billM td i M b o ct dd 2 i = nI b := by simp [billM, up2_at]
      have f3 : billM td i M b o ct dd 3 i = nI o := by simp [billM, up2_at]
      have f4 : billM td i M b o ct dd 4 i = ct := by simp [billM, up2_at]
      have f5 : billM td i M b o ct dd 5 i = td + dd := by simp [billM, up2_at]
      have f6 : billM td i M b o ct dd 6 i = 0 := by simp [billM, up2_at, hz.1]
      have f7 : billM td i M b o ct dd 7 i = -1 := by simp [billM, up2_at]
      have f10 : billM td i M b o ct dd 10 i = 0 := by simp [billM, up2_at, hz.2.2.2]
      unfold bOk
      rw [f4, f5, f6, f7, f10]
      refine ⟨?_, ⟨by omega, by omega⟩, Or.inl rfl, Or.inl rfl, ⟨by decide, by decide⟩, by omega, by omega⟩
      have eb : bu (billM td i M b o ct dd) i = b := by unfold bu; rw [f2]; exact nI_clamp (by omega)
      have es : su (billM td i M b o ct dd) i = o := by unfold su; rw [f3]; exact nI_clamp (by omega)
      unfold okP
      rw [eb, es]
      exact ⟨f2, hb, f3, ho⟩
    · obtain ⟨g1, g2, g3, g4, g5, g6⟩ := h.2.2.1 i (by omega)
      have e : ∀ f, billM td n M b o ct dd f i = M f i := fun f => by simp [billM, up2_at, hin]
      unfold bOk okP bu su
      rw [e 2, e 3, e 4, e 5, e 6, e 7, e 10]
      exact ⟨g1, g2, g3, g4, g5, g6⟩
  · have hin : i ≠ n := by omega
    have e : ∀ f, billM td n M b o ct dd f i = M f i := fun f => by simp [billM, up2_at, hin]
    rw [e 6, e 8, e 9, e 10]
    exact h.2.2.2 i (by omega)
theorem i64_mul {a b : Int64} (h1 : -9223372036854775808 ≤ a.toInt * b.toInt) (h2 : a.toInt * b.toInt < 9223372036854775808) : (a * b).toInt = a.toInt * b.toInt := by
  rw [Int64.toInt_mul]
  exact Int.bmod_eq_of_le (by omega) (by omega)
theorem disc_I {i : Nat} (ha : 0 ≤ (M 4 i).toInt ∧ (M 4 i).toInt ≤ 1000000) (hr : 0 ≤ (M 7 i).toInt ∧ (M 7 i).toInt ≤ 5000) (hd : 0 ≤ (M 5 i - td).toInt ∧ (M 5 i - td).toInt ≤ 360) : 0 ≤ (disc td M i).toInt ∧ (disc td M i).toInt ≤ 500000 ∧ 0 ≤ (price td M i).toInt ∧ (price td M i).toInt ≤ 1000000 := by
  have p1 : 0 ≤ (M 4 i).toInt * (M 7 i).toInt := Int.mul_nonneg ha.1 hr.1
  have p2 : (M 4 i).toInt * (M 7 i).toInt ≤ (M 4 i).toInt * 5000 := Int.mul_le_mul_of_nonneg_left hr.2 ha.1
  have q1 : 0 ≤ (M 4 i).toInt * (M 7 i).toInt * (M 5 i - td).toInt := Int.mul_nonneg p1 hd.1
  have q2 : (M 4 i).toInt * (M 7 i).toInt * (M 5 i - td).toInt ≤ (M 4 i).toInt * (M 7 i).toInt * 360 := Int.mul_le_mul_of_nonneg_left hd.2 p1
  have e1 : ((M 4 i).toInt64 * (M 7 i).toInt64).toInt = (M 4 i).toInt * (M 7 i).toInt := by
    rw [i64_mul (by rw [Int32.toInt_toInt64, Int32.toInt_toInt64]; omega) (by rw [Int32.toInt_toInt64, Int32.toInt_toInt64]; omega), Int32.toInt_toInt64, Int32.toInt_toInt64]
  have e2 : ((M 4 i).toInt64 * (M 7 i).toInt64 * (M 5 i - td).toInt64).toInt = (M 4 i).toInt * (M 7 i).toInt * (M 5 i - td).toInt := by
    rw [i64_mul (by rw [e1, Int32.toInt_toInt64]; omega) (by rw [e1, Int32.toInt_toInt64]; omega), e1, Int32.toInt_toInt64]
  have e3 : (3600000 : Int64).toInt = 3600000 := rfl
  have d1 : ((M 4 i).toInt * (M 7 i).toInt * (M 5 i - td).toInt).tdiv 3600000 = (M 4 i).toInt * (M 7 i).toInt * (M 5 i - td).toInt / 3600000 := Int.tdiv_eq_ediv_of_nonneg q1
  have d2 : 0 ≤ (M 4 i).toInt * (M 7 i).toInt * (M 5 i - td).toInt / 3600000 := Int.ediv_nonneg q1 (by decide)
  have d3 : (M 4 i).toInt * (M 7 i).toInt * (M 5 i - td).toInt / 3600000 * 2 ≤ (M 4 i).toInt := by omega
  have e4 : ((M 4 i).toInt64 * (M 7 i).toInt64 * (M 5 i - td).toInt64 / 3600000).toInt = (M 4 i).toInt * (M 7 i).toInt * (M 5 i - td).toInt / 3600000 := by
    rw [Int64.toInt_div, e2, e3, d1]
    exact Int.bmod_eq_of_le (by omega) (by omega)
  have e5 : (disc td M i).toInt = (M 4 i).toInt * (M 7 i).toInt * (M 5 i - td).toInt / 3600000 := by
    unfold disc
    rw [Int64.toInt_toInt32, e4]
    exact Int.bmod_eq_of_le (by omega) (by omega)
  have e6 : (price td M i).toInt = (M 4 i).toInt - (disc td M i).toInt := by
    unfold price
    exact i32_sub (by omega) (by omega)
  refine ⟨by omega, by omega, by omega, by omega⟩
theorem Iv.offer (h : Iv s td n M) {b : Nat} (hs : s ≤ 100000) : ∀ i ∈ gaL td M b n, 0 ≤ dI td M i ∧ dI td M i ≤ 500000 ∧ 0 ≤ pI td M i ∧ pI td M i ≤ 1000000 := by
  intro i hi
  obtain ⟨h1, h2, h3, h4, h5⟩ := gaL_mem.mp hi
  obtain ⟨g1, g2, g3, g4, g5, g6⟩ := h.2.2.1 i h1
  have ht := h.2.1
  have e : (M 5 i - td).toInt = (M 5 i).toInt - td.toInt := i32_sub (by omega) (by omega)
  have h5' := h5
  rw [i32_le] at h5'
  exact disc_I g2 (g4.elim (fun q => absurd q h4) id) ⟨by omega, by omega⟩
end IV
theorem Iv.start : Iv 0 0 0 M0 := ⟨by decide, ⟨by decide, by decide⟩, fun i hi => absurd hi (Nat.not_lt_zero _), fun i _ => ⟨rfl, rfl, rfl, rfl⟩⟩
