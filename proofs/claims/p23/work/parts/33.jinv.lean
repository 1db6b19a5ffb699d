/-! What holds of the desk between two steps of the law -/
theorem up2_e (M : Nat → Nat → Int32) (f i : Nat) (v : Int32) : up2 M f i v f i = v := by rw [up2_at, if_pos ⟨rfl, rfl⟩]
theorem up2_j (M : Nat → Nat → Int32) (f i : Nat) (v : Int32) (g : Nat) {j : Nat} (h : j ≠ i) : up2 M f i v g j = M g j := by rw [up2_at, if_neg (fun q => h q.2)]
theorem z0 : (0 : Int32).toInt = 0 := rfl
/-- one bill -/
def jC (M : Nat → Nat → Int32) (i : Nat) : Prop := ((M 6 i = 3 ∨ M 6 i = 4) ∨ (M 8 i = 0 ∧ M 9 i = 0 ∧ M 10 i = 0)) ∧ (0 ≤ (M 8 i).toInt ∧ (M 8 i).toInt ≤ (M 4 i).toInt) ∧ (M 6 i = 4 → M 8 i = M 4 i) ∧ (0 ≤ (M 9 i).toInt ∧ (M 9 i).toInt ≤ (M 8 i).toInt) ∧ (M 10 i).toInt ≤ (M 4 i).toInt
/-- the claims; the budgets -/
def jP (s : Nat) (M : Nat → Nat → Int32) : Prop := ∀ p, p < 32 → 0 ≤ (M 13 p).toInt ∧ (M 13 p).toInt ≤ 1000000 * (s : Int)
def jU (M : Nat → Nat → Int32) : Prop := ∀ b, b < 4 → 0 ≤ (M 11 b).toInt ∧ (M 11 b).toInt ≤ 100000000
def Jw (s : Nat) (td : Int32) (n : Nat) (M : Nat → Nat → Int32) : Prop := Iv s td n M ∧ (∀ i, i < n → jC M i) ∧ jP s M ∧ jU M
/-- an approved bill is not yet due -/
def jD (td : Int32) (n : Nat) (M : Nat → Nat → Int32) : Prop := ∀ i, i < n → M 6 i = 1 → ¬ M 5 i ≤ td
def Jv (s : Nat) (td : Int32) (n : Nat) (M : Nat → Nat → Int32) : Prop := Jw s td n M ∧ jD td n M
theorem jC_same {M N : Nat → Nat → Int32} {i : Nat} (h : ∀ f, f ≤ 10 → N f i = M f i) (hj : jC M i) : jC N i := by
  unfold jC at hj ⊢
  rw [h 4 (by decide), h 6 (by decide), h 8 (by decide), h 9 (by decide), h 10 (by decide)]
  exact hj
theorem jC.unp {M : Nat → Nat → Int32} {i : Nat} (q : jC M i) (h : ¬ (M 6 i = 3 ∨ M 6 i = 4)) : M 8 i = 0 ∧ M 9 i = 0 ∧ M 10 i = 0 := q.1.elim (fun a => absurd a h) id
theorem jC_mkU {N : Nat → Nat → Int32} {i : Nat} (h4 : ¬ N 6 i = 4) (z8 : N 8 i = 0) (z9 : N 9 i = 0) (z10 : N 10 i = 0) (a0 : 0 ≤ (N 4 i).toInt) : jC N i := by
  refine ⟨Or.inr ⟨z8, z9, z10⟩, ?_, fun e => absurd e h4, ?_, ?_⟩
  · rw [z8, z0]; exact ⟨Int.le_refl _, a0⟩
  · rw [z8, z9, z0]; exact ⟨Int.le_refl _, Int.le_refl _⟩
  · rw [z10, z0]; exact a0
section JW
variable {s s' n : Nat} {td : Int32} {M N : Nat → Nat → Int32}
theorem jP.le (h : jP s M) (hs : s ≤ s') (e : N 13 = M 13) : jP s' N := fun p hp => by
  have q := h p hp
  rw [e]
  exact ⟨q.1, by omega⟩
theorem jU.of (h : jU M) (e : N 11 = M 11) : jU N := fun b hb => by rw [e]; exact h b hb
theorem Jw.of (h : Jw s td n M) {i : Nat} (hI : Iv s' td n N) (ho : ∀ f j, f ≤ 10 → j ≠ i → N f j = M f j) (hb : i < n → jC N i) (hc : jP s' N) (hu : jU N) : Jw s' td n N :=
  ⟨hI, fun j hj => by
    by_cases e : j = i
    · subst e; exact hb hj
    · exact jC_same (fun f hf => ho f j hf e) (h.2.1 j hj), hc, hu⟩
theorem Jw.up (h : Jw s td n M) : Jw (s + 1) td n M := ⟨h.1.up, h.2.1, h.2.2.1.le (Nat.le_succ s) rfl, h.2.2.2⟩
theorem Jv.up (h : Jv s td n M) : Jv (s + 1) td n M := ⟨h.1.up, h.2⟩
theorem jD.of (h : jD td n M) {i : Nat} (h5 : N 5 = M 5) (ho : ∀ j, j < n → j ≠ i → N 6 j = 1 → M 6 j = 1) (hi : N 6 i = 1 → ¬ M 5 i ≤ td) : jD td n N := fun j hj h6 => by
  rw [h5]
  by_cases e : j = i
  · subst e; exact hi h6
  · exact h j hj (ho j hj e h6)
theorem Jw.a4 (h : Jw s td n M) {i : Nat} (hi : i < n) : 0 ≤ (M 4 i).toInt ∧ (M 4 i).toInt ≤ 1000000 := (h.1.2.2.1 i hi).2.1
theorem Jw.ok (h : Jw s td n M) : ∀ j, j < n → okP M j := h.1.ok
/-- budgets, limits -/
theorem Jv.budget (h : Jv s td n M) {b : Nat} {y : Int32} (hy : inR 0 100000000 y) : Jv (s + 1) td n (up2 M 11 b y) := by
  refine ⟨h.1.of (i := n) (h.1.1.hi (by decide)).up (fun f j hf _ => up2_ne _ _ _ _ (by omega)) (fun q => absurd q (Nat.lt_irrefl n)) (h.1.2.2.1.le (Nat.le_succ s) (up2_n _ _ (by decide))) (fun b' hb' => ?_), fun i hi => ?_⟩
  · by_cases e : b' = b
    · subst e
      rw [up2_e]
      have := inR_I.mp hy
      exact this
    · rw [up2_j _ _ _ _ _ e]; exact h.1.2.2.2 b' hb'
  · rw [up2_ne _ _ _ _ (by decide), up2_ne _ _ _ _ (by decide)]; exact h.2 i hi
theorem Jv.limit (h : Jv s td n M) {p : Nat} {y : Int32} : Jv (s + 1) td n (up2 M 12 p y) := by
  refine ⟨h.1.of (i := n) (h.1.1.hi (by decide)).up (fun f j hf _ => up2_ne _ _ _ _ (by omega)) (fun q => absurd q (Nat.lt_irrefl n)) (h.1.2.2.1.le (Nat.le_succ s) (up2_n _ _ (by decide))) (h.1.2.2.2.of (up2_n _ _ (by decide))), fun i hi => ?_⟩
  rw [up2_ne _ _ _ _ (by decide), up2_ne _ _ _ _ (by decide)]; exact h.2 i hi
/-- a change of one number of a bill that is not paid -/
theorem Jw.unpaid (h : Jw s td n M) {f i : Nat} {v : Int32} (hi : i < n) (hn : ¬ (M 6 i = 3 ∨ M 6 i = 4)) (hf : (f = 6 ∧ (v = 0 ∨ v = 1 ∨ v = 2)) ∨ (f = 7 ∧ (v = -1 ∨ (0 ≤ v.toInt ∧ v.toInt ≤ 5000))) ∨ (f = 4 ∧ 0 ≤ v.toInt ∧ v.toInt ≤ 1000000)) : Jw s td n (up2 M f i v) := by
  obtain ⟨z8, z9, z10⟩ := (h.2.1 i hi).unp hn
  have a0 := (h.a4 hi).1
  have hI : Iv s td n (up2 M f i v) := h.1.one hi (by
    rcases hf with ⟨q, r⟩ | ⟨q, r⟩ | ⟨q, r⟩
    · exact Or.inr (Or.inr (Or.inl ⟨q, r.elim Or.inl (fun r => r.elim (fun r => Or.inr (Or.inl r)) (fun r => Or.inr (Or.inr (Or.inl r))))⟩))
    · exact Or.inr (Or.inr (Or.inr (Or.inl ⟨q, r⟩)))
    · exact Or.inr (Or.inr (Or.inr (Or.inr (Or.inl ⟨q, r⟩)))))
  refine h.of (i := i) hI (fun g j _ hj => up2_j _ _ _ _ _ hj) (fun _ => ?_) (h.2.2.1.le (Nat.le_refl s) (up2_n _ _ (by omega))) (h.2.2.2.of (up2_n _ _ (by omega)))
  refine jC_mkU ?_ ?_ ?_ ?_ ?_
  · rw [up2_at]
    split
    · rcases hf with ⟨q, r⟩ | ⟨q, r⟩ | ⟨q, r⟩
      · rcases r with r | r | r <;> rw [r] <;> decide
      · omega
      · omega
    · exact fun q => hn (Or.inr q)
  · rw [up2_ne _ _ _ _ (by omega)]; exact z8
  · rw [up2_ne _ _ _ _ (by omega)]; exact z9
  · rw [up2_ne _ _ _ _ (by omega)]; exact z10
  · rw [up2_at]
    split
    · rcases hf with ⟨q, r⟩ | ⟨q, r⟩ | ⟨q, r⟩
      · omega
      · omega
      · exact r.1
    · exact a0
theorem n02 {x : Int32} (h : x = 0 ∨ x = 2) : ¬ (x = 3 ∨ x = 4) := by rcases h with e | e <;> rw [e] <;> decide
theorem n01 {x : Int32} (h : x = 0 ∨ x = 1) : ¬ (x = 3 ∨ x = 4) := by rcases h with e | e <;> rw [e] <;> decide
theorem n1 {x : Int32} (h : x = 1) : ¬ (x = 3 ∨ x = 4) := by rw [h]; decide
theorem Jv.apprA (h : Jv s td n M) {i : Nat} (hi : i < n) (hst : M 6 i = 0 ∨ M 6 i = 2) (hd : ¬ M 5 i ≤ td) : Jv (s + 1) td n (up2 M 6 i 1) :=
  ⟨(h.1.unpaid hi (n02 hst) (Or.inl ⟨rfl, Or.inr (Or.inl rfl)⟩)).up, h.2.of (i := i) (up2_n _ _ (by decide)) (fun j _ hj q => by rw [up2_j _ _ _ _ _ hj] at q; exact q) (fun _ => hd)⟩
theorem Jv.disp (h : Jv s td n M) {i : Nat} (hi : i < n) (hst : M 6 i = 0 ∨ M 6 i = 1) : Jv (s + 1) td n (up2 (up2 M 6 i 2) 7 i (-1)) := by
  have h1 := h.1.unpaid hi (n01 hst) (f := 6) (v := 2) (Or.inl ⟨rfl, Or.inr (Or.inr rfl)⟩)
  have h2 := h1.unpaid hi (by rw [up2_e]; decide) (f := 7) (v := -1) (Or.inr (Or.inl ⟨rfl, Or.inl rfl⟩))
  refine ⟨h2.up, h.2.of (i := i) (by rw [up2_n _ _ (by decide), up2_n _ _ (by decide)]) (fun j _ hj q => by rw [up2_j _ _ _ _ _ hj, up2_j _ _ _ _ _ hj] at q; exact q) (fun q => ?_)⟩
  rw [up2_ne _ _ _ _ (by decide), up2_e] at q
  exact absurd q (by decide)
theorem Jv.rate (h : Jv s td n M) {i : Nat} {y : Int32} (hi : i < n) (hn : ¬ (M 6 i = 3 ∨ M 6 i = 4)) (hy : y = -1 ∨ inR 0 5000 y) : Jv (s + 1) td n (up2 M 7 i y) :=
  ⟨(h.1.unpaid hi hn (Or.inr (Or.inl ⟨rfl, hy.elim Or.inl (fun q => Or.inr (inR_I.mp q))⟩))).up, fun j hj q => by
    rw [up2_ne _ _ _ _ (by decide)] at q ⊢; exact h.2 j hj q⟩
theorem Jv.noteU (h : Jv s td n M) {i : Nat} {y : Int32} (hi : i < n) (hn : ¬ (M 6 i = 3 ∨ M 6 i = 4)) (hy : 0 ≤ (M 4 i - y).toInt ∧ (M 4 i - y).toInt ≤ 1000000) : Jv (s + 1) td n (up2 M 4 i (M 4 i - y)) :=
  ⟨(h.1.unpaid hi hn (Or.inr (Or.inr ⟨rfl, hy⟩))).up, fun j hj q => by
    rw [up2_ne _ _ _ _ (by decide)] at q ⊢; exact h.2 j hj q⟩
/-- a payment -/
theorem payH_I {j : Nat} {sm : Int32} (h : 0 ≤ (M 13 (pr M j)).toInt) (hs : 0 ≤ sm.toInt) : 0 ≤ (payH M j sm).toInt ∧ (payH M j sm).toInt ≤ sm.toInt ∧ (payH M j sm).toInt ≤ (M 13 (pr M j)).toInt := by
  unfold payH
  split
  · rename_i q; rw [i32_lt] at q; exact ⟨h, by omega, by omega⟩
  · rename_i q; rw [i32_lt] at q; exact ⟨hs, by omega, by omega⟩
theorem payM_6 {j : Nat} {sm how : Int32} : payM M j sm how 6 = upd (M 6) j how := rfl
theorem payM_8 {j : Nat} {sm how : Int32} : payM M j sm how 8 = upd (M 8) j sm := rfl
theorem payM_9 {j : Nat} {sm how : Int32} : payM M j sm how 9 = upd (M 9) j (payH M j sm) := rfl
theorem payM_13 {j : Nat} {sm how : Int32} : payM M j sm how 13 = upd (M 13) (pr M j) (M 13 (pr M j) - payH M j sm) := rfl
theorem upd_e (f : Nat → Int32) (i : Nat) (v : Int32) : upd f i v i = v := if_pos rfl
theorem payM_j {j i f : Nat} {sm how : Int32} (hf : f ≤ 10) (h : i ≠ j) : payM M j sm how f i = M f i := by
  by_cases h6 : f = 6
  · subst h6; rw [payM_6]; exact pk_un h
  · by_cases h8 : f = 8
    · subst h8; rw [payM_8]; exact pk_un h
    · by_cases h9 : f = 9
      · subst h9; rw [payM_9]; exact pk_un h
      · rw [payM_n _ _ _ _ h6 h8 h9 (by omega)]
theorem Jw.pay (h : Jw s td n M) {j : Nat} {sm how : Int32} (hj : j < n) (hn : ¬ (M 6 j = 3 ∨ M 6 j = 4)) (hsm : 0 ≤ sm.toInt ∧ sm.toInt ≤ (M 4 j).toInt) (hh : how = 3 ∨ (how = 4 ∧ sm = M 4 j)) : Jw s td n (payM M j sm how) := by
  obtain ⟨z8, z9, z10⟩ := (h.2.1 j hj).unp hn
  have hp := (h.1.ok j hj).lt
  have hc := h.2.2.1 _ hp
  have e := payH_I (M := M) (j := j) hc.1 hsm.1
  have e4 : payM M j sm how 4 j = M 4 j := by rw [payM_n _ _ _ _ (by decide) (by decide) (by decide) (by decide)]
  have e10 : payM M j sm how 10 j = M 10 j := by rw [payM_n _ _ _ _ (by decide) (by decide) (by decide) (by decide)]
  have e6 : payM M j sm how 6 j = how := by rw [payM_6]; exact upd_e _ _ _
  have e8 : payM M j sm how 8 j = sm := by rw [payM_8]; exact upd_e _ _ _
  have e9 : payM M j sm how 9 j = payH M j sm := by rw [payM_9]; exact upd_e _ _ _
  refine h.of (i := j) (h.1.pay hj (hh.elim Or.inl (fun q => Or.inr q.1))) (fun f i hf hi => payM_j hf hi) (fun _ => ?_) (fun p hp2 => ?_) (h.2.2.2.of (payM_n _ _ _ _ (by decide) (by decide) (by decide) (by decide)))
  · unfold jC
    rw [e4, e10, e6, e8, e9]
    refine ⟨Or.inl (hh.elim Or.inl (fun q => Or.inr q.1)), hsm, fun q => ?_, ⟨e.1, e.2.1⟩, ?_⟩
    · rcases hh with r | r
      · rw [r] at q; exact absurd q (by decide)
      · exact r.2
    · rw [z10, z0]; exact (h.a4 hj).1
  · rw [payM_13]
    by_cases e1 : p = pr M j
    · subst e1
      have hb2 := i32_b (M 13 (pr M j))
      rw [upd_e, i32_sub (by omega) (by omega)]
      exact ⟨by omega, by omega⟩
    · rw [pk_un e1]; exact h.2.2.1 p hp2
theorem Jv.apprP (h : Jv s td n M) {i : Nat} (hi : i < n) (hst : M 6 i = 0 ∨ M 6 i = 2) : Jv (s + 1) td n (payM M i (M 4 i) 4) := by
  refine ⟨(h.1.pay hi (n02 hst) ⟨(h.1.a4 hi).1, Int.le_refl _⟩ (Or.inr ⟨rfl, rfl⟩)).up, h.2.of (i := i) (payM_n _ _ _ _ (by decide) (by decide) (by decide) (by decide)) (fun j _ hj q => by rw [payM_j (by decide) hj] at q; exact q) (fun q => ?_)⟩
  rw [payM_6, upd_e] at q
  exact absurd q (by decide)
/-- a note on a paid bill -/
theorem more_I {i : Nat} {y : Int32} (h4 : 1 ≤ (M 4 i).toInt ∧ (M 4 i).toInt ≤ 1000000) (h8 : 0 ≤ (M 8 i).toInt ∧ (M 8 i).toInt ≤ (M 4 i).toInt) (hy : 1 ≤ y.toInt ∧ y.toInt ≤ 1000000) :
    (0 ≤ (moreS M i y).toInt ∧ (moreS M i y).toInt ≤ y.toInt) ∧ (moreS M i y).toInt * (M 4 i).toInt ≤ y.toInt * (M 8 i).toInt ∧ y.toInt * (M 8 i).toInt < ((moreS M i y).toInt + 1) * (M 4 i).toInt := by
  have p1 : 0 ≤ y.toInt * (M 8 i).toInt := Int.mul_nonneg (by omega) h8.1
  have p2 : y.toInt * (M 8 i).toInt ≤ y.toInt * (M 4 i).toInt := Int.mul_le_mul_of_nonneg_left h8.2 (by omega)
  have p3 : y.toInt * (M 4 i).toInt ≤ y.toInt * 1000000 := Int.mul_le_mul_of_nonneg_left h4.2 (by omega)
  have e1 : (y.toInt64 * (M 8 i).toInt64).toInt = y.toInt * (M 8 i).toInt := by
    rw [i64_mul (by rw [Int32.toInt_toInt64, Int32.toInt_toInt64]; omega) (by rw [Int32.toInt_toInt64, Int32.toInt_toInt64]; omega), Int32.toInt_toInt64, Int32.toInt_toInt64]
  have d1 : (y.toInt * (M 8 i).toInt).tdiv (M 4 i).toInt = y.toInt * (M 8 i).toInt / (M 4 i).toInt := Int.tdiv_eq_ediv_of_nonneg p1
  have d2 : 0 ≤ y.toInt * (M 8 i).toInt / (M 4 i).toInt := Int.ediv_nonneg p1 (by omega)
  have d3 : y.toInt * (M 8 i).toInt / (M 4 i).toInt ≤ y.toInt := by
    have := Int.ediv_le_ediv (c := (M 4 i).toInt) (by omega) p2
    rw [Int.mul_ediv_cancel _ (by omega)] at this
    exact this
  have d4 : y.toInt * (M 8 i).toInt / (M 4 i).toInt * (M 4 i).toInt ≤ y.toInt * (M 8 i).toInt := Int.ediv_mul_le _ (by omega)
  have d5 : y.toInt * (M 8 i).toInt < (y.toInt * (M 8 i).toInt / (M 4 i).toInt + 1) * (M 4 i).toInt := Int.lt_ediv_add_one_mul_self _ (by omega)
  have e4 : (y.toInt64 * (M 8 i).toInt64 / (M 4 i).toInt64).toInt = y.toInt * (M 8 i).toInt / (M 4 i).toInt := by
    rw [Int64.toInt_div, e1, Int32.toInt_toInt64, d1]
    exact Int.bmod_eq_of_le (by omega) (by omega)
  have e5 : (moreS M i y).toInt = y.toInt * (M 8 i).toInt / (M 4 i).toInt := by
    unfold moreS
    rw [Int64.toInt_toInt32, e4]
    exact Int.bmod_eq_of_le (by omega) (by omega)
  rw [e5]
  exact ⟨⟨d2, d3⟩, d4, d5⟩
theorem Jv.noteP (h : Jv s td n M) {i : Nat} {y : Int32} (hi : i < n) (hst : M 6 i = 3 ∨ M 6 i = 4) (hy : inR 1 (M 4 i - M 10 i) y) (hs : s ≤ 1000) : Jv (s + 1) td n (noteM M i y) := by
  have hB := h.1.1.2.2.1 i hi
  have a4 := h.1.a4 hi
  have g5 := hB.2.2.2.2.1
  have hC := h.1.2.1 i hi
  have hy' := inR_I.mp hy
  have e1 : (1 : Int32).toInt = 1 := rfl
  have e3 : (M 4 i - M 10 i).toInt = (M 4 i).toInt - (M 10 i).toInt := i32_sub (by omega) (by omega)
  have e4 : (M 10 i + y).toInt = (M 10 i).toInt + y.toInt := i32_add (by omega) (by omega)
  have hm := more_I (M := M) (i := i) (y := y) ⟨by omega, a4.2⟩ hC.2.1 ⟨by omega, by omega⟩
  have hp := (h.1.1.ok i hi).lt
  have hI : Iv (s + 1) td n (noteM M i y) := by
    unfold noteM
    exact ((h.1.1.one hi (f := 10) (v := M 10 i + y) (Or.inr (Or.inr (Or.inr (Or.inr (Or.inr ⟨rfl, by omega, by omega⟩)))))).hi (by decide)).up
  have n10 : ∀ f, f ≤ 10 → f ≠ 10 → noteM M i y f = M f := fun f h1 h2 => by
    unfold noteM; rw [up2_n _ _ (by omega), up2_n _ _ h2]
  refine ⟨h.1.of (i := i) hI (fun f j hf hj => ?_) (fun _ => ?_) (fun p hp2 => ?_) (h.1.2.2.2.of ?_), fun j hj q => ?_⟩
  · by_cases e : f = 10
    · subst e; unfold noteM; rw [up2_ne _ _ _ _ (by decide), up2_j _ _ _ _ _ hj]
    · rw [n10 f hf e]
  · have e10 : noteM M i y 10 i = M 10 i + y := by unfold noteM; rw [up2_ne _ _ _ _ (by decide), up2_e]
    unfold jC at hC ⊢
    rw [n10 4 (by decide) (by decide), n10 6 (by decide) (by decide), n10 8 (by decide) (by decide), n10 9 (by decide) (by decide), e10]
    exact ⟨Or.inl hst, hC.2.1, hC.2.2.1, hC.2.2.2.1, by omega⟩
  · unfold noteM
    have hc := h.1.2.2.1 p hp2
    by_cases e : p = pr M i
    · subst e
      rw [up2_e, i32_add (by omega) (by omega)]
      exact ⟨by omega, by push_cast; omega⟩
    · rw [up2_j _ _ _ _ _ e, up2_ne _ _ _ _ (by decide)]
      exact ⟨hc.1, by push_cast; omega⟩
  · unfold noteM; rw [up2_n _ _ (by decide), up2_n _ _ (by decide)]
  · rw [n10 6 (by decide) (by decide)] at q
    rw [n10 5 (by decide) (by decide)]
    exact h.2 j hj q
/-- a new bill -/
theorem billM_j {b o j f : Nat} {ct dd : Int32} (h : j ≠ n) : billM td n M b o ct dd f j = M f j := by simp [billM, up2_at, h]
theorem billM_n {b o f : Nat} {ct dd : Int32} (h2 : f ≠ 2) (h3 : f ≠ 3) (h4 : f ≠ 4) (h5 : f ≠ 5) (h7 : f ≠ 7) : billM td n M b o ct dd f = M f := by
  unfold billM
  rw [up2_n _ _ h7, up2_n _ _ h5, up2_n _ _ h4, up2_n _ _ h3, up2_n _ _ h2]
theorem Jv.bill (h : Jv s td n M) {b o : Nat} {ct dd : Int32} (hb : b < 4) (ho : o < 8) (hc : inR 1 1000000 ct) (hd : inR 1 360 dd) (hn : n < 30) (hs : s ≤ 100000) : Jv (s + 1) td (n + 1) (billM td n M b o ct dd) := by
  have hz := h.1.1.2.2.2 n (Nat.le_refl _)
  have e6 : billM td n M b o ct dd 6 n = 0 := by rw [billM_n (by decide) (by decide) (by decide) (by decide) (by decide)]; exact hz.1
  refine ⟨⟨(h.1.1.bill hb ho hc hd hn hs).up, fun i hi => ?_, h.1.2.2.1.le (Nat.le_succ s) (billM_n (by decide) (by decide) (by decide) (by decide) (by decide)), h.1.2.2.2.of (billM_n (by decide) (by decide) (by decide) (by decide) (by decide))⟩, fun i hi q => ?_⟩
  · by_cases e : i = n
    · subst e
      have e4 : billM td i M b o ct dd 4 i = ct := by simp [billM, up2_at]
      refine jC_mkU (by rw [e6]; decide) ?_ ?_ ?_ ?_
      · rw [billM_n (by decide) (by decide) (by decide) (by decide) (by decide)]; exact hz.2.1
      · rw [billM_n (by decide) (by decide) (by decide) (by decide) (by decide)]; exact hz.2.2.1
      · rw [billM_n (by decide) (by decide) (by decide) (by decide) (by decide)]; exact hz.2.2.2
      · rw [e4]
        have := inR_I.mp hc
        have e1 : (1 : Int32).toInt = 1 := rfl
        omega
    · exact jC_same (fun f _ => billM_j e) (h.1.2.1 i (by omega))
  · by_cases e : i = n
    · subst e; rw [e6] at q; exact absurd q (by decide)
    · rw [billM_j e] at q ⊢
      exact h.2 i (by omega) q
end JW
theorem flU_at (c : Int32) : ∀ k p, p < k → flU (fun _ => 0) c k p = c
  | k + 1, p, hp => by
    rw [← flU_s]
    by_cases e : p = k
    · subst e; exact upd_e _ _ _
    · rw [pk_un e]; exact flU_at c k p (by omega)
theorem M0_z {f i : Nat} (h : f ≠ 12) : M0 f i = 0 := by
  unfold M0
  rw [if_neg h]
theorem Jv.start : Jv 0 0 0 M0 := by
  refine ⟨⟨Iv.start, fun i hi => absurd hi (Nat.not_lt_zero _), fun p hp => ?_, fun b hb => ?_⟩, fun i hi => absurd hi (Nat.not_lt_zero _)⟩
  · rw [M0_z (by decide), z0]; exact ⟨Int.le_refl _, by decide⟩
  · rw [M0_z (by decide), z0]; exact ⟨Int.le_refl _, by decide⟩
