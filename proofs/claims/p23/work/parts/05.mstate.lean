/-! Ranges; the reference's world; what its methods do, as functions over (today, bills, table). -/
abbrev inR (lo hi x : Int32) : Prop := ¬ x < lo ∧ ¬ hi < x
/-- no number of 0 .. n - 1 -/
def ixBad (n : Nat) (x : Int32) : Prop := ∀ j, j < n → x ≠ nI j
theorem ix_or {n : Nat} (hn : n < 2 ^ 31) (x : Int32) : (∃ j, j < n ∧ x = nI j) ∨ ixBad n x := by
  by_cases h : ∃ j, j < n ∧ x = nI j
  · exact Or.inl h
  · exact Or.inr fun j hj e => h ⟨j, hj, e⟩
theorem i32_lt {a b : Int32} : a < b ↔ a.toInt < b.toInt := Int32.lt_iff_toInt_lt
theorem i32_le {a b : Int32} : a ≤ b ↔ a.toInt ≤ b.toInt := Int32.le_iff_toInt_le
theorem i32_nlt {a b : Int32} : ¬ a < b ↔ b ≤ a := by rw [i32_lt, i32_le]; omega
theorem i32_nle {a b : Int32} : ¬ a ≤ b ↔ b < a := by rw [i32_lt, i32_le]; omega
theorem nI_m1 {n : Nat} (hn : n < 2 ^ 30) : (nI n - 1).toInt = (n : Int) - 1 := by
  have h := pk_sub_toInt (a := n) (b := 1) hn (by decide)
  exact h
theorem ix_in {n j : Nat} (hn : n < 2 ^ 30) (hj : j < n) : inR 0 (nI n - 1) (nI j) := by
  refine ⟨nI_pos (by omega), ?_⟩
  rw [i32_lt, nI_m1 hn, nI_toInt (by omega)]
  omega
theorem ix_bad {n : Nat} (hn : n < 2 ^ 30) {x : Int32} (h : ixBad n x) : ¬ inR 0 (nI n - 1) x := by
  rintro ⟨h1, h2⟩
  obtain ⟨j, hj, rfl⟩ := nI_of h1
  rw [i32_lt, nI_m1 hn, nI_toInt hj] at h2
  exact h j (by omega) rfl
theorem ix4 {b : Nat} (h : b < 4) : inR 0 3 (nI b) := ix_in (n := 4) (by decide) h
theorem ix8 {b : Nat} (h : b < 8) : inR 0 7 (nI b) := ix_in (n := 8) (by decide) h
theorem ix4b {x : Int32} (h : ixBad 4 x) : ¬ inR 0 3 x := ix_bad (n := 4) (by decide) h
theorem ix8b {x : Int32} (h : ixBad 8 x) : ¬ inR 0 7 x := ix_bad (n := 8) (by decide) h
/-- a bill's buyer, supplier, and their place in limits and claims -/
def bu (M : Nat → Nat → Int32) (i : Nat) : Nat := (M 2 i).toNatClampNeg
def su (M : Nat → Nat → Int32) (i : Nat) : Nat := (M 3 i).toNatClampNeg
def pr (M : Nat → Nat → Int32) (i : Nat) : Nat := 8 * bu M i + su M i
def okP (M : Nat → Nat → Int32) (i : Nat) : Prop := M 2 i = nI (bu M i) ∧ bu M i < 4 ∧ M 3 i = nI (su M i) ∧ su M i < 8
theorem okP.lt {M : Nat → Nat → Int32} {i : Nat} (h : okP M i) : pr M i < 32 := by unfold pr; have := h.2.1; have := h.2.2.2; omega
theorem p8 (b s : Nat) : (8 : Int32) * nI b + nI s = nI (8 * b + s) := by rw [show (8 : Int32) = nI 8 from rfl, pk_mul, nI_add]
theorem p8' (b s : Nat) : nI b * (8 : Int32) + nI s = nI (8 * b + s) := by rw [show (8 : Int32) = nI 8 from rfl, pk_mul, nI_add, Nat.mul_comm]
/-- the price's part held back; a payment -/
def payH (M : Nat → Nat → Int32) (j : Nat) (sm : Int32) : Int32 := if M 13 (pr M j) < sm then M 13 (pr M j) else sm
def payM (M : Nat → Nat → Int32) (j : Nat) (sm how : Int32) : Nat → Nat → Int32 := fun f => if f = 6 then upd (M 6) j how else if f = 8 then upd (M 8) j sm else if f = 9 then upd (M 9) j (payH M j sm) else if f = 13 then upd (M 13) (pr M j) (M 13 (pr M j) - payH M j sm) else M f
theorem up2_s (M : Nat → Nat → Int32) (f i : Nat) (v : Int32) : up2 M f i v f = upd (M f) i v := if_pos rfl
theorem up2_n (M : Nat → Nat → Int32) {f g i : Nat} (v : Int32) (h : g ≠ f) : up2 M f i v g = M g := if_neg h
theorem payM_m (M : Nat → Nat → Int32) (j : Nat) (sm how : Int32) : up2 (up2 (up2 (up2 M 13 (pr M j) (M 13 (pr M j) - payH M j sm)) 8 j sm) 9 j (payH M j sm)) 6 j how = payM M j sm how := by
  funext f
  unfold payM
  by_cases h6 : f = 6
  · subst h6; simp [up2, va_up]
  · by_cases h8 : f = 8
    · subst h8; simp [up2, va_up]
    · by_cases h9 : f = 9
      · subst h9; simp [up2, va_up]
      · by_cases h13 : f = 13
        · subst h13; simp [up2, va_up]
        · simp [up2, va_up, h6, h8, h9, h13]
def disc (td : Int32) (M : Nat → Nat → Int32) (i : Nat) : Int32 := ((M 4 i).toInt64 * (M 7 i).toInt64 * (M 5 i - td).toInt64 / 3600000).toInt32
def price (td : Int32) (M : Nat → Nat → Int32) (i : Nat) : Int32 := M 4 i - disc td M i
