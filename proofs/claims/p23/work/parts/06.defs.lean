/-! What the class's methods do, and sums over its bills, as functions over (today, bills, table) -/
/-- what a note on a paid bill adds to the claim; the table behind it -/
def moreS (M : Nat → Nat → Int32) (j : Nat) (y : Int32) : Int32 := (y.toInt64 * (M 8 j).toInt64 / (M 4 j).toInt64).toInt32
def noteM (M : Nat → Nat → Int32) (j : Nat) (y : Int32) : Nat → Nat → Int32 := up2 (up2 M 10 j (M 10 j + y)) 13 (pr M j) (M 13 (pr M j) + moreS M j y)
theorem i64_n0 {x : Int32} (h : ¬ x = 0) : ¬ x.toInt64 = 0 := fun q => h (by
  have e := congrArg Int64.toInt q
  rw [Int32.toInt_toInt64] at e
  exact Int32.toInt_inj.mp (e.trans rfl))
abbrev offM (td : Int32) (M : Nat → Nat → Int32) (b j : Nat) : Prop := M 2 j = nI b ∧ M 6 j = 1 ∧ ¬ M 7 j = -1 ∧ ¬ M 5 j ≤ td
abbrev cntM (td : Int32) (M : Nat → Nat → Int32) (b o j : Nat) : Prop := M 2 j = nI b ∧ M 3 j = nI o ∧ M 6 j = 3 ∧ ¬ M 5 j ≤ td
def loM (td : Int32) (M : Nat → Nat → Int32) (b o : Nat) : Nat → Int32
  | 0 => M 12 (8 * b + o)
  | k + 1 => loM td M b o k - (if cntM td M b o k then M 8 k else 0)
theorem loM_t {td : Int32} {M : Nat → Nat → Int32} {b o k : Nat} (h : cntM td M b o k) : loM td M b o (k + 1) = loM td M b o k - M 8 k := by rw [loM, if_pos h]
theorem loM_f {td : Int32} {M : Nat → Nat → Int32} {b o k : Nat} (h : ¬ cntM td M b o k) : loM td M b o (k + 1) = loM td M b o k - 0 := by rw [loM, if_neg h]
def billM (td : Int32) (n : Nat) (M : Nat → Nat → Int32) (b o : Nat) (c dd : Int32) : Nat → Nat → Int32 := up2 (up2 (up2 (up2 (up2 M 2 n (nI b)) 3 n (nI o)) 4 n c) 5 n (td + dd)) 7 n (-1)
/-- the payments of a day: the bills 0 .. j - 1 gone through; how many were paid -/
def dyM (td : Int32) (M : Nat → Nat → Int32) : Nat → Nat → Nat → Int32
  | 0 => M
  | j + 1 => if dyM td M j 6 j = 1 ∧ dyM td M j 5 j = td then payM (dyM td M j) j (dyM td M j 4 j) 4 else dyM td M j
def dyC (td : Int32) (M : Nat → Nat → Int32) : Nat → Nat
  | 0 => 0
  | j + 1 => if dyM td M j 6 j = 1 ∧ dyM td M j 5 j = td then dyC td M j + 1 else dyC td M j
theorem dyM_t {td : Int32} {M : Nat → Nat → Int32} {j : Nat} (h : dyM td M j 6 j = 1 ∧ dyM td M j 5 j = td) : dyM td M (j + 1) = payM (dyM td M j) j (dyM td M j 4 j) 4 := if_pos h
theorem dyM_f {td : Int32} {M : Nat → Nat → Int32} {j : Nat} (h : ¬ (dyM td M j 6 j = 1 ∧ dyM td M j 5 j = td)) : dyM td M (j + 1) = dyM td M j := if_neg h
theorem dyC_t {td : Int32} {M : Nat → Nat → Int32} {j : Nat} (h : dyM td M j 6 j = 1 ∧ dyM td M j 5 j = td) : dyC td M (j + 1) = dyC td M j + 1 := if_pos h
theorem dyC_f {td : Int32} {M : Nat → Nat → Int32} {j : Nat} (h : ¬ (dyM td M j 6 j = 1 ∧ dyM td M j 5 j = td)) : dyC td M (j + 1) = dyC td M j := if_neg h
/-- k days -/
def psM (td : Int32) (n : Nat) (M : Nat → Nat → Int32) : Nat → Nat → Nat → Int32
  | 0 => M
  | k + 1 => dyM (td + nI (k + 1)) (psM td n M k) n
def psC (td : Int32) (n : Nat) (M : Nat → Nat → Int32) : Nat → Nat
  | 0 => 0
  | k + 1 => psC td n M k + dyC (td + nI (k + 1)) (psM td n M k) n
theorem payM_n (M : Nat → Nat → Int32) (j : Nat) (sm how : Int32) {f : Nat} (h6 : f ≠ 6) (h8 : f ≠ 8) (h9 : f ≠ 9) (h13 : f ≠ 13) : payM M j sm how f = M f := by simp [payM, h6, h8, h9, h13]
theorem dyM_n {td : Int32} {M : Nat → Nat → Int32} {f : Nat} (h6 : f ≠ 6) (h8 : f ≠ 8) (h9 : f ≠ 9) (h13 : f ≠ 13) : ∀ j, dyM td M j f = M f
  | 0 => rfl
  | j + 1 => by
    have ih := dyM_n (td := td) (M := M) h6 h8 h9 h13 j
    unfold dyM
    split
    · rw [payM_n _ _ _ _ h6 h8 h9 h13]; exact ih
    · exact ih
theorem psM_n {td : Int32} {n : Nat} {M : Nat → Nat → Int32} {f : Nat} (h6 : f ≠ 6) (h8 : f ≠ 8) (h9 : f ≠ 9) (h13 : f ≠ 13) : ∀ k, psM td n M k f = M f
  | 0 => rfl
  | k + 1 => (dyM_n h6 h8 h9 h13 n).trans (psM_n h6 h8 h9 h13 k)
theorem okP_of {M N : Nat → Nat → Int32} (h2 : N 2 = M 2) (h3 : N 3 = M 3) {j : Nat} (h : okP M j) : okP N j := by
  unfold okP bu su at h ⊢
  rw [h2, h3]
  exact h
theorem okP_dy {td : Int32} {M : Nat → Nat → Int32} {j i : Nat} (h : okP M j) : okP (dyM td M i) j := okP_of (dyM_n (by decide) (by decide) (by decide) (by decide) i) (dyM_n (by decide) (by decide) (by decide) (by decide) i) h
theorem okP_ps {td : Int32} {n : Nat} {M : Nat → Nat → Int32} {j k : Nat} (h : okP M j) : okP (psM td n M k) j := okP_of (psM_n (by decide) (by decide) (by decide) (by decide) k) (psM_n (by decide) (by decide) (by decide) (by decide) k) h
/-- the discounts and the amounts of a buyer's bills that were paid early -/
def adS (M : Nat → Nat → Int32) (b : Nat) : Nat → Int32
  | 0 => 0
  | k + 1 => adS M b k + (if M 2 k = nI b ∧ M 6 k = 3 then M 4 k - M 8 k else 0)
def adA (M : Nat → Nat → Int32) (b : Nat) : Nat → Int32
  | 0 => 0
  | k + 1 => adA M b k + (if M 2 k = nI b ∧ M 6 k = 3 then M 4 k else 0)
theorem adS_t {M : Nat → Nat → Int32} {b k : Nat} (h : M 2 k = nI b ∧ M 6 k = 3) : adS M b (k + 1) = adS M b k + (M 4 k - M 8 k) := by rw [adS, if_pos h]
theorem adS_f {M : Nat → Nat → Int32} {b k : Nat} (h : ¬ (M 2 k = nI b ∧ M 6 k = 3)) : adS M b (k + 1) = adS M b k + 0 := by rw [adS, if_neg h]
theorem adA_t {M : Nat → Nat → Int32} {b k : Nat} (h : M 2 k = nI b ∧ M 6 k = 3) : adA M b (k + 1) = adA M b k + M 4 k := by rw [adA, if_pos h]
theorem adA_f {M : Nat → Nat → Int32} {b k : Nat} (h : ¬ (M 2 k = nI b ∧ M 6 k = 3)) : adA M b (k + 1) = adA M b k + 0 := by rw [adA, if_neg h]
