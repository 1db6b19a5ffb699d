/-! What the class's methods do, and sums over its bills, as functions over (today, bills, table), 2 -/
/-- k comes behind the last one -/
def bhM (M : Nat → Nat → Int32) (last : Option Nat) (k : Nat) : Prop := match last with
  | none => True
  | some j => M 7 k < M 7 j ∨ (M 7 k = M 7 j ∧ j < k)
theorem bhM_s {M : Nat → Nat → Int32} {j k : Nat} : bhM M (some j) k ↔ (M 7 k < M 7 j ∨ (M 7 k = M 7 j ∧ j < k)) := Iff.rfl
/-- the best offer behind the last one, among the bills 0 .. k - 1 -/
noncomputable def nxB (td : Int32) (M : Nat → Nat → Int32) (b : Nat) (last : Option Nat) : Nat → Option Nat
  | 0 => none
  | k + 1 => @ite _ (offM td M b k ∧ bhM M last k ∧ ∀ jb, nxB td M b last k = some jb → M 7 jb < M 7 k) (Classical.propDecidable _) (some k) (nxB td M b last k)
theorem nxB_t {td : Int32} {M : Nat → Nat → Int32} {b k : Nat} {last : Option Nat} (h : offM td M b k ∧ bhM M last k ∧ ∀ jb, nxB td M b last k = some jb → M 7 jb < M 7 k) : nxB td M b last (k + 1) = some k := by rw [nxB, if_pos h]
theorem nxB_f {td : Int32} {M : Nat → Nat → Int32} {b k : Nat} {last : Option Nat} (h : ¬ (offM td M b k ∧ bhM M last k ∧ ∀ jb, nxB td M b last k = some jb → M 7 jb < M 7 k)) : nxB td M b last (k + 1) = nxB td M b last k := by rw [nxB, if_neg h]
theorem nxB_lt {td : Int32} {M : Nat → Nat → Int32} {b : Nat} {last : Option Nat} : ∀ {k jb : Nat}, nxB td M b last k = some jb → jb < k
  | 0, jb, h => by cases h
  | k + 1, jb, h => by
    by_cases hc : offM td M b k ∧ bhM M last k ∧ ∀ jb, nxB td M b last k = some jb → M 7 jb < M 7 k
    · rw [nxB_t hc] at h; cases h; omega
    · rw [nxB_f hc] at h; have := nxB_lt h; omega
theorem ix_at {L : List Nat} {k : Nat} (h : k < L.length) : L[k]? = some (ix L k) := by
  unfold ix
  rw [List.getD_eq_getElem?_getD, List.getElem?_eq_getElem h]
  rfl
/-- a work array cleared up to k -/
def zX (X : Nat → Nat → Int32) (f : Nat) : Nat → Nat → Nat → Int32
  | 0 => X
  | k + 1 => up2 (zX X f k) f k 0
/-- the plan: the first offers gone through; the money left, the work space -/
def plS (td : Int32) (n : Nat) (M : Nat → Nat → Int32) (L : List Nat) (b : Nat) (X : Nat → Nat → Int32) : Nat → Int32 × (Nat → Nat → Int32)
  | 0 => (M 11 b, zX (zX X 15 8) 14 30)
  | k + 1 => if ¬ (plS td n M L b X k).1 < price td M (ix L k) ∧ ¬ loM td M b (su M (ix L k)) n - (plS td n M L b X k).2 15 (su M (ix L k)) < price td M (ix L k) then
      ((plS td n M L b X k).1 - price td M (ix L k), up2 (up2 (plS td n M L b X k).2 14 (ix L k) 1) 15 (su M (ix L k)) ((plS td n M L b X k).2 15 (su M (ix L k)) + price td M (ix L k)))
    else plS td n M L b X k
theorem plS_t {td : Int32} {n : Nat} {M : Nat → Nat → Int32} {L : List Nat} {b : Nat} {X : Nat → Nat → Int32} {k : Nat} (h : ¬ (plS td n M L b X k).1 < price td M (ix L k) ∧ ¬ loM td M b (su M (ix L k)) n - (plS td n M L b X k).2 15 (su M (ix L k)) < price td M (ix L k)) : plS td n M L b X (k + 1) = ((plS td n M L b X k).1 - price td M (ix L k), up2 (up2 (plS td n M L b X k).2 14 (ix L k) 1) 15 (su M (ix L k)) ((plS td n M L b X k).2 15 (su M (ix L k)) + price td M (ix L k))) := if_pos h
theorem plS_f {td : Int32} {n : Nat} {M : Nat → Nat → Int32} {L : List Nat} {b : Nat} {X : Nat → Nat → Int32} {k : Nat} (h : ¬ (¬ (plS td n M L b X k).1 < price td M (ix L k) ∧ ¬ loM td M b (su M (ix L k)) n - (plS td n M L b X k).2 15 (su M (ix L k)) < price td M (ix L k))) : plS td n M L b X (k + 1) = plS td n M L b X k := if_neg h
/-- those chosen, as bits -/
def bitS (X : Nat → Nat → Int32) : Nat → Int32
  | 0 => 0
  | k + 1 => bitS X k ||| (if X 14 k = 0 then (0 : Int32) else (1 : Int32) <<< (nI k &&& 31))
theorem bitS_f {X : Nat → Nat → Int32} {k : Nat} (h : X 14 k = 0) : bitS X (k + 1) = bitS X k ||| 0 := by rw [bitS, if_pos h]
theorem bitS_t {X : Nat → Nat → Int32} {k : Nat} (h : ¬ X 14 k = 0) : bitS X (k + 1) = bitS X k ||| ((1 : Int32) <<< (nI k &&& 31)) := by rw [bitS, if_neg h]
/-- clearing: the first offers gone through; the table, the discounts -/
def clR (td : Int32) (M : Nat → Nat → Int32) (L : List Nat) (b : Nat) (X : Nat → Nat → Int32) : Nat → (Nat → Nat → Int32) × Int32
  | 0 => (M, 0)
  | k + 1 => if X 14 (ix L k) = 0 then clR td M L b X k else
      (payM (up2 (clR td M L b X k).1 11 b ((clR td M L b X k).1 11 b - price td (clR td M L b X k).1 (ix L k))) (ix L k) (price td (clR td M L b X k).1 (ix L k)) 3, (clR td M L b X k).2 + disc td (clR td M L b X k).1 (ix L k))
theorem clR_f {td : Int32} {M : Nat → Nat → Int32} {L : List Nat} {b : Nat} {X : Nat → Nat → Int32} {k : Nat} (h : X 14 (ix L k) = 0) : clR td M L b X (k + 1) = clR td M L b X k := if_pos h
theorem clR_t {td : Int32} {M : Nat → Nat → Int32} {L : List Nat} {b : Nat} {X : Nat → Nat → Int32} {k : Nat} (h : ¬ X 14 (ix L k) = 0) : clR td M L b X (k + 1) = (payM (up2 (clR td M L b X k).1 11 b ((clR td M L b X k).1 11 b - price td (clR td M L b X k).1 (ix L k))) (ix L k) (price td (clR td M L b X k).1 (ix L k)) 3, (clR td M L b X k).2 + disc td (clR td M L b X k).1 (ix L k)) := if_neg h
theorem clR_23 {td : Int32} {M : Nat → Nat → Int32} {L : List Nat} {b : Nat} {X : Nat → Nat → Int32} {f : Nat} (h6 : f ≠ 6) (h8 : f ≠ 8) (h9 : f ≠ 9) (h13 : f ≠ 13) (h11 : f ≠ 11) : ∀ k, (clR td M L b X k).1 f = M f
  | 0 => rfl
  | k + 1 => by
    have ih := clR_23 (td := td) (M := M) (L := L) (b := b) (X := X) h6 h8 h9 h13 h11 k
    by_cases h : X 14 (ix L k) = 0
    · rw [clR_f h]; exact ih
    · rw [clR_t h]
      show payM _ _ _ _ f = M f
      rw [payM_n _ _ _ _ h6 h8 h9 h13, up2_n _ _ h11]
      exact ih
/-- a set of offers, the first k gone through: discounts, prices, whether all suppliers' sums fit, the sums -/
def brS (td : Int32) (n : Nat) (M : Nat → Nat → Int32) (b : Nat) (O : List Nat) (v : Nat) (sp0 : Nat → Int32) : Nat → Int32 × Int32 × Bool × (Nat → Int32)
  | 0 => (0, 0, true, sp0)
  | k + 1 => if (nI v >>> (nI k &&& 31)) &&& 1 = 1 then
      ((brS td n M b O v sp0 k).1 + disc td M (ix O k), (brS td n M b O v sp0 k).2.1 + price td M (ix O k),
        ((brS td n M b O v sp0 k).2.2.1 && decide (¬ loM td M b (su M (ix O k)) n < upd (brS td n M b O v sp0 k).2.2.2 (su M (ix O k)) ((brS td n M b O v sp0 k).2.2.2 (su M (ix O k)) + price td M (ix O k)) (su M (ix O k)))),
        upd (brS td n M b O v sp0 k).2.2.2 (su M (ix O k)) ((brS td n M b O v sp0 k).2.2.2 (su M (ix O k)) + price td M (ix O k)))
    else brS td n M b O v sp0 k
section BRS
variable {td : Int32} {n : Nat} {M : Nat → Nat → Int32} {b : Nat} {O : List Nat} {v : Nat} {sp0 : Nat → Int32} {k : Nat}
theorem brS_f (h : ¬ (nI v >>> (nI k &&& 31)) &&& 1 = 1) : brS td n M b O v sp0 (k + 1) = brS td n M b O v sp0 k := if_neg h
theorem brS_t (h : (nI v >>> (nI k &&& 31)) &&& 1 = 1) : brS td n M b O v sp0 (k + 1) = ((brS td n M b O v sp0 k).1 + disc td M (ix O k), (brS td n M b O v sp0 k).2.1 + price td M (ix O k),
        ((brS td n M b O v sp0 k).2.2.1 && decide (¬ loM td M b (su M (ix O k)) n < upd (brS td n M b O v sp0 k).2.2.2 (su M (ix O k)) ((brS td n M b O v sp0 k).2.2.2 (su M (ix O k)) + price td M (ix O k)) (su M (ix O k)))),
        upd (brS td n M b O v sp0 k).2.2.2 (su M (ix O k)) ((brS td n M b O v sp0 k).2.2.2 (su M (ix O k)) + price td M (ix O k))) := if_pos h
/-- what a set brings: its discounts, or -1 if it does not fit -/
def brR (td : Int32) (n : Nat) (M : Nat → Nat → Int32) (b : Nat) (O : List Nat) (sp0 : Nat → Int32) (v : Nat) : Int32 := if (brS td n M b O v sp0 O.length).2.2.1 = true ∧ ¬ M 11 b < (brS td n M b O v sp0 O.length).2.1 then (brS td n M b O v sp0 O.length).1 else -1
theorem brR_t (h1 : (brS td n M b O v sp0 O.length).2.2.1 = true) (h2 : ¬ M 11 b < (brS td n M b O v sp0 O.length).2.1) : brR td n M b O sp0 v = (brS td n M b O v sp0 O.length).1 := if_pos ⟨h1, h2⟩
theorem brR_f (h : ¬ ((brS td n M b O v sp0 O.length).2.2.1 = true ∧ ¬ M 11 b < (brS td n M b O v sp0 O.length).2.1)) : brR td n M b O sp0 v = -1 := if_neg h
end BRS
/-- the greatest of what the sets 1 .. v bring, at least 0 -/
def bmS (f : Nat → Int32) : Nat → Int32
  | 0 => 0
  | v + 1 => if bmS f v < f (v + 1) then f (v + 1) else bmS f v
/-- the offers by rising numbers; the work space that holds the first twelve -/
def ofL (td : Int32) (M : Nat → Nat → Int32) (b : Nat) : Nat → List Nat
  | 0 => []
  | j + 1 => if offM td M b j then ofL td M b j ++ [j] else ofL td M b j
section OFL
variable {td : Int32} {M : Nat → Nat → Int32} {b j : Nat} {X : Nat → Nat → Int32}
theorem ofL_t (h : offM td M b j) : ofL td M b (j + 1) = ofL td M b j ++ [j] := if_pos h
theorem ofL_f (h : ¬ offM td M b j) : ofL td M b (j + 1) = ofL td M b j := if_neg h
end OFL
