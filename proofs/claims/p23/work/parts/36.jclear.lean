/-! Clearing -/
/-- a sum over those that c names -/
def smS (c : Nat → Bool) (f : Nat → Int32) : Nat → Int32
  | 0 => 0
  | k + 1 => if c k = true then smS c f k + f k else smS c f k
theorem smS_t {c : Nat → Bool} {f : Nat → Int32} {k : Nat} (h : c k = true) : smS c f (k + 1) = smS c f k + f k := by rw [smS, if_pos h]
theorem smS_f {c : Nat → Bool} {f : Nat → Int32} {k : Nat} (h : ¬ c k = true) : smS c f (k + 1) = smS c f k := by rw [smS, if_neg h]
theorem smS_I {c : Nat → Bool} {f : Nat → Int32} : ∀ k, k ≤ 30 → (∀ i, i < k → c i = true → 0 ≤ (f i).toInt ∧ (f i).toInt ≤ 1000000) → (smS c f k).toInt = sumC c (fun i => (f i).toInt) (List.range k) ∧ 0 ≤ (smS c f k).toInt ∧ (smS c f k).toInt ≤ 1000000 * k
  | 0, _, _ => ⟨rfl, by show (0 : Int) ≤ (0 : Int32).toInt; decide, by show (0 : Int32).toInt ≤ 1000000 * ((0 : Nat) : Int); decide⟩
  | k + 1, hk, h => by
    obtain ⟨h1, h2, h3⟩ := smS_I (c := c) (f := f) k (by omega) (fun i hi => h i (by omega))
    rw [List.range_succ, sumC_app, sumC_one]
    by_cases hc : c k = true
    · have hf := h k (by omega) hc
      have e : (smS c f k + f k).toInt = (smS c f k).toInt + (f k).toInt := i32_add (by omega) (by omega)
      rw [smS_t hc, if_pos hc, e, h1]
      rw [h1] at h2 h3
      exact ⟨rfl, by omega, by push_cast; omega⟩
    · rw [smS_f hc, if_neg hc, Int.add_zero]
      exact ⟨h1, h2, by push_cast; omega⟩
theorem sumC_ofL {td : Int32} {M : Nat → Nat → Int32} {b : Nat} {c : Nat → Bool} {f : Nat → Int} (h : ∀ i, c i = true → offM td M b i) : ∀ n, sumC c f (List.range n) = sumC c f (ofL td M b n)
  | 0 => rfl
  | n + 1 => by
    have ih := sumC_ofL (c := c) (f := f) h n
    rw [List.range_succ, sumC_app, sumC_one, ih]
    by_cases hc : offM td M b n
    · rw [ofL_t hc, sumC_app, sumC_one]
    · rw [ofL_f hc, if_neg (fun q => hc (h n q)), Int.add_zero]
theorem ofL_cnt {td : Int32} {M : Nat → Nat → Int32} {b : Nat} : ∀ n, (ofL td M b n).length = cntN (fun i => decide (offM td M b i)) n
  | 0 => rfl
  | n + 1 => by
    have ih := ofL_cnt (td := td) (M := M) (b := b) n
    by_cases hc : offM td M b n
    · rw [ofL_t hc, List.length_append, ih, cntN_t (decide_eq_true hc)]; rfl
    · rw [ofL_f hc, ih, cntN_f (fun q => hc (of_decide_eq_true q))]
theorem cntN_mono {a c : Nat → Bool} : ∀ k, (∀ i, i < k → a i = true → c i = true) → cntN a k ≤ cntN c k
  | 0, _ => Nat.le_refl _
  | k + 1, h => by
    have ih := cntN_mono k (fun i hi => h i (by omega))
    by_cases ha : a k = true
    · rw [cntN_t ha, cntN_t (h k (by omega) ha)]; omega
    · rw [cntN_f ha]
      by_cases hc : c k = true
      · rw [cntN_t hc]; omega
      · rw [cntN_f hc]; exact ih
theorem cntN_z {c : Nat → Bool} {n : Nat} (h : ∀ i, c i = true → i < n) : ∀ k, cntN c (n + k) = cntN c n
  | 0 => rfl
  | k + 1 => by
    show cntN c (n + k + 1) = _
    rw [cntN_f (fun q => by have := h _ q; omega)]
    exact cntN_z h k
/-- the bits of a number -/
theorem sh_30 : ∀ k, k < 30 → ((nI k &&& 31).toBitVec.smod 32).toNat = k := by decide +kernel
theorem bit_30 {x : Int32} {k : Nat} (hk : k < 30) : (x >>> (nI k &&& 31)) &&& 1 = if x.toBitVec.getLsbD k = true then 1 else 0 := by
  have e1 : ((x >>> (nI k &&& 31)) &&& 1).toBitVec = x.toBitVec.sshiftRight k &&& BitVec.twoPow 32 0 := by
    rw [Int32.toBitVec_and, Int32.toBitVec_shiftRight]
    have e2 : x.toBitVec.sshiftRight' ((nI k &&& 31).toBitVec.smod 32) = x.toBitVec.sshiftRight k := by
      show x.toBitVec.sshiftRight ((nI k &&& 31).toBitVec.smod 32).toNat = _
      rw [sh_30 k hk]
    rw [e2]
    rfl
  have e5 : (x.toBitVec.sshiftRight k).getLsbD 0 = x.toBitVec.getLsbD k := by
    rw [BitVec.getLsbD_sshiftRight, if_pos (by omega : k + 0 < 32), Nat.add_zero]
    simp
  refine Int32.toBitVec_inj.mp ?_
  rw [e1, BitVec.and_twoPow, e5]
  cases x.toBitVec.getLsbD k with
  | true => rfl
  | false => rfl
/-- the bits below k, counted -/
def btS (x : Int32) : Nat → Int32
  | 0 => 0
  | k + 1 => btS x k + ((x >>> (nI k &&& 31)) &&& 1)
theorem btS_cnt {x : Int32} : ∀ k, k ≤ 30 → btS x k = nI (cntN (fun i => x.toBitVec.getLsbD i) k)
  | 0, _ => rfl
  | k + 1, hk => by
    have ih := btS_cnt (x := x) k (by omega)
    show btS x k + ((x >>> (nI k &&& 31)) &&& 1) = _
    rw [ih, bit_30 (by omega)]
    by_cases h : x.toBitVec.getLsbD k = true
    · rw [if_pos h, cntN_t (c := fun i => x.toBitVec.getLsbD i) h, nI_1]
    · rw [if_neg h, cntN_f (c := fun i => x.toBitVec.getLsbD i) h, Int32.add_zero]
section CL
variable {s n b : Nat} {td : Int32} {M : Nat → Nat → Int32} {L : List Nat} {rm0 : Nat → Int32}
/-- an offer is taken when the others ahead of it have been -/
abbrev acF (td : Int32) (M : Nat → Nat → Int32) (L : List Nat) (b0 : Int32) (rm0 : Nat → Int32) (j : Nat) : Prop := ¬ (acS td M (ix L) b0 rm0 j).1 < price td M (ix L j) ∧ ¬ (acS td M (ix L) b0 rm0 j).2.1 (su M (ix L j)) < price td M (ix L j)
theorem ac_bit (hL : ∀ k, k < L.length → ix L k < 30) : ∀ k, k ≤ L.length → ∀ i, (acS td M (ix L) (M 11 b) rm0 k).2.2.toBitVec.getLsbD i = true ↔ ∃ j, j < k ∧ acF td M L (M 11 b) rm0 j ∧ ix L j = i
  | 0, _, i => by
    have e : (acS td M (ix L) (M 11 b) rm0 0).2.2.toBitVec = 0#32 := rfl
    rw [e, BitVec.getLsbD_zero]
    exact ⟨fun q => (by cases q), fun ⟨j, hj, _⟩ => absurd hj (Nat.not_lt_zero j)⟩
  | k + 1, hk, i => by
    have ih := ac_bit hL k (by omega) i
    have hlt := hL k (by omega)
    by_cases hc : acF td M L (M 11 b) rm0 k
    · rw [acS_t hc]
      show ((acS td M (ix L) (M 11 b) rm0 k).2.2 ||| ((1 : Int32) <<< (nI (ix L k) &&& 31))).toBitVec.getLsbD i = true ↔ _
      rw [Int32.toBitVec_or, tp_30 _ hlt, BitVec.getLsbD_or, BitVec.getLsbD_twoPow, Bool.or_eq_true, ih]
      constructor
      · rintro (⟨j, h1, h2, h3⟩ | q)
        · exact ⟨j, by omega, h2, h3⟩
        · simp at q
          exact ⟨k, Nat.lt_succ_self k, hc, by omega⟩
      · rintro ⟨j, h1, h2, h3⟩
        by_cases hj : j = k
        · subst hj
          right
          simp
          omega
        · exact Or.inl ⟨j, by omega, h2, h3⟩
    · rw [acS_f hc, ih]
      constructor
      · rintro ⟨j, h1, h2, h3⟩
        exact ⟨j, by omega, h2, h3⟩
      · rintro ⟨j, h1, h2, h3⟩
        by_cases hj : j = k
        · subst hj; exact absurd h2 hc
        · exact ⟨j, by omega, h2, h3⟩
theorem ix_inj (hnd : L.Nodup) {i j : Nat} (hi : i < L.length) (hj : j < L.length) (h : ix L i = ix L j) : i = j := by
  have e : L[i]? = L[j]? := by rw [ix_at hi, ix_at hj, h]
  exact (List.getElem?_inj hi hnd).mp e
variable {c : Nat → Bool}
/-- the money and the room, in whole numbers -/
theorem ac_I (hc : ∀ j, j < L.length → (c (ix L j) = true ↔ acF td M L (M 11 b) rm0 j)) (hp : ∀ i ∈ L, 0 ≤ pI td M i ∧ pI td M i ≤ 1000000) : ∀ k, k ≤ L.length →
    (acS td M (ix L) (M 11 b) rm0 k).1.toInt = (M 11 b).toInt - sumC c (pI td M) (L.take k) ∧ (∀ o, ((acS td M (ix L) (M 11 b) rm0 k).2.1 o).toInt = (rm0 o).toInt - sumC (cS (su M) c o) (pI td M) (L.take k)) ∧
    ((∃ i, i ∈ L.take k ∧ c i = true) → 0 ≤ (acS td M (ix L) (M 11 b) rm0 k).1.toInt) ∧ ∀ o, (∃ i, i ∈ L.take k ∧ c i = true ∧ su M i = o) → 0 ≤ ((acS td M (ix L) (M 11 b) rm0 k).2.1 o).toInt
  | 0, _ => by
    refine ⟨?_, fun o => ?_, fun ⟨i, hi, _⟩ => absurd hi (by simp), fun o ⟨i, hi, _⟩ => absurd hi (by simp)⟩
    · show (M 11 b).toInt = (M 11 b).toInt - 0
      omega
    · show (rm0 o).toInt = (rm0 o).toInt - 0
      omega
  | k + 1, hk => by
    obtain ⟨h1, h2, h3, h4⟩ := ac_I hc hp k (by omega)
    have hlt : k < L.length := by omega
    have hpk := hp _ (ix_mem hlt)
    have hpI : pI td M (ix L k) = (price td M (ix L k)).toInt := rfl
    by_cases hf : acF td M L (M 11 b) rm0 k
    · have hck := (hc k hlt).mpr hf
      have g1 := hf.1
      have g2 := hf.2
      rw [i32_lt] at g1 g2
      have b1 := i32_b (acS td M (ix L) (M 11 b) rm0 k).1
      have b2 := i32_b ((acS td M (ix L) (M 11 b) rm0 k).2.1 (su M (ix L k)))
      have e1 : ((acS td M (ix L) (M 11 b) rm0 k).1 - price td M (ix L k)).toInt = (acS td M (ix L) (M 11 b) rm0 k).1.toInt - (price td M (ix L k)).toInt := i32_sub (by omega) (by omega)
      have e2 : ((acS td M (ix L) (M 11 b) rm0 k).2.1 (su M (ix L k)) - price td M (ix L k)).toInt = ((acS td M (ix L) (M 11 b) rm0 k).2.1 (su M (ix L k))).toInt - (price td M (ix L k)).toInt := i32_sub (by omega) (by omega)
      rw [acS_t hf, take_ix hlt]
      refine ⟨?_, fun o => ?_, fun _ => ?_, fun o ho => ?_⟩
      · rw [sumC_app, sumC_one, if_pos hck]
        show ((acS td M (ix L) (M 11 b) rm0 k).1 - price td M (ix L k)).toInt = _
        rw [e1, h1]; omega
      · rw [sumC_app, sumC_one]
        show (upd (acS td M (ix L) (M 11 b) rm0 k).2.1 (su M (ix L k)) ((acS td M (ix L) (M 11 b) rm0 k).2.1 (su M (ix L k)) - price td M (ix L k)) o).toInt = _
        by_cases ho : su M (ix L k) = o
        · subst ho
          rw [upd_e, e2, if_pos (cS_t.mpr ⟨hck, rfl⟩), h2]; omega
        · rw [pk_un (fun q => ho q.symm), if_neg (fun q => ho (cS_t.mp q).2), h2]; omega
      · show 0 ≤ ((acS td M (ix L) (M 11 b) rm0 k).1 - price td M (ix L k)).toInt
        rw [e1]; omega
      · show 0 ≤ (upd (acS td M (ix L) (M 11 b) rm0 k).2.1 (su M (ix L k)) ((acS td M (ix L) (M 11 b) rm0 k).2.1 (su M (ix L k)) - price td M (ix L k)) o).toInt
        by_cases hq : su M (ix L k) = o
        · subst hq
          rw [upd_e, e2]; omega
        · rw [pk_un (fun q => hq q.symm)]
          obtain ⟨i, i1, i2, i3⟩ := ho
          refine h4 o ⟨i, ?_, i2, i3⟩
          rcases List.mem_append.mp i1 with r | r
          · exact r
          · rw [List.mem_singleton.mp r] at i3; exact absurd i3 hq
    · have hck : ¬ c (ix L k) = true := fun q => hf ((hc k hlt).mp q)
      rw [acS_f hf, take_ix hlt]
      refine ⟨?_, fun o => ?_, fun ⟨i, i1, i2⟩ => ?_, fun o ⟨i, i1, i2, i3⟩ => ?_⟩
      · rw [sumC_app, sumC_one, if_neg hck, h1]; omega
      · rw [sumC_app, sumC_one, if_neg (fun q => hck (cS_t.mp q).1), h2]; omega
      · refine h3 ⟨i, ?_, i2⟩
        rcases List.mem_append.mp i1 with r | r
        · exact r
        · rw [List.mem_singleton.mp r] at i2; exact absurd i2 hck
      · refine h4 o ⟨i, ?_, i2, i3⟩
        rcases List.mem_append.mp i1 with r | r
        · exact r
        · rw [List.mem_singleton.mp r] at i2; exact absurd i2 hck
theorem ac_fit (hc : ∀ j, j < L.length → (c (ix L j) = true ↔ acF td M L (M 11 b) rm0 j)) (hp : ∀ i ∈ L, 0 ≤ pI td M i ∧ pI td M i ≤ 1000000) : fitI (pI td M) (su M) c L (fun o => (rm0 o).toInt) (M 11 b).toInt := by
  obtain ⟨h1, h2, h3, h4⟩ := ac_I hc hp L.length (Nat.le_refl _)
  rw [List.take_length] at h1 h3
  refine ⟨fun q => ?_, fun o q => ?_⟩
  · have := h3 q
    omega
  · have e2 := h2 o
    have := h4 o (by rw [List.take_length]; exact q)
    rw [List.take_length] at e2
    show sumC (cS (su M) c o) (pI td M) L ≤ (rm0 o).toInt
    omega
end CL
