/-! Pure: the class's order of offers is the reference's chain; plan and clear agree -/
theorem i32_tri (a b : Int32) : a < b ∨ a = b ∨ b < a := by
  rcases Int.lt_trichotomy a.toInt b.toInt with h | h | h
  · exact Or.inl (i32_lt.mpr h)
  · exact Or.inr (Or.inl (Int32.toInt_inj.mp h))
  · exact Or.inr (Or.inr (i32_lt.mpr h))
section CH
variable {td : Int32} {M : Nat → Nat → Int32} {b n : Nat}
theorem bh_asym {i j : Nat} (h1 : bhM M (some i) j) (h2 : bhM M (some j) i) : False := by
  rcases bhM_s.mp h1 with h1 | ⟨h1, h3⟩ <;> rcases bhM_s.mp h2 with h2 | ⟨h2, h4⟩
  · rw [i32_lt] at h1 h2; omega
  · rw [h2] at h1; rw [i32_lt] at h1; omega
  · rw [h1] at h2; rw [i32_lt] at h2; omega
  · omega
theorem bh_irr {i : Nat} (h : bhM M (some i) i) : False := bh_asym h h
theorem bh_trans {i j k : Nat} (h1 : bhM M (some i) j) (h2 : bhM M (some j) k) : bhM M (some i) k := by
  refine bhM_s.mpr ?_
  rcases bhM_s.mp h1 with h1 | ⟨h1, h3⟩ <;> rcases bhM_s.mp h2 with h2 | ⟨h2, h4⟩
  · left; rw [i32_lt] at h1 h2 ⊢; omega
  · left; rw [h2]; exact h1
  · left; rw [← h1]; exact h2
  · right; exact ⟨h2.trans h1, by omega⟩
abbrev srt (M : Nat → Nat → Int32) (L : List Nat) : Prop := L.Pairwise (fun i j => bhM M (some i) j)
theorem insS_mem' {y i : Nat} : ∀ {L : List Nat}, i ∈ insS M y L ↔ i = y ∨ i ∈ L
  | [] => by simp [insS]
  | a :: L => by
    have ih := insS_mem' (y := y) (i := i) (L := L)
    unfold insS
    split
    · rw [List.mem_cons, ih, List.mem_cons]
      constructor
      · rintro (h | h | h)
        · exact Or.inr (Or.inl h)
        · exact Or.inl h
        · exact Or.inr (Or.inr h)
      · rintro (h | h | h)
        · exact Or.inr (Or.inl h)
        · exact Or.inl h
        · exact Or.inr (Or.inr h)
    · rw [List.mem_cons]
theorem insS_srt {y : Nat} : ∀ {L : List Nat}, srt M L → (∀ i ∈ L, i < y) → srt M (insS M y L)
  | [], _, _ => by simp [insS, srt]
  | a :: L, h, hy => by
    obtain ⟨h1, h2⟩ := List.pairwise_cons.mp h
    unfold insS
    split
    · rename_i hle
      refine List.pairwise_cons.mpr ⟨fun x hx => ?_, insS_srt h2 (fun i hi => hy i (List.mem_cons_of_mem _ hi))⟩
      rcases insS_mem'.mp hx with rfl | hx
      · refine bhM_s.mpr ?_
        rcases i32_tri (M 7 x) (M 7 a) with q | q | q
        · exact Or.inl q
        · exact Or.inr ⟨q, hy a (by simp)⟩
        · exact absurd hle (i32_nle.mpr q)
      · exact h1 x hx
    · rename_i hle
      have h0 : bhM M (some y) a := bhM_s.mpr (Or.inl (i32_nle.mp hle))
      refine List.pairwise_cons.mpr ⟨fun x hx => ?_, h⟩
      rcases List.mem_cons.mp hx with rfl | hx
      · exact h0
      · exact bh_trans h0 (h1 x hx)
theorem gaL_mem {i : Nat} : ∀ {j}, i ∈ gaL td M b j ↔ i < j ∧ offM td M b i
  | 0 => by simp [gaL]
  | j + 1 => by
    have ih := gaL_mem (i := i) (j := j)
    by_cases h : offM td M b j
    · rw [gaL_t h, insS_mem', ih]
      constructor
      · rintro (h1 | h1)
        · subst h1; exact ⟨by omega, h⟩
        · exact ⟨by omega, h1.2⟩
      · rintro ⟨h1, h2⟩
        by_cases h3 : i = j
        · exact Or.inl h3
        · exact Or.inr ⟨by omega, h2⟩
    · rw [gaL_f h, ih]
      constructor
      · rintro ⟨h1, h2⟩; exact ⟨by omega, h2⟩
      · rintro ⟨h1, h2⟩
        refine ⟨?_, h2⟩
        by_cases h3 : i = j
        · subst h3; exact absurd h2 h
        · omega
theorem gaL_srt : ∀ j, srt M (gaL td M b j)
  | 0 => by simp [gaL, srt]
  | j + 1 => by
    have ih := gaL_srt j
    by_cases h : offM td M b j
    · rw [gaL_t h]; exact insS_srt ih (fun i hi => gaL_lt hi)
    · rw [gaL_f h]; exact ih
/-- what next answers -/
theorem nxB_spec (last : Option Nat) : ∀ k, (nxB td M b last k = none → ∀ i, i < k → ¬ (offM td M b i ∧ bhM M last i)) ∧ ∀ r, nxB td M b last k = some r → r < k ∧ offM td M b r ∧ bhM M last r ∧ ∀ i, i < k → offM td M b i → bhM M last i → i = r ∨ bhM M (some r) i
  | 0 => ⟨fun _ i hi => absurd hi (Nat.not_lt_zero _), fun r h => by cases h⟩
  | k + 1 => by
    obtain ⟨ih1, ih2⟩ := nxB_spec last k
    by_cases hc : offM td M b k ∧ bhM M last k ∧ ∀ jb, nxB td M b last k = some jb → M 7 jb < M 7 k
    · rw [nxB_t hc]
      refine ⟨fun h => (by cases h), fun r h => ?_⟩
      cases h
      refine ⟨by omega, hc.1, hc.2.1, fun i hi h1 h2 => ?_⟩
      by_cases h3 : i = k
      · exact Or.inl h3
      · right
        cases hn : nxB td M b last k with
        | none => exact absurd ⟨h1, h2⟩ (ih1 hn i (by omega))
        | some jb =>
          have hlt := hc.2.2 jb hn
          rcases (ih2 jb hn).2.2.2 i (by omega) h1 h2 with h4 | h4
          · subst h4; exact bhM_s.mpr (Or.inl hlt)
          · refine bhM_s.mpr (Or.inl ?_)
            rcases bhM_s.mp h4 with h5 | ⟨h5, -⟩
            · rw [i32_lt] at h5 hlt ⊢; omega
            · rw [h5]; exact hlt
    · rw [nxB_f hc]
      have hk : offM td M b k → bhM M last k → ∃ jb, nxB td M b last k = some jb ∧ bhM M (some jb) k := fun h1 h2 => by
        refine Classical.byContradiction (fun hno => hc ⟨h1, h2, fun jb hj => ?_⟩)
        have hlt := nxB_lt hj
        rcases i32_tri (M 7 jb) (M 7 k) with q | q | q
        · exact q
        · exact absurd ⟨jb, hj, bhM_s.mpr (Or.inr ⟨q.symm, hlt⟩)⟩ hno
        · exact absurd ⟨jb, hj, bhM_s.mpr (Or.inl q)⟩ hno
      refine ⟨fun h i hi hq => ?_, fun r h => ?_⟩
      · by_cases h3 : i = k
        · subst h3
          obtain ⟨jb, hj, -⟩ := hk hq.1 hq.2
          rw [h] at hj; cases hj
        · exact ih1 h i (by omega) hq
      · obtain ⟨h1, h2, h3, h4⟩ := ih2 r h
        refine ⟨by omega, h2, h3, fun i hi h5 h6 => ?_⟩
        by_cases h7 : i = k
        · subst h7
          obtain ⟨jb, hj, hb⟩ := hk h5 h6
          rw [h] at hj; cases hj
          exact Or.inr hb
        · exact h4 i (by omega) h5 h6
theorem nxB_is {last : Option Nat} {a : Nat} (h1 : a < n) (h2 : offM td M b a) (h3 : bhM M last a) (h4 : ∀ i, i < n → offM td M b i → bhM M last i → i = a ∨ bhM M (some a) i) : nxB td M b last n = some a := by
  cases h : nxB td M b last n with
  | none => exact absurd ⟨h2, h3⟩ ((nxB_spec last n).1 h a h1)
  | some r =>
    obtain ⟨r1, r2, r3, r4⟩ := (nxB_spec last n).2 r h
    rcases h4 r r1 r2 r3 with q | q
    · rw [q]
    · rcases r4 a h1 h2 h3 with q2 | q2
      · rw [q2]
      · exact (bh_asym q q2).elim
theorem nxB_no {last : Option Nat} (h : ∀ i, i < n → offM td M b i → ¬ bhM M last i) : nxB td M b last n = none := by
  cases hr : nxB td M b last n with
  | none => rfl
  | some r =>
    obtain ⟨r1, r2, r3, -⟩ := (nxB_spec last n).2 r hr
    exact absurd r3 (h r r1 r2)
theorem srt_at {L : List Nat} (h : srt M L) {i j : Nat} (hij : i < j) (hj : j < L.length) : bhM M (some (ix L i)) (ix L j) := by
  have e := List.pairwise_iff_getElem.mp h i j (by omega) hj hij
  have e1 : ix L i = L[i]'(by omega) := Option.some.inj ((ix_at (by omega)).symm.trans (List.getElem?_eq_getElem (by omega)))
  have e2 : ix L j = L[j] := Option.some.inj ((ix_at hj).symm.trans (List.getElem?_eq_getElem hj))
  rw [e1, e2]
  exact e
theorem mem_ix {L : List Nat} {x : Nat} (h : x ∈ L) : ∃ k, k < L.length ∧ x = ix L k := by
  obtain ⟨k, hk, e⟩ := List.getElem_of_mem h
  exact ⟨k, hk, e.symm.trans (Option.some.inj ((ix_at hk).symm.trans (List.getElem?_eq_getElem hk))).symm⟩
theorem ch_0 : nxB td M b none n = (gaL td M b n)[0]? := by
  by_cases h : 0 < (gaL td M b n).length
  · rw [ix_at h]
    have hm := gaL_mem.mp (ix_mem h)
    refine nxB_is hm.1 hm.2 (show bhM M none _ from True.intro) (fun i h1 h2 _ => ?_)
    obtain ⟨k, hk, e⟩ := mem_ix (gaL_mem.mpr ⟨h1, h2⟩)
    by_cases hk0 : k = 0
    · left; rw [e, hk0]
    · right; rw [e]; exact srt_at (gaL_srt n) (by omega) hk
  · rw [List.getElem?_eq_none (by omega)]
    refine nxB_no (fun i h1 h2 _ => ?_)
    obtain ⟨k, hk, -⟩ := mem_ix (gaL_mem.mpr ⟨h1, h2⟩)
    omega
theorem ch_s {k : Nat} (hk : k < (gaL td M b n).length) : nxB td M b (some (ix (gaL td M b n) k)) n = (gaL td M b n)[k + 1]? := by
  have hbeh : ∀ i, i < n → offM td M b i → bhM M (some (ix (gaL td M b n) k)) i → ∃ m, k < m ∧ m < (gaL td M b n).length ∧ i = ix (gaL td M b n) m := fun i h1 h2 h3 => by
    obtain ⟨m, hm, e⟩ := mem_ix (gaL_mem.mpr ⟨h1, h2⟩)
    refine ⟨m, ?_, hm, e⟩
    rcases Nat.lt_trichotomy m k with q | q | q
    · rw [e] at h3; exact (bh_asym h3 (srt_at (gaL_srt n) q hk)).elim
    · rw [e, q] at h3; exact (bh_irr h3).elim
    · exact q
  by_cases h : k + 1 < (gaL td M b n).length
  · rw [ix_at h]
    have hm := gaL_mem.mp (ix_mem h)
    refine nxB_is hm.1 hm.2 (srt_at (gaL_srt n) (by omega) h) (fun i h1 h2 h3 => ?_)
    obtain ⟨m, m1, m2, e⟩ := hbeh i h1 h2 h3
    by_cases hm1 : m = k + 1
    · left; rw [e, hm1]
    · right; rw [e]; exact srt_at (gaL_srt n) (by omega) m2
  · rw [List.getElem?_eq_none (by omega)]
    refine nxB_no (fun i h1 h2 h3 => ?_)
    obtain ⟨m, m1, m2, -⟩ := hbeh i h1 h2 h3
    omega
/-- next over another table with the same offers behind the last one -/
theorem nxB_same {N : Nat → Nat → Int32} {last : Option Nat} (h7 : N 7 = M 7) (h : ∀ i, i < n → ((offM td N b i ∧ bhM N last i) ↔ (offM td M b i ∧ bhM M last i))) : ∀ k, k ≤ n → nxB td N b last k = nxB td M b last k
  | 0, _ => rfl
  | k + 1, hk => by
    have ih := nxB_same h7 h k (by omega)
    by_cases hc : offM td M b k ∧ bhM M last k ∧ ∀ jb, nxB td M b last k = some jb → M 7 jb < M 7 k
    · have h2 := (h k (by omega)).mpr ⟨hc.1, hc.2.1⟩
      rw [nxB_t hc, nxB_t ⟨h2.1, h2.2, fun jb hj => by rw [ih] at hj; rw [h7]; exact hc.2.2 jb hj⟩]
    · rw [nxB_f hc, nxB_f (fun q => hc ?_), ih]
      have h2 := (h k (by omega)).mp ⟨q.1, q.2.1⟩
      exact ⟨h2.1, h2.2, fun jb hj => by rw [← ih] at hj; have := q.2.2 jb hj; rw [h7] at this; exact this⟩
end CH
section CL
variable {td : Int32} {M : Nat → Nat → Int32} {b n : Nat} {L : List Nat} {X : Nat → Nat → Int32}
theorem clR_6 : ∀ k i, (clR td M L b X k).1 6 i = M 6 i ∨ ((clR td M L b X k).1 6 i = 3 ∧ ∃ m, m < k ∧ i = ix L m)
  | 0, i => Or.inl rfl
  | k + 1, i => by
    have ih := clR_6 k i
    by_cases h : X 14 (ix L k) = 0
    · rw [clR_f h]
      exact ih.elim Or.inl (fun ⟨q1, m, q2, q3⟩ => Or.inr ⟨q1, m, by omega, q3⟩)
    · rw [clR_t h]
      show upd _ _ _ i = _ ∨ (upd _ _ _ i = 3 ∧ _)
      by_cases h9 : i = ix L k
      · right; exact ⟨by simp [upd, h9], k, by omega, h9⟩
      · simp only [upd, if_neg h9]
        exact ih.elim (fun q => Or.inl q) (fun ⟨q1, m, q2, q3⟩ => Or.inr ⟨q1, m, by omega, q3⟩)
theorem ch_1 {k : Nat} (hk : k < (gaL td M b n).length) : nxB td (clR td M (gaL td M b n) b X k).1 b (some (ix (gaL td M b n) k)) n = (gaL td M b n)[k + 1]? := by
  have e : ∀ f, f ≠ 6 → f ≠ 8 → f ≠ 9 → f ≠ 13 → f ≠ 11 → (clR td M (gaL td M b n) b X k).1 f = M f := fun f h6 h8 h9 h13 h11 => clR_23 h6 h8 h9 h13 h11 k
  rw [← ch_s hk]
  refine nxB_same (e 7 (by decide) (by decide) (by decide) (by decide) (by decide)) (fun i hi => ?_) n (Nat.le_refl _)
  have hbh : bhM (clR td M (gaL td M b n) b X k).1 (some (ix (gaL td M b n) k)) i ↔ bhM M (some (ix (gaL td M b n) k)) i := by
    rw [bhM_s, bhM_s, e 7 (by decide) (by decide) (by decide) (by decide) (by decide)]
  rw [hbh]
  unfold offM
  rw [e 2 (by decide) (by decide) (by decide) (by decide) (by decide), e 5 (by decide) (by decide) (by decide) (by decide) (by decide), e 7 (by decide) (by decide) (by decide) (by decide) (by decide)]
  rcases clR_6 (td := td) (M := M) (b := b) (L := gaL td M b n) (X := X) k i with h | ⟨h, m, h1, h2⟩
  · rw [h]
  · constructor
    · rintro ⟨⟨-, q, -⟩, -⟩
      rw [h] at q
      exact absurd q (by decide)
    · rintro ⟨-, q⟩
      rw [h2] at q
      exact (bh_asym q (srt_at (gaL_srt n) h1 hk)).elim
end CL
section BITS
theorem tp_30 : ∀ i, i < 30 → ((1 : Int32) <<< (nI i &&& 31)).toBitVec = BitVec.twoPow 32 i := by decide +kernel
theorem zX_at (X : Nat → Nat → Int32) (f : Nat) : ∀ k g o, zX X f k g o = if g = f ∧ o < k then 0 else X g o
  | 0, g, o => by simp [zX]
  | k + 1, g, o => by
    have ih := zX_at X f k
    show up2 (zX X f k) f k 0 g o = _
    by_cases hg : g = f
    · subst hg
      rw [up2_s]
      by_cases ho : o = k
      · subst ho; simp [upd]
      · simp only [upd, if_neg ho, ih]
        by_cases h2 : o < k
        · rw [if_pos ⟨True.intro, h2⟩, if_pos ⟨True.intro, by omega⟩]
        · rw [if_neg (fun q => h2 q.2), if_neg (fun q => h2 (by omega))]
    · rw [up2_n _ _ hg, ih, if_neg (fun q => hg q.1), if_neg (fun q => hg q.1)]
variable {td : Int32} {M : Nat → Nat → Int32} {b n : Nat} {L : List Nat} {X : Nat → Nat → Int32} {rm0 : Nat → Int32}
/-- the two folds side by side -/
theorem ac_pl (hn : n ≤ 30) (hL : ∀ k, k < L.length → ix L k < n) (hs : ∀ k, k < L.length → su M (ix L k) < 8) (hr : ∀ o, o < 8 → rm0 o = loM td M b o n) : ∀ k, k ≤ L.length →
    (acS td M (ix L) (M 11 b) rm0 k).1 = (plS td n M L b X k).1 ∧ (∀ o, o < 8 → (acS td M (ix L) (M 11 b) rm0 k).2.1 o = loM td M b o n - (plS td n M L b X k).2 15 o) ∧
    (∀ i, i < 30 → ((acS td M (ix L) (M 11 b) rm0 k).2.2.toBitVec.getLsbD i = true ↔ ¬ (plS td n M L b X k).2 14 i = 0)) ∧ ∀ i, (acS td M (ix L) (M 11 b) rm0 k).2.2.toBitVec.getLsbD i = true → i < n
  | 0, _ => by
    refine ⟨rfl, fun o ho => ?_, fun i hi => ?_, fun i h => ?_⟩
    · show rm0 o = loM td M b o n - zX (zX X 15 8) 14 30 15 o
      rw [zX_at, if_neg (fun q => absurd q.1 (by decide)), zX_at, if_pos ⟨rfl, ho⟩, Int32.sub_zero]
      exact hr o ho
    · show (0 : Int32).toBitVec.getLsbD i = true ↔ ¬ zX (zX X 15 8) 14 30 14 i = 0
      rw [zX_at, if_pos ⟨rfl, hi⟩]
      have e : (0 : Int32).toBitVec = 0#32 := rfl
      rw [e, BitVec.getLsbD_zero]
      simp
    · have e : (acS td M (ix L) (M 11 b) rm0 0).2.2.toBitVec = 0#32 := rfl
      rw [e, BitVec.getLsbD_zero] at h
      cases h
  | k + 1, hk => by
    obtain ⟨h1, h2, h3, h4⟩ := ac_pl hn hL hs hr k (by omega)
    have e := h2 _ (hs k (by omega))
    have hlt := hL k (by omega)
    by_cases hc : ¬ (acS td M (ix L) (M 11 b) rm0 k).1 < price td M (ix L k) ∧ ¬ (acS td M (ix L) (M 11 b) rm0 k).2.1 (su M (ix L k)) < price td M (ix L k)
    · have hc' := hc
      rw [h1, e] at hc'
      rw [acS_t hc, plS_t hc']
      refine ⟨by rw [h1], fun o ho => ?_, fun i hi => ?_, fun i h => ?_⟩
      · show upd _ _ _ o = _ - upd _ _ _ o
        by_cases h9 : o = su M (ix L k)
        · subst h9
          simp only [upd, if_true, e, up2_n _ _ (show (15 : Nat) ≠ 14 by decide)]
          simp only [Int32.sub_eq_add_neg, Int32.neg_add, Int32.add_assoc]
        · simp only [upd, if_neg h9, up2_n _ _ (show (15 : Nat) ≠ 14 by decide)]
          exact h2 o ho
      · show ((acS td M (ix L) (M 11 b) rm0 k).2.2 ||| ((1 : Int32) <<< (nI (ix L k) &&& 31))).toBitVec.getLsbD i = true ↔ ¬ upd ((plS td n M L b X k).2 14) (ix L k) 1 i = 0
        rw [Int32.toBitVec_or, tp_30 _ (by omega), BitVec.getLsbD_or, BitVec.getLsbD_twoPow]
        by_cases h9 : i = ix L k
        · subst h9
          simp [upd]
          omega
        · have h8 : ¬ ix L k = i := fun q => h9 q.symm
          simp only [upd, if_neg h9, Bool.or_eq_true, h3 i hi]
          simp [h8]
      · have h' : ((acS td M (ix L) (M 11 b) rm0 k).2.2 ||| ((1 : Int32) <<< (nI (ix L k) &&& 31))).toBitVec.getLsbD i = true := h
        rw [Int32.toBitVec_or, tp_30 _ (by omega), BitVec.getLsbD_or, BitVec.getLsbD_twoPow, Bool.or_eq_true] at h'
        rcases h' with q | q
        · exact h4 i q
        · simp at q
          omega
    · have hc' := hc
      rw [h1, e] at hc'
      rw [acS_f hc, plS_f hc']
      exact ⟨h1, h2, h3, h4⟩
theorem bitS_bit (hn : n ≤ 30) : ∀ k, k ≤ n → ∀ i, (bitS X k).toBitVec.getLsbD i = true ↔ i < k ∧ ¬ X 14 i = 0
  | 0, _, i => by
    have e : (bitS X 0).toBitVec = 0#32 := rfl
    rw [e, BitVec.getLsbD_zero]
    simp
  | k + 1, hk, i => by
    have ih := bitS_bit hn k (by omega) i
    by_cases h : X 14 k = 0
    · have e0 : (0 : Int32).toBitVec = 0#32 := rfl
      rw [bitS_f h, Int32.toBitVec_or, e0, BitVec.getLsbD_or, BitVec.getLsbD_zero, Bool.or_false, ih]
      constructor
      · rintro ⟨q1, q2⟩; exact ⟨by omega, q2⟩
      · rintro ⟨q1, q2⟩
        refine ⟨?_, q2⟩
        by_cases h9 : i = k
        · subst h9; exact absurd h q2
        · omega
    · rw [bitS_t h, Int32.toBitVec_or, tp_30 _ (by omega), BitVec.getLsbD_or, BitVec.getLsbD_twoPow, Bool.or_eq_true, ih]
      constructor
      · rintro (q | q)
        · exact ⟨by omega, q.2⟩
        · simp at q
          obtain ⟨-, rfl⟩ := q
          exact ⟨by omega, h⟩
      · rintro ⟨q1, q2⟩
        by_cases h9 : i = k
        · subst h9; right; simp; omega
        · left; exact ⟨by omega, q2⟩
end BITS
section PC
variable {td : Int32} {M : Nat → Nat → Int32} {b n : Nat} {X : Nat → Nat → Int32}
theorem hrm8 : ∀ o, o < 8 → mrm td n M b (fun _ => 0) 8 o = loM td M b o n := fun o ho => by rw [mrm_at, if_pos ho]
theorem hLn : ∀ k, k < (gaL td M b n).length → ix (gaL td M b n) k < n := fun k hk => gaL_lt (ix_mem hk)
/-- the class's plan is the reference's -/
theorem plan_eq (hn : n ≤ 30) (hok : ∀ j, j < n → okP M j) : acC td n M b = bitS (plS td n M (gaL td M b n) b X (gaL td M b n).length).2 n := by
  obtain ⟨-, -, h3, h4⟩ := ac_pl (td := td) (X := X) hn hLn (fun k hk => (hok _ (hLn k hk)).2.2.2) hrm8 (gaL td M b n).length (Nat.le_refl _)
  refine Int32.toBitVec_inj.mp (BitVec.eq_of_getLsbD_eq (fun i hi => ?_))
  have hb := bitS_bit (X := (plS td n M (gaL td M b n) b X (gaL td M b n).length).2) hn n (Nat.le_refl _) i
  apply Bool.eq_iff_iff.mpr
  rw [hb]
  constructor
  · intro h
    have := h4 i h
    exact ⟨this, (h3 i (by omega)).mp h⟩
  · rintro ⟨h1, h2⟩
    exact (h3 i (by omega)).mpr h2
theorem bu_of {i : Nat} (hb : b < 4) (h : M 2 i = nI b) : bu M i = b := by
  unfold bu
  rw [h]
  exact nI_clamp (by omega)
theorem and_bit {acc : Int32} {i : Nat} (hi : i < 30) : ¬ acc &&& ((1 : Int32) <<< (nI i &&& 31)) = 0 ↔ acc.toBitVec.getLsbD i = true := by
  have e : acc &&& ((1 : Int32) <<< (nI i &&& 31)) = 0 ↔ acc.toBitVec &&& BitVec.twoPow 32 i = 0#32 := by
    rw [← tp_30 i hi, ← Int32.toBitVec_and, ← Int32.toBitVec_inj]
    exact Iff.rfl
  rw [e, BitVec.and_twoPow]
  cases h : acc.toBitVec.getLsbD i with
  | false => simp
  | true =>
    simp only [if_true, iff_true]
    intro q
    have q2 := congrArg (fun z => BitVec.getLsbD z i) q
    simp at q2
    omega
theorem clear_eq (hn : n ≤ 30) (hb4 : b < 4) (hok : ∀ j, j < n → okP M j) : ∀ k, k ≤ (gaL td M b n).length → clS td M (ix (gaL td M b n)) (acC td n M b) k = clR td M (gaL td M b n) b (plS td n M (gaL td M b n) b X (gaL td M b n).length).2 k
  | 0, _ => rfl
  | k + 1, hk => by
    have ih := clear_eq hn hb4 hok k (by omega)
    obtain ⟨-, -, h3, -⟩ := ac_pl (td := td) (X := X) hn hLn (fun k hk => (hok _ (hLn k hk)).2.2.2) hrm8 (gaL td M b n).length (Nat.le_refl _)
    have hlt := hLn (td := td) (M := M) (b := b) (n := n) k (by omega)
    have hi := h3 (ix (gaL td M b n) k) (by omega)
    have hbit := and_bit (acc := acC td n M b) (i := ix (gaL td M b n) k) (by omega)
    by_cases h : (plS td n M (gaL td M b n) b X (gaL td M b n).length).2 14 (ix (gaL td M b n) k) = 0
    · rw [clR_f h, clS_f (fun q => (hi.mp (hbit.mp q)) h), ih]
    · rw [clR_t h, clS_t (hbit.mpr (hi.mpr h)), ih]
      have hoff := (gaL_mem.mp (ix_mem (L := gaL td M b n) (j := k) (by omega))).2
      have hbu : bu (clR td M (gaL td M b n) b (plS td n M (gaL td M b n) b X (gaL td M b n).length).2 k).1 (ix (gaL td M b n) k) = b := bu_of hb4 (by
        rw [clR_23 (by decide) (by decide) (by decide) (by decide) (by decide) k]; exact hoff.1)
      unfold payE
      rw [hbu]
end PC
