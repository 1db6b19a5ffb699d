/-! Clearing: the table behind it -/
section LO
variable {n b : Nat} {td : Int32} {N N' : Nat → Nat → Int32}
/-- one bill more is paid early -/
theorem lo_one {i o : Nat} {v : Int32} (h2 : N' 2 = N 2) (h3 : N' 3 = N 3) (h5 : N' 5 = N 5) (h12 : N' 12 = N 12) (h6 : N' 6 = upd (N 6) i 3) (h8 : N' 8 = upd (N 8) i v) (h1 : N 6 i = 1) (hd : ¬ N 5 i ≤ td) : ∀ k, loM td N' b o k = loM td N b o k - (if i < k ∧ N 2 i = nI b ∧ N 3 i = nI o then v else 0)
  | 0 => by
    show N' 12 (8 * b + o) = N 12 (8 * b + o) - _
    rw [h12, if_neg (fun q => absurd q.1 (Nat.not_lt_zero i)), Int32.sub_zero]
  | k + 1 => by
    have ih := lo_one (o := o) h2 h3 h5 h12 h6 h8 h1 hd k
    by_cases hk : k = i
    · subst hk
      have c0 : ¬ cntM td N b o k := fun q => absurd (h1.symm.trans q.2.2.1) (by decide)
      rw [if_neg (fun q => absurd q.1 (Nat.lt_irrefl k)), Int32.sub_zero] at ih
      by_cases hc : N 2 k = nI b ∧ N 3 k = nI o
      · have c1 : cntM td N' b o k := ⟨by rw [h2]; exact hc.1, by rw [h3]; exact hc.2, by rw [h6]; exact upd_e _ _ _, by rw [h5]; exact hd⟩
        rw [loM_t c1, loM_f c0, if_pos ⟨Nat.lt_succ_self k, hc⟩, ih, h8, upd_e, Int32.sub_zero]
      · have c1 : ¬ cntM td N' b o k := fun q => hc ⟨by rw [← h2]; exact q.1, by rw [← h3]; exact q.2.1⟩
        rw [loM_f c1, loM_f c0, if_neg (fun q => hc q.2), ih, Int32.sub_zero, Int32.sub_zero]
    · have e : cntM td N' b o k ↔ cntM td N b o k := by
        show (N' 2 k = nI b ∧ N' 3 k = nI o ∧ N' 6 k = 3 ∧ ¬ N' 5 k ≤ td) ↔ (N 2 k = nI b ∧ N 3 k = nI o ∧ N 6 k = 3 ∧ ¬ N 5 k ≤ td)
        rw [h2, h3, h5, h6, pk_un hk]
      have e2 : (if i < k + 1 ∧ N 2 i = nI b ∧ N 3 i = nI o then v else 0) = (if i < k ∧ N 2 i = nI b ∧ N 3 i = nI o then v else 0) := by
        by_cases q : i < k ∧ N 2 i = nI b ∧ N 3 i = nI o
        · rw [if_pos q, if_pos ⟨by omega, q.2⟩]
        · rw [if_neg q, if_neg (fun r => q ⟨by omega, r.2⟩)]
      have e3 : ∀ x y z : Int32, x - y - z = x - z - y := fun x y z => by
        simp only [Int32.sub_eq_add_neg, Int32.add_assoc]
        congr 1
        exact Int32.add_comm _ _
      rw [e2]
      by_cases hc : cntM td N b o k
      · rw [loM_t (e.mpr hc), loM_t hc, ih, h8, pk_un hk, e3]
      · rw [loM_f (fun q => hc (e.mp q)), loM_f hc, ih, Int32.sub_zero, Int32.sub_zero]
end LO
theorem take_mem {L : List Nat} {k i : Nat} : i ∈ L.take k → ∃ j, j < k ∧ j < L.length ∧ ix L j = i := fun h => by
  obtain ⟨m, hm⟩ := List.mem_iff_getElem?.mp h
  rw [List.getElem?_take] at hm
  by_cases hk : m < k
  · rw [if_pos hk] at hm
    have hl := (List.getElem?_eq_some_iff.mp hm).1
    exact ⟨m, hk, hl, Option.some.inj ((ix_at hl).symm.trans hm)⟩
  · rw [if_neg hk] at hm; cases hm
section CT
variable {s n b : Nat} {td : Int32} {M : Nat → Nat → Int32}
theorem Jw.bud (h : Jw s td n M) {b : Nat} {v : Int32} (hv : 0 ≤ v.toInt ∧ v.toInt ≤ 100000000) : Jw s td n (up2 M 11 b v) :=
  h.of (i := n) (h.1.hi (by decide)) (fun f j hf _ => up2_ne _ _ _ _ (by omega)) (fun q => absurd q (Nat.lt_irrefl n)) (h.2.2.1.le (Nat.le_refl s) (up2_n _ _ (by decide))) (fun b' hb' => by
    by_cases e : b' = b
    · subst e; rw [up2_e]; exact hv
    · rw [up2_j _ _ _ _ _ e]; exact h.2.2.2 b' hb')
/-- those that the plan takes -/
def cBt (td : Int32) (n : Nat) (M : Nat → Nat → Int32) (b i : Nat) : Bool := (acC td n M b).toBitVec.getLsbD i
abbrev rm8 (td : Int32) (n : Nat) (M : Nat → Nat → Int32) (b : Nat) : Nat → Int32 := mrm td n M b (fun _ => 0) 8
theorem hL30 (hn : n ≤ 30) : ∀ k, k < (gaL td M b n).length → ix (gaL td M b n) k < 30 := fun k hk => Nat.lt_of_lt_of_le (hLn k hk) hn
theorem cb_bit (hn : n ≤ 30) (i : Nat) : cBt td n M b i = true ↔ ∃ j, j < (gaL td M b n).length ∧ acF td M (gaL td M b n) (M 11 b) (rm8 td n M b) j ∧ ix (gaL td M b n) j = i :=
  ac_bit (hL30 hn) _ (Nat.le_refl _) i
theorem cb_F (hn : n ≤ 30) {j : Nat} (hj : j < (gaL td M b n).length) : cBt td n M b (ix (gaL td M b n) j) = true ↔ acF td M (gaL td M b n) (M 11 b) (rm8 td n M b) j := by
  rw [cb_bit hn]
  constructor
  · rintro ⟨j', h1, h2, h3⟩
    have e := ix_inj ga_nodup h1 hj h3
    subst e
    exact h2
  · intro h
    exact ⟨j, hj, h, rfl⟩
theorem cb_mem (hn : n ≤ 30) {i : Nat} (h : cBt td n M b i = true) : i ∈ gaL td M b n := by
  obtain ⟨j, h1, -, h3⟩ := (cb_bit hn i).mp h
  rw [← h3]
  exact ix_mem h1
theorem cb_off (hn : n ≤ 30) {i : Nat} (h : cBt td n M b i = true) : i < n ∧ offM td M b i := gaL_mem.mp (cb_mem hn h)
theorem disc_same {N : Nat → Nat → Int32} {i : Nat} (h4 : N 4 = M 4) (h5 : N 5 = M 5) (h7 : N 7 = M 7) : disc td N i = disc td M i := by unfold disc; rw [h4, h5, h7]
theorem price_same {N : Nat → Nat → Int32} {i : Nat} (h4 : N 4 = M 4) (h5 : N 5 = M 5) (h7 : N 7 = M 7) : price td N i = price td M i := by unfold price; rw [disc_same h4 h5 h7, h4]
theorem price_I (h : Jv s td n M) (hs : s ≤ 100000) {i : Nat} (hi : i ∈ gaL td M b n) : (0 ≤ dI td M i ∧ dI td M i ≤ 500000) ∧ (0 ≤ pI td M i ∧ pI td M i ≤ 1000000) ∧ pI td M i = (M 4 i).toInt - dI td M i := by
  obtain ⟨h1, h2, h3, h4⟩ := h.1.1.offer hs i hi
  refine ⟨⟨h1, h2⟩, ⟨h3, h4⟩, ?_⟩
  have hB := h.1.a4 (gaL_mem.mp hi).1
  have e : dI td M i = (disc td M i).toInt := rfl
  show (M 4 i - disc td M i).toInt = _
  exact i32_sub (by omega) (by omega)
abbrev clN (td : Int32) (n : Nat) (M : Nat → Nat → Int32) (b k : Nat) : (Nat → Nat → Int32) × Int32 := clS td M (ix (gaL td M b n)) (acC td n M b) k
abbrev acN (td : Int32) (n : Nat) (M : Nat → Nat → Int32) (b k : Nat) : Int32 × (Nat → Int32) × Int32 := acS td M (ix (gaL td M b n)) (M 11 b) (rm8 td n M b) k
theorem cl_st (h : Jv s td n M) (hs : s ≤ 100000) (hb : b < 4) : ∀ k, k ≤ (gaL td M b n).length →
    Jw s td n (clN td n M b k).1 ∧ (∀ i, (clN td n M b k).1 6 i = if i ∈ (gaL td M b n).take k ∧ cBt td n M b i = true then 3 else M 6 i) ∧ (∀ i, (clN td n M b k).1 8 i = if i ∈ (gaL td M b n).take k ∧ cBt td n M b i = true then price td M i else M 8 i) ∧
    (∀ b', (clN td n M b k).1 11 b' = if b' = b then (acN td n M b k).1 else M 11 b') ∧ (clN td n M b k).2.toInt = sumC (cBt td n M b) (dI td M) ((gaL td M b n).take k) ∧
    (∀ p, (clN td n M b k).1 13 p + hsS (clN td n M b k).1 p n = M 13 p + hsS M p n) ∧ ∀ o, o < 8 → loM td (clN td n M b k).1 b o n = (acN td n M b k).2.1 o
  | 0, _ => by
    refine ⟨h.1, fun i => ?_, fun i => ?_, fun b' => ?_, rfl, fun p => rfl, fun o ho => ?_⟩
    · rw [if_neg (fun q => absurd q.1 (by simp))]; rfl
    · rw [if_neg (fun q => absurd q.1 (by simp))]; rfl
    · show M 11 b' = if b' = b then M 11 b else M 11 b'
      by_cases e : b' = b
      · rw [if_pos e, e]
      · rw [if_neg e]
    · show loM td M b o n = mrm td n M b (fun _ => 0) 8 o
      rw [mrm_at, if_pos ho]
  | k + 1, hk => by
    obtain ⟨g1, g2, g3, g4, g5, g6, g7⟩ := cl_st h hs hb k (by omega)
    have hn := h.1.1.1
    have hlt : k < (gaL td M b n).length := by omega
    have hm := ix_mem hlt
    obtain ⟨hi, o1, o2, o3, o4⟩ := gaL_mem.mp hm
    have hpr := price_I h hs hm
    have hnot : ¬ ix (gaL td M b n) k ∈ (gaL td M b n).take k := fun q => by
      obtain ⟨j, j1, j2, j3⟩ := take_mem q
      have := ix_inj ga_nodup j2 hlt j3
      omega
    have htk : ∀ i, i ∈ (gaL td M b n).take (k + 1) ↔ i ∈ (gaL td M b n).take k ∨ i = ix (gaL td M b n) k := fun i => by
      rw [take_ix hlt, List.mem_append, List.mem_singleton]
    have hbit := and_bit (acc := acC td n M b) (i := ix (gaL td M b n) k) (hL30 hn k hlt)
    have hF := cb_F (td := td) (M := M) (b := b) hn hlt
    have n23 : ∀ f, f ≠ 6 → f ≠ 8 → f ≠ 9 → f ≠ 13 → f ≠ 11 → (clN td n M b k).1 f = M f := fun f h6 h8 h9 h13 h11 => clS_23 h6 h8 h9 h13 h11 k
    have e2 := n23 2 (by decide) (by decide) (by decide) (by decide) (by decide)
    have e3 := n23 3 (by decide) (by decide) (by decide) (by decide) (by decide)
    have e4 := n23 4 (by decide) (by decide) (by decide) (by decide) (by decide)
    have e5 := n23 5 (by decide) (by decide) (by decide) (by decide) (by decide)
    have e7 := n23 7 (by decide) (by decide) (by decide) (by decide) (by decide)
    by_cases hc : cBt td n M b (ix (gaL td M b n) k) = true
    · have hf := hF.mp hc
      have hac : acN td n M b (k + 1) = ((acN td n M b k).1 - price td M (ix (gaL td M b n) k), upd (acN td n M b k).2.1 (su M (ix (gaL td M b n) k)) ((acN td n M b k).2.1 (su M (ix (gaL td M b n) k)) - price td M (ix (gaL td M b n) k)), (acN td n M b k).2.2 ||| ((1 : Int32) <<< (nI (ix (gaL td M b n) k) &&& 31))) := acS_t hf
      have hcl : clN td n M b (k + 1) = (payE td (clN td n M b k).1 (ix (gaL td M b n) k), (clN td n M b k).2 + disc td (clN td n M b k).1 (ix (gaL td M b n) k)) := clS_t (hbit.mpr hc)
      have hbu : bu (clN td n M b k).1 (ix (gaL td M b n) k) = b := bu_of hb (by rw [e2]; exact o1)
      have hprc : price td (clN td n M b k).1 (ix (gaL td M b n) k) = price td M (ix (gaL td M b n) k) := price_same e4 e5 e7
      have hdsc : disc td (clN td n M b k).1 (ix (gaL td M b n) k) = disc td M (ix (gaL td M b n) k) := disc_same e4 e5 e7
      have h6k : (clN td n M b k).1 6 (ix (gaL td M b n) k) = 1 := by rw [g2, if_neg (fun q => hnot q.1)]; exact o2
      have hq : payE td (clN td n M b k).1 (ix (gaL td M b n) k) = payM (up2 (clN td n M b k).1 11 b ((clN td n M b k).1 11 b - price td M (ix (gaL td M b n) k))) (ix (gaL td M b n) k) (price td M (ix (gaL td M b n) k)) 3 := by
        unfold payE; rw [hbu, hprc]
      rw [hcl, hac, hq, hdsc]
      have h11 : (clN td n M b k).1 11 b = (acN td n M b k).1 := by rw [g4, if_pos rfl]
      have hu := g1.2.2.2 b hb
      have hf1 : ¬ (acN td n M b k).1 < price td M (ix (gaL td M b n) k) := hf.1
      rw [i32_lt] at hf1
      have hpI : pI td M (ix (gaL td M b n) k) = (price td M (ix (gaL td M b n) k)).toInt := rfl
      have hdI : dI td M (ix (gaL td M b n) k) = (disc td M (ix (gaL td M b n) k)).toInt := rfl
      rw [h11] at hu ⊢
      have hsub : ((acN td n M b k).1 - price td M (ix (gaL td M b n) k)).toInt = (acN td n M b k).1.toInt - (price td M (ix (gaL td M b n) k)).toInt := i32_sub (by omega) (by omega)
      have J1 := g1.bud (b := b) (v := (acN td n M b k).1 - price td M (ix (gaL td M b n) k)) ⟨by omega, by omega⟩
      have z9 := ((g1.2.1 _ hi).unp (n1 h6k)).2.1
      have J2 := J1.pay (sm := price td M (ix (gaL td M b n) k)) (how := 3) hi (by rw [up2_ne _ _ _ _ (by decide)]; exact n1 h6k) ⟨by omega, by rw [up2_ne _ _ _ _ (by decide), e4]; omega⟩ (Or.inl rfl)
      dsimp only
      refine ⟨J2, fun i => ?_, fun i => ?_, fun b' => ?_, ?_, fun p => ?_, fun o ho => ?_⟩
      · rw [payM_6]
        by_cases e : i = ix (gaL td M b n) k
        · subst e; rw [upd_e, if_pos ⟨(htk _).mpr (Or.inr rfl), hc⟩]
        · rw [pk_un e, up2_ne _ _ _ _ (by decide), g2]
          by_cases q : i ∈ (gaL td M b n).take k ∧ cBt td n M b i = true
          · rw [if_pos q, if_pos ⟨(htk i).mpr (Or.inl q.1), q.2⟩]
          · rw [if_neg q, if_neg (fun r => ((htk i).mp r.1).elim (fun r1 => q ⟨r1, r.2⟩) e)]
      · rw [payM_8]
        by_cases e : i = ix (gaL td M b n) k
        · subst e; rw [upd_e, if_pos ⟨(htk _).mpr (Or.inr rfl), hc⟩]
        · rw [pk_un e, up2_ne _ _ _ _ (by decide), g3]
          by_cases q : i ∈ (gaL td M b n).take k ∧ cBt td n M b i = true
          · rw [if_pos q, if_pos ⟨(htk i).mpr (Or.inl q.1), q.2⟩]
          · rw [if_neg q, if_neg (fun r => ((htk i).mp r.1).elim (fun r1 => q ⟨r1, r.2⟩) e)]
      · rw [payM_n _ _ _ _ (by decide) (by decide) (by decide) (by decide)]
        by_cases e : b' = b
        · subst e; rw [up2_e, if_pos rfl]
        · rw [up2_j _ _ _ _ _ e, g4, if_neg e, if_neg e]
      · have q1 := sumC_nn (c := cBt td n M b) (f := dI td M) (T := (gaL td M b n).take k) (fun i hi => (price_I h hs (List.mem_of_mem_take hi)).1.1)
        have q2 := sumC_le (c := cBt td n M b) (f := dI td M) (K := 500000) (by omega) (T := (gaL td M b n).take k) (fun i hi => (price_I h hs (List.mem_of_mem_take hi)).1)
        have hlen : (((gaL td M b n).take k).length : Int) ≤ 30 := by
          have := gaL_len td M b n
          rw [List.length_take]; omega
        show ((clN td n M b k).2 + disc td M (ix (gaL td M b n) k)).toInt = _
        rw [take_ix hlt, sumC_app, sumC_one, if_pos hc, i32_add (by omega) (by omega)]
        omega
      · rw [hs_pay hi (by rw [up2_ne _ _ _ _ (by decide)]; exact z9), up2_ne _ _ _ _ (by decide), hs_same (M := (clN td n M b k).1) n (fun j hj => ⟨pr_same (up2_n _ _ (by decide)) (up2_n _ _ (by decide)), up2_ne _ _ _ _ (by decide)⟩)]
        exact g6 p
      · have m2 : ∀ f, f ≠ 6 → f ≠ 8 → f ≠ 9 → f ≠ 13 → f ≠ 11 → payM (up2 (clN td n M b k).1 11 b ((acN td n M b k).1 - price td M (ix (gaL td M b n) k))) (ix (gaL td M b n) k) (price td M (ix (gaL td M b n) k)) 3 f = (clN td n M b k).1 f := fun f h6 h8 h9 h13 h11 => by
          rw [payM_n _ _ _ _ h6 h8 h9 h13, up2_n _ _ h11]
        have hl := lo_one (N := (clN td n M b k).1) (N' := payM (up2 (clN td n M b k).1 11 b ((acN td n M b k).1 - price td M (ix (gaL td M b n) k))) (ix (gaL td M b n) k) (price td M (ix (gaL td M b n) k)) 3) (td := td) (b := b) (o := o) (i := ix (gaL td M b n) k) (v := price td M (ix (gaL td M b n) k)) (m2 2 (by decide) (by decide) (by decide) (by decide) (by decide)) (m2 3 (by decide) (by decide) (by decide) (by decide) (by decide)) (m2 5 (by decide) (by decide) (by decide) (by decide) (by decide)) (m2 12 (by decide) (by decide) (by decide) (by decide) (by decide)) (by rw [payM_6, up2_n _ _ (by decide)]) (by rw [payM_8, up2_n _ _ (by decide)]) h6k (by rw [e5]; exact o4) n
        rw [hl, g7 o ho, e2, e3]
        have hok := h.1.1.ok _ hi
        by_cases e : o = su M (ix (gaL td M b n) k)
        · rw [if_pos ⟨hi, o1, by rw [e]; exact hok.2.2.1⟩, e, upd_e]
        · rw [pk_un e, if_neg (fun q => e (su_of ho q.2.2).symm), Int32.sub_zero]
    · have hf : ¬ acF td M (gaL td M b n) (M 11 b) (rm8 td n M b) k := fun q => hc (hF.mpr q)
      have hac : acN td n M b (k + 1) = acN td n M b k := acS_f hf
      have hcl : clN td n M b (k + 1) = clN td n M b k := clS_f (fun q => hc (hbit.mp q))
      rw [hcl, hac]
      have hsame : ∀ i, (i ∈ (gaL td M b n).take (k + 1) ∧ cBt td n M b i = true) ↔ (i ∈ (gaL td M b n).take k ∧ cBt td n M b i = true) := fun i => by
        rw [htk]
        constructor
        · rintro ⟨q | q, r⟩
          · exact ⟨q, r⟩
          · rw [q] at r; exact absurd r hc
        · rintro ⟨q, r⟩; exact ⟨Or.inl q, r⟩
      refine ⟨g1, fun i => ?_, fun i => ?_, g4, ?_, g6, g7⟩
      · rw [g2 i]
        by_cases q : i ∈ (gaL td M b n).take k ∧ cBt td n M b i = true
        · rw [if_pos q, if_pos ((hsame i).mpr q)]
        · rw [if_neg q, if_neg (fun r => q ((hsame i).mp r))]
      · rw [g3 i]
        by_cases q : i ∈ (gaL td M b n).take k ∧ cBt td n M b i = true
        · rw [if_pos q, if_pos ((hsame i).mpr q)]
        · rw [if_neg q, if_neg (fun r => q ((hsame i).mp r))]
      · rw [take_ix hlt, sumC_app, sumC_one, if_neg hc, Int.add_zero]; exact g5
end CT
