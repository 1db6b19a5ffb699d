/-! Pure: the sets of the reference; the two agree -/
theorem sh_13 : ∀ k, k < 13 → ((nI k &&& 31).toBitVec.smod 32).toNat = k := by decide +kernel
theorem bit_v {v k : Nat} (hk : k < 13) : (nI v >>> (nI k &&& 31)) &&& 1 = 1 ↔ v.testBit k = true := by
  have e1 : (nI v >>> (nI k &&& 31)) &&& 1 = 1 ↔ (nI v).toBitVec.sshiftRight k &&& BitVec.twoPow 32 0 = BitVec.twoPow 32 0 := by
    rw [← Int32.toBitVec_inj, Int32.toBitVec_and, Int32.toBitVec_shiftRight]
    have e2 : (nI v).toBitVec.sshiftRight' ((nI k &&& 31).toBitVec.smod 32) = (nI v).toBitVec.sshiftRight k := by
      show (nI v).toBitVec.sshiftRight ((nI k &&& 31).toBitVec.smod 32).toNat = _
      rw [sh_13 k hk]
    rw [e2]
    exact Iff.rfl
  have e3 : (nI v).toBitVec = BitVec.ofNat 32 v := rfl
  have e5 : ((nI v).toBitVec.sshiftRight k).getLsbD 0 = v.testBit k := by
    rw [BitVec.getLsbD_sshiftRight, e3]
    have h1 : k + 0 < 32 := by omega
    rw [if_pos h1, BitVec.getLsbD_ofNat, decide_eq_true h1, Nat.add_zero, Bool.true_and]
    rfl
  rw [e1, BitVec.and_twoPow, e5]
  cases v.testBit k with
  | true => simp
  | false => simp; decide
theorem take_ix {O : List Nat} {k : Nat} (h : k < O.length) : O.take (k + 1) = O.take k ++ [ix O k] := by
  rw [List.take_add_one, ix_at h]
  rfl
theorem sumC_one (c : Nat → Bool) (f : Nat → Int) (x : Nat) : sumC c f [x] = if c x = true then f x else 0 := by simp [sumC]
section RB
variable {td : Int32} {M : Nat → Nat → Int32} {b n v : Nat} {O : List Nat} {c : Nat → Bool}
theorem brS_I (h12 : O.length ≤ 12) (hc : ∀ k, k < O.length → c (ix O k) = v.testBit k) (hrg : ∀ i ∈ O, 0 ≤ dI td M i ∧ dI td M i ≤ 500000 ∧ 0 ≤ pI td M i ∧ pI td M i ≤ 1000000) : ∀ k, k ≤ O.length →
    (brS td n M b O v (fun _ => 0) k).1.toInt = sumC c (dI td M) (O.take k) ∧ (brS td n M b O v (fun _ => 0) k).2.1.toInt = sumC c (pI td M) (O.take k) ∧ (∀ o, ((brS td n M b O v (fun _ => 0) k).2.2.2 o).toInt = sumC (cS (su M) c o) (pI td M) (O.take k)) ∧
    ((brS td n M b O v (fun _ => 0) k).2.2.1 = true ↔ ∀ o, (∃ i, i ∈ O.take k ∧ c i = true ∧ su M i = o) → sumC (cS (su M) c o) (pI td M) (O.take k) ≤ (loM td M b o n).toInt)
  | 0, _ => ⟨rfl, rfl, fun _ => rfl, ⟨fun _ o ⟨i, h, _⟩ => absurd h (by simp), fun _ => rfl⟩⟩
  | k + 1, hk => by
    have hlt : k < O.length := by omega
    obtain ⟨h1, h2, h3, h4⟩ := brS_I h12 hc hrg k (by omega)
    have hr := hrg _ (ix_mem hlt)
    have hdI : dI td M (ix O k) = (disc td M (ix O k)).toInt := rfl
    have hpI : pI td M (ix O k) = (price td M (ix O k)).toInt := rfl
    have hT : ∀ i ∈ O.take k, i ∈ O := fun i hi => List.mem_of_mem_take hi
    have hlen : ((O.take k).length : Int) ≤ 12 := by rw [List.length_take]; omega
    have bd : ∀ c' : Nat → Bool, 0 ≤ sumC c' (dI td M) (O.take k) ∧ sumC c' (dI td M) (O.take k) ≤ 6000000 := fun c' => by
      have q1 := sumC_nn (c := c') (f := dI td M) (T := O.take k) (fun i hi => (hrg i (hT i hi)).1)
      have q2 := sumC_le (c := c') (f := dI td M) (K := 500000) (by omega) (T := O.take k) (fun i hi => ⟨(hrg i (hT i hi)).1, (hrg i (hT i hi)).2.1⟩)
      exact ⟨q1, by omega⟩
    have bp : ∀ c' : Nat → Bool, 0 ≤ sumC c' (pI td M) (O.take k) ∧ sumC c' (pI td M) (O.take k) ≤ 12000000 := fun c' => by
      have q1 := sumC_nn (c := c') (f := pI td M) (T := O.take k) (fun i hi => (hrg i (hT i hi)).2.2.1)
      have q2 := sumC_le (c := c') (f := pI td M) (K := 1000000) (by omega) (T := O.take k) (fun i hi => ⟨(hrg i (hT i hi)).2.2.1, (hrg i (hT i hi)).2.2.2⟩)
      exact ⟨q1, by omega⟩
    rw [take_ix hlt]
    simp only [sumC_app, sumC_one]
    by_cases hb : (nI v >>> (nI k &&& 31)) &&& 1 = 1
    · have hci : c (ix O k) = true := (hc k hlt).trans ((bit_v (by omega)).mp hb)
      have bdc := bd c
      have bpc := bp c
      have es : ∀ o, (upd (brS td n M b O v (fun _ => 0) k).2.2.2 (su M (ix O k)) ((brS td n M b O v (fun _ => 0) k).2.2.2 (su M (ix O k)) + price td M (ix O k)) o).toInt = sumC (cS (su M) c o) (pI td M) (O.take k) + (if cS (su M) c o (ix O k) = true then pI td M (ix O k) else 0) := fun o => by
        have bpo := bp (cS (su M) c o)
        have ho := h3 o
        by_cases h9 : o = su M (ix O k)
        · subst h9
          rw [if_pos (cS_t.mpr ⟨hci, rfl⟩)]
          simp only [upd, if_true]
          rw [i32_add (by omega) (by omega)]
          omega
        · rw [if_neg (fun q => h9 (cS_t.mp q).2.symm)]
          simp only [upd, if_neg h9]
          omega
      rw [brS_t hb]
      refine ⟨?_, ?_, es, ?_⟩
      · show ((brS td n M b O v (fun _ => 0) k).1 + disc td M (ix O k)).toInt = _
        rw [if_pos hci, i32_add (by omega) (by omega)]
        omega
      · show ((brS td n M b O v (fun _ => 0) k).2.1 + price td M (ix O k)).toInt = _
        rw [if_pos hci, i32_add (by omega) (by omega)]
        omega
      · have eo := es (su M (ix O k))
        rw [if_pos (cS_t.mpr ⟨hci, rfl⟩)] at eo
        show ((brS td n M b O v (fun _ => 0) k).2.2.1 && decide _) = true ↔ _
        rw [Bool.and_eq_true, h4, decide_eq_true_iff, i32_lt, eo]
        constructor
        · rintro ⟨q1, q2⟩ o ⟨i, i1, i2, i3⟩
          by_cases h9 : o = su M (ix O k)
          · subst h9
            rw [if_pos (cS_t.mpr ⟨hci, rfl⟩)]
            omega
          · rw [if_neg (fun q => h9 (cS_t.mp q).2.symm)]
            rcases List.mem_append.mp i1 with i1 | i1
            · have := q1 o ⟨i, i1, i2, i3⟩
              omega
            · have e : i = ix O k := by simpa using i1
              rw [e] at i3
              exact absurd i3.symm h9
        · intro q
          have q0 := q (su M (ix O k)) ⟨ix O k, by simp, hci, rfl⟩
          rw [if_pos (cS_t.mpr ⟨hci, rfl⟩)] at q0
          refine ⟨fun o ⟨i, i1, i2, i3⟩ => ?_, by omega⟩
          have q1 := q o ⟨i, List.mem_append_left _ i1, i2, i3⟩
          by_cases h9 : cS (su M) c o (ix O k) = true
          · rw [if_pos h9] at q1; omega
          · rw [if_neg h9] at q1; omega
    · have hci : ¬ c (ix O k) = true := fun q => hb ((bit_v (by omega)).mpr ((hc k hlt).symm.trans q))
      rw [brS_f hb]
      have hcs : ∀ o, ¬ cS (su M) c o (ix O k) = true := fun o q => hci (cS_t.mp q).1
      refine ⟨by rw [if_neg hci, Int.add_zero]; exact h1, by rw [if_neg hci, Int.add_zero]; exact h2, fun o => by rw [if_neg (hcs o), Int.add_zero]; exact h3 o, ?_⟩
      rw [h4]
      constructor
      · intro q o ⟨i, i1, i2, i3⟩
        rw [if_neg (hcs o), Int.add_zero]
        rcases List.mem_append.mp i1 with i1 | i1
        · exact q o ⟨i, i1, i2, i3⟩
        · have e : i = ix O k := by simpa using i1
          rw [e] at i2
          exact absurd i2 hci
      · intro q o ⟨i, i1, i2, i3⟩
        have q1 := q o ⟨i, List.mem_append_left _ i1, i2, i3⟩
        rw [if_neg (hcs o), Int.add_zero] at q1
        exact q1
theorem brR_I (h12 : O.length ≤ 12) (hc : ∀ k, k < O.length → c (ix O k) = v.testBit k) (hrg : ∀ i ∈ O, 0 ≤ dI td M i ∧ dI td M i ≤ 500000 ∧ 0 ≤ pI td M i ∧ pI td M i ≤ 1000000) (hne : ∃ i, i ∈ O ∧ c i = true) :
    (fitI (pI td M) (su M) c O (fun o => (loM td M b o n).toInt) (M 11 b).toInt → (brR td n M b O (fun _ => 0) v).toInt = sumC c (dI td M) O) ∧ (¬ fitI (pI td M) (su M) c O (fun o => (loM td M b o n).toInt) (M 11 b).toInt → (brR td n M b O (fun _ => 0) v).toInt = -1) := by
  obtain ⟨h1, h2, h3, h4⟩ := brS_I (td := td) (n := n) (b := b) h12 hc hrg O.length (Nat.le_refl _)
  rw [List.take_length] at h1 h2 h4
  have key : fitI (pI td M) (su M) c O (fun o => (loM td M b o n).toInt) (M 11 b).toInt ↔ ((brS td n M b O v (fun _ => 0) O.length).2.2.1 = true ∧ ¬ M 11 b < (brS td n M b O v (fun _ => 0) O.length).2.1) := by
    rw [h4, i32_lt, h2]
    constructor
    · intro q; exact ⟨q.2, by have := q.1 hne; omega⟩
    · intro q; exact ⟨fun _ => by omega, q.1⟩
  constructor
  · intro hf
    rw [brR_t (key.mp hf).1 (key.mp hf).2, h1]
  · intro hf
    rw [brR_f (fun q => hf (key.mpr q))]
    rfl
end RB
/-- a set's number -/
def encV (g : Nat → Bool) : Nat → Nat
  | 0 => 0
  | k + 1 => (if g k = true then 2 ^ k else 0) + encV g k
theorem encV_lt (g : Nat → Bool) : ∀ k, encV g k < 2 ^ k
  | 0 => by simp [encV]
  | k + 1 => by
    have ih := encV_lt g k
    rw [Nat.pow_succ]
    unfold encV
    split <;> omega
theorem encV_bit (g : Nat → Bool) : ∀ k j, j < k → (encV g k).testBit j = g j
  | 0, j, h => absurd h (Nat.not_lt_zero _)
  | k + 1, j, h => by
    have hl := encV_lt g k
    unfold encV
    by_cases hg : g k = true
    · rw [if_pos hg]
      by_cases hj : j = k
      · subst hj
        rw [Nat.testBit_two_pow_add_eq, Nat.testBit_lt_two_pow hl, hg]
        rfl
      · rw [Nat.testBit_two_pow_add_gt (by omega)]
        exact encV_bit g k j (by omega)
    · rw [if_neg hg, Nat.zero_add]
      by_cases hj : j = k
      · subst hj
        rw [Nat.testBit_lt_two_pow hl]
        exact (Bool.eq_false_iff.mpr hg).symm
      · exact encV_bit g k j (by omega)
theorem bmS_nn (f : Nat → Int32) : ∀ v, 0 ≤ (bmS f v).toInt
  | 0 => by simp [bmS]
  | v + 1 => by
    have ih := bmS_nn f v
    unfold bmS
    split
    · rename_i h; rw [i32_lt] at h; omega
    · exact ih
theorem bmS_ge (f : Nat → Int32) : ∀ v u, 1 ≤ u → u ≤ v → (f u).toInt ≤ (bmS f v).toInt
  | 0, u, h1, h2 => by omega
  | v + 1, u, h1, h2 => by
    by_cases hu : u = v + 1
    · subst hu
      unfold bmS
      split
      · exact Int.le_refl _
      · rename_i h; rw [i32_lt] at h; omega
    · have ih := bmS_ge f v u h1 (by omega)
      unfold bmS
      split
      · rename_i h; rw [i32_lt] at h; omega
      · exact ih
theorem bmS_or (f : Nat → Int32) : ∀ v, bmS f v = 0 ∨ ∃ u, 1 ≤ u ∧ u ≤ v ∧ bmS f v = f u
  | 0 => Or.inl rfl
  | v + 1 => by
    unfold bmS
    split
    · exact Or.inr ⟨v + 1, by omega, by omega, rfl⟩
    · rcases bmS_or f v with h | ⟨u, h1, h2, h3⟩
      · exact Or.inl h
      · exact Or.inr ⟨u, h1, by omega, h3⟩
section ME
variable {td : Int32} {M : Nat → Nat → Int32} {b n : Nat}
theorem insS_perm {y : Nat} : ∀ L : List Nat, (insS M y L).Perm (y :: L)
  | [] => List.Perm.refl _
  | a :: L => by
    unfold insS
    split
    · exact ((insS_perm L).cons a).trans (List.Perm.swap y a L)
    · exact List.Perm.refl _
theorem ga_of : ∀ j, (gaL td M b j).Perm (ofL td M b j)
  | 0 => List.Perm.refl _
  | j + 1 => by
    by_cases h : offM td M b j
    · rw [gaL_t h, ofL_t h]
      exact (insS_perm _).trans (((ga_of j).cons j).trans (List.perm_append_comm (l₁ := [j]) (l₂ := ofL td M b j)))
    · rw [gaL_f h, ofL_f h]
      exact ga_of j
theorem ga_len : (gaL td M b n).length = (ofL td M b n).length := (ga_of n).length_eq
theorem ga_nodup : (gaL td M b n).Nodup := (gaL_srt n).imp (fun {a c} h e => by subst e; exact bh_irr h)
theorem fit_perm {p : Nat → Int} {s : Nat → Nat} {c : Nat → Bool} {S T : List Nat} {rm : Nat → Int} {bud : Int} (h : S.Perm T) (hf : fitI p s c S rm bud) : fitI p s c T rm bud := by
  refine ⟨fun ⟨i, i1, i2⟩ => ?_, fun o ⟨i, i1, i2, i3⟩ => ?_⟩
  · rw [← sumC_perm c p h]; exact hf.1 ⟨i, h.mem_iff.mpr i1, i2⟩
  · rw [← sumC_perm (cS s c o) p h]; exact hf.2 o ⟨i, h.mem_iff.mpr i1, i2, i3⟩
theorem fit_congr {p : Nat → Int} {s : Nat → Nat} {c c' : Nat → Bool} {T : List Nat} {rm rm' : Nat → Int} {bud : Int} (hc : ∀ i ∈ T, c i = c' i) (hr : ∀ i ∈ T, rm (s i) = rm' (s i)) (hf : fitI p s c T rm bud) : fitI p s c' T rm' bud := by
  refine ⟨fun ⟨i, i1, i2⟩ => ?_, fun o ⟨i, i1, i2, i3⟩ => ?_⟩
  · rw [← sumC_congr p hc]; exact hf.1 ⟨i, i1, (hc i i1).trans i2⟩
  · rw [← sumC_congr p (c := cS s c o) (c' := cS s c' o) (fun j hj => by show (_ && _) = (_ && _); rw [hc j hj]), ← i3, ← hr i i1]
    exact hf.2 (s i) ⟨i, i1, (hc i i1).trans i2, rfl⟩
theorem toS_I (h30 : (gaL td M b n).length ≤ 30) (hrg : ∀ i ∈ gaL td M b n, 0 ≤ dI td M i ∧ dI td M i ≤ 500000) : ∀ j, j ≤ (gaL td M b n).length → (toS td M (ix (gaL td M b n)) j).toInt = sumC (fun _ => true) (dI td M) ((gaL td M b n).take j)
  | 0, _ => rfl
  | j + 1, hj => by
    have hlt : j < (gaL td M b n).length := by omega
    have ih := toS_I h30 hrg j (by omega)
    have hr := hrg _ (ix_mem hlt)
    have hdI : dI td M (ix (gaL td M b n) j) = (disc td M (ix (gaL td M b n) j)).toInt := rfl
    have q1 := sumC_nn (c := fun _ => true) (f := dI td M) (T := (gaL td M b n).take j) (fun i hi => (hrg i (List.mem_of_mem_take hi)).1)
    have q2 := sumC_le (c := fun _ => true) (f := dI td M) (K := 500000) (by omega) (T := (gaL td M b n).take j) (fun i hi => hrg i (List.mem_of_mem_take hi))
    have hlen : (((gaL td M b n).take j).length : Int) ≤ 30 := by rw [List.length_take]; omega
    rw [take_ix hlt, sumC_app, sumC_one, if_pos rfl, toS, i32_add (by omega) (by omega)]
    omega
/-- the class's greatest sum is the reference's -/
theorem most_eq {rm : Nat → Int32} (hok : ∀ j, j < n → okP M j) (h12 : (gaL td M b n).length ≤ 12) (hrg : ∀ i ∈ gaL td M b n, 0 ≤ dI td M i ∧ dI td M i ≤ 500000 ∧ 0 ≤ pI td M i ∧ pI td M i ≤ 1000000) :
    bfS td M (ix (gaL td M b n)) (gaL td M b n).length 0 (mrm td n M b rm 8) (M 11 b) (toS td M (ix (gaL td M b n)) (gaL td M b n).length) = bmS (brR td n M b (ofL td M b n) (fun _ => 0)) (2 ^ (ofL td M b n).length - 1) := by
  have hp := ga_of (td := td) (M := M) (b := b) n
  have hpO : ∀ i ∈ ofL td M b n, i ∈ gaL td M b n := fun i hi => hp.mem_iff.mpr hi
  have hO12 : (ofL td M b n).length ≤ 12 := by rw [← ga_len]; exact h12
  have hrgO : ∀ i ∈ ofL td M b n, 0 ≤ dI td M i ∧ dI td M i ≤ 500000 ∧ 0 ≤ pI td M i ∧ pI td M i ≤ 1000000 := fun i hi => hrg i (hpO i hi)
  have hlo : ∀ i ∈ gaL td M b n, (mrm td n M b rm 8 (su M i)).toInt = (loM td M b (su M i) n).toInt := fun i hi => by
    rw [mrm_at, if_pos (hok _ (gaL_lt hi)).2.2.2]
  have e1 := bf_I (td := td) (M := M) (L := gaL td M b n) (by omega) (fun i hi => ⟨(hrg i hi).1, (hrg i hi).2.1, (hrg i hi).2.2.1⟩) (gaL td M b n).length 0 (by omega) (mrm td n M b rm 8) (M 11 b) (toS td M (ix (gaL td M b n)) (gaL td M b n).length) (by
    rw [toS_I (by omega) (fun i hi => ⟨(hrg i hi).1, (hrg i hi).2.1⟩) _ (Nat.le_refl _), List.take_length]; rfl)
  rw [show (gaL td M b n).drop 0 = gaL td M b n from rfl] at e1
  have hpow : 1 ≤ 2 ^ (ofL td M b n).length := Nat.one_le_two_pow
  have hndO : (ofL td M b n).Nodup := hp.nodup_iff.mp ga_nodup
  apply Int32.toInt_inj.mp
  apply Int.le_antisymm
  · obtain ⟨c, hf, hs⟩ := bI_A2 (p := pI td M) (d := dI td M) (s := su M) (T := gaL td M b n) (rm := fun o => (mrm td n M b rm 8 o).toInt) (bud := (M 11 b).toInt) ga_nodup (fun i hi => (hrg i hi).2.2.1)
    rw [e1, ← hs]
    by_cases hex : ∃ i, i ∈ ofL td M b n ∧ c i = true
    · have hv := encV_bit (fun k => c (ix (ofL td M b n) k)) (ofL td M b n).length
      have hvl := encV_lt (fun k => c (ix (ofL td M b n) k)) (ofL td M b n).length
      have hc9 : ∀ k, k < (ofL td M b n).length → c (ix (ofL td M b n) k) = (encV (fun k => c (ix (ofL td M b n) k)) (ofL td M b n).length).testBit k := fun k hk => (hv k hk).symm
      have hfO := fit_perm hp (fit_congr (c' := c) (rm' := fun o => (loM td M b o n).toInt) (fun _ _ => rfl) hlo hf)
      have hr := (brR_I (td := td) (n := n) (b := b) hO12 hc9 hrgO hex).1 hfO
      rw [sumC_perm c (dI td M) hp, ← hr]
      refine bmS_ge _ _ _ ?_ (by omega)
      rcases Nat.eq_zero_or_pos (encV (fun k => c (ix (ofL td M b n) k)) (ofL td M b n).length) with h0 | h0
      · obtain ⟨i, i1, i2⟩ := hex
        obtain ⟨k, hk, e⟩ := mem_ix i1
        have h9 := hc9 k hk
        rw [h0, Nat.zero_testBit, ← e, i2] at h9
        cases h9
      · exact h0
    · rw [sumC_perm c (dI td M) hp, sumC_no (fun j hj q => hex ⟨j, hj, q⟩)]
      exact bmS_nn _ _
  · rw [e1]
    rcases bmS_or (brR td n M b (ofL td M b n) (fun _ => 0)) (2 ^ (ofL td M b n).length - 1) with h | ⟨u, u1, u2, h⟩
    · rw [h]; exact bI_nn
    · rw [h]
      obtain ⟨c, hc⟩ : ∃ c : Nat → Bool, ∀ k, k < (ofL td M b n).length → c (ix (ofL td M b n) k) = u.testBit k := by
        refine ⟨fun x => @decide (∃ k, k < (ofL td M b n).length ∧ ix (ofL td M b n) k = x ∧ u.testBit k = true) (Classical.propDecidable _), fun k hk => ?_⟩
        apply Bool.eq_iff_iff.mpr
        rw [@decide_eq_true_iff _ (Classical.propDecidable _)]
        constructor
        · rintro ⟨m, m1, m2, m3⟩
          have e9 : m = k := by
            have a1 := (ix_at m1)
            have a2 := (ix_at hk)
            rw [m2] at a1
            exact (List.getElem?_inj m1 hndO).mp (a1.trans a2.symm)
          rw [← e9]; exact m3
        · intro q; exact ⟨k, hk, rfl, q⟩
      have hex : ∃ i, i ∈ ofL td M b n ∧ c i = true := by
        refine Classical.byContradiction (fun hno => ?_)
        have hz : u = 0 := by
          apply Nat.eq_of_testBit_eq
          intro k
          rw [Nat.zero_testBit]
          by_cases hk : k < (ofL td M b n).length
          · rw [← hc k hk]
            exact Bool.eq_false_iff.mpr (fun q => hno ⟨_, ix_mem hk, q⟩)
          · exact Nat.testBit_lt_two_pow (Nat.lt_of_lt_of_le (by omega : u < 2 ^ (ofL td M b n).length) (Nat.pow_le_pow_right (by decide) (by omega)))
        omega
      have hr := brR_I (td := td) (n := n) (b := b) hO12 hc hrgO hex
      by_cases hf : fitI (pI td M) (su M) c (ofL td M b n) (fun o => (loM td M b o n).toInt) (M 11 b).toInt
      · rw [hr.1 hf, ← sumC_perm c (dI td M) hp]
        exact bI_A1 (fun i hi => (hrg i hi).2.2.1) (fit_congr (c := c) (rm := fun o => (loM td M b o n).toInt) (fun _ _ => rfl) (fun i hi => (hlo i hi).symm) (fit_perm hp.symm hf))
      · rw [hr.2 hf]
        have := bI_nn (p := pI td M) (d := dI td M) (s := su M) (T := gaL td M b n) (rm := fun o => (mrm td n M b rm 8 o).toInt) (bud := (M 11 b).toInt)
        omega
end ME
