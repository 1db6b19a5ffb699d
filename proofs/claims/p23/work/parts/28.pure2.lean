/-! Pure: the greatest sum of discounts, by branch and bound and by all sets -/
theorem i32_add {a b : Int32} (h1 : -2147483648 ≤ a.toInt + b.toInt) (h2 : a.toInt + b.toInt < 2147483648) : (a + b).toInt = a.toInt + b.toInt := by
  rw [Int32.toInt_add]
  exact Int.bmod_eq_of_le (by omega) (by omega)
theorem i32_sub {a b : Int32} (h1 : -2147483648 ≤ a.toInt - b.toInt) (h2 : a.toInt - b.toInt < 2147483648) : (a - b).toInt = a.toInt - b.toInt := by
  rw [Int32.toInt_sub]
  exact Int.bmod_eq_of_le (by omega) (by omega)
theorem i32_b (a : Int32) : -2147483648 ≤ a.toInt ∧ a.toInt < 2147483648 := ⟨by have := Int32.le_toInt a; omega, by have := Int32.toInt_lt a; omega⟩
/-- the sum over the chosen -/
def sumC (c : Nat → Bool) (f : Nat → Int) : List Nat → Int
  | [] => 0
  | i :: T => (if c i = true then f i else 0) + sumC c f T
theorem sumC_app (c : Nat → Bool) (f : Nat → Int) : ∀ S T, sumC c f (S ++ T) = sumC c f S + sumC c f T
  | [], T => by simp [sumC]
  | i :: S, T => by simp only [List.cons_append, sumC, sumC_app c f S T]; omega
theorem sumC_perm (c : Nat → Bool) (f : Nat → Int) {S T : List Nat} (h : S.Perm T) : sumC c f S = sumC c f T := by
  induction h with
  | nil => rfl
  | cons x _ ih => simp only [sumC, ih]
  | swap x y l => simp only [sumC]; omega
  | trans _ _ ih1 ih2 => exact ih1.trans ih2
theorem sumC_congr {c c' : Nat → Bool} (f : Nat → Int) : ∀ {T : List Nat}, (∀ i ∈ T, c i = c' i) → sumC c f T = sumC c' f T
  | [], _ => rfl
  | i :: T, h => by simp only [sumC, h i (by simp), sumC_congr f (T := T) (fun j hj => h j (List.mem_cons_of_mem _ hj))]
theorem sumC_nn {c : Nat → Bool} {f : Nat → Int} : ∀ {T : List Nat}, (∀ i ∈ T, 0 ≤ f i) → 0 ≤ sumC c f T
  | [], _ => by simp [sumC]
  | i :: T, h => by
    have h1 := h i (by simp)
    have h2 := sumC_nn (c := c) (T := T) (fun j hj => h j (List.mem_cons_of_mem _ hj))
    simp only [sumC]
    split <;> omega
theorem sumC_le {c : Nat → Bool} {f : Nat → Int} {K : Int} (hK : 0 ≤ K) : ∀ {T : List Nat}, (∀ i ∈ T, 0 ≤ f i ∧ f i ≤ K) → sumC c f T ≤ K * T.length
  | [], _ => by simp [sumC]
  | i :: T, h => by
    have h1 := h i (by simp)
    have h2 := sumC_le (c := c) hK (T := T) (fun j hj => h j (List.mem_cons_of_mem _ hj))
    have e : K * ((i :: T).length : Nat) = K * T.length + K := by rw [List.length_cons]; push_cast; rw [Int.mul_add, Int.mul_one]
    rw [e]
    simp only [sumC]
    split <;> omega
theorem sumC_no {c : Nat → Bool} {f : Nat → Int} : ∀ {T : List Nat}, (∀ i ∈ T, ¬ c i = true) → sumC c f T = 0
  | [], _ => rfl
  | i :: T, h => by
    simp only [sumC, if_neg (h i (by simp)), sumC_no (T := T) (fun j hj => h j (List.mem_cons_of_mem _ hj))]
    rfl
section BI
variable (p d : Nat → Int) (s : Nat → Nat)
def updI (r : Nat → Int) (o : Nat) (x : Int) : Nat → Int := fun q => if q = o then x else r q
abbrev cS (c : Nat → Bool) (o : Nat) : Nat → Bool := fun i => c i && decide (s i = o)
/-- what is chosen fits -/
def fitI (c : Nat → Bool) (T : List Nat) (rm : Nat → Int) (bud : Int) : Prop := ((∃ i, i ∈ T ∧ c i = true) → sumC c p T ≤ bud) ∧ ∀ o, (∃ i, i ∈ T ∧ c i = true ∧ s i = o) → sumC (cS s c o) p T ≤ rm o
def bI : List Nat → (Nat → Int) → Int → Int
  | [], _, _ => 0
  | i :: T, rm, bud =>
    if (if p i ≤ bud ∧ p i ≤ rm (s i) then d i + bI T (updI rm (s i) (rm (s i) - p i)) (bud - p i) else 0) < bI T rm bud then bI T rm bud
    else (if p i ≤ bud ∧ p i ≤ rm (s i) then d i + bI T (updI rm (s i) (rm (s i) - p i)) (bud - p i) else 0)
variable {p d s}
theorem bI_le1 {i : Nat} {T : List Nat} {rm : Nat → Int} {bud : Int} : bI p d s T rm bud ≤ bI p d s (i :: T) rm bud := by
  simp only [bI]
  split <;> omega
theorem bI_le2 {i : Nat} {T : List Nat} {rm : Nat → Int} {bud : Int} (h : p i ≤ bud ∧ p i ≤ rm (s i)) : d i + bI p d s T (updI rm (s i) (rm (s i) - p i)) (bud - p i) ≤ bI p d s (i :: T) rm bud := by
  simp only [bI, if_pos h]
  split <;> omega
theorem bI_nn : ∀ {T : List Nat} {rm : Nat → Int} {bud : Int}, 0 ≤ bI p d s T rm bud
  | [], _, _ => by simp [bI]
  | i :: T, rm, bud => Int.le_trans (bI_nn (T := T)) bI_le1
theorem bI_up : ∀ {T : List Nat} {rm : Nat → Int} {bud : Int}, (∀ i ∈ T, 0 ≤ d i) → bI p d s T rm bud ≤ sumC (fun _ => true) d T
  | [], _, _, _ => by simp [bI, sumC]
  | i :: T, rm, bud, h => by
    have h0 := h i (by simp)
    have hT : ∀ j ∈ T, 0 ≤ d j := fun j hj => h j (List.mem_cons_of_mem _ hj)
    have h1 := bI_up (T := T) (rm := rm) (bud := bud) hT
    have h2 := bI_up (T := T) (rm := updI rm (s i) (rm (s i) - p i)) (bud := bud - p i) hT
    have h3 : 0 ≤ sumC (fun _ => true) d T := sumC_nn hT
    simp only [bI, sumC, if_true]
    split
    · omega
    · split <;> omega
theorem cS_t {c : Nat → Bool} {o i : Nat} : cS s c o i = true ↔ c i = true ∧ s i = o := by simp [cS]
theorem bI_A1 : ∀ {T : List Nat} {c : Nat → Bool} {rm : Nat → Int} {bud : Int}, (∀ i ∈ T, 0 ≤ p i) → fitI p s c T rm bud → sumC c d T ≤ bI p d s T rm bud
  | [], _, _, _, _, _ => by simp [sumC, bI]
  | i :: T, c, rm, bud, hp, hf => by
    have h0 := hp i (by simp)
    have hT : ∀ j ∈ T, 0 ≤ p j := fun j hj => hp j (List.mem_cons_of_mem _ hj)
    by_cases hc : c i = true
    · have h1 := hf.1 ⟨i, by simp, hc⟩
      have h2 := hf.2 (s i) ⟨i, by simp, hc, rfl⟩
      have hcs : cS s c (s i) i = true := cS_t.mpr ⟨hc, rfl⟩
      simp only [sumC, if_pos hc] at h1
      simp only [sumC, if_pos hcs] at h2
      have n1 : 0 ≤ sumC c p T := sumC_nn hT
      have n2 : 0 ≤ sumC (cS s c (s i)) p T := sumC_nn hT
      have hcond : p i ≤ bud ∧ p i ≤ rm (s i) := ⟨by omega, by omega⟩
      have ih := bI_A1 (T := T) (c := c) (rm := updI rm (s i) (rm (s i) - p i)) (bud := bud - p i) hT ⟨fun _ => by omega, fun o ho => by
        by_cases h9 : o = s i
        · subst h9
          simp only [updI, if_true]
          omega
        · simp only [updI, if_neg h9]
          obtain ⟨j, j1, j2, j3⟩ := ho
          have h3 := hf.2 o ⟨j, List.mem_cons_of_mem _ j1, j2, j3⟩
          have hcn : ¬ cS s c o i = true := fun q => h9 (cS_t.mp q).2.symm
          simp only [sumC, if_neg hcn] at h3
          omega⟩
      have h4 := bI_le2 (d := d) (T := T) hcond
      simp only [sumC, if_pos hc]
      omega
    · have ih := bI_A1 (T := T) (c := c) (rm := rm) (bud := bud) hT ⟨fun ⟨j, j1, j2⟩ => by
        have h3 := hf.1 ⟨j, List.mem_cons_of_mem _ j1, j2⟩
        simp only [sumC, if_neg hc] at h3
        omega, fun o ⟨j, j1, j2, j3⟩ => by
        have h3 := hf.2 o ⟨j, List.mem_cons_of_mem _ j1, j2, j3⟩
        have hcn : ¬ cS s c o i = true := fun q => hc (cS_t.mp q).1
        simp only [sumC, if_neg hcn] at h3
        omega⟩
      have h4 := bI_le1 (p := p) (d := d) (s := s) (i := i) (T := T) (rm := rm) (bud := bud)
      simp only [sumC, if_neg hc]
      omega
theorem bI_eq {i : Nat} {T : List Nat} {rm : Nat → Int} {bud : Int} : bI p d s (i :: T) rm bud = if (if p i ≤ bud ∧ p i ≤ rm (s i) then d i + bI p d s T (updI rm (s i) (rm (s i) - p i)) (bud - p i) else 0) < bI p d s T rm bud then bI p d s T rm bud
    else (if p i ≤ bud ∧ p i ≤ rm (s i) then d i + bI p d s T (updI rm (s i) (rm (s i) - p i)) (bud - p i) else 0) := rfl
/-- one choice more -/
def setB (c : Nat → Bool) (i : Nat) (v : Bool) : Nat → Bool := fun x => if x = i then v else c x
theorem setB_s {c : Nat → Bool} {i : Nat} {v : Bool} : setB c i v i = v := if_pos rfl
theorem setB_n {c : Nat → Bool} {i j : Nat} {v : Bool} (h : j ≠ i) : setB c i v j = c j := if_neg h
theorem sumC_eq {c : Nat → Bool} {f : Nat → Int} {i : Nat} {T : List Nat} : sumC c f (i :: T) = (if c i = true then f i else 0) + sumC c f T := rfl
theorem bI_A2 : ∀ {T : List Nat} {rm : Nat → Int} {bud : Int}, T.Nodup → (∀ i ∈ T, 0 ≤ p i) → ∃ c : Nat → Bool, fitI p s c T rm bud ∧ sumC c d T = bI p d s T rm bud
  | [], rm, bud, _, _ => ⟨fun _ => false, ⟨fun ⟨_, h, _⟩ => absurd h (by simp), fun o ⟨_, h, _⟩ => absurd h (by simp)⟩, rfl⟩
  | i :: T, rm, bud, hnd, hp => by
    have h0 := hp i (by simp)
    have hT : ∀ j ∈ T, 0 ≤ p j := fun j hj => hp j (List.mem_cons_of_mem _ hj)
    obtain ⟨hi, hnd'⟩ := List.nodup_cons.mp hnd
    by_cases hlt : (if p i ≤ bud ∧ p i ≤ rm (s i) then d i + bI p d s T (updI rm (s i) (rm (s i) - p i)) (bud - p i) else 0) < bI p d s T rm bud
    · obtain ⟨c, hf, hs⟩ := bI_A2 (T := T) (rm := rm) (bud := bud) hnd' hT
      have e : ∀ j ∈ T, setB c i false j = c j := fun j hj => setB_n (fun q => hi (by rw [← q]; exact hj))
      have hci : ¬ setB c i false i = true := by rw [setB_s]; decide
      refine ⟨setB c i false, ⟨fun hx => ?_, fun o hx => ?_⟩, ?_⟩
      · obtain ⟨j, j1, j2⟩ := hx
        rcases List.mem_cons.mp j1 with rfl | j1
        · exact absurd j2 hci
        · have h3 := hf.1 ⟨j, j1, by rw [← e j j1]; exact j2⟩
          rw [sumC_eq, if_neg hci, sumC_congr p e]
          omega
      · obtain ⟨j, j1, j2, j3⟩ := hx
        rcases List.mem_cons.mp j1 with rfl | j1
        · exact absurd j2 hci
        · have h3 := hf.2 o ⟨j, j1, by rw [← e j j1]; exact j2, j3⟩
          have hcn : ¬ cS s (setB c i false) o i = true := fun q => hci (cS_t.mp q).1
          have e2 : ∀ j ∈ T, cS s (setB c i false) o j = cS s c o j := fun j hj => by show (_ && _) = (_ && _); rw [e j hj]
          rw [sumC_eq, if_neg hcn, sumC_congr p e2]
          omega
      · rw [sumC_eq, if_neg hci, sumC_congr d e, hs, bI_eq, if_pos hlt]
        omega
    · by_cases hcond : p i ≤ bud ∧ p i ≤ rm (s i)
      · obtain ⟨c, hf, hs⟩ := bI_A2 (T := T) (rm := updI rm (s i) (rm (s i) - p i)) (bud := bud - p i) hnd' hT
        have e : ∀ j ∈ T, setB c i true j = c j := fun j hj => setB_n (fun q => hi (by rw [← q]; exact hj))
        have hci : setB c i true i = true := setB_s
        refine ⟨setB c i true, ⟨fun _ => ?_, fun o hx => ?_⟩, ?_⟩
        · rw [sumC_eq, if_pos hci, sumC_congr p e]
          by_cases hex : ∃ j, j ∈ T ∧ c j = true
          · have h3 := hf.1 hex
            omega
          · rw [sumC_no (fun j hj q => hex ⟨j, hj, q⟩)]
            omega
        · have e2 : ∀ j ∈ T, cS s (setB c i true) o j = cS s c o j := fun j hj => by show (_ && _) = (_ && _); rw [e j hj]
          rw [sumC_eq, sumC_congr p e2]
          by_cases h9 : o = s i
          · subst h9
            have hcs : cS s (setB c i true) (s i) i = true := cS_t.mpr ⟨hci, rfl⟩
            rw [if_pos hcs]
            by_cases hex : ∃ j, j ∈ T ∧ c j = true ∧ s j = s i
            · have h3 := hf.2 (s i) hex
              simp only [updI, if_true] at h3
              omega
            · rw [sumC_no (fun j hj q => hex ⟨j, hj, cS_t.mp q⟩)]
              omega
          · have hcs : ¬ cS s (setB c i true) o i = true := fun q => h9 (cS_t.mp q).2.symm
            rw [if_neg hcs]
            obtain ⟨j, j1, j2, j3⟩ := hx
            rcases List.mem_cons.mp j1 with rfl | j1
            · exact absurd j3.symm h9
            · have h3 := hf.2 o ⟨j, j1, by rw [← e j j1]; exact j2, j3⟩
              simp only [updI, if_neg h9] at h3
              omega
        · rw [sumC_eq, if_pos hci, sumC_congr d e, hs, bI_eq, if_neg hlt, if_pos hcond]
      · refine ⟨fun _ => false, ⟨fun ⟨_, _, h⟩ => absurd h (by simp), fun o ⟨_, _, h, _⟩ => absurd h (by simp)⟩, ?_⟩
        rw [sumC_no (fun j _ q => absurd q (by simp))]
        rw [bI_eq, if_neg hlt, if_neg hcond]
end BI
section BF
variable {td : Int32} {M : Nat → Nat → Int32} {b n : Nat} {L : List Nat}
abbrev dI (td : Int32) (M : Nat → Nat → Int32) (i : Nat) : Int := (disc td M i).toInt
abbrev pI (td : Int32) (M : Nat → Nat → Int32) (i : Nat) : Int := (price td M i).toInt
theorem bf_I (h30 : L.length ≤ 30) (hrg : ∀ i ∈ L, 0 ≤ dI td M i ∧ dI td M i ≤ 500000 ∧ 0 ≤ pI td M i) : ∀ (k pl : Nat), pl + k = L.length → ∀ (rm : Nat → Int32) (bud tog : Int32), tog.toInt = sumC (fun _ => true) (dI td M) (L.drop pl) →
    (bfS td M (ix L) k pl rm bud tog).toInt = bI (pI td M) (dI td M) (su M) (L.drop pl) (fun o => (rm o).toInt) bud.toInt
  | 0, pl, hpl, rm, bud, tog, _ => by
    rw [List.drop_eq_nil_of_le (by omega)]
    rfl
  | k + 1, pl, hpl, rm, bud, tog, ht => by
    have hlt : pl < L.length := by omega
    have e : L.drop pl = ix L pl :: L.drop (pl + 1) := by
      rw [List.drop_eq_getElem_cons hlt]
      congr 1
      exact Option.some.inj ((List.getElem?_eq_getElem hlt).symm.trans (ix_at hlt))
    have hr := hrg _ (ix_mem hlt)
    have hdI : dI td M (ix L pl) = (disc td M (ix L pl)).toInt := rfl
    have hpI : pI td M (ix L pl) = (price td M (ix L pl)).toInt := rfl
    have hrT : ∀ i ∈ L.drop (pl + 1), 0 ≤ dI td M i ∧ dI td M i ≤ 500000 := fun i hi => ⟨(hrg i (List.mem_of_mem_drop hi)).1, (hrg i (List.mem_of_mem_drop hi)).2.1⟩
    have hS0 : 0 ≤ sumC (fun _ => true) (dI td M) (L.drop (pl + 1)) := sumC_nn (fun i hi => (hrT i hi).1)
    have hS1 := sumC_le (c := fun _ => true) (f := dI td M) (K := 500000) (by omega) (T := L.drop (pl + 1)) hrT
    have hlen : ((L.drop (pl + 1)).length : Int) ≤ 30 := by rw [List.length_drop]; omega
    rw [e] at ht
    simp only [sumC, if_true] at ht
    have hbh : (tog - disc td M (ix L pl)).toInt = sumC (fun _ => true) (dI td M) (L.drop (pl + 1)) := by
      rw [i32_sub (by omega) (by omega)]; omega
    have ih1 := bf_I h30 hrg k (pl + 1) (by omega) rm bud _ hbh
    have u1 := bI_up (p := pI td M) (d := dI td M) (s := su M) (T := L.drop (pl + 1)) (rm := fun o => (rm o).toInt) (bud := bud.toInt) (fun i hi => (hrT i hi).1)
    have hcv : (bfC td M (ix L pl) rm bud (bfS td M (ix L) k (pl + 1) (upd rm (su M (ix L pl)) (rm (su M (ix L pl)) - price td M (ix L pl))) (bud - price td M (ix L pl)) (tog - disc td M (ix L pl)))).toInt = (if pI td M (ix L pl) ≤ bud.toInt ∧ pI td M (ix L pl) ≤ (rm (su M (ix L pl))).toInt then dI td M (ix L pl) + bI (pI td M) (dI td M) (su M) (L.drop (pl + 1)) (updI (fun o => (rm o).toInt) (su M (ix L pl)) ((rm (su M (ix L pl))).toInt - pI td M (ix L pl))) (bud.toInt - pI td M (ix L pl)) else 0) := by
      have bb := i32_b bud
      have br := i32_b (rm (su M (ix L pl)))
      by_cases hc : ¬ bud < price td M (ix L pl) ∧ ¬ rm (su M (ix L pl)) < price td M (ix L pl)
      · have hc2 : pI td M (ix L pl) ≤ bud.toInt ∧ pI td M (ix L pl) ≤ (rm (su M (ix L pl))).toInt := by
          rw [i32_lt, i32_lt] at hc; exact ⟨by omega, by omega⟩
        have eb : (bud - price td M (ix L pl)).toInt = bud.toInt - pI td M (ix L pl) := i32_sub (by omega) (by omega)
        have er : (fun o => (upd rm (su M (ix L pl)) (rm (su M (ix L pl)) - price td M (ix L pl)) o).toInt) = updI (fun o => (rm o).toInt) (su M (ix L pl)) ((rm (su M (ix L pl))).toInt - pI td M (ix L pl)) := by
          funext o
          by_cases h9 : o = su M (ix L pl)
          · subst h9
            simp only [upd, updI, if_true]
            exact i32_sub (by omega) (by omega)
          · simp only [upd, updI, if_neg h9]
        have ih2 := bf_I h30 hrg k (pl + 1) (by omega) (upd rm (su M (ix L pl)) (rm (su M (ix L pl)) - price td M (ix L pl))) (bud - price td M (ix L pl)) _ hbh
        rw [er, eb] at ih2
        have u2 := bI_up (p := pI td M) (d := dI td M) (s := su M) (T := L.drop (pl + 1)) (rm := updI (fun o => (rm o).toInt) (su M (ix L pl)) ((rm (su M (ix L pl))).toInt - pI td M (ix L pl))) (bud := bud.toInt - pI td M (ix L pl)) (fun i hi => (hrT i hi).1)
        have u3 := bI_nn (p := pI td M) (d := dI td M) (s := su M) (T := L.drop (pl + 1)) (rm := updI (fun o => (rm o).toInt) (su M (ix L pl)) ((rm (su M (ix L pl))).toInt - pI td M (ix L pl))) (bud := bud.toInt - pI td M (ix L pl))
        rw [bfC_t hc, if_pos hc2, i32_add (by rw [ih2]; omega) (by rw [ih2]; omega), ih2]
      · have hc2 : ¬ (pI td M (ix L pl) ≤ bud.toInt ∧ pI td M (ix L pl) ≤ (rm (su M (ix L pl))).toInt) := fun q => hc (by
          rw [i32_lt, i32_lt]; exact ⟨by omega, by omega⟩)
        rw [bfC_f hc, if_neg hc2]
        rfl
    rw [e]
    simp only [bI, ← hcv, ← ih1]
    rw [bfS]
    by_cases h1 : bfC td M (ix L pl) rm bud (bfS td M (ix L) k (pl + 1) (upd rm (su M (ix L pl)) (rm (su M (ix L pl)) - price td M (ix L pl))) (bud - price td M (ix L pl)) (tog - disc td M (ix L pl))) < tog - disc td M (ix L pl)
    · rw [if_pos h1]
      by_cases h2 : bfC td M (ix L pl) rm bud (bfS td M (ix L) k (pl + 1) (upd rm (su M (ix L pl)) (rm (su M (ix L pl)) - price td M (ix L pl))) (bud - price td M (ix L pl)) (tog - disc td M (ix L pl))) < bfS td M (ix L) k (pl + 1) rm bud (tog - disc td M (ix L pl))
      · rw [if_pos h2, if_pos (i32_lt.mp h2)]
      · rw [if_neg h2, if_neg (fun q => h2 (i32_lt.mpr q))]
    · rw [if_neg h1, if_neg (fun q => ?_)]
      rw [i32_lt] at h1
      omega
end BF
