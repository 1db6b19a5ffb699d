/-! The sums that the law keeps; its arrays -/
/-- what was held back of a pair's bills -/
def hsS (M : Nat → Nat → Int32) (p : Nat) : Nat → Int32
  | 0 => 0
  | j + 1 => hsS M p j + (if pr M j = p then M 9 j else 0)
/-- the prices of a pair's bills that count -/
def usS (td : Int32) (M : Nat → Nat → Int32) (p : Nat) : Nat → Int32
  | 0 => 0
  | j + 1 => usS td M p j + (if pr M j = p ∧ M 6 j = 3 ∧ ¬ M 5 j ≤ td then M 8 j else 0)
section SU
variable {n : Nat} {td : Int32} {M N : Nat → Nat → Int32}
theorem hsS_t {p j : Nat} (h : pr M j = p) : hsS M p (j + 1) = hsS M p j + M 9 j := by rw [hsS, if_pos h]
theorem hsS_f {p j : Nat} (h : ¬ pr M j = p) : hsS M p (j + 1) = hsS M p j + 0 := by rw [hsS, if_neg h]
theorem usS_t {p j : Nat} (h : pr M j = p ∧ M 6 j = 3 ∧ ¬ M 5 j ≤ td) : usS td M p (j + 1) = usS td M p j + M 8 j := by rw [usS, if_pos h]
theorem usS_f {p j : Nat} (h : ¬ (pr M j = p ∧ M 6 j = 3 ∧ ¬ M 5 j ≤ td)) : usS td M p (j + 1) = usS td M p j + 0 := by rw [usS, if_neg h]
theorem pr_same {i : Nat} (h2 : N 2 = M 2) (h3 : N 3 = M 3) : pr N i = pr M i := by unfold pr bu su; rw [h2, h3]
theorem su_of {i o : Nat} (ho : o < 8) (h : M 3 i = nI o) : su M i = o := by
  unfold su
  rw [h]
  exact nI_clamp (by omega)
theorem pr_iff {i b o : Nat} (h : okP M i) (hb : b < 4) (ho : o < 8) : pr M i = 8 * b + o ↔ M 2 i = nI b ∧ M 3 i = nI o := by
  constructor
  · intro q
    unfold pr at q
    have h8 := h.2.2.2
    have e1 : bu M i = b := by omega
    have e2 : su M i = o := by omega
    have h1 := h.1
    have h3 := h.2.2.1
    rw [e1] at h1
    rw [e2] at h3
    exact ⟨h1, h3⟩
  · rintro ⟨q1, q2⟩
    unfold pr
    rw [bu_of hb q1, su_of ho q2]
/-- what is left of a limit -/
theorem lo_us {b o : Nat} (hok : ∀ j, j < n → okP M j) (hb : b < 4) (ho : o < 8) : ∀ k, k ≤ n → loM td M b o k = M 12 (8 * b + o) - usS td M (8 * b + o) k
  | 0, _ => by
    show M 12 (8 * b + o) = M 12 (8 * b + o) - 0
    rw [Int32.sub_zero]
  | k + 1, hk => by
    have ih := lo_us hok hb ho k (by omega)
    have hi := pr_iff (hok k (by omega)) hb ho
    by_cases hc : cntM td M b o k
    · rw [loM_t hc, usS_t ⟨hi.mpr ⟨hc.1, hc.2.1⟩, hc.2.2⟩, ih]
      simp only [Int32.sub_eq_add_neg, Int32.neg_add, Int32.add_assoc]
    · rw [loM_f hc, usS_f (fun q => hc ⟨(hi.mp q.1).1, (hi.mp q.1).2, q.2⟩), ih, Int32.sub_zero, Int32.add_zero]
theorem hs_same {p : Nat} : ∀ k, (∀ j, j < k → pr N j = pr M j ∧ N 9 j = M 9 j) → hsS N p k = hsS M p k
  | 0, _ => rfl
  | k + 1, h => by
    have ih := hs_same (p := p) k (fun j hj => h j (by omega))
    have q := h k (by omega)
    show hsS N p k + (if pr N k = p then N 9 k else 0) = hsS M p k + (if pr M k = p then M 9 k else 0)
    rw [ih, q.1, q.2]
theorem hs_one {p j : Nat} {v : Int32} (h2 : N 2 = M 2) (h3 : N 3 = M 3) (h9 : N 9 = upd (M 9) j v) (hz : M 9 j = 0) : ∀ k, hsS N p k = hsS M p k + (if j < k ∧ pr M j = p then v else 0)
  | 0 => by
    rw [if_neg (fun q => absurd q.1 (Nat.not_lt_zero j))]
    rfl
  | k + 1 => by
    have ih := hs_one (p := p) h2 h3 h9 hz k
    show hsS N p k + (if pr N k = p then N 9 k else 0) = hsS M p k + (if pr M k = p then M 9 k else 0) + _
    rw [ih, pr_same h2 h3, h9]
    by_cases hk : k = j
    · subst hk
      rw [upd_e, hz, if_neg (fun q => absurd q.1 (Nat.lt_irrefl k))]
      by_cases hp : pr M k = p
      · rw [if_pos hp, if_pos hp, if_pos (⟨Nat.lt_succ_self k, hp⟩ : k < k + 1 ∧ pr M k = p), Int32.add_zero]
      · rw [if_neg hp, if_neg hp, if_neg (fun q => hp q.2 : ¬ (k < k + 1 ∧ pr M k = p))]
    · have e2 : (if j < k + 1 ∧ pr M j = p then v else 0) = (if j < k ∧ pr M j = p then v else 0) := by
        by_cases hc : j < k ∧ pr M j = p
        · rw [if_pos hc, if_pos ⟨by omega, hc.2⟩]
        · rw [if_neg hc, if_neg (fun q => hc ⟨by omega, q.2⟩)]
      rw [pk_un hk, e2]
      simp only [Int32.add_assoc]
      congr 1
      exact Int32.add_comm _ _
/-- a payment moves from the claim to what was held back -/
theorem hs_pay {j : Nat} {sm how : Int32} (hj : j < n) (hz : M 9 j = 0) (p : Nat) : payM M j sm how 13 p + hsS (payM M j sm how) p n = M 13 p + hsS M p n := by
  rw [hs_one (N := payM M j sm how) (payM_n _ _ _ _ (by decide) (by decide) (by decide) (by decide)) (payM_n _ _ _ _ (by decide) (by decide) (by decide) (by decide)) payM_9 hz, payM_13]
  by_cases e : p = pr M j
  · subst e
    rw [upd_e, if_pos ⟨hj, rfl⟩]
    have e1 : ∀ a b c : Int32, a - c + (b + c) = a + b := fun a b c => by
      rw [Int32.sub_eq_add_neg, Int32.add_assoc, Int32.add_comm b c, ← Int32.add_assoc (-c), Int32.add_left_neg, Int32.zero_add]
    exact e1 _ _ _
  · rw [pk_un e, if_neg (fun q => e q.2.symm), Int32.add_zero]
end SU
/-- the law's arrays: bills, states and rates, notes, what was noted, limits, budgets, number and day -/
def LR (td : Int32) (n : Nat) (M : Nat → Nat → Int32) (fb ft fn fm fl fu fg : Nat → Int32) : Prop := (∀ i, i < n → fb (2 * i) = nI (pr M i) ∧ fb (2 * i + 1) = M 5 i ∧ ft i = M 6 i ∧ ft (30 + i) = M 7 i ∧ fn i = M 10 i) ∧ (∀ p, p < 32 → fm p = M 13 p + hsS M p n) ∧ (∀ p, p < 32 → fl p = M 12 p) ∧ (∀ b, b < 4 → fu b = M 11 b) ∧ fg 0 = nI n ∧ fg 1 = td
section LRS
variable {s n : Nat} {td : Int32} {M N : Nat → Nat → Int32} {fb ft fn fm fl fu fg ft' fn' fm' fu' : Nat → Int32}
theorem LR.b0 (h : LR td n M fb ft fn fm fl fu fg) {i : Nat} (hi : i < n) : fb (2 * i) = nI (pr M i) := (h.1 i hi).1
theorem LR.b1 (h : LR td n M fb ft fn fm fl fu fg) {i : Nat} (hi : i < n) : fb (2 * i + 1) = M 5 i := (h.1 i hi).2.1
theorem LR.t0 (h : LR td n M fb ft fn fm fl fu fg) {i : Nat} (hi : i < n) : ft i = M 6 i := (h.1 i hi).2.2.1
theorem LR.t1 (h : LR td n M fb ft fn fm fl fu fg) {i : Nat} (hi : i < n) : ft (30 + i) = M 7 i := (h.1 i hi).2.2.2.1
theorem LR.n0 (h : LR td n M fb ft fn fm fl fu fg) {i : Nat} (hi : i < n) : fn i = M 10 i := (h.1 i hi).2.2.2.2
theorem LR.m (h : LR td n M fb ft fn fm fl fu fg) {p : Nat} (hp : p < 32) : fm p = M 13 p + hsS M p n := h.2.1 p hp
theorem LR.l (h : LR td n M fb ft fn fm fl fu fg) {p : Nat} (hp : p < 32) : fl p = M 12 p := h.2.2.1 p hp
theorem LR.u (h : LR td n M fb ft fn fm fl fu fg) {b : Nat} (hb : b < 4) : fu b = M 11 b := h.2.2.2.1 b hb
theorem LR.g0 (h : LR td n M fb ft fn fm fl fu fg) : fg 0 = nI n := h.2.2.2.2.1
theorem LR.g1 (h : LR td n M fb ft fn fm fl fu fg) : fg 1 = td := h.2.2.2.2.2
theorem LR.of (h : LR td n M fb ft fn fm fl fu fg) (h2 : N 2 = M 2) (h3 : N 3 = M 3) (h5 : N 5 = M 5) (h12 : N 12 = M 12) (h6 : ∀ i, i < n → ft' i = N 6 i ∧ ft' (30 + i) = N 7 i) (h10 : ∀ i, i < n → fn' i = N 10 i) (hm : ∀ p, p < 32 → fm' p = N 13 p + hsS N p n) (hu : ∀ b, b < 4 → fu' b = N 11 b) : LR td n N fb ft' fn' fm' fl fu' fg :=
  ⟨fun i hi => ⟨by rw [pr_same h2 h3]; exact h.b0 hi, by rw [h5]; exact h.b1 hi, (h6 i hi).1, (h6 i hi).2, h10 i hi⟩, hm, fun p hp => by rw [h12]; exact h.l hp, hu, h.2.2.2.2⟩
/-- the same table, other arrays that say the same -/
theorem LR.sft (h : LR td n M fb ft fn fm fl fu fg) (h6 : ∀ i, i < n → ft' i = M 6 i ∧ ft' (30 + i) = M 7 i) : LR td n M fb ft' fn fm fl fu fg := ⟨fun i hi => ⟨h.b0 hi, h.b1 hi, (h6 i hi).1, (h6 i hi).2, h.n0 hi⟩, h.2⟩
theorem LR.budget (h : LR td n M fb ft fn fm fl fu fg) {b : Nat} {y : Int32} : LR td n (up2 M 11 b y) fb ft fn fm fl (upd fu b y) fg := by
  refine h.of (up2_n _ _ (by decide)) (up2_n _ _ (by decide)) (up2_n _ _ (by decide)) (up2_n _ _ (by decide)) (fun i hi => ?_) (fun i hi => ?_) (fun p hp => ?_) (fun b' hb' => ?_)
  · rw [up2_ne _ _ _ _ (by decide), up2_ne _ _ _ _ (by decide)]; exact ⟨h.t0 hi, h.t1 hi⟩
  · rw [up2_ne _ _ _ _ (by decide)]; exact h.n0 hi
  · rw [up2_ne _ _ _ _ (by decide), hs_same (M := M) n (fun j hj => ⟨pr_same (up2_n _ _ (by decide)) (up2_n _ _ (by decide)), up2_ne _ _ _ _ (by decide)⟩)]; exact h.m hp
  · by_cases e : b' = b
    · subst e; rw [up2_e, upd_e]
    · rw [up2_j _ _ _ _ _ e, pk_un e]; exact h.u hb'
theorem LR.limit (h : LR td n M fb ft fn fm fl fu fg) {q : Nat} {y : Int32} : LR td n (up2 M 12 q y) fb ft fn fm (upd fl q y) fu fg := by
  refine ⟨fun i hi => ?_, fun p hp => ?_, fun p hp => ?_, fun b hb => ?_, h.2.2.2.2⟩
  · rw [pr_same (M := M) (up2_n _ _ (by decide)) (up2_n _ _ (by decide)), up2_ne _ _ _ _ (by decide), up2_ne _ _ _ _ (by decide), up2_ne _ _ _ _ (by decide), up2_ne _ _ _ _ (by decide)]; exact h.1 i hi
  · rw [up2_ne _ _ _ _ (by decide), hs_same (M := M) n (fun j hj => ⟨pr_same (up2_n _ _ (by decide)) (up2_n _ _ (by decide)), up2_ne _ _ _ _ (by decide)⟩)]; exact h.m hp
  · by_cases e : p = q
    · subst e; rw [up2_e, upd_e]
    · rw [up2_j _ _ _ _ _ e, pk_un e]; exact h.l hp
  · rw [up2_ne _ _ _ _ (by decide)]; exact h.u hb
/-- one number of a bill: its state, its rate, its amount -/
theorem LR.one (h : LR td n M fb ft fn fm fl fu fg) {f i : Nat} {v : Int32} (hf : f = 6 ∨ f = 7 ∨ f = 4) (h6 : ∀ j, j < n → ft' j = up2 M f i v 6 j ∧ ft' (30 + j) = up2 M f i v 7 j) : LR td n (up2 M f i v) fb ft' fn fm fl fu fg := by
  refine h.of (up2_n _ _ (by omega)) (up2_n _ _ (by omega)) (up2_n _ _ (by omega)) (up2_n _ _ (by omega)) h6 (fun i hi => ?_) (fun p hp => ?_) (fun b' hb' => ?_)
  · rw [up2_ne _ _ _ _ (by omega)]; exact h.n0 hi
  · rw [up2_ne _ _ _ _ (by omega), hs_same (M := M) n (fun j hj => ⟨pr_same (up2_n _ _ (by omega)) (up2_n _ _ (by omega)), up2_ne _ _ _ _ (by omega)⟩)]; exact h.m hp
  · rw [up2_ne _ _ _ _ (by omega)]; exact h.u hb'
theorem LR.st (h : LR td n M fb ft fn fm fl fu fg) {i : Nat} {v : Int32} (hi : i < 30) : LR td n (up2 M 6 i v) fb (upd ft i v) fn fm fl fu fg :=
  h.one (Or.inl rfl) (fun j hj => by
    rw [pk_un (by omega : 30 + j ≠ i), up2_ne _ _ _ _ (by decide : (7 : Nat) ≠ 6)]
    refine ⟨?_, h.t1 hj⟩
    by_cases e : j = i
    · subst e; rw [up2_e, upd_e]
    · rw [up2_j _ _ _ _ _ e, pk_un e]; exact h.t0 hj)
theorem LR.rate (h : LR td n M fb ft fn fm fl fu fg) {i : Nat} {v : Int32} (hn : n ≤ 30) : LR td n (up2 M 7 i v) fb (upd ft (30 + i) v) fn fm fl fu fg :=
  h.one (Or.inr (Or.inl rfl)) (fun j hj => by
    rw [pk_un (by omega : j ≠ 30 + i), up2_ne _ _ _ _ (by decide)]
    refine ⟨h.t0 hj, ?_⟩
    by_cases e : j = i
    · subst e; rw [up2_e, upd_e]
    · rw [up2_j _ _ _ _ _ e, pk_un (by omega : 30 + j ≠ 30 + i)]; exact h.t1 hj)
theorem LR.amt (h : LR td n M fb ft fn fm fl fu fg) {i : Nat} {v : Int32} : LR td n (up2 M 4 i v) fb ft fn fm fl fu fg :=
  h.one (Or.inr (Or.inr rfl)) (fun j hj => by
    rw [up2_ne _ _ _ _ (by decide), up2_ne _ _ _ _ (by decide)]
    exact ⟨h.t0 hj, h.t1 hj⟩)
/-- a payment -/
theorem LR.pay (h : LR td n M fb ft fn fm fl fu fg) {i : Nat} {sm how : Int32} (hi : i < n) (hn : n ≤ 30) (hz : M 9 i = 0) : LR td n (payM M i sm how) fb (upd ft i how) fn fm fl fu fg := by
  have e : ∀ f, f ≠ 6 → f ≠ 8 → f ≠ 9 → f ≠ 13 → payM M i sm how f = M f := fun f h6 h8 h9 h13 => payM_n _ _ _ _ h6 h8 h9 h13
  refine h.of (e 2 (by decide) (by decide) (by decide) (by decide)) (e 3 (by decide) (by decide) (by decide) (by decide)) (e 5 (by decide) (by decide) (by decide) (by decide)) (e 12 (by decide) (by decide) (by decide) (by decide)) (fun j hj => ?_) (fun j hj => ?_) (fun p hp => ?_) (fun b' hb' => ?_)
  · rw [e 7 (by decide) (by decide) (by decide) (by decide), payM_6, pk_un (by omega : 30 + j ≠ i)]
    refine ⟨?_, h.t1 hj⟩
    by_cases q : j = i
    · subst q; rw [upd_e, upd_e]
    · rw [pk_un q, pk_un q]; exact h.t0 hj
  · rw [e 10 (by decide) (by decide) (by decide) (by decide)]; exact h.n0 hj
  · rw [hs_pay hi hz]; exact h.m hp
  · rw [e 11 (by decide) (by decide) (by decide) (by decide)]; exact h.u hb'
/-- a note on a paid bill -/
theorem LR.noteP (h : LR td n M fb ft fn fm fl fu fg) {i : Nat} {y : Int32} (hi : i < n) : LR td n (noteM M i y) fb ft (upd fn i (M 10 i + y)) (upd fm (pr M i) (fm (pr M i) + moreS M i y)) fl fu fg := by
  have e : ∀ f, f ≠ 10 → f ≠ 13 → noteM M i y f = M f := fun f h1 h2 => by unfold noteM; rw [up2_n _ _ h2, up2_n _ _ h1]
  have e10 : noteM M i y 10 = upd (M 10) i (M 10 i + y) := by unfold noteM; rw [up2_n _ _ (by decide), up2_s]
  have e13 : noteM M i y 13 = upd (M 13) (pr M i) (M 13 (pr M i) + moreS M i y) := by unfold noteM; rw [up2_s, up2_n _ _ (by decide)]
  refine h.of (e 2 (by decide) (by decide)) (e 3 (by decide) (by decide)) (e 5 (by decide) (by decide)) (e 12 (by decide) (by decide)) (fun j hj => ?_) (fun j hj => ?_) (fun p hp => ?_) (fun b' hb' => ?_)
  · rw [e 6 (by decide) (by decide), e 7 (by decide) (by decide)]; exact ⟨h.t0 hj, h.t1 hj⟩
  · rw [e10]
    by_cases q : j = i
    · subst q; rw [upd_e, upd_e]
    · rw [pk_un q, pk_un q]; exact h.n0 hj
  · rw [hs_same (M := M) n (fun j hj => ⟨pr_same (e 2 (by decide) (by decide)) (e 3 (by decide) (by decide)), by rw [e 9 (by decide) (by decide)]⟩), e13]
    by_cases q : p = pr M i
    · subst q
      rw [upd_e, upd_e, h.m hp]
      simp only [Int32.add_assoc]
      congr 1
      exact Int32.add_comm _ _
    · rw [pk_un q, pk_un q]; exact h.m hp
  · rw [e 11 (by decide) (by decide)]; exact h.u hb'
/-- a new bill -/
theorem LR.bill (h : LR td n M fb ft fn fm fl fu fg) {b o : Nat} {ct dd : Int32} (hn : n < 30) (hb : b < 4) (ho : o < 8) (hz6 : M 6 n = 0) (hz9 : M 9 n = 0) (hz10 : M 10 n = 0) :
    LR td (n + 1) (billM td n M b o ct dd) (upd (upd fb (2 * n) (nI (8 * b + o))) (2 * n + 1) (td + dd)) (upd (upd ft n 0) (30 + n) (-1)) (upd fn n 0) fm fl fu (upd fg 0 (nI (n + 1))) := by
  have hpr : ∀ j, j ≠ n → pr (billM td n M b o ct dd) j = pr M j := fun j hj => by unfold pr bu su; rw [billM_j hj, billM_j hj]
  have e6 : billM td n M b o ct dd 6 = M 6 := billM_n (by decide) (by decide) (by decide) (by decide) (by decide)
  have e9 : billM td n M b o ct dd 9 = M 9 := billM_n (by decide) (by decide) (by decide) (by decide) (by decide)
  have e10 : billM td n M b o ct dd 10 = M 10 := billM_n (by decide) (by decide) (by decide) (by decide) (by decide)
  have e11 : billM td n M b o ct dd 11 = M 11 := billM_n (by decide) (by decide) (by decide) (by decide) (by decide)
  have e12 : billM td n M b o ct dd 12 = M 12 := billM_n (by decide) (by decide) (by decide) (by decide) (by decide)
  have e13 : billM td n M b o ct dd 13 = M 13 := billM_n (by decide) (by decide) (by decide) (by decide) (by decide)
  refine ⟨fun i hi => ?_, fun p hp => ?_, fun p hp => ?_, fun b' hb' => ?_, upd_e _ _ _, ?_⟩
  · by_cases q : i = n
    · subst q
      have f2 : billM td i M b o ct dd 2 i = nI b := by simp [billM, up2_at]
      have f3 : billM td i M b o ct dd 3 i = nI o := by simp [billM, up2_at]
      have f5 : billM td i M b o ct dd 5 i = td + dd := by simp [billM, up2_at]
      have f7 : billM td i M b o ct dd 7 i = -1 := by simp [billM, up2_at]
      have fp : pr (billM td i M b o ct dd) i = 8 * b + o := by unfold pr; rw [bu_of hb f2, su_of ho f3]
      rw [fp, f5, e6, f7, e10, hz6, hz10, pk_un (by omega : 2 * i ≠ 2 * i + 1), upd_e, upd_e, pk_un (by omega : i ≠ 30 + i), upd_e, upd_e, upd_e]
      exact ⟨rfl, rfl, rfl, rfl, rfl⟩
    · rw [hpr i q, billM_j q, billM_j q, billM_j q, billM_j q, pk_un (by omega : 2 * i ≠ 2 * n + 1), pk_un (by omega : 2 * i ≠ 2 * n), pk_un (by omega : 2 * i + 1 ≠ 2 * n + 1), pk_un (by omega : 2 * i + 1 ≠ 2 * n), pk_un (by omega : i ≠ 30 + n), pk_un q, pk_un (by omega : 30 + i ≠ 30 + n), pk_un (by omega : 30 + i ≠ n), pk_un q]
      exact h.1 i (by omega)
  · rw [e13, h.m hp]
    congr 1
    show hsS M p n = hsS (billM td n M b o ct dd) p n + (if pr (billM td n M b o ct dd) n = p then billM td n M b o ct dd 9 n else 0)
    rw [hs_same (N := billM td n M b o ct dd) (M := M) n (fun j hj => ⟨hpr j (by omega), by rw [e9]⟩), e9, hz9, ite_self, Int32.add_zero]
  · rw [e12]; exact h.l hp
  · rw [e11]; exact h.u hb'
  · rw [pk_un (by decide : (1 : Nat) ≠ 0)]; exact h.g1
end LRS
