/-! The class's two lists, over its world -/
/-- a contract's end may be weakened -/
theorem metMono {l : Launch} {y : MethodName} {ws : List Cond} {rm : Room} {Pc : Array Value → State → Prop} {Qc Qc' : Array Value → State → Outcome → State → Prop} {mc ms : Nat} {free : Addr → Prop} (h : Met l y ws rm Pc Qc mc ms free) (hq : ∀ a st o t, Qc a st o t → Qc' a st o t) : Met l y ws rm Pc Qc' mc ms free := by
  intro p e ha hc hk s m args below hf h1 h2 h3
  obtain ⟨k, o, g1, g2, g3, g4⟩ := h p e ha hc hk s m args below hf h1 h2 h3
  exact ⟨k, o, g1, g2, g3, hq _ _ _ _ g4.1, g4.2⟩
theorem Met.postv {l : Launch} {y : MethodName} {ws : List Cond} {rm : Room} {K : Ks} {A : Nat → Prop} {Pc : Array Value → State → Prop} {post post' : va_W → Prop} {mc ms : Nat} (h : Met l y ws rm Pc (kQv K A post) mc ms A) (hp : ∀ w, post w → post' w) : Met l y ws rm Pc (kQv K A post') mc ms A :=
  metMono h (fun _ _ _ _ q => ⟨by obtain ⟨⟨u, h1, h2, h3⟩, -⟩ := q; exact ⟨u, h1, hp u h2, h3⟩, q.2⟩)
theorem Met.posti {l : Launch} {y : MethodName} {ws : List Cond} {rm : Room} {K : Ks} {A : Nat → Prop} {Pc : Array Value → State → Prop} {post post' : Int32 → va_W → Prop} {mc ms : Nat} (h : Met l y ws rm Pc (kQi K A post) mc ms A) (hp : ∀ r w, post r w → post' r w) : Met l y ws rm Pc (kQi K A post') mc ms A :=
  metMono h (fun _ _ _ _ q => ⟨by obtain ⟨⟨r, u, h1, h2, h3⟩, -⟩ := q; exact ⟨r, u, h1, hp r u h2, h3⟩, q.2⟩)
section DL
variable {l : Launch} {K : Ks} {A : Nat → Prop} {ad bad : Nat → Nat} {td : Int32} {n : Nat} {M : Nat → Nat → Int32} {rm : Nat → Int32} {k : Nat} {idx : Nat → Nat} {w : va_W}
theorem d_size5 {m5 : Int32} {e5 : Nat} (h5 : w[5]? = some (ad 5, .inr (0, [.int m5, .ref e5, .int (nI n)]))) : Met l yJx4a65c_size_8abf5 wsJx4a65c_size_8abf5 (kR 0 0 0) (kPr K A [.ref (ad 5)] w) (kQi K A (fun r w1 => r = nI n ∧ w1 = w)) 0 0 A := c_size (p0 := 5) h5
theorem d_size6 {m6 : Int32} {e6 : Nat} (h6 : w[6]? = some (ad 6, .inr (0, [.int m6, .ref e6, .int (nI k)]))) : Met l yJx4a65c_size_8abf5 wsJx4a65c_size_8abf5 (kR 0 0 0) (kPr K A [.ref (ad 6)] w) (kQi K A (fun r w1 => r = nI k ∧ w1 = w)) 0 0 A := c_size (p0 := 6) h6
theorem d_get5 (h : Dk K ad bad td n M rm k idx w) {i : Nat} (hi : i < n) : Met l yJx4a65c_get_915e3 wsJx4a65c_get_915e3 (kR 2 0 0) (kPr K A [.ref (ad 5), .int (nI i)] w) (kQr K A (fun r w1 => r = bad i ∧ w1 = w)) 0 0 A := by
  have hn := h.n30
  obtain ⟨m5, e5, m6, e6, h5, h6, k5, k6, k7⟩ := h.2.2.1
  rcases k5 with ⟨-, h0⟩ | ⟨r0, cap, a, -, h1, h2, h3, h4, h7⟩
  · omega
  · exact c_get (p0 := 5) h5 h1 (ws_shape h1 h5) (by omega) (by omega) (h7 i hi) hi (by omega)
theorem d_get6 (h : Dk K ad bad td n M rm k idx w) {i : Nat} (hi : i < k) : Met l yJx4a65c_get_915e3 wsJx4a65c_get_915e3 (kR 2 0 0) (kPr K A [.ref (ad 6), .int (nI i)] w) (kQr K A (fun r w1 => r = bad (idx i) ∧ w1 = w)) 0 0 A := by
  have hn := h.k30
  obtain ⟨m5, e5, m6, e6, h5, h6, k5, k6, k7⟩ := h.2.2.1
  rcases k6 with ⟨-, h0⟩ | ⟨r0, cap, a, -, h1, h2, h3, h4, h7⟩
  · omega
  · exact c_get (p0 := 6) h6 h1 (ws_shape h1 h6) (by omega) (by omega) (h7 i hi) hi (by omega)
/-- what a call on the second list leaves -/
theorem Dk.list6 (h : Dk K ad bad td n M rm k idx w) {w1 : va_W} {k' : Nat} {idx' : Nat → Nat} (hk : k' ≤ 30) (hx : ∀ j, j < k' → idx' j < n) {m6 v6 : Int32} {e6 e6' : Nat} (h6 : w[6]? = some (ad 6, .inr (0, [.int v6, .ref e6, .int (nI k)])))
    (g6 : w1[6]? = some (ad 6, .inr (0, [.int m6, .ref e6', .int (nI k')]))) (gl : lst K w1 e6' k' (fun j => bad (idx' j))) (hfr : ∀ (q : Nat) (z : Nat × va_E), w[q]? = some z → q ≠ 6 → (z.1 ≠ e6 ∨ nOA K z) → w1[q]? = some z ∧ (z.1 ≠ e6' ∨ nOA K z)) : Dk K ad bad td n M rm k' idx' w1 := by
  obtain ⟨g1, ⟨x0, x1, x2, x3, x4⟩, ⟨m5, e5, m6', e6'', k5, k6, k7, k8, k9⟩, g4, g5⟩ := h
  have he : e6'' = e6 := by
    have := congrArg (fun z => Prod.snd z) (Option.some.inj (k6.symm.trans h6))
    simp at this
    exact this.2
  subst he
  refine ⟨⟨g1.1, hk, hx⟩, ⟨(hfr _ _ x0 (by decide) (Or.inr nOA_r)).1, (hfr _ _ x1 (by decide) (Or.inr nOA_i)).1, (hfr _ _ x2 (by decide) (Or.inr nOA_i)).1, (hfr _ _ x3 (by decide) (Or.inr nOA_i)).1, (hfr _ _ x4 (by decide) (Or.inr nOA_i)).1⟩, ⟨m5, e5, m6, e6', (hfr _ _ k5 (by decide) (Or.inr nOA_r)).1, g6, ?_, gl, ?_⟩, fun i hi => ?_, g5⟩
  · rcases k7 with k7 | ⟨r0, cap, a, h0, h1, h2⟩
    · exact Or.inl k7
    · exact Or.inr ⟨r0, cap, a, h0, (hfr _ _ h1 (ws_shape h1 k6) (Or.inl (k9.elim id (fun q => absurd q h0)))).1, h2⟩
  · rcases k7 with k7 | ⟨r0, cap, a, h0, h1, h2⟩
    · exact Or.inr k7.1
    · exact Or.inl ((hfr _ _ h1 (ws_shape h1 k6) (Or.inl (k9.elim id (fun q => absurd q h0)))).2.elim id (fun q => absurd rfl (q cap a)))
  · obtain ⟨q, hq⟩ := g4 i hi
    exact ⟨q, (hfr _ _ hq (ws_cls hq k6 (by decide)) (Or.inr nOA_r)).1⟩
theorem d_clear6 (h : Dk K ad bad td n M rm k idx w) : Met l yJx4a65c_clear_da8c8 wsJx4a65c_clear_da8c8 (kR 0 0 0) (kPr K A [.ref (ad 6)] w) (kQv K A (fun w1 => Dk K ad bad td n M rm 0 idx w1)) 0 0 A := by
  have h9 := h
  obtain ⟨g1, -, ⟨m5, e5, m6, e6, h5, h6, k5, k6, k7⟩, -⟩ := h9
  rcases k6 with ⟨k6, h0⟩ | ⟨r0, cap, a, h0, h1, h2, h3, h4, h7⟩
  · subst h0
    refine (c_clear_0 (p0 := 6) h6).postv (fun w1 hw => ?_)
    subst hw
    exact h.list6 (Nat.zero_le _) (fun j hj => absurd hj (Nat.not_lt_zero _)) h6 (ws_self h6) (Or.inl ⟨k6, rfl⟩) (fun q z hq hne hz => ⟨ws_ne hq hne, hz⟩)
  · refine (c_clear_n (p0 := 6) h6 h1 (ws_shape h1 h6) h2 h4).postv (fun w1 hw => ?_)
    subst hw
    refine h.list6 (Nat.zero_le _) (fun j hj => absurd hj (Nat.not_lt_zero _)) h6 (ws_ne (ws_self h6) (ws_shape h1 h6).symm) (Or.inr ⟨r0, cap, _, h0, ws_self (ws_ne h1 (ws_shape h1 h6)), Nat.zero_le _, h3, h4, fun j hj => absurd hj (Nat.not_lt_zero _)⟩) (fun q z hq hne hz => ⟨ws_ne (ws_ne hq hne) (fun e9 => ?_), hz⟩)
    subst e9
    cases hq.symm.trans h1
    exact hz.elim (fun q => q rfl) (fun q => q cap a rfl)
theorem d_addAt6 (h : Dk K ad bad td n M rm k idx w) {pos b : Nat} (hpos : pos ≤ k) (hb : b < n) (hk : k ≤ 29) : Met l yJx4a65c_add_7a177 wsJx4a65c_add_7a177 (kR 6 1 60) (kPr K A [.ref (ad 6), .int (nI pos), .ref (bad b)] w) (kQv K A (fun w1 => Dk K ad bad td n M rm (k + 1) (insG idx pos b) w1)) 1 60 A := by
  have h9 := h
  obtain ⟨g1, -, ⟨m5, e5, m6, e6, h5, h6, k5, k6, k7⟩, g4, -⟩ := h9
  obtain ⟨qy, hy⟩ := g4 b hb
  refine (c_addAt (p0 := 6) h6 k6 (fun j hj => by obtain ⟨q, hq⟩ := g4 (idx j) (g1.2.2 j hj); exact ⟨q, _, hq⟩) hy hk hpos).postv (fun w1 hw => ?_)
  obtain ⟨r, cap, a, r0, h0, u1, u2, u3, u4, u5, u6, u7⟩ := hw
  have hix : ∀ j, insG (fun j => bad (idx j)) pos (bad b) j = bad (insG idx pos b j) := fun j => by
    unfold insG
    by_cases h1 : j < pos
    · simp [h1]
    · by_cases h2 : j = pos <;> simp [h1, h2]
  refine h.list6 (by omega) (fun j hj => ?_) h6 u4 (Or.inr ⟨r0, cap, a, h0, u5, u1, u2, u3, fun j hj => by rw [u7 j hj, hix]⟩) (fun q z hq hne hz => ⟨(u6 q z hq hne hz).1, Or.inl (u6 q z hq hne hz).2.2⟩)
  unfold insG
  by_cases h1 : j < pos
  · rw [if_pos h1]; exact g1.2.2 j (by omega)
  · by_cases h2 : j = pos
    · rw [if_neg h1, if_pos h2]; exact hb
    · rw [if_neg h1, if_neg h2]; exact g1.2.2 (j - 1) (by omega)
/-- the new bill y, number n -/
theorem d_add5 (h : Dk K ad bad td n M rm k idx w) {y qy : Nat} {N : Nat → Nat → Int32} (hy : w[qy]? = some (y, .inr (1, brow N n))) (hyb : ∀ i, i < n → bad i ≠ y) (hn : n ≤ 29) (h11 : N 11 = M 11) (h12 : N 12 = M 12) (h13 : N 13 = M 13) (hrow : ∀ i, i < n → brow N i = brow M i) : Met l yJx4a65c_add_9ea2d wsJx4a65c_add_9ea2d (kR 6 1 60) (kPr K A [.ref (ad 5), .ref y] w) (kQi K A (fun r w1 => r = 1 ∧ Dk K ad (va_up bad n y) td (n + 1) N rm k idx w1)) 1 60 A := by
  have h9 := h
  obtain ⟨g1, ⟨x0, x1, x2, x3, x4⟩, ⟨m5, e5, m6, e6, h5, h6, k5, k6, k7⟩, g4, g5⟩ := h9
  have hbn : ∀ i, i < n → va_up bad n y i = bad i := fun i hi => va_up_ne _ _ (by omega)
  refine (c_addE (p0 := 5) h5 k5 h.bls hy hn).posti (fun r9 w1 hw => ?_)
  obtain ⟨hr, r, cap, a, r0, h0, u1, u2, u3, u4, u5, u6, u7⟩ := hw
  refine ⟨hr, ⟨by omega, g1.2.1, fun j hj => Nat.lt_succ_of_lt (g1.2.2 j hj)⟩, ⟨(u6 _ _ x0 (by decide) (Or.inr nOA_r)).1, by rw [h11]; exact (u6 _ _ x1 (by decide) (Or.inr nOA_i)).1, by rw [h12]; exact (u6 _ _ x2 (by decide) (Or.inr nOA_i)).1, by rw [h13]; exact (u6 _ _ x3 (by decide) (Or.inr nOA_i)).1, (u6 _ _ x4 (by decide) (Or.inr nOA_i)).1⟩, ⟨m5 + 1, r, m6, e6, u4, (u6 _ _ h6 (by decide) (Or.inr nOA_r)).1, Or.inr ⟨r0, cap, a, h0, u5, u1, u2, u3, fun j hj => ?_⟩, ?_, ?_⟩, fun i hi => ?_, fun i j hi hj hij => ?_⟩
  · rw [u7 j hj]
    unfold insG va_up
    by_cases h1 : j < n
    · rw [if_pos h1, if_neg (by omega)]
    · rw [if_neg h1, if_pos (by omega), if_pos (by omega)]
  · rcases k6 with ⟨k6, hk0⟩ | ⟨s0, cp, b, v0, v1, v2, v3, v4, v5⟩
    · exact Or.inl ⟨k6, hk0⟩
    · have hne : e6 ≠ e5 := fun q => k7.elim (fun z => z q.symm) (fun z => v0 (q.trans z))
      exact Or.inr ⟨s0, cp, b, v0, (u6 _ _ v1 (ws_shape v1 h5) (Or.inl hne)).1, v2, v3, v4, fun j hj => by rw [v5 j hj]; exact congrArg some (hbn _ (g1.2.2 j hj)).symm⟩
  · rcases k6 with ⟨k6, hk0⟩ | ⟨s0, cp, b, v0, v1, v2, v3, v4, v5⟩
    · exact Or.inl (fun q => h0 (q.trans k6))
    · have hne : e6 ≠ e5 := fun q => k7.elim (fun z => z q.symm) (fun z => v0 (q.trans z))
      exact Or.inl (fun q => (u6 _ _ v1 (ws_shape v1 h5) (Or.inl hne)).2.2 q.symm)
  · by_cases hin : i < n
    · obtain ⟨q, hq⟩ := g4 i hin
      refine ⟨q, ?_⟩
      rw [hbn i hin, hrow i hin]
      exact (u6 _ _ hq (ws_cls hq h5 (by decide)) (Or.inr nOA_r)).1
    · have e9 : i = n := by omega
      subst e9
      refine ⟨qy, ?_⟩
      rw [va_up_self]
      exact (u6 _ _ hy (ws_cls hy h5 (by decide)) (Or.inr nOA_r)).1
  · by_cases h1 : i = n <;> by_cases h2 : j = n
    · omega
    · subst h1
      rw [va_up_self, hbn j (by omega)] at hij
      exact absurd hij.symm (hyb j (by omega))
    · subst h2
      rw [va_up_self, hbn i (by omega)] at hij
      exact absurd hij (hyb i (by omega))
    · rw [hbn i (by omega), hbn j (by omega)] at hij
      exact g5 i j (by omega) (by omega) hij
end DL
