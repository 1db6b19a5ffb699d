/-! The class, 6: plan, clear, most -/
def DkE (K : Ks) (ad bad : Nat → Nat) (td : Int32) (n : Nat) (M : Nat → Nat → Int32) (w : va_W) : Prop := ∃ (rm : Nat → Int32) (k : Nat) (idx : Nat → Nat), Dk K ad bad td n M rm k idx w
/-- the sums that two rooms agree on -/
theorem mrm_at (td : Int32) (n : Nat) (M : Nat → Nat → Int32) (b : Nat) (rm : Nat → Int32) : ∀ k o, mrm td n M b rm k o = if o < k then loM td M b o n else rm o
  | 0, o => by simp [mrm]
  | k + 1, o => by
    rw [← mrm_s]
    by_cases h : o = k
    · subst h; simp [upd]
    · have ih := mrm_at td n M b rm k o
      simp only [upd, if_neg h, ih]
      by_cases h2 : o < k
      · rw [if_pos h2, if_pos (by omega)]
      · rw [if_neg h2, if_neg (by omega)]
/-- what is accepted of a buyer's offers; the room where nobody looks does not matter -/
def acC (td : Int32) (n : Nat) (M : Nat → Nat → Int32) (b : Nat) : Int32 := (acS td M (ix (gaL td M b n)) (M 11 b) (mrm td n M b (fun _ => 0) 8) (gaL td M b n).length).2.2
theorem acS_rm {td : Int32} {M : Nat → Nat → Int32} {idx : Nat → Nat} {b0 : Int32} {r1 r2 : Nat → Int32} {k : Nat} (hs : ∀ j, j < k → su M (idx j) < 8) (hr : ∀ o, o < 8 → r1 o = r2 o) : ∀ j, j ≤ k → (acS td M idx b0 r1 j).1 = (acS td M idx b0 r2 j).1 ∧ (∀ o, o < 8 → (acS td M idx b0 r1 j).2.1 o = (acS td M idx b0 r2 j).2.1 o) ∧ (acS td M idx b0 r1 j).2.2 = (acS td M idx b0 r2 j).2.2
  | 0, _ => ⟨rfl, hr, rfl⟩
  | j + 1, hj => by
    obtain ⟨h1, h2, h3⟩ := acS_rm (td := td) (b0 := b0) hs hr j (by omega)
    have e := h2 _ (hs j (by omega))
    by_cases hc : ¬ (acS td M idx b0 r1 j).1 < price td M (idx j) ∧ ¬ (acS td M idx b0 r1 j).2.1 (su M (idx j)) < price td M (idx j)
    · have hc' := hc
      rw [h1, e] at hc'
      rw [acS_t hc, acS_t hc', h1, h3, e]
      refine ⟨rfl, fun o ho => ?_, rfl⟩
      by_cases h9 : o = su M (idx j)
      · simp [upd, h9]
      · simp [upd, h9, h2 o ho]
    · have hc' := hc
      rw [h1, e] at hc'
      rw [acS_f hc, acS_f hc']
      exact ⟨h1, h2, h3⟩
theorem insS_mem {M : Nat → Nat → Int32} {y i : Nat} : ∀ {L : List Nat}, i ∈ insS M y L → i = y ∨ i ∈ L
  | [], h => by simp [insS] at h; exact Or.inl h
  | a :: L, h => by
    unfold insS at h
    split at h
    · rcases List.mem_cons.mp h with h | h
      · exact Or.inr (by simp [h])
      · exact (insS_mem h).elim Or.inl (fun q => Or.inr (List.mem_cons_of_mem _ q))
    · rcases List.mem_cons.mp h with h | h
      · exact Or.inl h
      · exact Or.inr h
theorem gaL_lt {td : Int32} {M : Nat → Nat → Int32} {b i : Nat} : ∀ {j}, i ∈ gaL td M b j → i < j
  | 0, h => by simp [gaL] at h
  | j + 1, h => by
    unfold gaL at h
    split at h
    · rcases insS_mem h with h | h
      · omega
      · have := gaL_lt h; omega
    · have := gaL_lt h; omega
theorem ix_mem {L : List Nat} {j : Nat} (h : j < L.length) : ix L j ∈ L := by
  unfold ix
  rw [List.getD_eq_getElem?_getD, List.getElem?_eq_getElem h]
  exact List.getElem_mem h
theorem acC_rm {td : Int32} {n : Nat} {M : Nat → Nat → Int32} {b : Nat} {rm : Nat → Int32} (hok : ∀ j, j < n → okP M j) : (acS td M (ix (gaL td M b n)) (M 11 b) (mrm td n M b rm 8) (gaL td M b n).length).2.2 = acC td n M b :=
  (acS_rm (k := (gaL td M b n).length) (fun j hj => (hok _ (gaL_lt (ix_mem hj))).2.2.2) (fun o ho => by rw [mrm_at, mrm_at, if_pos ho, if_pos ho]) _ (Nat.le_refl _)).2.2
/-- a bill that is cleared -/
def payE (td : Int32) (M : Nat → Nat → Int32) (i : Nat) : Nat → Nat → Int32 := payM (up2 M 11 (bu M i) (M 11 (bu M i) - price td M i)) i (price td M i) 3
/-- the first offers gone through: the table, the discounts -/
def clS (td : Int32) (M : Nat → Nat → Int32) (idx : Nat → Nat) (acc : Int32) : Nat → (Nat → Nat → Int32) × Int32
  | 0 => (M, 0)
  | j + 1 => if ¬ acc &&& (1 <<< (nI (idx j) &&& 31)) = 0 then (payE td (clS td M idx acc j).1 (idx j), (clS td M idx acc j).2 + disc td (clS td M idx acc j).1 (idx j)) else clS td M idx acc j
theorem clS_t {td : Int32} {M : Nat → Nat → Int32} {idx : Nat → Nat} {acc : Int32} {j : Nat} (h : ¬ acc &&& (1 <<< (nI (idx j) &&& 31)) = 0) : clS td M idx acc (j + 1) = (payE td (clS td M idx acc j).1 (idx j), (clS td M idx acc j).2 + disc td (clS td M idx acc j).1 (idx j)) := if_pos h
theorem clS_f {td : Int32} {M : Nat → Nat → Int32} {idx : Nat → Nat} {acc : Int32} {j : Nat} (h : ¬ ¬ acc &&& (1 <<< (nI (idx j) &&& 31)) = 0) : clS td M idx acc (j + 1) = clS td M idx acc j := if_neg h
theorem clS_23 {td : Int32} {M : Nat → Nat → Int32} {idx : Nat → Nat} {acc : Int32} {f : Nat} (h6 : f ≠ 6) (h8 : f ≠ 8) (h9 : f ≠ 9) (h13 : f ≠ 13) (h11 : f ≠ 11) : ∀ j, (clS td M idx acc j).1 f = M f
  | 0 => rfl
  | j + 1 => by
    have ih := clS_23 (td := td) (M := M) (idx := idx) (acc := acc) h6 h8 h9 h13 h11 j
    by_cases h : ¬ acc &&& (1 <<< (nI (idx j) &&& 31)) = 0
    · rw [clS_t h]
      show payE td (clS td M idx acc j).1 (idx j) f = M f
      unfold payE
      rw [payM_n _ _ _ _ h6 h8 h9 h13, up2_n _ _ h11]
      exact ih
    · rw [clS_f h]; exact ih
theorem okP_cl {td : Int32} {M : Nat → Nat → Int32} {idx : Nat → Nat} {acc : Int32} {j i : Nat} (h : okP M i) : okP (clS td M idx acc j).1 i := okP_of (clS_23 (by decide) (by decide) (by decide) (by decide) (by decide) j) (clS_23 (by decide) (by decide) (by decide) (by decide) (by decide) j) h
/-- what all offers bring -/
def toS (td : Int32) (M : Nat → Nat → Int32) (idx : Nat → Nat) : Nat → Int32
  | 0 => 0
  | j + 1 => toS td M idx j + disc td M (idx j)
/-- the best with an offer chosen -/
def bfC (td : Int32) (M : Nat → Nat → Int32) (i : Nat) (rm : Nat → Int32) (bud : Int32) (rec : Int32) : Int32 := if ¬ bud < price td M i ∧ ¬ rm (su M i) < price td M i then disc td M i + rec else 0
theorem bfC_t {td : Int32} {M : Nat → Nat → Int32} {i : Nat} {rm : Nat → Int32} {bud rec : Int32} (h : ¬ bud < price td M i ∧ ¬ rm (su M i) < price td M i) : bfC td M i rm bud rec = disc td M i + rec := if_pos h
theorem bfC_f {td : Int32} {M : Nat → Nat → Int32} {i : Nat} {rm : Nat → Int32} {bud rec : Int32} (h : ¬ (¬ bud < price td M i ∧ ¬ rm (su M i) < price td M i)) : bfC td M i rm bud rec = 0 := if_neg h
def bfS (td : Int32) (M : Nat → Nat → Int32) (idx : Nat → Nat) : Nat → Nat → (Nat → Int32) → Int32 → Int32 → Int32
  | 0, _, _, _, _ => 0
  | d + 1, pl, rm, bud, tog =>
    if bfC td M (idx pl) rm bud (bfS td M idx d (pl + 1) (upd rm (su M (idx pl)) (rm (su M (idx pl)) - price td M (idx pl))) (bud - price td M (idx pl)) (tog - disc td M (idx pl))) < tog - disc td M (idx pl) then
      (if bfC td M (idx pl) rm bud (bfS td M idx d (pl + 1) (upd rm (su M (idx pl)) (rm (su M (idx pl)) - price td M (idx pl))) (bud - price td M (idx pl)) (tog - disc td M (idx pl))) < bfS td M idx d (pl + 1) rm bud (tog - disc td M (idx pl)) then bfS td M idx d (pl + 1) rm bud (tog - disc td M (idx pl)) else bfC td M (idx pl) rm bud (bfS td M idx d (pl + 1) (upd rm (su M (idx pl)) (rm (su M (idx pl)) - price td M (idx pl))) (bud - price td M (idx pl)) (tog - disc td M (idx pl))))
    else bfC td M (idx pl) rm bud (bfS td M idx d (pl + 1) (upd rm (su M (idx pl)) (rm (su M (idx pl)) - price td M (idx pl))) (bud - price td M (idx pl)) (tog - disc td M (idx pl)))
theorem bf_rm {rm : Nat → Int32} {s : Nat} {x : Int32} : upd (upd rm s (rm s - x)) s (upd rm s (rm s - x) s + x) = rm := by
  funext o
  by_cases h : o = s
  · subst h; simp [upd, Int32.sub_add_cancel]
  · simp [upd, h]
set_option maxHeartbeats 4000000 in
set_option maxRecDepth 100000 in
theorem c_X1_plan_tb {l : Launch} {K : Ks} {A : Nat → Prop} {ad bad : Nat → Nat} {td : Int32} {n : Nat} {M : Nat → Nat → Int32} {rm : Nat → Int32} {k : Nat} {idx : Nat → Nat} {w : va_W} (hDk : Dk K ad bad td n M rm k idx w) (hlt : l.stackTraces = false) {x : Int32} (hx4 : ixBad 4 x) : vx_Met l yX1_plan wsX1_plan (kR 8 1 6) (kPr K A [.ref (ad 0), .int x] (w)) kNo (kX K A IOB (fun w1 => Dk K ad bad td n M rm k idx w1)) 1 6 A := by
  refine kentT (cc := cX1_plan) (maxL := 2) (ret := (some .int)) (by decide) rfl (Nat.le_of_ble_eq_true rfl) ?_
  intro p e s m args below meth c ls hx hb hr hts hown hlocks hml hxt hG hP hD hS hl
  have hl : lv_has ls 2 [(0, .ref (ad 0)), (1, .int x)] := hl
  have hn30 := hDk.n30
  have hk30 := hDk.k30
  refine lv_iload_n hx hb dX1_plan_0 rfl (lv_at hl 1 rfl) ?_
  refine kc_t (vx_runS (As := [.int x]) (rest := []) ⟨hx, hb, hml, hown, hts⟩ (c_X1_checkBuyer_t hlt (ix4b hx4)) (va_cwS 1 hts gX1_plan_X1_checkBuyer rfl rfl rfl (by decide +kernel) ⟨Nat.le_of_ble_eq_true rfl, Nat.le_of_ble_eq_true rfl⟩) (kps hG hP hD hS) rfl rfl hl.1 rfl (lv_room (Nat.le_of_ble_eq_true rfl)) dX1_plan_1 ⟨Nat.le_of_ble_eq_true rfl, Nat.le_of_ble_eq_true rfl⟩) hS (fun ce q9 w H locs hp hP hD hS hce hcv hcl => ?_)
  have hDk : Dk K ad bad td n M rm k idx w := by rw [hp]; exact hDk
  exact kr_t hxt hlocks hP hD hS hce hcv hcl (Nat.le_of_ble_eq_true rfl) (Nat.le_of_ble_eq_true rfl) hDk
set_option maxHeartbeats 4000000 in
set_option maxRecDepth 100000 in
theorem c_X1_plan {l : Launch} {K : Ks} {A : Nat → Prop} {ad bad : Nat → Nat} {td : Int32} {n : Nat} {M : Nat → Nat → Int32} {rm : Nat → Int32} {k : Nat} {idx : Nat → Nat} {w : va_W} (hDk : Dk K ad bad td n M rm k idx w) {b : Nat} (hx4 : b < 4) (hok : ∀ j, j < n → okP M j) : Met l yX1_plan wsX1_plan (kR 8 30 1800) (kPr K A [.ref (ad 0), .int (nI b)] (w)) (kQi K A (fun r w1 => r = acC td n M b ∧ DkE K ad bad td n M w1)) 30 1800 A := by
  refine kent (cc := cX1_plan) (maxL := 2) (ret := (some .int)) (by decide) rfl (Nat.le_of_ble_eq_true rfl) ?_
  intro p e s m args below meth c ls hx hb hr hts hown hlocks hml hini hG hP hD hS hl
  have hl : lv_has ls 2 [(0, .ref (ad 0)), (1, .int (nI b))] := hl
  have hn30 := hDk.n30
  have hk30 := hDk.k30
  refine lv_iload_n hx hb dX1_plan_0 rfl (lv_at hl 1 rfl) ?_
  refine kc_v (va_runS (As := [.int (nI b)]) (rest := []) ⟨hx, hb, hml, hown, hts⟩ (c_X1_checkBuyer (ix4 hx4)) (va_cwS 1 hts gX1_plan_X1_checkBuyer rfl rfl rfl (by decide +kernel) ⟨Nat.le_of_ble_eq_true rfl, Nat.le_of_ble_eq_true rfl⟩) (kps hG hP hD hS) rfl rfl hl.1 rfl (lv_room (Nat.le_of_ble_eq_true rfl)) dX1_plan_1 ⟨Nat.le_of_ble_eq_true rfl, Nat.le_of_ble_eq_true rfl⟩) hS (fun w H locs hp hP hD hS => ?_)
  have hDk : Dk K ad bad td n M rm k idx w := by rw [hp]; exact hDk
  refine lv_aload_n hx hb dX1_plan_4 rfl (lv_at hl 0 rfl) ?_
  refine lv_iload_n hx hb dX1_plan_5 rfl (lv_at hl 1 rfl) ?_
  refine kc_v (va_runV (As := [.int (nI b)]) (rest := []) ⟨hx, hb, hml, hown, hts⟩ (c_X1_gatherOffers hDk hx4) (cwV 1 hts gX1_plan_X1_gatherOffers rfl rfl rfl (by decide +kernel) ⟨Nat.le_of_ble_eq_true rfl, Nat.le_of_ble_eq_true rfl⟩) (kpv (q0 := 0) hG hP hD hS hDk.x rfl) rfl rfl hl.1 rfl (lv_room (Nat.le_of_ble_eq_true rfl)) dX1_plan_6 ⟨Nat.le_of_ble_eq_true rfl, Nat.le_of_ble_eq_true rfl⟩) hS (fun w H locs hp hP hD hS => ?_)
  have hDk : Dk K ad bad td n M rm ((gaL td M b n).length) (ix (gaL td M b n)) w := hp
  refine lv_aload_n hx hb dX1_plan_9 rfl (lv_at hl 0 rfl) ?_
  refine lv_iload_n hx hb dX1_plan_10 rfl (lv_at hl 1 rfl) ?_
  refine kc_i (va_runV (As := [.int (nI b)]) (rest := []) ⟨hx, hb, hml, hown, hts⟩ (c_X1_acceptedOf hDk hx4 hok) (cwV 1 hts gX1_plan_X1_acceptedOf rfl rfl rfl (by decide +kernel) ⟨Nat.le_of_ble_eq_true rfl, Nat.le_of_ble_eq_true rfl⟩) (kpv (q0 := 0) hG hP hD hS hDk.x rfl) rfl rfl hl.1 rfl (lv_room (Nat.le_of_ble_eq_true rfl)) dX1_plan_11 ⟨Nat.le_of_ble_eq_true rfl, Nat.le_of_ble_eq_true rfl⟩) hS (fun r11 w H locs hp hP hD hS => ?_)
  have hDk : Dk K ad bad td n M ((acS td M (ix (gaL td M b n)) (M 11 b) (mrm td n M b rm 8) (gaL td M b n).length).2.1) ((gaL td M b n).length) (ix (gaL td M b n)) w := hp.2
  rw [hp.1]
  exact kr_i hx hb hr hlocks hP hD hS (Nat.le_of_ble_eq_true rfl) (Nat.le_of_ble_eq_true rfl) (⟨acC_rm hok, _, _, _, hDk⟩) dX1_plan_14
set_option maxHeartbeats 4000000 in
set_option maxRecDepth 100000 in
theorem c_X1_clear_tb {l : Launch} {K : Ks} {A : Nat → Prop} {ad bad : Nat → Nat} {td : Int32} {n : Nat} {M : Nat → Nat → Int32} {rm : Nat → Int32} {k : Nat} {idx : Nat → Nat} {w : va_W} (hDk : Dk K ad bad td n M rm k idx w) (hlt : l.stackTraces = false) {x : Int32} (hx4 : ixBad 4 x) : vx_Met l yX1_clear wsX1_clear (kR 8 1 6) (kPr K A [.ref (ad 0), .int x] (w)) kNo (kX K A IOB (fun w1 => Dk K ad bad td n M rm k idx w1)) 1 6 A := by
  refine kentT (cc := cX1_clear) (maxL := 6) (ret := (some .int)) (by decide) rfl (Nat.le_of_ble_eq_true rfl) ?_
  intro p e s m args below meth c ls hx hb hr hts hown hlocks hml hxt hG hP hD hS hl
  have hinX0 : ∀ x ∈ wsX00, x ∈ wsX1_clear := by decide +kernel
  have hinX1 : ∀ x ∈ wsX10, x ∈ wsX1_clear := by decide +kernel
  have hl : lv_has ls 6 [(0, .ref (ad 0)), (1, .int x)] := hl
  have hn30 := hDk.n30
  have hk30 := hDk.k30
  refine lv_iload_n hx hb dX1_clear_0 rfl (lv_at hl 1 rfl) ?_
  refine kc_t (vx_runS (As := [.int x]) (rest := []) ⟨hx, hb, hml, hown, hts⟩ (c_X1_checkBuyer_t hlt (ix4b hx4)) (va_cwS 1 hts gX1_clear_X1_checkBuyer rfl rfl rfl (by decide +kernel) ⟨Nat.le_of_ble_eq_true rfl, Nat.le_of_ble_eq_true rfl⟩) (kps hG hP hD hS) rfl rfl hl.1 rfl (lv_room (Nat.le_of_ble_eq_true rfl)) dX1_clear_1 ⟨Nat.le_of_ble_eq_true rfl, Nat.le_of_ble_eq_true rfl⟩) hS (fun ce q9 w H locs hp hP hD hS hce hcv hcl => ?_)
  have hDk : Dk K ad bad td n M rm k idx w := by rw [hp]; exact hDk
  exact kr_t hxt hlocks hP hD hS hce hcv hcl (Nat.le_of_ble_eq_true rfl) (Nat.le_of_ble_eq_true rfl) hDk
set_option maxHeartbeats 4000000 in
set_option maxRecDepth 100000 in
theorem c_X1_clear {l : Launch} {K : Ks} {A : Nat → Prop} {ad bad : Nat → Nat} {td : Int32} {n : Nat} {M : Nat → Nat → Int32} {rm : Nat → Int32} {k : Nat} {idx : Nat → Nat} {w : va_W} (hDk : Dk K ad bad td n M rm k idx w) {b : Nat} (hx4 : b < 4) (hok : ∀ j, j < n → okP M j) : Met l yX1_clear wsX1_clear (kR 8 30 1800) (kPr K A [.ref (ad 0), .int (nI b)] (w)) (kQi K A (fun r w1 => r = (clS td M (ix (gaL td M b n)) (acC td n M b) (gaL td M b n).length).2 ∧ DkE K ad bad td n (clS td M (ix (gaL td M b n)) (acC td n M b) (gaL td M b n).length).1 w1)) 30 1800 A := by
  refine kent (cc := cX1_clear) (maxL := 6) (ret := (some .int)) (by decide) rfl (Nat.le_of_ble_eq_true rfl) ?_
  intro p e s m args below meth c ls hx hb hr hts hown hlocks hml hini hG hP hD hS hl
  have hinX0 : ∀ x ∈ wsX00, x ∈ wsX1_clear := by decide +kernel
  have hinX1 : ∀ x ∈ wsX10, x ∈ wsX1_clear := by decide +kernel
  have hl : lv_has ls 6 [(0, .ref (ad 0)), (1, .int (nI b))] := hl
  have hn30 := hDk.n30
  have hk30 := hDk.k30
  have hrm : (acS td M (ix (gaL td M b n)) (M 11 b) (mrm td n M b rm 8) (gaL td M b n).length).2.2 = acC td n M b := acC_rm hok
  refine lv_iload_n hx hb dX1_clear_0 rfl (lv_at hl 1 rfl) ?_
  refine kc_v (va_runS (As := [.int (nI b)]) (rest := []) ⟨hx, hb, hml, hown, hts⟩ (c_X1_checkBuyer (ix4 hx4)) (va_cwS 1 hts gX1_clear_X1_checkBuyer rfl rfl rfl (by decide +kernel) ⟨Nat.le_of_ble_eq_true rfl, Nat.le_of_ble_eq_true rfl⟩) (kps hG hP hD hS) rfl rfl hl.1 rfl (lv_room (Nat.le_of_ble_eq_true rfl)) dX1_clear_1 ⟨Nat.le_of_ble_eq_true rfl, Nat.le_of_ble_eq_true rfl⟩) hS (fun w H locs hp hP hD hS => ?_)
  have hDk : Dk K ad bad td n M rm k idx w := by rw [hp]; exact hDk
  refine lv_aload_n hx hb dX1_clear_4 rfl (lv_at hl 0 rfl) ?_
  refine lv_iload_n hx hb dX1_clear_5 rfl (lv_at hl 1 rfl) ?_
  refine kc_v (va_runV (As := [.int (nI b)]) (rest := []) ⟨hx, hb, hml, hown, hts⟩ (c_X1_gatherOffers hDk hx4) (cwV 1 hts gX1_clear_X1_gatherOffers rfl rfl rfl (by decide +kernel) ⟨Nat.le_of_ble_eq_true rfl, Nat.le_of_ble_eq_true rfl⟩) (kpv (q0 := 0) hG hP hD hS hDk.x rfl) rfl rfl hl.1 rfl (lv_room (Nat.le_of_ble_eq_true rfl)) dX1_clear_6 ⟨Nat.le_of_ble_eq_true rfl, Nat.le_of_ble_eq_true rfl⟩) hS (fun w H locs hp hP hD hS => ?_)
  have hDk : Dk K ad bad td n M rm ((gaL td M b n).length) (ix (gaL td M b n)) w := hp
  refine lv_aload_n hx hb dX1_clear_9 rfl (lv_at hl 0 rfl) ?_
  refine lv_iload_n hx hb dX1_clear_10 rfl (lv_at hl 1 rfl) ?_
  refine kc_i (va_runV (As := [.int (nI b)]) (rest := []) ⟨hx, hb, hml, hown, hts⟩ (c_X1_acceptedOf hDk hx4 hok) (cwV 1 hts gX1_clear_X1_acceptedOf rfl rfl rfl (by decide +kernel) ⟨Nat.le_of_ble_eq_true rfl, Nat.le_of_ble_eq_true rfl⟩) (kpv (q0 := 0) hG hP hD hS hDk.x rfl) rfl rfl hl.1 rfl (lv_room (Nat.le_of_ble_eq_true rfl)) dX1_clear_11 ⟨Nat.le_of_ble_eq_true rfl, Nat.le_of_ble_eq_true rfl⟩) hS (fun r11 w H locs hp hP hD hS => ?_)
  have hDk : Dk K ad bad td n M ((acS td M (ix (gaL td M b n)) (M 11 b) (mrm td n M b rm 8) (gaL td M b n).length).2.1) ((gaL td M b n).length) (ix (gaL td M b n)) w := hp.2
  rw [hp.1, hrm]
  refine lv_istore_n (lv' := [(2, .int (acC td n M b)), (0, .ref (ad 0)), (1, .int (nI b))]) hx hb dX1_clear_14 rfl hl (by decide) rfl (fun ls hl => ?_)
  refine lv_iconst (v := 0) hx hb dX1_clear_15 (by decide) ?_
  refine lv_istore_n (lv' := [(3, .int 0), (2, .int (acC td n M b)), (0, .ref (ad 0)), (1, .int (nI b))]) hx hb dX1_clear_16 rfl hl (by decide) rfl (fun ls hl => ?_)
  refine lv_iconst (v := 0) hx hb dX1_clear_17 (by decide) ?_
  refine lv_istore (lv' := [(4, .int 0), (3, .int 0), (2, .int (acC td n M b)), (0, .ref (ad 0)), (1, .int (nI b))]) hx hb dX1_clear_18 hl (by decide) rfl (fun ls hl => ?_)
  have hgk : (gaL td M b n).length ≤ 30 := hDk.k30
  have LOOP : ∀ (Q' : State → Prop), (∀ (w : va_W)  (ls : Array Slot) (H : Heap) (locs : List Loc), Dk K ad bad td n ((clS td M (ix (gaL td M b n)) (acC td n M b) ((gaL td M b n).length)).1) ((acS td M (ix (gaL td M b n)) (M 11 b) (mrm td n M b rm 8) (gaL td M b n).length).2.1) ((gaL td M b n).length) (ix (gaL td M b n)) w → va_P K.1 kCl (w) H → va_D A (w) → va_S A s.heap H locs → lv_has ls 6 [(0, .ref (ad 0)), (1, .int (nI b)), (2, .int (acC td n M b)), (3, .int ((clS td M (ix (gaL td M b n)) (acC td n M b) ((gaL td M b n).length)).2)), (4, .int (nI ((gaL td M b n).length)))] → W p l e ((kR 8 30 1800)) s m args below meth c H locs (0 + 30) (0 + 1800) Q' (F0 m 82 ls [])) → ∀ (d j : Nat) (w : va_W)  (ls : Array Slot) (H : Heap) (locs : List Loc), j + d = (gaL td M b n).length → Dk K ad bad td n ((clS td M (ix (gaL td M b n)) (acC td n M b) j).1) ((acS td M (ix (gaL td M b n)) (M 11 b) (mrm td n M b rm 8) (gaL td M b n).length).2.1) ((gaL td M b n).length) (ix (gaL td M b n)) w → va_P K.1 kCl (w) H → va_D A (w) → va_S A s.heap H locs → lv_has ls 6 [(0, .ref (ad 0)), (1, .int (nI b)), (2, .int (acC td n M b)), (3, .int ((clS td M (ix (gaL td M b n)) (acC td n M b) j).2)), (4, .int (nI j))] → W p l e ((kR 8 30 1800)) s m args below meth c H locs (0 + 30) (0 + 1800) Q' (F0 m 20 ls []) := by
    intro Q' kx d
    induction d with
    | zero =>
      intro j w  ls H locs hk hDk hP hD hS hl
      have hk2 : j = (gaL td M b n).length := by omega
      refine lv_iload hx hb dX1_clear_20 (lv_at hl 4 rfl) ?_
      refine lv_aload_n hx hb dX1_clear_22 rfl (lv_at hl 0 rfl) ?_
      refine kget (ci := 2) (C := RX1) (T := TX1) (N := 7) hx hb hts hown hG hP 0 hDk.x rfl hinX1 5 (by decide) (by decide +kernel) rfl dX1_clear_23 ?_
      obtain ⟨m6, e6, h6⟩ := hDk.l6
      refine kc_i (va_runV (As := []) (rest := [.int (nI j)]) ⟨hx, hb, hml, hown, hts⟩ (e_size6 h6) (cwV 0 hts gX1_clear_Jx4a65c_size_8abf5 rfl rfl rfl (by decide +kernel) ⟨Nat.le_of_ble_eq_true rfl, Nat.le_of_ble_eq_true rfl⟩) (kpv (q0 := 6) hG hP hD hS h6 rfl) rfl rfl hl.1 rfl (lv_room (Nat.le_of_ble_eq_true rfl)) dX1_clear_26 ⟨Nat.le_of_ble_eq_true rfl, Nat.le_of_ble_eq_true rfl⟩) hS (fun r26 w H locs hp hP hD hS => ?_)
      have hDk : Dk K ad bad td n ((clS td M (ix (gaL td M b n)) (acC td n M b) j).1) ((acS td M (ix (gaL td M b n)) (M 11 b) (mrm td n M b rm 8) (gaL td M b n).length).2.1) ((gaL td M b n).length) (ix (gaL td M b n)) w := by rw [hp.2]; exact hDk
      rw [hp.1]
      refine lv_icmp_ge (tgt := 82) hx hb dX1_clear_29 (by decide) (fun h29 => ?_) (fun h29 => False.elim (absurd (nI_le (Nat.le_of_eq hk2.symm) (by omega)) h29))
      have hk3 : (gaL td M b n).length = j := hk2.symm
      subst hk3
      exact kx w  ls H locs hDk hP hD hS (lv_sub hl [0, 1, 2, 3, 4] rfl)
    | succ d ih =>
      intro j w  ls H locs hk hDk hP hD hS hl
      have hk2 : j < (gaL td M b n).length := by omega
      refine lv_iload hx hb dX1_clear_20 (lv_at hl 4 rfl) ?_
      refine lv_aload_n hx hb dX1_clear_22 rfl (lv_at hl 0 rfl) ?_
      refine kget (ci := 2) (C := RX1) (T := TX1) (N := 7) hx hb hts hown hG hP 0 hDk.x rfl hinX1 5 (by decide) (by decide +kernel) rfl dX1_clear_23 ?_
      obtain ⟨m6, e6, h6⟩ := hDk.l6
      refine kc_i (va_runV (As := []) (rest := [.int (nI j)]) ⟨hx, hb, hml, hown, hts⟩ (e_size6 h6) (cwV 0 hts gX1_clear_Jx4a65c_size_8abf5 rfl rfl rfl (by decide +kernel) ⟨Nat.le_of_ble_eq_true rfl, Nat.le_of_ble_eq_true rfl⟩) (kpv (q0 := 6) hG hP hD hS h6 rfl) rfl rfl hl.1 rfl (lv_room (Nat.le_of_ble_eq_true rfl)) dX1_clear_26 ⟨Nat.le_of_ble_eq_true rfl, Nat.le_of_ble_eq_true rfl⟩) hS (fun r26 w H locs hp hP hD hS => ?_)
      have hDk : Dk K ad bad td n ((clS td M (ix (gaL td M b n)) (acC td n M b) j).1) ((acS td M (ix (gaL td M b n)) (M 11 b) (mrm td n M b rm 8) (gaL td M b n).length).2.1) ((gaL td M b n).length) (ix (gaL td M b n)) w := by rw [hp.2]; exact hDk
      rw [hp.1]
      refine lv_icmp_ge (tgt := 82) hx hb dX1_clear_29 (by decide) (fun h29 => False.elim (absurd h29 (nI_ge hk2 (by omega)))) (fun h29 => ?_)
      refine lv_aload_n hx hb dX1_clear_32 rfl (lv_at hl 0 rfl) ?_
      refine kget (ci := 2) (C := RX1) (T := TX1) (N := 7) hx hb hts hown hG hP 0 hDk.x rfl hinX1 5 (by decide) (by decide +kernel) rfl dX1_clear_33 ?_
      refine lv_iload hx hb dX1_clear_36 (lv_at hl 4 rfl) ?_
      obtain ⟨m6, e6, h6⟩ := hDk.l6
      refine kc_r (va_runV (As := [.int (nI j)]) (rest := []) ⟨hx, hb, hml, hown, hts⟩ (d_get6 hDk hk2) (cwV 1 hts gX1_clear_Jx4a65c_get_915e3 rfl rfl rfl (by decide +kernel) ⟨Nat.le_of_ble_eq_true rfl, Nat.le_of_ble_eq_true rfl⟩) (kpv (q0 := 6) hG hP hD hS h6 rfl) rfl rfl hl.1 rfl (lv_room (Nat.le_of_ble_eq_true rfl)) dX1_clear_38 ⟨Nat.le_of_ble_eq_true rfl, Nat.le_of_ble_eq_true rfl⟩) hS (fun r38 w H locs hp hP hD hS => ?_)
      have hDk : Dk K ad bad td n ((clS td M (ix (gaL td M b n)) (acC td n M b) j).1) ((acS td M (ix (gaL td M b n)) (M 11 b) (mrm td n M b rm 8) (gaL td M b n).length).2.1) ((gaL td M b n).length) (ix (gaL td M b n)) w := by rw [hp.2]; exact hDk
      rw [hp.1]
      refine kd_cast hx hb hown hts (by decide +kernel) hG hP hDk (hDk.ix hk2) dX1_clear_41 ?_
      refine lv_astore (lv' := [(5, .ref (bad ((ix (gaL td M b n)) j))), (0, .ref (ad 0)), (1, .int (nI b)), (2, .int (acC td n M b)), (3, .int ((clS td M (ix (gaL td M b n)) (acC td n M b) j).2)), (4, .int (nI j))]) hx hb dX1_clear_44 hl (by decide) rfl (fun ls hl => ?_)
      refine lv_iload_n hx hb dX1_clear_46 rfl (lv_at hl 3 rfl) ?_
      refine lv_iconst (v := 1) hx hb dX1_clear_47 (by decide) ?_
      refine lv_aload hx hb dX1_clear_48 (lv_at hl 0 rfl) ?_
      refine kd_get hx hb hts hown hG hP hDk (hDk.ix hk2) hinX0 0 (by decide) (by decide +kernel) rfl dX1_clear_50 ?_
      refine lv_ishl hx hb dX1_clear_53 ?_
      refine lv_iand hx hb dX1_clear_54 ?_
      refine lv_if_eq (tgt := 76) hx hb dX1_clear_55 (by decide) (fun h55 => ?_) (fun h55 => ?_)
      · refine lv_iinc (v := nI (j + 1)) (lv' := [(4, .int (nI (j + 1))), (5, .ref (bad ((ix (gaL td M b n)) j))), (0, .ref (ad 0)), (1, .int (nI b)), (2, .int (acC td n M b)), (3, .int ((clS td M (ix (gaL td M b n)) (acC td n M b) j).2))]) hx hb dX1_clear_76 hl (k := 5) rfl (kinc j) (by decide) rfl (fun ls hl => ?_)
        refine lv_goto (tgt := 20) hx hb dX1_clear_79 (by decide) ?_
        exact (ih (j + 1) w  ls H locs (by omega) (by rw [clS_f (fun q => q h55)]; exact hDk) hP hD hS (by rw [clS_f (fun q => q h55)]; exact lv_sub hl [2, 3, 4, 5, 0] rfl))
      · refine lv_iload_n hx hb dX1_clear_58 rfl (lv_at hl 4 rfl) ?_
        refine lv_aload hx hb dX1_clear_59 (lv_at hl 0 rfl) ?_
        refine lv_aload_n hx hb dX1_clear_61 rfl (lv_at hl 1 rfl) ?_
        refine kget (ci := 2) (C := RX1) (T := TX1) (N := 7) hx hb hts hown hG hP 0 hDk.x rfl hinX1 4 (by decide) (by decide +kernel) rfl dX1_clear_62 ?_
        obtain ⟨q65, hq65, -⟩ := hDk.bill (hDk.ix hk2)
        refine kc_i (va_runV (As := [.int td]) (rest := [.int ((clS td M (ix (gaL td M b n)) (acC td n M b) j).2)]) ⟨hx, hb, hml, hown, hts⟩ (c_X0_discountOn hq65) (cwV 1 hts gX1_clear_X0_discountOn rfl rfl rfl (by decide +kernel) ⟨Nat.le_of_ble_eq_true rfl, Nat.le_of_ble_eq_true rfl⟩) (kpv (q0 := q65) hG hP hD hS hq65 rfl) rfl rfl hl.1 rfl (lv_room (Nat.le_of_ble_eq_true rfl)) dX1_clear_65 ⟨Nat.le_of_ble_eq_true rfl, Nat.le_of_ble_eq_true rfl⟩) hS (fun r65 w H locs hp hP hD hS => ?_)
        have hDk : Dk K ad bad td n ((clS td M (ix (gaL td M b n)) (acC td n M b) j).1) ((acS td M (ix (gaL td M b n)) (M 11 b) (mrm td n M b rm 8) (gaL td M b n).length).2.1) ((gaL td M b n).length) (ix (gaL td M b n)) w := by rw [hp.2]; exact hDk
        rw [hp.1]
        refine lv_iadd hx hb dX1_clear_68 ?_
        refine lv_istore_n (lv' := [(3, .int ((clS td M (ix (gaL td M b n)) (acC td n M b) j).2 + (disc td ((clS td M (ix (gaL td M b n)) (acC td n M b) j).1) ((ix (gaL td M b n)) j)))), (5, .ref (bad ((ix (gaL td M b n)) j))), (0, .ref (ad 0)), (1, .int (nI b)), (2, .int (acC td n M b)), (4, .int (nI j))]) hx hb dX1_clear_69 rfl hl (by decide) rfl (fun ls hl => ?_)
        refine lv_aload_n hx hb dX1_clear_70 rfl (lv_at hl 2 rfl) ?_
        refine lv_aload hx hb dX1_clear_71 (lv_at hl 1 rfl) ?_
        refine kc_v (va_runV (As := [.ref (bad ((ix (gaL td M b n)) j))]) (rest := []) ⟨hx, hb, hml, hown, hts⟩ (c_X1_payEarly hDk (hDk.ix hk2) (okP_cl (hok _ (hDk.ix hk2)))) (cwV 1 hts gX1_clear_X1_payEarly rfl rfl rfl (by decide +kernel) ⟨Nat.le_of_ble_eq_true rfl, Nat.le_of_ble_eq_true rfl⟩) (kpv (q0 := 0) hG hP hD hS hDk.x rfl) rfl rfl hl.1 rfl (lv_room (Nat.le_of_ble_eq_true rfl)) dX1_clear_73 ⟨Nat.le_of_ble_eq_true rfl, Nat.le_of_ble_eq_true rfl⟩) hS (fun w H locs hp hP hD hS => ?_)
        have hDk : Dk K ad bad td n (payE td ((clS td M (ix (gaL td M b n)) (acC td n M b) j).1) ((ix (gaL td M b n)) j)) ((acS td M (ix (gaL td M b n)) (M 11 b) (mrm td n M b rm 8) (gaL td M b n).length).2.1) ((gaL td M b n).length) (ix (gaL td M b n)) w := hp
        refine lv_iinc (v := nI (j + 1)) (lv' := [(4, .int (nI (j + 1))), (3, .int ((clS td M (ix (gaL td M b n)) (acC td n M b) j).2 + (disc td ((clS td M (ix (gaL td M b n)) (acC td n M b) j).1) ((ix (gaL td M b n)) j)))), (5, .ref (bad ((ix (gaL td M b n)) j))), (0, .ref (ad 0)), (1, .int (nI b)), (2, .int (acC td n M b))]) hx hb dX1_clear_76 hl (k := 5) rfl (kinc j) (by decide) rfl (fun ls hl => ?_)
        refine lv_goto (tgt := 20) hx hb dX1_clear_79 (by decide) ?_
        exact (ih (j + 1) w  ls H locs (by omega) (by rw [clS_t h55]; exact hDk) hP hD hS (by rw [clS_t h55]; exact lv_sub hl [3, 4, 5, 1, 0] rfl))
  refine LOOP _ (fun w  ls H locs hDk hP hD hS hl => ?_) (gaL td M b n).length 0 w  ls _ _ (by omega) hDk hP hD hS (lv_sub hl [3, 4, 2, 1, 0] rfl)
  refine lv_iload_n hx hb dX1_clear_82 rfl (lv_at hl 3 rfl) ?_
  exact kr_i hx hb hr hlocks hP hD hS (Nat.le_of_ble_eq_true rfl) (Nat.le_of_ble_eq_true rfl) (⟨rfl, _, _, _, hDk⟩) dX1_clear_83
set_option maxHeartbeats 4000000 in
set_option maxRecDepth 100000 in
theorem c_X1_bestFrom_0 {l : Launch} {K : Ks} {A : Nat → Prop} {ad bad : Nat → Nat} {td : Int32} {n : Nat} {M : Nat → Nat → Int32} {rm : Nat → Int32} {k : Nat} {idx : Nat → Nat} {w : va_W} (hDk : Dk K ad bad td n M rm k idx w) {pl : Nat} {bud tog : Int32} (hpl : pl = k) : Met l yX1_bestFrom wsX1_bestFrom (kR 3 0 0) (kPr K A [.ref (ad 6), .int (nI pl), .int td, .int bud, .ref (ad 4), .int tog] (w)) (kQi K A (fun r w1 => r = 0 ∧ Dk K ad bad td n M rm k idx w1)) 0 0 A := by
  refine kent (cc := cX1_bestFrom) (maxL := 11) (ret := (some .int)) (by decide) rfl (Nat.le_of_ble_eq_true rfl) ?_
  intro p e s m args below meth c ls hx hb hr hts hown hlocks hml hini hG hP hD hS hl
  have hinX0 : ∀ x ∈ wsX00, x ∈ wsX1_bestFrom := by decide +kernel
  have hl : lv_has ls 11 [(0, .ref (ad 6)), (1, .int (nI pl)), (2, .int td), (3, .int bud), (4, .ref (ad 4)), (5, .int tog)] := hl
  have hn30 := hDk.n30
  have hk30 := hDk.k30
  refine lv_iload_n hx hb dX1_bestFrom_0 rfl (lv_at hl 1 rfl) ?_
  refine lv_aload_n hx hb dX1_bestFrom_1 rfl (lv_at hl 0 rfl) ?_
  obtain ⟨m6, e6, h6⟩ := hDk.l6
  refine kc_i (va_runV (As := []) (rest := [.int (nI pl)]) ⟨hx, hb, hml, hown, hts⟩ (e_size6 h6) (cwV 0 hts gX1_bestFrom_Jx4a65c_size_8abf5 rfl rfl rfl (by decide +kernel) ⟨Nat.le_of_ble_eq_true rfl, Nat.le_of_ble_eq_true rfl⟩) (kpv (q0 := 6) hG hP hD hS h6 rfl) rfl rfl hl.1 rfl (lv_room (Nat.le_of_ble_eq_true rfl)) dX1_bestFrom_2 ⟨Nat.le_of_ble_eq_true rfl, Nat.le_of_ble_eq_true rfl⟩) hS (fun r2 w H locs hp hP hD hS => ?_)
  have hDk : Dk K ad bad td n M rm k idx w := by rw [hp.2]; exact hDk
  rw [hp.1]
  refine lv_icmp_ge (tgt := 14) hx hb dX1_bestFrom_5 (by decide) (fun h5 => ?_) (fun h5 => False.elim (h5 (by rw [hpl]; exact Int32.le_refl _)))
  refine lv_iconst (v := 0) hx hb dX1_bestFrom_14 (by decide) ?_
  exact kr_i hx hb hr hlocks hP hD hS (Nat.zero_le _) (Nat.zero_le _) (⟨rfl, hDk⟩) dX1_bestFrom_15
set_option maxHeartbeats 4000000 in
set_option maxRecDepth 100000 in
theorem c_X1_bestFrom_s {l : Launch} {K : Ks} {A : Nat → Prop} {ad bad : Nat → Nat} {td : Int32} {n : Nat} {M : Nat → Nat → Int32} {rm : Nat → Int32} {k : Nat} {idx : Nat → Nat} {w : va_W} (hDk : Dk K ad bad td n M rm k idx w) {d pl : Nat} {bud tog : Int32} (hpl : pl < k) (hk12 : k ≤ 12) (hok : ∀ j, j < n → okP M j) (ih : ∀ (rm : Nat → Int32) (bud tog : Int32) (w : va_W), Dk K ad bad td n M rm k idx w → Met l yX1_bestFrom wsX1_bestFrom (kR (d + 3) 0 0) (kPr K A [.ref (ad 6), .int (nI (pl + 1)), .int td, .int bud, .ref (ad 4), .int tog] (w)) (kQi K A (fun r w1 => r = bfS td M idx d (pl + 1) rm bud tog ∧ Dk K ad bad td n M rm k idx w1)) 0 0 A) : Met l yX1_bestFrom wsX1_bestFrom (kR (d + 4) 0 0) (kPr K A [.ref (ad 6), .int (nI pl), .int td, .int bud, .ref (ad 4), .int tog] (w)) (kQi K A (fun r w1 => r = bfS td M idx (d + 1) pl rm bud tog ∧ Dk K ad bad td n M rm k idx w1)) 0 0 A := by
  refine kent (cc := cX1_bestFrom) (maxL := 11) (ret := (some .int)) (by decide) rfl (Nat.le_of_ble_eq_true rfl) ?_
  intro p e s m args below meth c ls hx hb hr hts hown hlocks hml hini hG hP hD hS hl
  have hinX0 : ∀ x ∈ wsX00, x ∈ wsX1_bestFrom := by decide +kernel
  have hl : lv_has ls 11 [(0, .ref (ad 6)), (1, .int (nI pl)), (2, .int td), (3, .int bud), (4, .ref (ad 4)), (5, .int tog)] := hl
  have hn30 := hDk.n30
  have hk30 := hDk.k30
  refine lv_iload_n hx hb dX1_bestFrom_0 rfl (lv_at hl 1 rfl) ?_
  refine lv_aload_n hx hb dX1_bestFrom_1 rfl (lv_at hl 0 rfl) ?_
  obtain ⟨m6, e6, h6⟩ := hDk.l6
  refine kc_i (va_runV (As := []) (rest := [.int (nI pl)]) ⟨hx, hb, hml, hown, hts⟩ (e_size6 h6) (cwV 0 hts gX1_bestFrom_Jx4a65c_size_8abf5 rfl rfl rfl (by decide +kernel) ⟨(by dsimp only [kR]; omega), (by dsimp only [kR]; omega)⟩) (kpv (q0 := 6) hG hP hD hS h6 rfl) rfl rfl hl.1 rfl (lv_room (Nat.le_of_ble_eq_true rfl)) dX1_bestFrom_2 ⟨Nat.le_of_ble_eq_true rfl, Nat.le_of_ble_eq_true rfl⟩) hS (fun r2 w H locs hp hP hD hS => ?_)
  have hDk : Dk K ad bad td n M rm k idx w := by rw [hp.2]; exact hDk
  rw [hp.1]
  refine lv_icmp_ge (tgt := 14) hx hb dX1_bestFrom_5 (by decide) (fun h5 => False.elim (absurd h5 (nI_ge hpl (by omega)))) (fun h5 => ?_)
  refine lv_iload_n hx hb dX1_bestFrom_8 rfl (lv_at hl 1 rfl) ?_
  refine lv_bipush (v := 12) hx hb dX1_bestFrom_9 (by decide) ?_
  refine lv_icmp_lt (tgt := 16) hx hb dX1_bestFrom_11 (by decide) (fun h11 => ?_) (fun h11 => False.elim (h11 (by have := nI_ltn (i := pl) (n := 12) (by omega) (by decide); exact this)))
  refine lv_aload_n hx hb dX1_bestFrom_16 rfl (lv_at hl 0 rfl) ?_
  refine lv_iload_n hx hb dX1_bestFrom_17 rfl (lv_at hl 1 rfl) ?_
  obtain ⟨m6, e6, h6⟩ := hDk.l6
  refine kc_r (va_runV (As := [.int (nI pl)]) (rest := []) ⟨hx, hb, hml, hown, hts⟩ (d_get6 hDk hpl) (cwV 1 hts gX1_bestFrom_Jx4a65c_get_915e3 rfl rfl rfl (by decide +kernel) ⟨(by dsimp only [kR]; omega), (by dsimp only [kR]; omega)⟩) (kpv (q0 := 6) hG hP hD hS h6 rfl) rfl rfl hl.1 rfl (lv_room (Nat.le_of_ble_eq_true rfl)) dX1_bestFrom_18 ⟨Nat.le_of_ble_eq_true rfl, Nat.le_of_ble_eq_true rfl⟩) hS (fun r18 w H locs hp hP hD hS => ?_)
  have hDk : Dk K ad bad td n M rm k idx w := by rw [hp.2]; exact hDk
  rw [hp.1]
  refine kd_cast hx hb hown hts (by decide +kernel) hG hP hDk (hDk.ix hpl) dX1_bestFrom_21 ?_
  refine lv_astore (lv' := [(6, .ref (bad (idx pl))), (0, .ref (ad 6)), (1, .int (nI pl)), (2, .int td), (3, .int bud), (4, .ref (ad 4)), (5, .int tog)]) hx hb dX1_bestFrom_24 hl (by decide) rfl (fun ls hl => ?_)
  refine lv_aload hx hb dX1_bestFrom_26 (lv_at hl 0 rfl) ?_
  refine lv_iload_n hx hb dX1_bestFrom_28 rfl (lv_at hl 3 rfl) ?_
  obtain ⟨q29, hq29, -⟩ := hDk.bill (hDk.ix hpl)
  refine kc_i (va_runV (As := [.int td]) (rest := []) ⟨hx, hb, hml, hown, hts⟩ (c_X0_discountOn hq29) (cwV 1 hts gX1_bestFrom_X0_discountOn rfl rfl rfl (by decide +kernel) ⟨(by dsimp only [kR]; omega), (by dsimp only [kR]; omega)⟩) (kpv (q0 := q29) hG hP hD hS hq29 rfl) rfl rfl hl.1 rfl (lv_room (Nat.le_of_ble_eq_true rfl)) dX1_bestFrom_29 ⟨Nat.le_of_ble_eq_true rfl, Nat.le_of_ble_eq_true rfl⟩) hS (fun r29 w H locs hp hP hD hS => ?_)
  have hDk : Dk K ad bad td n M rm k idx w := by rw [hp.2]; exact hDk
  rw [hp.1]
  refine lv_istore (lv' := [(7, .int (disc td M (idx pl))), (6, .ref (bad (idx pl))), (0, .ref (ad 6)), (1, .int (nI pl)), (2, .int td), (3, .int bud), (4, .ref (ad 4)), (5, .int tog)]) hx hb dX1_bestFrom_32 hl (by decide) rfl (fun ls hl => ?_)
  refine lv_aload hx hb dX1_bestFrom_34 (lv_at hl 1 rfl) ?_
  refine lv_iload_n hx hb dX1_bestFrom_36 rfl (lv_at hl 4 rfl) ?_
  obtain ⟨q37, hq37, -⟩ := hDk.bill (hDk.ix hpl)
  refine kc_i (va_runV (As := [.int td]) (rest := []) ⟨hx, hb, hml, hown, hts⟩ (c_X0_priceOn hq37) (cwV 1 hts gX1_bestFrom_X0_priceOn rfl rfl rfl (by decide +kernel) ⟨(by dsimp only [kR]; omega), (by dsimp only [kR]; omega)⟩) (kpv (q0 := q37) hG hP hD hS hq37 rfl) rfl rfl hl.1 rfl (lv_room (Nat.le_of_ble_eq_true rfl)) dX1_bestFrom_37 ⟨Nat.le_of_ble_eq_true rfl, Nat.le_of_ble_eq_true rfl⟩) hS (fun r37 w H locs hp hP hD hS => ?_)
  have hDk : Dk K ad bad td n M rm k idx w := by rw [hp.2]; exact hDk
  rw [hp.1]
  refine lv_istore (lv' := [(8, .int (price td M (idx pl))), (7, .int (disc td M (idx pl))), (6, .ref (bad (idx pl))), (0, .ref (ad 6)), (1, .int (nI pl)), (2, .int td), (3, .int bud), (4, .ref (ad 4)), (5, .int tog)]) hx hb dX1_bestFrom_40 hl (by decide) rfl (fun ls hl => ?_)
  refine lv_iload hx hb dX1_bestFrom_42 (lv_at hl 8 rfl) ?_
  refine lv_iload hx hb dX1_bestFrom_44 (lv_at hl 1 rfl) ?_
  refine lv_isub hx hb dX1_bestFrom_46 ?_
  refine lv_istore (lv' := [(9, .int (tog - (disc td M (idx pl)))), (8, .int (price td M (idx pl))), (7, .int (disc td M (idx pl))), (6, .ref (bad (idx pl))), (0, .ref (ad 6)), (1, .int (nI pl)), (2, .int td), (3, .int bud), (4, .ref (ad 4)), (5, .int tog)]) hx hb dX1_bestFrom_47 hl (by decide) rfl (fun ls hl => ?_)
  refine lv_iconst (v := 0) hx hb dX1_bestFrom_49 (by decide) ?_
  refine lv_istore (lv' := [(10, .int 0), (9, .int (tog - (disc td M (idx pl)))), (8, .int (price td M (idx pl))), (7, .int (disc td M (idx pl))), (6, .ref (bad (idx pl))), (0, .ref (ad 6)), (1, .int (nI pl)), (2, .int td), (3, .int bud), (4, .ref (ad 4)), (5, .int tog)]) hx hb dX1_bestFrom_50 hl (by decide) rfl (fun ls hl => ?_)
  refine lv_iload hx hb dX1_bestFrom_52 (lv_at hl 2 rfl) ?_
  refine lv_iload_n hx hb dX1_bestFrom_54 rfl (lv_at hl 8 rfl) ?_
  refine lv_icmp_gt (tgt := 118) hx hb dX1_bestFrom_55 (by decide) (fun h55 => ?_) (fun h55 => ?_)
  · refine lv_iload hx hb dX1_bestFrom_118 (lv_at hl 0 rfl) ?_
    refine lv_iload hx hb dX1_bestFrom_120 (lv_at hl 1 rfl) ?_
    refine lv_icmp_ge (tgt := 145) hx hb dX1_bestFrom_122 (by decide) (fun h122 => ?_) (fun h122 => ?_)
    · refine lv_iload hx hb dX1_bestFrom_145 (lv_at hl 0 rfl) ?_
      exact kr_i hx hb hr hlocks hP hD hS (Nat.zero_le _) (Nat.zero_le _) (⟨by rw [bfS, (bfC_f (fun q => q.1 h55))]; exact (if_neg (i32_nlt.mpr h122)).symm, hDk⟩) dX1_bestFrom_147
    · refine lv_iload hx hb dX1_bestFrom_125 (lv_at hl 0 rfl) ?_
      refine lv_aload_n hx hb dX1_bestFrom_127 rfl (lv_at hl 5 rfl) ?_
      refine lv_iload_n hx hb dX1_bestFrom_128 rfl (lv_at hl 6 rfl) ?_
      refine lv_iconst (v := 1) hx hb dX1_bestFrom_129 (by decide) ?_
      refine lv_iadd hx hb dX1_bestFrom_130 ?_
      refine ktop (z := nI (pl + 1)) (nI_1 pl) ?_
      refine lv_iload_n hx hb dX1_bestFrom_131 rfl (lv_at hl 7 rfl) ?_
      refine lv_iload_n hx hb dX1_bestFrom_132 rfl (lv_at hl 8 rfl) ?_
      refine lv_aload hx hb dX1_bestFrom_133 (lv_at hl 9 rfl) ?_
      refine lv_iload hx hb dX1_bestFrom_135 (lv_at hl 1 rfl) ?_
      refine kc_i (va_runS (As := [.ref (ad 6), .int (nI (pl + 1)), .int td, .int bud, .ref (ad 4), .int (tog - (disc td M (idx pl)))]) (rest := [.int 0]) ⟨hx, hb, hml, hown, hts⟩ (ih rm bud (tog - (disc td M (idx pl))) w hDk) (va_cwS 6 hts gX1_bestFrom_X1_bestFrom rfl rfl rfl (by decide +kernel) ⟨(by show 10 + (d + 3) + 1 ≤ 10 + (d + 4); omega), (by show 8 + (11 + 11) + (200 + 40 * (d + 3)) ≤ 200 + 40 * (d + 4); omega)⟩) (kps hG hP hD hS) rfl rfl hl.1 rfl (lv_room (Nat.le_of_ble_eq_true rfl)) dX1_bestFrom_137 ⟨Nat.le_of_ble_eq_true rfl, Nat.le_of_ble_eq_true rfl⟩) hS (fun r137 w H locs hp hP hD hS => ?_)
      have hDk : Dk K ad bad td n M rm k idx w := hp.2
      rw [hp.1]
      refine va_mmax hx hb (hml.trans hl.1.symm) hown (hts (.methodLink RX1 193 Lib.Math.max.name) (by decide +kernel)) (hts (.static Lib.Math.max.name) (by decide +kernel)) (hts (.initialized "java/lang/Math") (by decide +kernel)) (hts (.code Lib.Math.max.name Lib.Math.max.code 2 (some .int)) (by decide +kernel)) (by show _ ≤ 10 + (d + 4); omega) (by show _ ≤ 200 + 40 * (d + 4); simp [Value.category]; omega) (Nat.zero_le _) (Nat.zero_le _) dX1_bestFrom_140 ?_
      refine lv_istore (lv' := [(10, .int (if 0 < (bfS td M idx d (pl + 1) rm bud (tog - (disc td M (idx pl)))) then (bfS td M idx d (pl + 1) rm bud (tog - (disc td M (idx pl)))) else 0)), (9, .int (tog - (disc td M (idx pl)))), (8, .int (price td M (idx pl))), (7, .int (disc td M (idx pl))), (6, .ref (bad (idx pl))), (0, .ref (ad 6)), (1, .int (nI pl)), (2, .int td), (3, .int bud), (4, .ref (ad 4)), (5, .int tog)]) hx hb dX1_bestFrom_143 hl (by decide) rfl (fun ls hl => ?_)
      refine lv_iload hx hb dX1_bestFrom_145 (lv_at hl 0 rfl) ?_
      exact kr_i hx hb hr hlocks hP hD hS (Nat.zero_le _) (Nat.zero_le _) (⟨by rw [bfS, (bfC_f (fun q => q.1 h55))]; exact (if_pos (i32_nle.mp h122)).symm, hDk⟩) dX1_bestFrom_147
  · refine lv_iload hx hb dX1_bestFrom_58 (lv_at hl 2 rfl) ?_
    refine lv_aload hx hb dX1_bestFrom_60 (lv_at hl 9 rfl) ?_
    refine lv_aload hx hb dX1_bestFrom_62 (lv_at hl 4 rfl) ?_
    refine kd_get hx hb hts hown hG hP hDk (hDk.ix hpl) hinX0 2 (by decide) (by decide +kernel) rfl dX1_bestFrom_64 ?_
    refine ktop (z := nI (su M (idx pl))) ((hok _ (hDk.ix hpl)).2.2.1) ?_
    refine kiald (n := 8) (j := (su M (idx pl))) hx hb hG hP 4 hDk.a4 (hok _ (hDk.ix hpl)).2.2.2 (by decide) dX1_bestFrom_67 ?_
    refine lv_icmp_gt (tgt := 118) hx hb dX1_bestFrom_68 (by decide) (fun h68 => ?_) (fun h68 => ?_)
    · refine lv_iload hx hb dX1_bestFrom_118 (lv_at hl 0 rfl) ?_
      refine lv_iload hx hb dX1_bestFrom_120 (lv_at hl 1 rfl) ?_
      refine lv_icmp_ge (tgt := 145) hx hb dX1_bestFrom_122 (by decide) (fun h122 => ?_) (fun h122 => ?_)
      · refine lv_iload hx hb dX1_bestFrom_145 (lv_at hl 0 rfl) ?_
        exact kr_i hx hb hr hlocks hP hD hS (Nat.zero_le _) (Nat.zero_le _) (⟨by rw [bfS, (bfC_f (fun q => q.2 h68))]; exact (if_neg (i32_nlt.mpr h122)).symm, hDk⟩) dX1_bestFrom_147
      · refine lv_iload hx hb dX1_bestFrom_125 (lv_at hl 0 rfl) ?_
        refine lv_aload_n hx hb dX1_bestFrom_127 rfl (lv_at hl 5 rfl) ?_
        refine lv_iload_n hx hb dX1_bestFrom_128 rfl (lv_at hl 6 rfl) ?_
        refine lv_iconst (v := 1) hx hb dX1_bestFrom_129 (by decide) ?_
        refine lv_iadd hx hb dX1_bestFrom_130 ?_
        refine ktop (z := nI (pl + 1)) (nI_1 pl) ?_
        refine lv_iload_n hx hb dX1_bestFrom_131 rfl (lv_at hl 7 rfl) ?_
        refine lv_iload_n hx hb dX1_bestFrom_132 rfl (lv_at hl 8 rfl) ?_
        refine lv_aload hx hb dX1_bestFrom_133 (lv_at hl 9 rfl) ?_
        refine lv_iload hx hb dX1_bestFrom_135 (lv_at hl 1 rfl) ?_
        refine kc_i (va_runS (As := [.ref (ad 6), .int (nI (pl + 1)), .int td, .int bud, .ref (ad 4), .int (tog - (disc td M (idx pl)))]) (rest := [.int 0]) ⟨hx, hb, hml, hown, hts⟩ (ih rm bud (tog - (disc td M (idx pl))) w hDk) (va_cwS 6 hts gX1_bestFrom_X1_bestFrom rfl rfl rfl (by decide +kernel) ⟨(by show 10 + (d + 3) + 1 ≤ 10 + (d + 4); omega), (by show 8 + (11 + 11) + (200 + 40 * (d + 3)) ≤ 200 + 40 * (d + 4); omega)⟩) (kps hG hP hD hS) rfl rfl hl.1 rfl (lv_room (Nat.le_of_ble_eq_true rfl)) dX1_bestFrom_137 ⟨Nat.le_of_ble_eq_true rfl, Nat.le_of_ble_eq_true rfl⟩) hS (fun r137 w H locs hp hP hD hS => ?_)
        have hDk : Dk K ad bad td n M rm k idx w := hp.2
        rw [hp.1]
        refine va_mmax hx hb (hml.trans hl.1.symm) hown (hts (.methodLink RX1 193 Lib.Math.max.name) (by decide +kernel)) (hts (.static Lib.Math.max.name) (by decide +kernel)) (hts (.initialized "java/lang/Math") (by decide +kernel)) (hts (.code Lib.Math.max.name Lib.Math.max.code 2 (some .int)) (by decide +kernel)) (by show _ ≤ 10 + (d + 4); omega) (by show _ ≤ 200 + 40 * (d + 4); simp [Value.category]; omega) (Nat.zero_le _) (Nat.zero_le _) dX1_bestFrom_140 ?_
        refine lv_istore (lv' := [(10, .int (if 0 < (bfS td M idx d (pl + 1) rm bud (tog - (disc td M (idx pl)))) then (bfS td M idx d (pl + 1) rm bud (tog - (disc td M (idx pl)))) else 0)), (9, .int (tog - (disc td M (idx pl)))), (8, .int (price td M (idx pl))), (7, .int (disc td M (idx pl))), (6, .ref (bad (idx pl))), (0, .ref (ad 6)), (1, .int (nI pl)), (2, .int td), (3, .int bud), (4, .ref (ad 4)), (5, .int tog)]) hx hb dX1_bestFrom_143 hl (by decide) rfl (fun ls hl => ?_)
        refine lv_iload hx hb dX1_bestFrom_145 (lv_at hl 0 rfl) ?_
        exact kr_i hx hb hr hlocks hP hD hS (Nat.zero_le _) (Nat.zero_le _) (⟨by rw [bfS, (bfC_f (fun q => q.2 h68))]; exact (if_pos (i32_nle.mp h122)).symm, hDk⟩) dX1_bestFrom_147
    · refine lv_aload hx hb dX1_bestFrom_71 (lv_at hl 9 rfl) ?_
      refine lv_aload hx hb dX1_bestFrom_73 (lv_at hl 4 rfl) ?_
      refine kd_get hx hb hts hown hG hP hDk (hDk.ix hpl) hinX0 2 (by decide) (by decide +kernel) rfl dX1_bestFrom_75 ?_
      refine ktop (z := nI (su M (idx pl))) ((hok _ (hDk.ix hpl)).2.2.1) ?_
      refine lv_dup2_11 hx hb dX1_bestFrom_78 rfl rfl ?_
      refine kiald (n := 8) (j := (su M (idx pl))) hx hb hG hP 4 hDk.a4 (hok _ (hDk.ix hpl)).2.2.2 (by decide) dX1_bestFrom_79 ?_
      refine lv_iload hx hb dX1_bestFrom_80 (lv_at hl 2 rfl) ?_
      refine lv_isub hx hb dX1_bestFrom_82 ?_
      refine kd_ast4 (j := (su M (idx pl))) hx hb hG hP hD hS hDk (hok _ (hDk.ix hpl)).2.2.2 dX1_bestFrom_83 (fun w H locs hDk hP hD hS => ?_)
      refine lv_iload hx hb dX1_bestFrom_84 (lv_at hl 3 rfl) ?_
      refine lv_aload_n hx hb dX1_bestFrom_86 rfl (lv_at hl 5 rfl) ?_
      refine lv_iload_n hx hb dX1_bestFrom_87 rfl (lv_at hl 6 rfl) ?_
      refine lv_iconst (v := 1) hx hb dX1_bestFrom_88 (by decide) ?_
      refine lv_iadd hx hb dX1_bestFrom_89 ?_
      refine ktop (z := nI (pl + 1)) (nI_1 pl) ?_
      refine lv_iload_n hx hb dX1_bestFrom_90 rfl (lv_at hl 7 rfl) ?_
      refine lv_iload_n hx hb dX1_bestFrom_91 rfl (lv_at hl 8 rfl) ?_
      refine lv_iload hx hb dX1_bestFrom_92 (lv_at hl 2 rfl) ?_
      refine lv_isub hx hb dX1_bestFrom_94 ?_
      refine lv_aload hx hb dX1_bestFrom_95 (lv_at hl 9 rfl) ?_
      refine lv_iload hx hb dX1_bestFrom_97 (lv_at hl 1 rfl) ?_
      refine kc_i (va_runS (As := [.ref (ad 6), .int (nI (pl + 1)), .int td, .int (bud - (price td M (idx pl))), .ref (ad 4), .int (tog - (disc td M (idx pl)))]) (rest := [.int (disc td M (idx pl))]) ⟨hx, hb, hml, hown, hts⟩ (ih (upd rm (su M (idx pl)) (rm (su M (idx pl)) - (price td M (idx pl)))) (bud - (price td M (idx pl))) (tog - (disc td M (idx pl))) w hDk) (va_cwS 6 hts gX1_bestFrom_X1_bestFrom rfl rfl rfl (by decide +kernel) ⟨(by show 10 + (d + 3) + 1 ≤ 10 + (d + 4); omega), (by show 8 + (11 + 11) + (200 + 40 * (d + 3)) ≤ 200 + 40 * (d + 4); omega)⟩) (kps hG hP hD hS) rfl rfl hl.1 rfl (lv_room (Nat.le_of_ble_eq_true rfl)) dX1_bestFrom_99 ⟨Nat.le_of_ble_eq_true rfl, Nat.le_of_ble_eq_true rfl⟩) hS (fun r99 w H locs hp hP hD hS => ?_)
      have hDk : Dk K ad bad td n M (upd rm (su M (idx pl)) ((rm (su M (idx pl))) - (price td M (idx pl)))) k idx w := hp.2
      rw [hp.1]
      refine lv_iadd hx hb dX1_bestFrom_102 ?_
      refine lv_istore (lv' := [(10, .int ((disc td M (idx pl)) + (bfS td M idx d (pl + 1) (upd rm (su M (idx pl)) (rm (su M (idx pl)) - (price td M (idx pl)))) (bud - (price td M (idx pl))) (tog - (disc td M (idx pl)))))), (9, .int (tog - (disc td M (idx pl)))), (8, .int (price td M (idx pl))), (7, .int (disc td M (idx pl))), (6, .ref (bad (idx pl))), (0, .ref (ad 6)), (1, .int (nI pl)), (2, .int td), (3, .int bud), (4, .ref (ad 4)), (5, .int tog)]) hx hb dX1_bestFrom_103 hl (by decide) rfl (fun ls hl => ?_)
      refine lv_aload hx hb dX1_bestFrom_105 (lv_at hl 9 rfl) ?_
      refine lv_aload hx hb dX1_bestFrom_107 (lv_at hl 4 rfl) ?_
      refine kd_get hx hb hts hown hG hP hDk (hDk.ix hpl) hinX0 2 (by decide) (by decide +kernel) rfl dX1_bestFrom_109 ?_
      refine ktop (z := nI (su M (idx pl))) ((hok _ (hDk.ix hpl)).2.2.1) ?_
      refine lv_dup2_11 hx hb dX1_bestFrom_112 rfl rfl ?_
      refine kiald (n := 8) (j := (su M (idx pl))) hx hb hG hP 4 hDk.a4 (hok _ (hDk.ix hpl)).2.2.2 (by decide) dX1_bestFrom_113 ?_
      refine lv_iload hx hb dX1_bestFrom_114 (lv_at hl 2 rfl) ?_
      refine lv_iadd hx hb dX1_bestFrom_116 ?_
      refine kd_ast4 (j := (su M (idx pl))) hx hb hG hP hD hS hDk (hok _ (hDk.ix hpl)).2.2.2 dX1_bestFrom_117 (fun w H locs hDk hP hD hS => ?_)
      have hDk : Dk K ad bad td n M rm k idx w := by rw [bf_rm] at hDk; exact hDk
      refine lv_iload hx hb dX1_bestFrom_118 (lv_at hl 0 rfl) ?_
      refine lv_iload hx hb dX1_bestFrom_120 (lv_at hl 1 rfl) ?_
      refine lv_icmp_ge (tgt := 145) hx hb dX1_bestFrom_122 (by decide) (fun h122 => ?_) (fun h122 => ?_)
      · refine lv_iload hx hb dX1_bestFrom_145 (lv_at hl 0 rfl) ?_
        exact kr_i hx hb hr hlocks hP hD hS (Nat.zero_le _) (Nat.zero_le _) (⟨by rw [bfS, (bfC_t ⟨h55, h68⟩)]; exact (if_neg (i32_nlt.mpr h122)).symm, hDk⟩) dX1_bestFrom_147
      · refine lv_iload hx hb dX1_bestFrom_125 (lv_at hl 0 rfl) ?_
        refine lv_aload_n hx hb dX1_bestFrom_127 rfl (lv_at hl 5 rfl) ?_
        refine lv_iload_n hx hb dX1_bestFrom_128 rfl (lv_at hl 6 rfl) ?_
        refine lv_iconst (v := 1) hx hb dX1_bestFrom_129 (by decide) ?_
        refine lv_iadd hx hb dX1_bestFrom_130 ?_
        refine ktop (z := nI (pl + 1)) (nI_1 pl) ?_
        refine lv_iload_n hx hb dX1_bestFrom_131 rfl (lv_at hl 7 rfl) ?_
        refine lv_iload_n hx hb dX1_bestFrom_132 rfl (lv_at hl 8 rfl) ?_
        refine lv_aload hx hb dX1_bestFrom_133 (lv_at hl 9 rfl) ?_
        refine lv_iload hx hb dX1_bestFrom_135 (lv_at hl 1 rfl) ?_
        refine kc_i (va_runS (As := [.ref (ad 6), .int (nI (pl + 1)), .int td, .int bud, .ref (ad 4), .int (tog - (disc td M (idx pl)))]) (rest := [.int ((disc td M (idx pl)) + (bfS td M idx d (pl + 1) (upd rm (su M (idx pl)) (rm (su M (idx pl)) - (price td M (idx pl)))) (bud - (price td M (idx pl))) (tog - (disc td M (idx pl)))))]) ⟨hx, hb, hml, hown, hts⟩ (ih rm bud (tog - (disc td M (idx pl))) w hDk) (va_cwS 6 hts gX1_bestFrom_X1_bestFrom rfl rfl rfl (by decide +kernel) ⟨(by show 10 + (d + 3) + 1 ≤ 10 + (d + 4); omega), (by show 8 + (11 + 11) + (200 + 40 * (d + 3)) ≤ 200 + 40 * (d + 4); omega)⟩) (kps hG hP hD hS) rfl rfl hl.1 rfl (lv_room (Nat.le_of_ble_eq_true rfl)) dX1_bestFrom_137 ⟨Nat.le_of_ble_eq_true rfl, Nat.le_of_ble_eq_true rfl⟩) hS (fun r137 w H locs hp hP hD hS => ?_)
        have hDk : Dk K ad bad td n M rm k idx w := hp.2
        rw [hp.1]
        refine va_mmax hx hb (hml.trans hl.1.symm) hown (hts (.methodLink RX1 193 Lib.Math.max.name) (by decide +kernel)) (hts (.static Lib.Math.max.name) (by decide +kernel)) (hts (.initialized "java/lang/Math") (by decide +kernel)) (hts (.code Lib.Math.max.name Lib.Math.max.code 2 (some .int)) (by decide +kernel)) (by show _ ≤ 10 + (d + 4); omega) (by show _ ≤ 200 + 40 * (d + 4); simp [Value.category]; omega) (Nat.zero_le _) (Nat.zero_le _) dX1_bestFrom_140 ?_
        refine lv_istore (lv' := [(10, .int (if ((disc td M (idx pl)) + (bfS td M idx d (pl + 1) (upd rm (su M (idx pl)) (rm (su M (idx pl)) - (price td M (idx pl)))) (bud - (price td M (idx pl))) (tog - (disc td M (idx pl))))) < (bfS td M idx d (pl + 1) rm bud (tog - (disc td M (idx pl)))) then (bfS td M idx d (pl + 1) rm bud (tog - (disc td M (idx pl)))) else ((disc td M (idx pl)) + (bfS td M idx d (pl + 1) (upd rm (su M (idx pl)) (rm (su M (idx pl)) - (price td M (idx pl)))) (bud - (price td M (idx pl))) (tog - (disc td M (idx pl))))))), (9, .int (tog - (disc td M (idx pl)))), (8, .int (price td M (idx pl))), (7, .int (disc td M (idx pl))), (6, .ref (bad (idx pl))), (0, .ref (ad 6)), (1, .int (nI pl)), (2, .int td), (3, .int bud), (4, .ref (ad 4)), (5, .int tog)]) hx hb dX1_bestFrom_143 hl (by decide) rfl (fun ls hl => ?_)
        refine lv_iload hx hb dX1_bestFrom_145 (lv_at hl 0 rfl) ?_
        exact kr_i hx hb hr hlocks hP hD hS (Nat.zero_le _) (Nat.zero_le _) (⟨by rw [bfS, (bfC_t ⟨h55, h68⟩)]; exact (if_pos (i32_nle.mp h122)).symm, hDk⟩) dX1_bestFrom_147
theorem c_X1_bestFrom {l : Launch} {K : Ks} {A : Nat → Prop} {ad bad : Nat → Nat} {td : Int32} {n : Nat} {M : Nat → Nat → Int32} {k : Nat} {idx : Nat → Nat} (hk12 : k ≤ 12) (hok : ∀ j, j < n → okP M j) : ∀ (d pl : Nat), pl + d = k → ∀ (rm : Nat → Int32) (bud tog : Int32) (w : va_W), Dk K ad bad td n M rm k idx w → Met l yX1_bestFrom wsX1_bestFrom (kR (d + 3) 0 0) (kPr K A [.ref (ad 6), .int (nI pl), .int td, .int bud, .ref (ad 4), .int tog] (w)) (kQi K A (fun r w1 => r = bfS td M idx d pl rm bud tog ∧ Dk K ad bad td n M rm k idx w1)) 0 0 A := by
  intro d
  induction d with
  | zero =>
    intro pl hpl rm bud tog w hDk
    exact c_X1_bestFrom_0 hDk (by omega)
  | succ d ih =>
    intro pl hpl rm bud tog w hDk
    exact c_X1_bestFrom_s hDk (by omega) hk12 hok (ih (pl + 1) (by omega))
set_option maxHeartbeats 4000000 in
set_option maxRecDepth 100000 in
theorem c_X1_most_tb {l : Launch} {K : Ks} {A : Nat → Prop} {ad bad : Nat → Nat} {td : Int32} {n : Nat} {M : Nat → Nat → Int32} {rm : Nat → Int32} {k : Nat} {idx : Nat → Nat} {w : va_W} (hDk : Dk K ad bad td n M rm k idx w) (hlt : l.stackTraces = false) {x : Int32} (hx4 : ixBad 4 x) : vx_Met l yX1_most wsX1_most (kR 17 1 6) (kPr K A [.ref (ad 0), .int x] (w)) kNo (kX K A IOB (fun w1 => Dk K ad bad td n M rm k idx w1)) 1 6 A := by
  refine kentT (cc := cX1_most) (maxL := 4) (ret := (some .int)) (by decide) rfl (Nat.le_of_ble_eq_true rfl) ?_
  intro p e s m args below meth c ls hx hb hr hts hown hlocks hml hxt hG hP hD hS hl
  have hinX1 : ∀ x ∈ wsX10, x ∈ wsX1_most := by decide +kernel
  have hl : lv_has ls 4 [(0, .ref (ad 0)), (1, .int x)] := hl
  have hn30 := hDk.n30
  have hk30 := hDk.k30
  refine lv_iload_n hx hb dX1_most_0 rfl (lv_at hl 1 rfl) ?_
  refine kc_t (vx_runS (As := [.int x]) (rest := []) ⟨hx, hb, hml, hown, hts⟩ (c_X1_checkBuyer_t hlt (ix4b hx4)) (va_cwS 1 hts gX1_most_X1_checkBuyer rfl rfl rfl (by decide +kernel) ⟨Nat.le_of_ble_eq_true rfl, Nat.le_of_ble_eq_true rfl⟩) (kps hG hP hD hS) rfl rfl hl.1 rfl (lv_room (Nat.le_of_ble_eq_true rfl)) dX1_most_1 ⟨Nat.le_of_ble_eq_true rfl, Nat.le_of_ble_eq_true rfl⟩) hS (fun ce q9 w H locs hp hP hD hS hce hcv hcl => ?_)
  have hDk : Dk K ad bad td n M rm k idx w := by rw [hp]; exact hDk
  exact kr_t hxt hlocks hP hD hS hce hcv hcl (Nat.le_of_ble_eq_true rfl) (Nat.le_of_ble_eq_true rfl) hDk
set_option maxHeartbeats 4000000 in
set_option maxRecDepth 100000 in
theorem c_X1_most_tp {l : Launch} {K : Ks} {A : Nat → Prop} {ad bad : Nat → Nat} {td : Int32} {n : Nat} {M : Nat → Nat → Int32} {rm : Nat → Int32} {k : Nat} {idx : Nat → Nat} {w : va_W} (hDk : Dk K ad bad td n M rm k idx w) (hlt : l.stackTraces = false) {b : Nat} (hx4 : b < 4) (hk12 : 12 < (gaL td M b n).length) : vx_Met l yX1_most wsX1_most (kR 17 31 1806) (kPr K A [.ref (ad 0), .int (nI b)] (w)) kNo (kX K A ISE (fun w1 => DkE K ad bad td n M w1)) 31 1806 A := by
  refine kentT (cc := cX1_most) (maxL := 4) (ret := (some .int)) (by decide) rfl (Nat.le_of_ble_eq_true rfl) ?_
  intro p e s m args below meth c ls hx hb hr hts hown hlocks hml hxt hG hP hD hS hl
  have hinX1 : ∀ x ∈ wsX10, x ∈ wsX1_most := by decide +kernel
  have hl : lv_has ls 4 [(0, .ref (ad 0)), (1, .int (nI b))] := hl
  have hn30 := hDk.n30
  have hk30 := hDk.k30
  refine lv_iload_n hx hb dX1_most_0 rfl (lv_at hl 1 rfl) ?_
  refine kc_v (va_runS (As := [.int (nI b)]) (rest := []) ⟨hx, hb, hml, hown, hts⟩ (c_X1_checkBuyer (ix4 hx4)) (va_cwS 1 hts gX1_most_X1_checkBuyer rfl rfl rfl (by decide +kernel) ⟨Nat.le_of_ble_eq_true rfl, Nat.le_of_ble_eq_true rfl⟩) (kps hG hP hD hS) rfl rfl hl.1 rfl (lv_room (Nat.le_of_ble_eq_true rfl)) dX1_most_1 ⟨Nat.le_of_ble_eq_true rfl, Nat.le_of_ble_eq_true rfl⟩) hS (fun w H locs hp hP hD hS => ?_)
  have hDk : Dk K ad bad td n M rm k idx w := by rw [hp]; exact hDk
  refine lv_aload_n hx hb dX1_most_4 rfl (lv_at hl 0 rfl) ?_
  refine lv_iload_n hx hb dX1_most_5 rfl (lv_at hl 1 rfl) ?_
  refine kc_v (va_runV (As := [.int (nI b)]) (rest := []) ⟨hx, hb, hml, hown, hts⟩ (c_X1_gatherOffers hDk hx4) (cwV 1 hts gX1_most_X1_gatherOffers rfl rfl rfl (by decide +kernel) ⟨Nat.le_of_ble_eq_true rfl, Nat.le_of_ble_eq_true rfl⟩) (kpv (q0 := 0) hG hP hD hS hDk.x rfl) rfl rfl hl.1 rfl (lv_room (Nat.le_of_ble_eq_true rfl)) dX1_most_6 ⟨Nat.le_of_ble_eq_true rfl, Nat.le_of_ble_eq_true rfl⟩) hS (fun w H locs hp hP hD hS => ?_)
  have hDk : Dk K ad bad td n M rm ((gaL td M b n).length) (ix (gaL td M b n)) w := hp
  refine lv_aload_n hx hb dX1_most_9 rfl (lv_at hl 0 rfl) ?_
  refine kget (ci := 2) (C := RX1) (T := TX1) (N := 7) hx hb hts hown hG hP 0 hDk.x rfl hinX1 5 (by decide) (by decide +kernel) rfl dX1_most_10 ?_
  obtain ⟨m6, e6, h6⟩ := hDk.l6
  refine kc_i (va_runV (As := []) (rest := []) ⟨hx, hb, hml, hown, hts⟩ (e_size6 h6) (cwV 0 hts gX1_most_Jx4a65c_size_8abf5 rfl rfl rfl (by decide +kernel) ⟨Nat.le_of_ble_eq_true rfl, Nat.le_of_ble_eq_true rfl⟩) (kpv (q0 := 6) hG hP hD hS h6 rfl) rfl rfl hl.1 rfl (lv_room (Nat.le_of_ble_eq_true rfl)) dX1_most_13 ⟨Nat.le_of_ble_eq_true rfl, Nat.le_of_ble_eq_true rfl⟩) hS (fun r13 w H locs hp hP hD hS => ?_)
  have hDk : Dk K ad bad td n M rm ((gaL td M b n).length) (ix (gaL td M b n)) w := by rw [hp.2]; exact hDk
  rw [hp.1]
  refine lv_bipush (v := 12) hx hb dX1_most_16 (by decide) ?_
  refine lv_icmp_gt (tgt := 25) hx hb dX1_most_18 (by decide) (fun h18 => ?_) (fun h18 => False.elim (h18 (by have := nI_ltn hk12 (by have := hDk.k30; omega); exact this)))
  refine lv_iconst (v := 0) hx hb dX1_most_25 (by decide) ?_
  refine kc_t (vx_runS (As := [.int 0]) (rest := []) ⟨hx, hb, hml, hown, hts⟩ (c_X1_checkPossible_t hlt) (va_cwS 1 hts gX1_most_X1_checkPossible rfl rfl rfl (by decide +kernel) ⟨Nat.le_of_ble_eq_true rfl, Nat.le_of_ble_eq_true rfl⟩) (kps hG hP hD hS) rfl rfl hl.1 rfl (lv_room (Nat.le_of_ble_eq_true rfl)) dX1_most_26 ⟨Nat.le_of_ble_eq_true rfl, Nat.le_of_ble_eq_true rfl⟩) hS (fun ce q9 w H locs hp hP hD hS hce hcv hcl => ?_)
  have hDk : Dk K ad bad td n M rm ((gaL td M b n).length) (ix (gaL td M b n)) w := by rw [hp]; exact hDk
  exact kr_t hxt hlocks hP hD hS hce hcv hcl (Nat.le_of_ble_eq_true rfl) (Nat.le_of_ble_eq_true rfl) ⟨_, _, _, hDk⟩
set_option maxHeartbeats 4000000 in
set_option maxRecDepth 100000 in
theorem c_X1_most {l : Launch} {K : Ks} {A : Nat → Prop} {ad bad : Nat → Nat} {td : Int32} {n : Nat} {M : Nat → Nat → Int32} {rm : Nat → Int32} {k : Nat} {idx : Nat → Nat} {w : va_W} (hDk : Dk K ad bad td n M rm k idx w) {b : Nat} (hx4 : b < 4) (hk12 : (gaL td M b n).length ≤ 12) (hok : ∀ j, j < n → okP M j) : Met l yX1_most wsX1_most (kR 17 30 1800) (kPr K A [.ref (ad 0), .int (nI b)] (w)) (kQi K A (fun r w1 => r = bfS td M (ix (gaL td M b n)) (gaL td M b n).length 0 (mrm td n M b rm 8) (M 11 b) (toS td M (ix (gaL td M b n)) ((gaL td M b n).length)) ∧ DkE K ad bad td n M w1)) 30 1800 A := by
  refine kent (cc := cX1_most) (maxL := 4) (ret := (some .int)) (by decide) rfl (Nat.le_of_ble_eq_true rfl) ?_
  intro p e s m args below meth c ls hx hb hr hts hown hlocks hml hini hG hP hD hS hl
  have hinX1 : ∀ x ∈ wsX10, x ∈ wsX1_most := by decide +kernel
  have hl : lv_has ls 4 [(0, .ref (ad 0)), (1, .int (nI b))] := hl
  have hn30 := hDk.n30
  have hk30 := hDk.k30
  refine lv_iload_n hx hb dX1_most_0 rfl (lv_at hl 1 rfl) ?_
  refine kc_v (va_runS (As := [.int (nI b)]) (rest := []) ⟨hx, hb, hml, hown, hts⟩ (c_X1_checkBuyer (ix4 hx4)) (va_cwS 1 hts gX1_most_X1_checkBuyer rfl rfl rfl (by decide +kernel) ⟨Nat.le_of_ble_eq_true rfl, Nat.le_of_ble_eq_true rfl⟩) (kps hG hP hD hS) rfl rfl hl.1 rfl (lv_room (Nat.le_of_ble_eq_true rfl)) dX1_most_1 ⟨Nat.le_of_ble_eq_true rfl, Nat.le_of_ble_eq_true rfl⟩) hS (fun w H locs hp hP hD hS => ?_)
  have hDk : Dk K ad bad td n M rm k idx w := by rw [hp]; exact hDk
  refine lv_aload_n hx hb dX1_most_4 rfl (lv_at hl 0 rfl) ?_
  refine lv_iload_n hx hb dX1_most_5 rfl (lv_at hl 1 rfl) ?_
  refine kc_v (va_runV (As := [.int (nI b)]) (rest := []) ⟨hx, hb, hml, hown, hts⟩ (c_X1_gatherOffers hDk hx4) (cwV 1 hts gX1_most_X1_gatherOffers rfl rfl rfl (by decide +kernel) ⟨Nat.le_of_ble_eq_true rfl, Nat.le_of_ble_eq_true rfl⟩) (kpv (q0 := 0) hG hP hD hS hDk.x rfl) rfl rfl hl.1 rfl (lv_room (Nat.le_of_ble_eq_true rfl)) dX1_most_6 ⟨Nat.le_of_ble_eq_true rfl, Nat.le_of_ble_eq_true rfl⟩) hS (fun w H locs hp hP hD hS => ?_)
  have hDk : Dk K ad bad td n M rm ((gaL td M b n).length) (ix (gaL td M b n)) w := hp
  refine lv_aload_n hx hb dX1_most_9 rfl (lv_at hl 0 rfl) ?_
  refine kget (ci := 2) (C := RX1) (T := TX1) (N := 7) hx hb hts hown hG hP 0 hDk.x rfl hinX1 5 (by decide) (by decide +kernel) rfl dX1_most_10 ?_
  obtain ⟨m6, e6, h6⟩ := hDk.l6
  refine kc_i (va_runV (As := []) (rest := []) ⟨hx, hb, hml, hown, hts⟩ (e_size6 h6) (cwV 0 hts gX1_most_Jx4a65c_size_8abf5 rfl rfl rfl (by decide +kernel) ⟨Nat.le_of_ble_eq_true rfl, Nat.le_of_ble_eq_true rfl⟩) (kpv (q0 := 6) hG hP hD hS h6 rfl) rfl rfl hl.1 rfl (lv_room (Nat.le_of_ble_eq_true rfl)) dX1_most_13 ⟨Nat.le_of_ble_eq_true rfl, Nat.le_of_ble_eq_true rfl⟩) hS (fun r13 w H locs hp hP hD hS => ?_)
  have hDk : Dk K ad bad td n M rm ((gaL td M b n).length) (ix (gaL td M b n)) w := by rw [hp.2]; exact hDk
  rw [hp.1]
  refine lv_bipush (v := 12) hx hb dX1_most_16 (by decide) ?_
  refine lv_icmp_gt (tgt := 25) hx hb dX1_most_18 (by decide) (fun h18 => False.elim ((by rw [i32_lt, nI_toInt (by omega)] at h18; have e12 : (12 : Int32).toInt = 12 := rfl; omega))) (fun h18 => ?_)
  refine lv_iconst (v := 1) hx hb dX1_most_21 (by decide) ?_
  refine lv_goto (tgt := 26) hx hb dX1_most_22 (by decide) ?_
  refine kc_v (va_runS (As := [.int 1]) (rest := []) ⟨hx, hb, hml, hown, hts⟩ (c_X1_checkPossible) (va_cwS 1 hts gX1_most_X1_checkPossible rfl rfl rfl (by decide +kernel) ⟨Nat.le_of_ble_eq_true rfl, Nat.le_of_ble_eq_true rfl⟩) (kps hG hP hD hS) rfl rfl hl.1 rfl (lv_room (Nat.le_of_ble_eq_true rfl)) dX1_most_26 ⟨Nat.le_of_ble_eq_true rfl, Nat.le_of_ble_eq_true rfl⟩) hS (fun w H locs hp hP hD hS => ?_)
  have hDk : Dk K ad bad td n M rm ((gaL td M b n).length) (ix (gaL td M b n)) w := by rw [hp]; exact hDk
  refine lv_aload_n hx hb dX1_most_29 rfl (lv_at hl 0 rfl) ?_
  refine lv_iload_n hx hb dX1_most_30 rfl (lv_at hl 1 rfl) ?_
  refine kc_v (va_runV (As := [.int (nI b)]) (rest := []) ⟨hx, hb, hml, hown, hts⟩ (c_X1_measureRoom hDk hx4) (cwV 1 hts gX1_most_X1_measureRoom rfl rfl rfl (by decide +kernel) ⟨Nat.le_of_ble_eq_true rfl, Nat.le_of_ble_eq_true rfl⟩) (kpv (q0 := 0) hG hP hD hS hDk.x rfl) rfl rfl hl.1 rfl (lv_room (Nat.le_of_ble_eq_true rfl)) dX1_most_31 ⟨Nat.le_of_ble_eq_true rfl, Nat.le_of_ble_eq_true rfl⟩) hS (fun w H locs hp hP hD hS => ?_)
  have hDk : Dk K ad bad td n M (mrm td n M b rm 8) ((gaL td M b n).length) (ix (gaL td M b n)) w := hp
  refine lv_iconst (v := 0) hx hb dX1_most_34 (by decide) ?_
  refine lv_istore_n (lv' := [(2, .int 0), (0, .ref (ad 0)), (1, .int (nI b))]) hx hb dX1_most_35 rfl hl (by decide) rfl (fun ls hl => ?_)
  refine lv_iconst (v := 0) hx hb dX1_most_36 (by decide) ?_
  refine lv_istore_n (lv' := [(3, .int 0), (2, .int 0), (0, .ref (ad 0)), (1, .int (nI b))]) hx hb dX1_most_37 rfl hl (by decide) rfl (fun ls hl => ?_)
  have LOOP : ∀ (Q' : State → Prop), (∀ (w : va_W)  (ls : Array Slot) (H : Heap) (locs : List Loc), Dk K ad bad td n M (mrm td n M b rm 8) ((gaL td M b n).length) (ix (gaL td M b n)) w → va_P K.1 kCl (w) H → va_D A (w) → va_S A s.heap H locs → lv_has ls 4 [(0, .ref (ad 0)), (1, .int (nI b)), (2, .int (toS td M (ix (gaL td M b n)) ((gaL td M b n).length))), (3, .int (nI ((gaL td M b n).length)))] → W p l e ((kR 17 30 1800)) s m args below meth c H locs (0 + 30) (0 + 1800) Q' (F0 m 76 ls [])) → ∀ (d j : Nat) (w : va_W)  (ls : Array Slot) (H : Heap) (locs : List Loc), j + d = (gaL td M b n).length → Dk K ad bad td n M (mrm td n M b rm 8) ((gaL td M b n).length) (ix (gaL td M b n)) w → va_P K.1 kCl (w) H → va_D A (w) → va_S A s.heap H locs → lv_has ls 4 [(0, .ref (ad 0)), (1, .int (nI b)), (2, .int (toS td M (ix (gaL td M b n)) j)), (3, .int (nI j))] → W p l e ((kR 17 30 1800)) s m args below meth c H locs (0 + 30) (0 + 1800) Q' (F0 m 38 ls []) := by
    intro Q' kx d
    induction d with
    | zero =>
      intro j w  ls H locs hk hDk hP hD hS hl
      have hk2 : j = (gaL td M b n).length := by omega
      refine lv_iload_n hx hb dX1_most_38 rfl (lv_at hl 3 rfl) ?_
      refine lv_aload_n hx hb dX1_most_39 rfl (lv_at hl 0 rfl) ?_
      refine kget (ci := 2) (C := RX1) (T := TX1) (N := 7) hx hb hts hown hG hP 0 hDk.x rfl hinX1 5 (by decide) (by decide +kernel) rfl dX1_most_40 ?_
      obtain ⟨m6, e6, h6⟩ := hDk.l6
      refine kc_i (va_runV (As := []) (rest := [.int (nI j)]) ⟨hx, hb, hml, hown, hts⟩ (e_size6 h6) (cwV 0 hts gX1_most_Jx4a65c_size_8abf5 rfl rfl rfl (by decide +kernel) ⟨Nat.le_of_ble_eq_true rfl, Nat.le_of_ble_eq_true rfl⟩) (kpv (q0 := 6) hG hP hD hS h6 rfl) rfl rfl hl.1 rfl (lv_room (Nat.le_of_ble_eq_true rfl)) dX1_most_43 ⟨Nat.le_of_ble_eq_true rfl, Nat.le_of_ble_eq_true rfl⟩) hS (fun r43 w H locs hp hP hD hS => ?_)
      have hDk : Dk K ad bad td n M (mrm td n M b rm 8) ((gaL td M b n).length) (ix (gaL td M b n)) w := by rw [hp.2]; exact hDk
      rw [hp.1]
      refine lv_icmp_ge (tgt := 76) hx hb dX1_most_46 (by decide) (fun h46 => ?_) (fun h46 => False.elim (absurd (nI_le (Nat.le_of_eq hk2.symm) (by omega)) h46))
      have hk3 : (gaL td M b n).length = j := hk2.symm
      subst hk3
      exact kx w  ls H locs hDk hP hD hS (lv_sub hl [0, 1, 2, 3] rfl)
    | succ d ih =>
      intro j w  ls H locs hk hDk hP hD hS hl
      have hk2 : j < (gaL td M b n).length := by omega
      refine lv_iload_n hx hb dX1_most_38 rfl (lv_at hl 3 rfl) ?_
      refine lv_aload_n hx hb dX1_most_39 rfl (lv_at hl 0 rfl) ?_
      refine kget (ci := 2) (C := RX1) (T := TX1) (N := 7) hx hb hts hown hG hP 0 hDk.x rfl hinX1 5 (by decide) (by decide +kernel) rfl dX1_most_40 ?_
      obtain ⟨m6, e6, h6⟩ := hDk.l6
      refine kc_i (va_runV (As := []) (rest := [.int (nI j)]) ⟨hx, hb, hml, hown, hts⟩ (e_size6 h6) (cwV 0 hts gX1_most_Jx4a65c_size_8abf5 rfl rfl rfl (by decide +kernel) ⟨Nat.le_of_ble_eq_true rfl, Nat.le_of_ble_eq_true rfl⟩) (kpv (q0 := 6) hG hP hD hS h6 rfl) rfl rfl hl.1 rfl (lv_room (Nat.le_of_ble_eq_true rfl)) dX1_most_43 ⟨Nat.le_of_ble_eq_true rfl, Nat.le_of_ble_eq_true rfl⟩) hS (fun r43 w H locs hp hP hD hS => ?_)
      have hDk : Dk K ad bad td n M (mrm td n M b rm 8) ((gaL td M b n).length) (ix (gaL td M b n)) w := by rw [hp.2]; exact hDk
      rw [hp.1]
      refine lv_icmp_ge (tgt := 76) hx hb dX1_most_46 (by decide) (fun h46 => False.elim (absurd h46 (nI_ge hk2 (by omega)))) (fun h46 => ?_)
      refine lv_iload_n hx hb dX1_most_49 rfl (lv_at hl 2 rfl) ?_
      refine lv_aload_n hx hb dX1_most_50 rfl (lv_at hl 0 rfl) ?_
      refine kget (ci := 2) (C := RX1) (T := TX1) (N := 7) hx hb hts hown hG hP 0 hDk.x rfl hinX1 5 (by decide) (by decide +kernel) rfl dX1_most_51 ?_
      refine lv_iload_n hx hb dX1_most_54 rfl (lv_at hl 3 rfl) ?_
      obtain ⟨m6, e6, h6⟩ := hDk.l6
      refine kc_r (va_runV (As := [.int (nI j)]) (rest := [.int (toS td M (ix (gaL td M b n)) j)]) ⟨hx, hb, hml, hown, hts⟩ (d_get6 hDk hk2) (cwV 1 hts gX1_most_Jx4a65c_get_915e3 rfl rfl rfl (by decide +kernel) ⟨Nat.le_of_ble_eq_true rfl, Nat.le_of_ble_eq_true rfl⟩) (kpv (q0 := 6) hG hP hD hS h6 rfl) rfl rfl hl.1 rfl (lv_room (Nat.le_of_ble_eq_true rfl)) dX1_most_55 ⟨Nat.le_of_ble_eq_true rfl, Nat.le_of_ble_eq_true rfl⟩) hS (fun r55 w H locs hp hP hD hS => ?_)
      have hDk : Dk K ad bad td n M (mrm td n M b rm 8) ((gaL td M b n).length) (ix (gaL td M b n)) w := by rw [hp.2]; exact hDk
      rw [hp.1]
      refine kd_cast hx hb hown hts (by decide +kernel) hG hP hDk (hDk.ix hk2) dX1_most_58 ?_
      refine lv_aload_n hx hb dX1_most_61 rfl (lv_at hl 0 rfl) ?_
      refine kget (ci := 2) (C := RX1) (T := TX1) (N := 7) hx hb hts hown hG hP 0 hDk.x rfl hinX1 4 (by decide) (by decide +kernel) rfl dX1_most_62 ?_
      obtain ⟨q65, hq65, -⟩ := hDk.bill (hDk.ix hk2)
      refine kc_i (va_runV (As := [.int td]) (rest := [.int (toS td M (ix (gaL td M b n)) j)]) ⟨hx, hb, hml, hown, hts⟩ (c_X0_discountOn hq65) (cwV 1 hts gX1_most_X0_discountOn rfl rfl rfl (by decide +kernel) ⟨Nat.le_of_ble_eq_true rfl, Nat.le_of_ble_eq_true rfl⟩) (kpv (q0 := q65) hG hP hD hS hq65 rfl) rfl rfl hl.1 rfl (lv_room (Nat.le_of_ble_eq_true rfl)) dX1_most_65 ⟨Nat.le_of_ble_eq_true rfl, Nat.le_of_ble_eq_true rfl⟩) hS (fun r65 w H locs hp hP hD hS => ?_)
      have hDk : Dk K ad bad td n M (mrm td n M b rm 8) ((gaL td M b n).length) (ix (gaL td M b n)) w := by rw [hp.2]; exact hDk
      rw [hp.1]
      refine lv_iadd hx hb dX1_most_68 ?_
      refine lv_istore_n (lv' := [(2, .int ((toS td M (ix (gaL td M b n)) j) + (disc td M ((ix (gaL td M b n)) j)))), (0, .ref (ad 0)), (1, .int (nI b)), (3, .int (nI j))]) hx hb dX1_most_69 rfl hl (by decide) rfl (fun ls hl => ?_)
      refine lv_iinc (v := nI (j + 1)) (lv' := [(3, .int (nI (j + 1))), (2, .int ((toS td M (ix (gaL td M b n)) j) + (disc td M ((ix (gaL td M b n)) j)))), (0, .ref (ad 0)), (1, .int (nI b))]) hx hb dX1_most_70 hl (k := 3) rfl (kinc j) (by decide) rfl (fun ls hl => ?_)
      refine lv_goto (tgt := 38) hx hb dX1_most_73 (by decide) ?_
      exact (ih (j + 1) w  ls H locs (by omega) hDk hP hD hS (lv_sub hl [2, 3, 1, 0] rfl))
  refine LOOP _ (fun w  ls H locs hDk hP hD hS hl => ?_) (gaL td M b n).length 0 w  ls _ _ (by omega) hDk hP hD hS (lv_sub hl [2, 3, 1, 0] rfl)
  refine lv_aload_n hx hb dX1_most_76 rfl (lv_at hl 0 rfl) ?_
  refine kget (ci := 2) (C := RX1) (T := TX1) (N := 7) hx hb hts hown hG hP 0 hDk.x rfl hinX1 5 (by decide) (by decide +kernel) rfl dX1_most_77 ?_
  refine lv_iconst (v := 0) hx hb dX1_most_80 (by decide) ?_
  refine ktop (z := nI 0) rfl ?_
  refine lv_aload_n hx hb dX1_most_81 rfl (lv_at hl 0 rfl) ?_
  refine kget (ci := 2) (C := RX1) (T := TX1) (N := 7) hx hb hts hown hG hP 0 hDk.x rfl hinX1 4 (by decide) (by decide +kernel) rfl dX1_most_82 ?_
  refine lv_aload_n hx hb dX1_most_85 rfl (lv_at hl 0 rfl) ?_
  refine kget (ci := 2) (C := RX1) (T := TX1) (N := 7) hx hb hts hown hG hP 0 hDk.x rfl hinX1 0 (by decide) (by decide +kernel) rfl dX1_most_86 ?_
  refine lv_iload_n hx hb dX1_most_89 rfl (lv_at hl 1 rfl) ?_
  refine kiald (n := 4) (j := b) hx hb hG hP 1 hDk.a1 (by omega) (by decide) dX1_most_90 ?_
  refine lv_aload_n hx hb dX1_most_91 rfl (lv_at hl 0 rfl) ?_
  refine kget (ci := 2) (C := RX1) (T := TX1) (N := 7) hx hb hts hown hG hP 0 hDk.x rfl hinX1 6 (by decide) (by decide +kernel) rfl dX1_most_92 ?_
  refine lv_iload_n hx hb dX1_most_95 rfl (lv_at hl 2 rfl) ?_
  refine kc_i (va_runS (As := [.ref (ad 6), .int (nI 0), .int td, .int (M 11 b), .ref (ad 4), .int (toS td M (ix (gaL td M b n)) ((gaL td M b n).length))]) (rest := []) ⟨hx, hb, hml, hown, hts⟩ (c_X1_bestFrom hk12 hok (gaL td M b n).length 0 (by omega) (mrm td n M b rm 8) (M 11 b) (toS td M (ix (gaL td M b n)) ((gaL td M b n).length)) w hDk) (va_cwS 6 hts gX1_most_X1_bestFrom rfl rfl rfl (by decide +kernel) ⟨(by show 10 + ((gaL td M b n).length + 3) + 1 ≤ 10 + 17; omega), (by show 8 + (11 + 11) + (200 + 40 * ((gaL td M b n).length + 3)) ≤ 200 + 40 * 17; omega)⟩) (kps hG hP hD hS) rfl rfl hl.1 rfl (lv_room (Nat.le_of_ble_eq_true rfl)) dX1_most_96 ⟨Nat.le_of_ble_eq_true rfl, Nat.le_of_ble_eq_true rfl⟩) hS (fun r96 w H locs hp hP hD hS => ?_)
  have hDk : Dk K ad bad td n M (mrm td n M b rm 8) ((gaL td M b n).length) (ix (gaL td M b n)) w := hp.2
  rw [hp.1]
  exact kr_i hx hb hr hlocks hP hD hS (Nat.le_of_ble_eq_true rfl) (Nat.le_of_ble_eq_true rfl) (⟨rfl, _, _, _, hDk⟩) dX1_most_99
