/-! The class, 5: offers in order, room, what is accepted -/
theorem Dk.nil {K : Ks} {ad bad : Nat → Nat} {td : Int32} {n : Nat} {M : Nat → Nat → Int32} {rm : Nat → Int32} {idx idx' : Nat → Nat} {w : va_W} (h : Dk K ad bad td n M rm 0 idx w) : Dk K ad bad td n M rm 0 idx' w := by
  obtain ⟨g1, g2, ⟨m5, e5, m6, e6, k5, k6, k7, k8, k9⟩, g4, g5⟩ := h
  refine ⟨⟨g1.1, Nat.zero_le _, fun j hj => absurd hj (Nat.not_lt_zero _)⟩, g2, ⟨m5, e5, m6, e6, k5, k6, k7, ?_, k9⟩, g4, g5⟩
  rcases k8 with k8 | ⟨r0, cap, a, h0, h1, h2, h3, h4, h5⟩
  · exact Or.inl k8
  · exact Or.inr ⟨r0, cap, a, h0, h1, h2, h3, h4, fun j hj => absurd hj (Nat.not_lt_zero _)⟩
/-- a list's numbers by their places -/
def ix (L : List Nat) : Nat → Nat := fun i => L.getD i 0
/-- in its place by falling rates, behind all of the same rate -/
def insS (M : Nat → Nat → Int32) (y : Nat) : List Nat → List Nat
  | [] => [y]
  | a :: L => if M 7 y ≤ M 7 a then a :: insS M y L else y :: a :: L
/-- the offers among the bills 0 .. j - 1, in clearing order -/
def gaL (td : Int32) (M : Nat → Nat → Int32) (b : Nat) : Nat → List Nat
  | 0 => []
  | j + 1 => if offM td M b j then insS M j (gaL td M b j) else gaL td M b j
theorem gaL_t {td : Int32} {M : Nat → Nat → Int32} {b j : Nat} (h : offM td M b j) : gaL td M b (j + 1) = insS M j (gaL td M b j) := if_pos h
theorem gaL_f {td : Int32} {M : Nat → Nat → Int32} {b j : Nat} (h : ¬ offM td M b j) : gaL td M b (j + 1) = gaL td M b j := if_neg h
theorem insS_len (M : Nat → Nat → Int32) (y : Nat) : ∀ L : List Nat, (insS M y L).length = L.length + 1
  | [] => rfl
  | a :: L => by
    unfold insS
    split
    · simp [insS_len M y L]
    · simp
theorem gaL_len (td : Int32) (M : Nat → Nat → Int32) (b : Nat) : ∀ j, (gaL td M b j).length ≤ j
  | 0 => Nat.le_refl _
  | j + 1 => by
    have ih := gaL_len td M b j
    unfold gaL
    split
    · rw [insS_len]; omega
    · omega
theorem ix_ins {M : Nat → Nat → Int32} {y : Nat} : ∀ {L : List Nat} {pl : Nat}, pl ≤ L.length → (∀ i, i < pl → M 7 y ≤ M 7 (ix L i)) → (pl < L.length → ¬ M 7 y ≤ M 7 (ix L pl)) → (insS M y L).length = L.length + 1 ∧ insG (ix L) pl y = ix (insS M y L)
  | [], pl, h1, h2, h3 => by
    have e : pl = 0 := by simpa using h1
    subst e
    refine ⟨rfl, ?_⟩
    funext i
    cases i <;> simp [insG, ix, insS]
  | a :: L, 0, h1, h2, h3 => by
    have hn : ¬ M 7 y ≤ M 7 a := h3 (by simp)
    refine ⟨insS_len _ _ _, ?_⟩
    funext i
    cases i <;> simp [insG, ix, insS, hn]
  | a :: L, q + 1, h1, h2, h3 => by
    have hp : M 7 y ≤ M 7 a := h2 0 (by omega)
    obtain ⟨-, ih⟩ := ix_ins (M := M) (y := y) (L := L) (pl := q) (by simpa using h1) (fun i hi => h2 (i + 1) (by omega)) (fun hq => h3 (by simpa using hq))
    refine ⟨insS_len _ _ _, ?_⟩
    funext i
    cases i with
    | zero => simp [insG, ix, insS, hp]
    | succ i =>
      have e := congrFun ih i
      simp only [insS, if_pos hp]
      have e2 : ix (a :: insS M y L) (i + 1) = ix (insS M y L) i := by simp [ix]
      rw [e2, ← e]
      simp only [insG]
      by_cases h9 : i < q
      · rw [if_pos (by omega), if_pos h9]; simp [ix]
      · by_cases h8 : i = q
        · rw [if_neg (by omega), if_pos (by omega), if_neg h9, if_pos h8]
        · rw [if_neg (by omega), if_neg (by omega), if_neg h9, if_neg h8]
          obtain ⟨i', rfl⟩ : ∃ i', i = i' + 1 := ⟨i - 1, by omega⟩
          simp [ix]
/-- the first places measured -/
def mrm (td : Int32) (n : Nat) (M : Nat → Nat → Int32) (b : Nat) (rm : Nat → Int32) : Nat → Nat → Int32
  | 0 => rm
  | k + 1 => upd (mrm td n M b rm k) k (loM td M b k n)
theorem mrm_s {td : Int32} {n : Nat} {M : Nat → Nat → Int32} {b : Nat} {rm : Nat → Int32} {k : Nat} : upd (mrm td n M b rm k) k (loM td M b k n) = mrm td n M b rm (k + 1) := rfl
/-- the first offers taken or not: budget, room, the set of those accepted -/
def acS (td : Int32) (M : Nat → Nat → Int32) (idx : Nat → Nat) (b0 : Int32) (rm0 : Nat → Int32) : Nat → Int32 × (Nat → Int32) × Int32
  | 0 => (b0, rm0, 0)
  | j + 1 =>
    if ¬ (acS td M idx b0 rm0 j).1 < price td M (idx j) ∧ ¬ (acS td M idx b0 rm0 j).2.1 (su M (idx j)) < price td M (idx j) then
      ((acS td M idx b0 rm0 j).1 - price td M (idx j), upd (acS td M idx b0 rm0 j).2.1 (su M (idx j)) ((acS td M idx b0 rm0 j).2.1 (su M (idx j)) - price td M (idx j)), (acS td M idx b0 rm0 j).2.2 ||| (1 <<< (nI (idx j) &&& 31)))
    else acS td M idx b0 rm0 j
theorem acS_t {td : Int32} {M : Nat → Nat → Int32} {idx : Nat → Nat} {b0 : Int32} {rm0 : Nat → Int32} {j : Nat} (h : ¬ (acS td M idx b0 rm0 j).1 < price td M (idx j) ∧ ¬ (acS td M idx b0 rm0 j).2.1 (su M (idx j)) < price td M (idx j)) : acS td M idx b0 rm0 (j + 1) = ((acS td M idx b0 rm0 j).1 - price td M (idx j), upd (acS td M idx b0 rm0 j).2.1 (su M (idx j)) ((acS td M idx b0 rm0 j).2.1 (su M (idx j)) - price td M (idx j)), (acS td M idx b0 rm0 j).2.2 ||| (1 <<< (nI (idx j) &&& 31))) := if_pos h
theorem acS_f {td : Int32} {M : Nat → Nat → Int32} {idx : Nat → Nat} {b0 : Int32} {rm0 : Nat → Int32} {j : Nat} (h : ¬ (¬ (acS td M idx b0 rm0 j).1 < price td M (idx j) ∧ ¬ (acS td M idx b0 rm0 j).2.1 (su M (idx j)) < price td M (idx j))) : acS td M idx b0 rm0 (j + 1) = acS td M idx b0 rm0 j := if_neg h
set_option maxHeartbeats 4000000 in
set_option maxRecDepth 100000 in
theorem c_X1_placeOfRate {l : Launch} {K : Ks} {A : Nat → Prop} {ad bad : Nat → Nat} {td : Int32} {n : Nat} {M : Nat → Nat → Int32} {rm : Nat → Int32} {k : Nat} {idx : Nat → Nat} {w : va_W} (hDk : Dk K ad bad td n M rm k idx w) {x : Int32} : Met l yX1_placeOfRate wsX1_placeOfRate (kR 3 0 0) (kPr K A [.ref (ad 0), .int x] (w)) (kQi K A (fun r w1 => ∃ pl : Nat, r = nI pl ∧ pl ≤ k ∧ (∀ i, i < pl → x ≤ M 7 (idx i)) ∧ (pl < k → ¬ x ≤ M 7 (idx pl)) ∧ Dk K ad bad td n M rm k idx w1)) 0 0 A := by
  refine kent (cc := cX1_placeOfRate) (maxL := 3) (ret := (some .int)) (by decide) rfl (Nat.le_of_ble_eq_true rfl) ?_
  intro p e s m args below meth c ls hx hb hr hts hown hlocks hml hini hG hP hD hS hl
  have hinX0 : ∀ x ∈ wsX00, x ∈ wsX1_placeOfRate := by decide +kernel
  have hinX1 : ∀ x ∈ wsX10, x ∈ wsX1_placeOfRate := by decide +kernel
  have hl : lv_has ls 3 [(0, .ref (ad 0)), (1, .int x)] := hl
  have hn30 := hDk.n30
  have hk30 := hDk.k30
  refine lv_iconst (v := 0) hx hb dX1_placeOfRate_0 (by decide) ?_
  refine lv_istore_n (lv' := [(2, .int 0), (0, .ref (ad 0)), (1, .int x)]) hx hb dX1_placeOfRate_1 rfl hl (by decide) rfl (fun ls hl => ?_)
  have LOOP : ∀ (d j : Nat) (w : va_W) (ls : Array Slot) (H : Heap) (locs : List Loc), j + d = k → (∀ i, i < j → x ≤ M 7 (idx i)) → Dk K ad bad td n M rm k idx w → va_P K.1 kCl w H → va_D A w → va_S A s.heap H locs → lv_has ls 3 [(0, .ref (ad 0)), (1, .int x), (2, .int (nI j))] → W p l e (kR 3 0 0) s m args below meth c H locs 0 0 (MQ below (kQi K A (fun r w1 => ∃ pl : Nat, r = nI pl ∧ pl ≤ k ∧ (∀ i, i < pl → x ≤ M 7 (idx i)) ∧ (pl < k → ¬ x ≤ M 7 (idx pl)) ∧ Dk K ad bad td n M rm k idx w1)) args s 0 0 A) (F0 m 2 ls []) := by
    intro d
    induction d with
    | zero =>
      intro j w ls H locs hk hbef hDk hP hD hS hl
      have hk2 : j = k := by omega
      refine lv_iload_n hx hb dX1_placeOfRate_2 rfl (lv_at hl 2 rfl) ?_
      refine lv_aload_n hx hb dX1_placeOfRate_3 rfl (lv_at hl 0 rfl) ?_
      refine kget (ci := 2) (C := RX1) (T := TX1) (N := 7) hx hb hts hown hG hP 0 hDk.x rfl hinX1 5 (by decide) (by decide +kernel) rfl dX1_placeOfRate_4 ?_
      obtain ⟨m6, e6, h6⟩ := hDk.l6
      refine kc_i (va_runV (As := []) (rest := [.int (nI j)]) ⟨hx, hb, hml, hown, hts⟩ (e_size6 h6) (cwV 0 hts gX1_placeOfRate_Jx4a65c_size_8abf5 rfl rfl rfl (by decide +kernel) ⟨Nat.le_of_ble_eq_true rfl, Nat.le_of_ble_eq_true rfl⟩) (kpv (q0 := 6) hG hP hD hS h6 rfl) rfl rfl hl.1 rfl (lv_room (Nat.le_of_ble_eq_true rfl)) dX1_placeOfRate_7 ⟨Nat.le_of_ble_eq_true rfl, Nat.le_of_ble_eq_true rfl⟩) hS (fun r7 w H locs hp hP hD hS => ?_)
      have hDk : Dk K ad bad td n M rm k idx w := by rw [hp.2]; exact hDk
      rw [hp.1]
      refine lv_icmp_ge (tgt := 37) hx hb dX1_placeOfRate_10 (by decide) (fun h10 => ?_) (fun h10 => False.elim (absurd (nI_le (Nat.le_of_eq hk2.symm) (by omega)) h10))
      refine lv_iload_n hx hb dX1_placeOfRate_37 rfl (lv_at hl 2 rfl) ?_
      exact kr_i hx hb hr hlocks hP hD hS (Nat.zero_le _) (Nat.zero_le _) (⟨j, rfl, (by omega), hbef, (fun q => absurd q (by omega)), hDk⟩) dX1_placeOfRate_38
    | succ d ih =>
      intro j w ls H locs hk hbef hDk hP hD hS hl
      have hjk : j < k := by omega
      refine lv_iload_n hx hb dX1_placeOfRate_2 rfl (lv_at hl 2 rfl) ?_
      refine lv_aload_n hx hb dX1_placeOfRate_3 rfl (lv_at hl 0 rfl) ?_
      refine kget (ci := 2) (C := RX1) (T := TX1) (N := 7) hx hb hts hown hG hP 0 hDk.x rfl hinX1 5 (by decide) (by decide +kernel) rfl dX1_placeOfRate_4 ?_
      obtain ⟨m6, e6, h6⟩ := hDk.l6
      refine kc_i (va_runV (As := []) (rest := [.int (nI j)]) ⟨hx, hb, hml, hown, hts⟩ (e_size6 h6) (cwV 0 hts gX1_placeOfRate_Jx4a65c_size_8abf5 rfl rfl rfl (by decide +kernel) ⟨Nat.le_of_ble_eq_true rfl, Nat.le_of_ble_eq_true rfl⟩) (kpv (q0 := 6) hG hP hD hS h6 rfl) rfl rfl hl.1 rfl (lv_room (Nat.le_of_ble_eq_true rfl)) dX1_placeOfRate_7 ⟨Nat.le_of_ble_eq_true rfl, Nat.le_of_ble_eq_true rfl⟩) hS (fun r7 w H locs hp hP hD hS => ?_)
      have hDk : Dk K ad bad td n M rm k idx w := by rw [hp.2]; exact hDk
      rw [hp.1]
      refine lv_icmp_ge (tgt := 37) hx hb dX1_placeOfRate_10 (by decide) (fun h10 => False.elim (absurd h10 (nI_ge hjk (by omega)))) (fun h10 => ?_)
      refine lv_aload_n hx hb dX1_placeOfRate_13 rfl (lv_at hl 0 rfl) ?_
      refine kget (ci := 2) (C := RX1) (T := TX1) (N := 7) hx hb hts hown hG hP 0 hDk.x rfl hinX1 5 (by decide) (by decide +kernel) rfl dX1_placeOfRate_14 ?_
      refine lv_iload_n hx hb dX1_placeOfRate_17 rfl (lv_at hl 2 rfl) ?_
      obtain ⟨m6, e6, h6⟩ := hDk.l6
      refine kc_r (va_runV (As := [.int (nI j)]) (rest := []) ⟨hx, hb, hml, hown, hts⟩ (d_get6 hDk hjk) (cwV 1 hts gX1_placeOfRate_Jx4a65c_get_915e3 rfl rfl rfl (by decide +kernel) ⟨Nat.le_of_ble_eq_true rfl, Nat.le_of_ble_eq_true rfl⟩) (kpv (q0 := 6) hG hP hD hS h6 rfl) rfl rfl hl.1 rfl (lv_room (Nat.le_of_ble_eq_true rfl)) dX1_placeOfRate_18 ⟨Nat.le_of_ble_eq_true rfl, Nat.le_of_ble_eq_true rfl⟩) hS (fun r18 w H locs hp hP hD hS => ?_)
      have hDk : Dk K ad bad td n M rm k idx w := by rw [hp.2]; exact hDk
      rw [hp.1]
      refine kd_cast hx hb hown hts (by decide +kernel) hG hP hDk (hDk.ix hjk) dX1_placeOfRate_21 ?_
      refine kd_get hx hb hts hown hG hP hDk (hDk.ix hjk) hinX0 6 (by decide) (by decide +kernel) rfl dX1_placeOfRate_24 ?_
      refine lv_iload_n hx hb dX1_placeOfRate_27 rfl (lv_at hl 1 rfl) ?_
      refine lv_icmp_lt (tgt := 37) hx hb dX1_placeOfRate_28 (by decide) (fun h28 => ?_) (fun h28 => ?_)
      · refine lv_iload_n hx hb dX1_placeOfRate_37 rfl (lv_at hl 2 rfl) ?_
        exact kr_i hx hb hr hlocks hP hD hS (Nat.zero_le _) (Nat.zero_le _) (⟨j, rfl, (by omega), hbef, (fun _ q => absurd q (i32_nle.mpr h28)), hDk⟩) dX1_placeOfRate_38
      · refine lv_iinc (v := nI (j + 1)) (lv' := [(2, .int (nI (j + 1))), (0, .ref (ad 0)), (1, .int x)]) hx hb dX1_placeOfRate_31 hl (k := 2) rfl (kinc j) (by decide) rfl (fun ls hl => ?_)
        refine lv_goto (tgt := 2) hx hb dX1_placeOfRate_34 (by decide) ?_
        refine ih (j + 1) w ls H locs (by omega) (fun i hi => ?_) hDk hP hD hS (lv_sub hl [1, 2, 0] rfl)
        rcases Nat.lt_or_ge i j with h9 | h9
        · exact hbef i h9
        · rw [show i = j by omega]; exact i32_nlt.mp h28
  exact LOOP k 0 w ls _ _ (by omega) (fun i hi => absurd hi (Nat.not_lt_zero _)) hDk hP hD hS (lv_sub hl [1, 2, 0] rfl)
set_option maxHeartbeats 4000000 in
set_option maxRecDepth 100000 in
theorem c_X1_gatherOffers {l : Launch} {K : Ks} {A : Nat → Prop} {ad bad : Nat → Nat} {td : Int32} {n : Nat} {M : Nat → Nat → Int32} {rm : Nat → Int32} {k : Nat} {idx : Nat → Nat} {w : va_W} (hDk : Dk K ad bad td n M rm k idx w) {b : Nat} (hx4 : b < 4) : Met l yX1_gatherOffers wsX1_gatherOffers (kR 7 30 1800) (kPr K A [.ref (ad 0), .int (nI b)] (w)) (kQv K A (fun w1 => Dk K ad bad td n M rm ((gaL td M b n).length) (ix (gaL td M b n)) w1)) 30 1800 A := by
  refine kent (cc := cX1_gatherOffers) (maxL := 4) (ret := none) (by decide) rfl (Nat.le_of_ble_eq_true rfl) ?_
  intro p e s m args below meth c ls hx hb hr hts hown hlocks hml hini hG hP hD hS hl
  have hinX0 : ∀ x ∈ wsX00, x ∈ wsX1_gatherOffers := by decide +kernel
  have hinX1 : ∀ x ∈ wsX10, x ∈ wsX1_gatherOffers := by decide +kernel
  have hl : lv_has ls 4 [(0, .ref (ad 0)), (1, .int (nI b))] := hl
  have hn30 := hDk.n30
  have hk30 := hDk.k30
  refine lv_aload_n hx hb dX1_gatherOffers_0 rfl (lv_at hl 0 rfl) ?_
  refine kget (ci := 2) (C := RX1) (T := TX1) (N := 7) hx hb hts hown hG hP 0 hDk.x rfl hinX1 5 (by decide) (by decide +kernel) rfl dX1_gatherOffers_1 ?_
  obtain ⟨m6, e6, h6⟩ := hDk.l6
  refine kc_v (va_runV (As := []) (rest := []) ⟨hx, hb, hml, hown, hts⟩ (d_clear6 hDk) (cwV 0 hts gX1_gatherOffers_Jx4a65c_clear_da8c8 rfl rfl rfl (by decide +kernel) ⟨Nat.le_of_ble_eq_true rfl, Nat.le_of_ble_eq_true rfl⟩) (kpv (q0 := 6) hG hP hD hS h6 rfl) rfl rfl hl.1 rfl (lv_room (Nat.le_of_ble_eq_true rfl)) dX1_gatherOffers_4 ⟨(by show _ ≤ 30; omega), (by show _ ≤ 1800; omega)⟩) hS (fun w H locs hp hP hD hS => ?_)
  have hDk : Dk K ad bad td n M rm 0 idx w := hp
  refine lv_iconst (v := 0) hx hb dX1_gatherOffers_7 (by decide) ?_
  refine lv_istore_n (lv' := [(2, .int 0), (0, .ref (ad 0)), (1, .int (nI b))]) hx hb dX1_gatherOffers_8 rfl hl (by decide) rfl (fun ls hl => ?_)
  have LOOP : ∀ (Q' : State → Prop), (∀ (w : va_W)  (ls : Array Slot) (H : Heap) (locs : List Loc), Dk K ad bad td n M rm ((gaL td M b n).length) (ix (gaL td M b n)) w → va_P K.1 kCl (w) H → va_D A (w) → va_S A s.heap H locs → lv_has ls 4 [(0, .ref (ad 0)), (1, .int (nI b)), (2, .int (nI n))] → W p l e ((kR 7 30 1800)) s m args below meth c H locs n (60 * n) Q' (F0 m 73 ls [])) → ∀ (d j : Nat) (w : va_W)  (ls : Array Slot) (H : Heap) (locs : List Loc), j + d = n → Dk K ad bad td n M rm ((gaL td M b j).length) (ix (gaL td M b j)) w → va_P K.1 kCl (w) H → va_D A (w) → va_S A s.heap H locs → lv_has ls 4 [(0, .ref (ad 0)), (1, .int (nI b)), (2, .int (nI j))] → W p l e ((kR 7 30 1800)) s m args below meth c H locs j (60 * j) Q' (F0 m 9 ls []) := by
    intro Q' kx d
    induction d with
    | zero =>
      intro j w  ls H locs hk hDk hP hD hS hl
      have hk2 : j = n := by omega
      refine lv_iload_n hx hb dX1_gatherOffers_9 rfl (lv_at hl 2 rfl) ?_
      refine lv_aload_n hx hb dX1_gatherOffers_10 rfl (lv_at hl 0 rfl) ?_
      refine kget (ci := 2) (C := RX1) (T := TX1) (N := 7) hx hb hts hown hG hP 0 hDk.x rfl hinX1 3 (by decide) (by decide +kernel) rfl dX1_gatherOffers_11 ?_
      obtain ⟨m5, e5, h5⟩ := hDk.l5
      refine kc_i (va_runV (As := []) (rest := [.int (nI j)]) ⟨hx, hb, hml, hown, hts⟩ (e_size5 h5) (cwV 0 hts gX1_gatherOffers_Jx4a65c_size_8abf5 rfl rfl rfl (by decide +kernel) ⟨Nat.le_of_ble_eq_true rfl, Nat.le_of_ble_eq_true rfl⟩) (kpv (q0 := 5) hG hP hD hS h5 rfl) rfl rfl hl.1 rfl (lv_room (Nat.le_of_ble_eq_true rfl)) dX1_gatherOffers_14 ⟨(by show _ ≤ 30; omega), (by show _ ≤ 1800; omega)⟩) hS (fun r14 w H locs hp hP hD hS => ?_)
      have hDk : Dk K ad bad td n M rm ((gaL td M b j).length) (ix (gaL td M b j)) w := by rw [hp.2]; exact hDk
      rw [hp.1]
      refine lv_icmp_ge (tgt := 73) hx hb dX1_gatherOffers_17 (by decide) (fun h17 => ?_) (fun h17 => False.elim (absurd (nI_le (Nat.le_of_eq hk2.symm) (by omega)) h17))
      have hk3 : n = j := hk2.symm
      subst hk3
      exact kx w  ls H locs hDk hP hD hS (lv_sub hl [0, 1, 2] rfl)
    | succ d ih =>
      intro j w  ls H locs hk hDk hP hD hS hl
      have hk2 : j < n := by omega
      refine lv_iload_n hx hb dX1_gatherOffers_9 rfl (lv_at hl 2 rfl) ?_
      refine lv_aload_n hx hb dX1_gatherOffers_10 rfl (lv_at hl 0 rfl) ?_
      refine kget (ci := 2) (C := RX1) (T := TX1) (N := 7) hx hb hts hown hG hP 0 hDk.x rfl hinX1 3 (by decide) (by decide +kernel) rfl dX1_gatherOffers_11 ?_
      obtain ⟨m5, e5, h5⟩ := hDk.l5
      refine kc_i (va_runV (As := []) (rest := [.int (nI j)]) ⟨hx, hb, hml, hown, hts⟩ (e_size5 h5) (cwV 0 hts gX1_gatherOffers_Jx4a65c_size_8abf5 rfl rfl rfl (by decide +kernel) ⟨Nat.le_of_ble_eq_true rfl, Nat.le_of_ble_eq_true rfl⟩) (kpv (q0 := 5) hG hP hD hS h5 rfl) rfl rfl hl.1 rfl (lv_room (Nat.le_of_ble_eq_true rfl)) dX1_gatherOffers_14 ⟨(by show _ ≤ 30; omega), (by show _ ≤ 1800; omega)⟩) hS (fun r14 w H locs hp hP hD hS => ?_)
      have hDk : Dk K ad bad td n M rm ((gaL td M b j).length) (ix (gaL td M b j)) w := by rw [hp.2]; exact hDk
      rw [hp.1]
      refine lv_icmp_ge (tgt := 73) hx hb dX1_gatherOffers_17 (by decide) (fun h17 => False.elim (absurd h17 (nI_ge hk2 (by omega)))) (fun h17 => ?_)
      refine lv_aload_n hx hb dX1_gatherOffers_20 rfl (lv_at hl 0 rfl) ?_
      refine kget (ci := 2) (C := RX1) (T := TX1) (N := 7) hx hb hts hown hG hP 0 hDk.x rfl hinX1 3 (by decide) (by decide +kernel) rfl dX1_gatherOffers_21 ?_
      refine lv_iload_n hx hb dX1_gatherOffers_24 rfl (lv_at hl 2 rfl) ?_
      obtain ⟨m5, e5, h5⟩ := hDk.l5
      refine kc_r (va_runV (As := [.int (nI j)]) (rest := []) ⟨hx, hb, hml, hown, hts⟩ (d_get5 hDk hk2) (cwV 1 hts gX1_gatherOffers_Jx4a65c_get_915e3 rfl rfl rfl (by decide +kernel) ⟨Nat.le_of_ble_eq_true rfl, Nat.le_of_ble_eq_true rfl⟩) (kpv (q0 := 5) hG hP hD hS h5 rfl) rfl rfl hl.1 rfl (lv_room (Nat.le_of_ble_eq_true rfl)) dX1_gatherOffers_25 ⟨(by show _ ≤ 30; omega), (by show _ ≤ 1800; omega)⟩) hS (fun r25 w H locs hp hP hD hS => ?_)
      have hDk : Dk K ad bad td n M rm ((gaL td M b j).length) (ix (gaL td M b j)) w := by rw [hp.2]; exact hDk
      rw [hp.1]
      refine kd_cast hx hb hown hts (by decide +kernel) hG hP hDk hk2 dX1_gatherOffers_28 ?_
      refine lv_astore_n (lv' := [(3, .ref (bad j)), (0, .ref (ad 0)), (1, .int (nI b)), (2, .int (nI j))]) hx hb dX1_gatherOffers_31 rfl hl (by decide) rfl (fun ls hl => ?_)
      refine lv_aload_n hx hb dX1_gatherOffers_32 rfl (lv_at hl 0 rfl) ?_
      refine kd_get hx hb hts hown hG hP hDk hk2 hinX0 1 (by decide) (by decide +kernel) rfl dX1_gatherOffers_33 ?_
      refine lv_iload_n hx hb dX1_gatherOffers_36 rfl (lv_at hl 2 rfl) ?_
      refine lv_icmp_ne (tgt := 67) hx hb dX1_gatherOffers_37 (by decide) (fun h37 => ?_) (fun h37 => ?_)
      · refine lv_iinc (v := nI (j + 1)) (lv' := [(2, .int (nI (j + 1))), (3, .ref (bad j)), (0, .ref (ad 0)), (1, .int (nI b))]) hx hb dX1_gatherOffers_67 hl (k := 3) rfl (kinc j) (by decide) rfl (fun ls hl => ?_)
        refine lv_goto (tgt := 9) hx hb dX1_gatherOffers_70 (by decide) ?_
        exact W.widen (by omega) (by omega) (ih (j + 1) w  ls H locs (by omega) (by rw [gaL_f (fun q => h37 q.1)]; exact hDk) hP hD hS (lv_sub hl [2, 3, 0] rfl))
      · refine lv_aload_n hx hb dX1_gatherOffers_40 rfl (lv_at hl 0 rfl) ?_
        refine lv_aload_n hx hb dX1_gatherOffers_41 rfl (lv_at hl 1 rfl) ?_
        refine kget (ci := 2) (C := RX1) (T := TX1) (N := 7) hx hb hts hown hG hP 0 hDk.x rfl hinX1 4 (by decide) (by decide +kernel) rfl dX1_gatherOffers_42 ?_
        obtain ⟨q45, hq45, -⟩ := hDk.bill hk2
        refine kc_i (va_runV (As := [.int td]) (rest := []) ⟨hx, hb, hml, hown, hts⟩ (c_X0_canBeCleared hq45) (cwV 1 hts gX1_gatherOffers_X0_canBeCleared rfl rfl rfl (by decide +kernel) ⟨Nat.le_of_ble_eq_true rfl, Nat.le_of_ble_eq_true rfl⟩) (kpv (q0 := q45) hG hP hD hS hq45 rfl) rfl rfl hl.1 rfl (lv_room (Nat.le_of_ble_eq_true rfl)) dX1_gatherOffers_45 ⟨(by show _ ≤ 30; omega), (by show _ ≤ 1800; omega)⟩) hS (fun r45 w H locs hp hP hD hS => ?_)
        have hDk : Dk K ad bad td n M rm ((gaL td M b j).length) (ix (gaL td M b j)) w := by rw [hp.2]; exact hDk
        rw [hp.1]
        refine lv_if_eq (tgt := 67) hx hb dX1_gatherOffers_48 (by decide) (fun h48 => ?_) (fun h48 => ?_)
        · refine lv_iinc (v := nI (j + 1)) (lv' := [(2, .int (nI (j + 1))), (3, .ref (bad j)), (0, .ref (ad 0)), (1, .int (nI b))]) hx hb dX1_gatherOffers_67 hl (k := 3) rfl (kinc j) (by decide) rfl (fun ls hl => ?_)
          refine lv_goto (tgt := 9) hx hb dX1_gatherOffers_70 (by decide) ?_
          exact W.widen (by omega) (by omega) (ih (j + 1) w  ls H locs (by omega) (by rw [gaL_f (fun q => absurd ⟨q.2.1, q.2.2.2, q.2.2.1⟩ (bi_d0.mp h48))]; exact hDk) hP hD hS (lv_sub hl [2, 3, 0] rfl))
        · refine lv_aload_n hx hb dX1_gatherOffers_51 rfl (lv_at hl 1 rfl) ?_
          refine kget (ci := 2) (C := RX1) (T := TX1) (N := 7) hx hb hts hown hG hP 0 hDk.x rfl hinX1 5 (by decide) (by decide +kernel) rfl dX1_gatherOffers_52 ?_
          refine lv_aload_n hx hb dX1_gatherOffers_55 rfl (lv_at hl 1 rfl) ?_
          refine lv_aload_n hx hb dX1_gatherOffers_56 rfl (lv_at hl 0 rfl) ?_
          refine kd_get hx hb hts hown hG hP hDk hk2 hinX0 6 (by decide) (by decide +kernel) rfl dX1_gatherOffers_57 ?_
          refine kc_i (va_runV (As := [.int (M 7 j)]) (rest := [.ref (ad 6)]) ⟨hx, hb, hml, hown, hts⟩ (c_X1_placeOfRate hDk) (cwV 1 hts gX1_gatherOffers_X1_placeOfRate rfl rfl rfl (by decide +kernel) ⟨Nat.le_of_ble_eq_true rfl, Nat.le_of_ble_eq_true rfl⟩) (kpv (q0 := 0) hG hP hD hS hDk.x rfl) rfl rfl hl.1 rfl (lv_room (Nat.le_of_ble_eq_true rfl)) dX1_gatherOffers_60 ⟨(by show _ ≤ 30; omega), (by show _ ≤ 1800; omega)⟩) hS (fun r60 w H locs hp hP hD hS => ?_)
          obtain ⟨pl, hp1, hp2, hp3, hp4, hDk⟩ := hp
          rw [hp1]
          refine lv_aload_n hx hb dX1_gatherOffers_63 rfl (lv_at hl 0 rfl) ?_
          obtain ⟨m6, e6, h6⟩ := hDk.l6
          refine kc_v (va_runV (As := [.int (nI pl), .ref (bad j)]) (rest := []) ⟨hx, hb, hml, hown, hts⟩ (d_addAt6 hDk hp2 hk2 (by have := gaL_len td M b j; omega)) (cwV 2 hts gX1_gatherOffers_Jx4a65c_add_7a177 rfl rfl rfl (by decide +kernel) ⟨Nat.le_of_ble_eq_true rfl, Nat.le_of_ble_eq_true rfl⟩) (kpv (q0 := 6) hG hP hD hS h6 rfl) rfl rfl hl.1 rfl (lv_room (Nat.le_of_ble_eq_true rfl)) dX1_gatherOffers_64 ⟨(by show _ ≤ 30; omega), (by show _ ≤ 1800; omega)⟩) hS (fun w H locs hp hP hD hS => ?_)
          have hDk : Dk K ad bad td n M rm ((gaL td M b j).length + 1) (insG (ix (gaL td M b j)) pl j) w := hp
          refine lv_iinc (v := nI (j + 1)) (lv' := [(2, .int (nI (j + 1))), (3, .ref (bad j)), (0, .ref (ad 0)), (1, .int (nI b))]) hx hb dX1_gatherOffers_67 hl (k := 3) rfl (kinc j) (by decide) rfl (fun ls hl => ?_)
          refine lv_goto (tgt := 9) hx hb dX1_gatherOffers_70 (by decide) ?_
          exact W.widen (by omega) (by omega) (ih (j + 1) w  ls H locs (by omega) (by rw [gaL_t ⟨h37, (bi_dn.mp h48).1, (bi_dn.mp h48).2.2, (bi_dn.mp h48).2.1⟩]; obtain ⟨e1, e2⟩ := ix_ins (M := M) hp2 hp3 hp4; rw [e1, ← e2]; exact hDk) hP hD hS (lv_sub hl [2, 3, 0] rfl))
  refine LOOP _ (fun w  ls H locs hDk hP hD hS hl => ?_) n 0 w  ls _ _ (by omega) (hDk.nil) hP hD hS (lv_sub hl [1, 2, 0] rfl)
  exact kr_v hx hb hr hlocks hP hD hS (by omega) (by omega) (hDk) dX1_gatherOffers_73
set_option maxHeartbeats 4000000 in
set_option maxRecDepth 100000 in
theorem c_X1_measureRoom {l : Launch} {K : Ks} {A : Nat → Prop} {ad bad : Nat → Nat} {td : Int32} {n : Nat} {M : Nat → Nat → Int32} {rm : Nat → Int32} {k : Nat} {idx : Nat → Nat} {w : va_W} (hDk : Dk K ad bad td n M rm k idx w) {b : Nat} (hx4 : b < 4) : Met l yX1_measureRoom wsX1_measureRoom (kR 5 0 0) (kPr K A [.ref (ad 0), .int (nI b)] (w)) (kQv K A (fun w1 => Dk K ad bad td n M (mrm td n M b rm 8) k idx w1)) 0 0 A := by
  refine kent (cc := cX1_measureRoom) (maxL := 3) (ret := none) (by decide) rfl (Nat.le_of_ble_eq_true rfl) ?_
  intro p e s m args below meth c ls hx hb hr hts hown hlocks hml hini hG hP hD hS hl
  have hinX1 : ∀ x ∈ wsX10, x ∈ wsX1_measureRoom := by decide +kernel
  have hl : lv_has ls 3 [(0, .ref (ad 0)), (1, .int (nI b))] := hl
  have hn30 := hDk.n30
  have hk30 := hDk.k30
  refine lv_iconst (v := 0) hx hb dX1_measureRoom_0 (by decide) ?_
  refine lv_istore_n (lv' := [(2, .int 0), (0, .ref (ad 0)), (1, .int (nI b))]) hx hb dX1_measureRoom_1 rfl hl (by decide) rfl (fun ls hl => ?_)
  have LOOP : ∀ (Q' : State → Prop), (∀ (w : va_W)  (ls : Array Slot) (H : Heap) (locs : List Loc), Dk K ad bad td n M (mrm td n M b rm 8) k idx w → va_P K.1 kCl (w) H → va_D A (w) → va_S A s.heap H locs → lv_has ls 3 [(0, .ref (ad 0)), (1, .int (nI b)), (2, .int (nI 8))] → W p l e ((kR 5 0 0)) s m args below meth c H locs 0 0 Q' (F0 m 26 ls [])) → ∀ (d j : Nat) (w : va_W)  (ls : Array Slot) (H : Heap) (locs : List Loc), j + d = 8 → Dk K ad bad td n M (mrm td n M b rm j) k idx w → va_P K.1 kCl (w) H → va_D A (w) → va_S A s.heap H locs → lv_has ls 3 [(0, .ref (ad 0)), (1, .int (nI b)), (2, .int (nI j))] → W p l e ((kR 5 0 0)) s m args below meth c H locs 0 0 Q' (F0 m 2 ls []) := by
    intro Q' kx d
    induction d with
    | zero =>
      intro j w  ls H locs hk hDk hP hD hS hl
      have hk2 : j = 8 := by omega
      refine lv_iload_n hx hb dX1_measureRoom_2 rfl (lv_at hl 2 rfl) ?_
      refine lv_bipush (v := 8) hx hb dX1_measureRoom_3 (by decide) ?_
      refine lv_icmp_ge (tgt := 26) hx hb dX1_measureRoom_5 (by decide) (fun h5 => ?_) (fun h5 => False.elim (h5 (by rw [hk2]; exact Int32.le_refl _)))
      have hk3 : 8 = j := hk2.symm
      subst hk3
      exact kx w  ls H locs hDk hP hD hS (lv_sub hl [0, 1, 2] rfl)
    | succ d ih =>
      intro j w  ls H locs hk hDk hP hD hS hl
      have hk2 : j < 8 := by omega
      refine lv_iload_n hx hb dX1_measureRoom_2 rfl (lv_at hl 2 rfl) ?_
      refine lv_bipush (v := 8) hx hb dX1_measureRoom_3 (by decide) ?_
      refine lv_icmp_ge (tgt := 26) hx hb dX1_measureRoom_5 (by decide) (fun h5 => False.elim ((by rw [i32_le, nI_toInt (by omega)] at h5; have e8 : (8 : Int32).toInt = 8 := rfl; omega))) (fun h5 => ?_)
      refine lv_aload_n hx hb dX1_measureRoom_8 rfl (lv_at hl 0 rfl) ?_
      refine kget (ci := 2) (C := RX1) (T := TX1) (N := 7) hx hb hts hown hG hP 0 hDk.x rfl hinX1 6 (by decide) (by decide +kernel) rfl dX1_measureRoom_9 ?_
      refine lv_iload_n hx hb dX1_measureRoom_12 rfl (lv_at hl 2 rfl) ?_
      refine lv_aload_n hx hb dX1_measureRoom_13 rfl (lv_at hl 0 rfl) ?_
      refine lv_iload_n hx hb dX1_measureRoom_14 rfl (lv_at hl 1 rfl) ?_
      refine lv_iload_n hx hb dX1_measureRoom_15 rfl (lv_at hl 2 rfl) ?_
      refine kc_i (va_runV (As := [.int (nI b), .int (nI j)]) (rest := [.int (nI j), .ref (ad 4)]) ⟨hx, hb, hml, hown, hts⟩ (c_X1_left hDk hx4 hk2) (cwV 2 hts gX1_measureRoom_X1_left rfl rfl rfl (by decide +kernel) ⟨Nat.le_of_ble_eq_true rfl, Nat.le_of_ble_eq_true rfl⟩) (kpv (q0 := 0) hG hP hD hS hDk.x rfl) rfl rfl hl.1 rfl (lv_room (Nat.le_of_ble_eq_true rfl)) dX1_measureRoom_16 ⟨Nat.le_of_ble_eq_true rfl, Nat.le_of_ble_eq_true rfl⟩) hS (fun r16 w H locs hp hP hD hS => ?_)
      have hDk : Dk K ad bad td n M (mrm td n M b rm j) k idx w := hp.2
      rw [hp.1]
      refine kd_ast4 (j := j) hx hb hG hP hD hS hDk hk2 dX1_measureRoom_19 (fun w H locs hDk hP hD hS => ?_)
      refine lv_iinc (v := nI (j + 1)) (lv' := [(2, .int (nI (j + 1))), (0, .ref (ad 0)), (1, .int (nI b))]) hx hb dX1_measureRoom_20 hl (k := 2) rfl (kinc j) (by decide) rfl (fun ls hl => ?_)
      refine lv_goto (tgt := 2) hx hb dX1_measureRoom_23 (by decide) ?_
      exact (ih (j + 1) w  ls H locs (by omega) (by rw [← mrm_s]; exact hDk) hP hD hS (lv_sub hl [1, 2, 0] rfl))
  refine LOOP _ (fun w  ls H locs hDk hP hD hS hl => ?_) 8 0 w  ls _ _ (by omega) hDk hP hD hS (lv_sub hl [1, 2, 0] rfl)
  exact kr_v hx hb hr hlocks hP hD hS (Nat.zero_le _) (Nat.zero_le _) (hDk) dX1_measureRoom_26
set_option maxHeartbeats 4000000 in
set_option maxRecDepth 100000 in
theorem c_X1_acceptedOf {l : Launch} {K : Ks} {A : Nat → Prop} {ad bad : Nat → Nat} {td : Int32} {n : Nat} {M : Nat → Nat → Int32} {rm : Nat → Int32} {k : Nat} {idx : Nat → Nat} {w : va_W} (hDk : Dk K ad bad td n M rm k idx w) {b : Nat} (hx4 : b < 4) (hok : ∀ j, j < n → okP M j) : Met l yX1_acceptedOf wsX1_acceptedOf (kR 6 0 0) (kPr K A [.ref (ad 0), .int (nI b)] (w)) (kQi K A (fun r w1 => r = (acS td M idx (M 11 b) (mrm td n M b rm 8) k).2.2 ∧ Dk K ad bad td n M ((acS td M idx (M 11 b) (mrm td n M b rm 8) k).2.1) k idx w1)) 0 0 A := by
  refine kent (cc := cX1_acceptedOf) (maxL := 7) (ret := (some .int)) (by decide) rfl (Nat.le_of_ble_eq_true rfl) ?_
  intro p e s m args below meth c ls hx hb hr hts hown hlocks hml hini hG hP hD hS hl
  have hinX0 : ∀ x ∈ wsX00, x ∈ wsX1_acceptedOf := by decide +kernel
  have hinX1 : ∀ x ∈ wsX10, x ∈ wsX1_acceptedOf := by decide +kernel
  have hl : lv_has ls 7 [(0, .ref (ad 0)), (1, .int (nI b))] := hl
  have hn30 := hDk.n30
  have hk30 := hDk.k30
  refine lv_aload_n hx hb dX1_acceptedOf_0 rfl (lv_at hl 0 rfl) ?_
  refine lv_iload_n hx hb dX1_acceptedOf_1 rfl (lv_at hl 1 rfl) ?_
  refine kc_v (va_runV (As := [.int (nI b)]) (rest := []) ⟨hx, hb, hml, hown, hts⟩ (c_X1_measureRoom hDk hx4) (cwV 1 hts gX1_acceptedOf_X1_measureRoom rfl rfl rfl (by decide +kernel) ⟨Nat.le_of_ble_eq_true rfl, Nat.le_of_ble_eq_true rfl⟩) (kpv (q0 := 0) hG hP hD hS hDk.x rfl) rfl rfl hl.1 rfl (lv_room (Nat.le_of_ble_eq_true rfl)) dX1_acceptedOf_2 ⟨Nat.le_of_ble_eq_true rfl, Nat.le_of_ble_eq_true rfl⟩) hS (fun w H locs hp hP hD hS => ?_)
  have hDk : Dk K ad bad td n M (mrm td n M b rm 8) k idx w := hp
  refine lv_aload_n hx hb dX1_acceptedOf_5 rfl (lv_at hl 0 rfl) ?_
  refine kget (ci := 2) (C := RX1) (T := TX1) (N := 7) hx hb hts hown hG hP 0 hDk.x rfl hinX1 0 (by decide) (by decide +kernel) rfl dX1_acceptedOf_6 ?_
  refine lv_iload_n hx hb dX1_acceptedOf_9 rfl (lv_at hl 1 rfl) ?_
  refine kiald (n := 4) (j := b) hx hb hG hP 1 hDk.a1 (by omega) (by decide) dX1_acceptedOf_10 ?_
  refine lv_istore_n (lv' := [(2, .int (M 11 b)), (0, .ref (ad 0)), (1, .int (nI b))]) hx hb dX1_acceptedOf_11 rfl hl (by decide) rfl (fun ls hl => ?_)
  refine lv_iconst (v := 0) hx hb dX1_acceptedOf_12 (by decide) ?_
  refine lv_istore_n (lv' := [(3, .int 0), (2, .int (M 11 b)), (0, .ref (ad 0)), (1, .int (nI b))]) hx hb dX1_acceptedOf_13 rfl hl (by decide) rfl (fun ls hl => ?_)
  refine lv_iconst (v := 0) hx hb dX1_acceptedOf_14 (by decide) ?_
  refine lv_istore (lv' := [(4, .int 0), (3, .int 0), (2, .int (M 11 b)), (0, .ref (ad 0)), (1, .int (nI b))]) hx hb dX1_acceptedOf_15 hl (by decide) rfl (fun ls hl => ?_)
  have LOOP : ∀ (Q' : State → Prop), (∀ (w : va_W)  (ls : Array Slot) (H : Heap) (locs : List Loc), Dk K ad bad td n M ((acS td M idx (M 11 b) (mrm td n M b rm 8) k).2.1) k idx w → va_P K.1 kCl (w) H → va_D A (w) → va_S A s.heap H locs → lv_has ls 7 [(0, .ref (ad 0)), (1, .int (nI b)), (2, .int ((acS td M idx (M 11 b) (mrm td n M b rm 8) k).1)), (3, .int ((acS td M idx (M 11 b) (mrm td n M b rm 8) k).2.2)), (4, .int (nI k))] → W p l e ((kR 6 0 0)) s m args below meth c H locs 0 0 Q' (F0 m 111 ls [])) → ∀ (d j : Nat) (w : va_W)  (ls : Array Slot) (H : Heap) (locs : List Loc), j + d = k → Dk K ad bad td n M ((acS td M idx (M 11 b) (mrm td n M b rm 8) j).2.1) k idx w → va_P K.1 kCl (w) H → va_D A (w) → va_S A s.heap H locs → lv_has ls 7 [(0, .ref (ad 0)), (1, .int (nI b)), (2, .int ((acS td M idx (M 11 b) (mrm td n M b rm 8) j).1)), (3, .int ((acS td M idx (M 11 b) (mrm td n M b rm 8) j).2.2)), (4, .int (nI j))] → W p l e ((kR 6 0 0)) s m args below meth c H locs 0 0 Q' (F0 m 17 ls []) := by
    intro Q' kx d
    induction d with
    | zero =>
      intro j w  ls H locs hk hDk hP hD hS hl
      have hk2 : j = k := by omega
      refine lv_iload hx hb dX1_acceptedOf_17 (lv_at hl 4 rfl) ?_
      refine lv_aload_n hx hb dX1_acceptedOf_19 rfl (lv_at hl 0 rfl) ?_
      refine kget (ci := 2) (C := RX1) (T := TX1) (N := 7) hx hb hts hown hG hP 0 hDk.x rfl hinX1 5 (by decide) (by decide +kernel) rfl dX1_acceptedOf_20 ?_
      obtain ⟨m6, e6, h6⟩ := hDk.l6
      refine kc_i (va_runV (As := []) (rest := [.int (nI j)]) ⟨hx, hb, hml, hown, hts⟩ (e_size6 h6) (cwV 0 hts gX1_acceptedOf_Jx4a65c_size_8abf5 rfl rfl rfl (by decide +kernel) ⟨Nat.le_of_ble_eq_true rfl, Nat.le_of_ble_eq_true rfl⟩) (kpv (q0 := 6) hG hP hD hS h6 rfl) rfl rfl hl.1 rfl (lv_room (Nat.le_of_ble_eq_true rfl)) dX1_acceptedOf_23 ⟨Nat.le_of_ble_eq_true rfl, Nat.le_of_ble_eq_true rfl⟩) hS (fun r23 w H locs hp hP hD hS => ?_)
      have hDk : Dk K ad bad td n M ((acS td M idx (M 11 b) (mrm td n M b rm 8) j).2.1) k idx w := by rw [hp.2]; exact hDk
      rw [hp.1]
      refine lv_icmp_ge (tgt := 111) hx hb dX1_acceptedOf_26 (by decide) (fun h26 => ?_) (fun h26 => False.elim (absurd (nI_le (Nat.le_of_eq hk2.symm) (by omega)) h26))
      have hk3 : k = j := hk2.symm
      subst hk3
      exact kx w  ls H locs hDk hP hD hS (lv_sub hl [0, 1, 2, 3, 4] rfl)
    | succ d ih =>
      intro j w  ls H locs hk hDk hP hD hS hl
      have hk2 : j < k := by omega
      refine lv_iload hx hb dX1_acceptedOf_17 (lv_at hl 4 rfl) ?_
      refine lv_aload_n hx hb dX1_acceptedOf_19 rfl (lv_at hl 0 rfl) ?_
      refine kget (ci := 2) (C := RX1) (T := TX1) (N := 7) hx hb hts hown hG hP 0 hDk.x rfl hinX1 5 (by decide) (by decide +kernel) rfl dX1_acceptedOf_20 ?_
      obtain ⟨m6, e6, h6⟩ := hDk.l6
      refine kc_i (va_runV (As := []) (rest := [.int (nI j)]) ⟨hx, hb, hml, hown, hts⟩ (e_size6 h6) (cwV 0 hts gX1_acceptedOf_Jx4a65c_size_8abf5 rfl rfl rfl (by decide +kernel) ⟨Nat.le_of_ble_eq_true rfl, Nat.le_of_ble_eq_true rfl⟩) (kpv (q0 := 6) hG hP hD hS h6 rfl) rfl rfl hl.1 rfl (lv_room (Nat.le_of_ble_eq_true rfl)) dX1_acceptedOf_23 ⟨Nat.le_of_ble_eq_true rfl, Nat.le_of_ble_eq_true rfl⟩) hS (fun r23 w H locs hp hP hD hS => ?_)
      have hDk : Dk K ad bad td n M ((acS td M idx (M 11 b) (mrm td n M b rm 8) j).2.1) k idx w := by rw [hp.2]; exact hDk
      rw [hp.1]
      refine lv_icmp_ge (tgt := 111) hx hb dX1_acceptedOf_26 (by decide) (fun h26 => False.elim (absurd h26 (nI_ge hk2 (by omega)))) (fun h26 => ?_)
      refine lv_aload_n hx hb dX1_acceptedOf_29 rfl (lv_at hl 0 rfl) ?_
      refine kget (ci := 2) (C := RX1) (T := TX1) (N := 7) hx hb hts hown hG hP 0 hDk.x rfl hinX1 5 (by decide) (by decide +kernel) rfl dX1_acceptedOf_30 ?_
      refine lv_iload hx hb dX1_acceptedOf_33 (lv_at hl 4 rfl) ?_
      obtain ⟨m6, e6, h6⟩ := hDk.l6
      refine kc_r (va_runV (As := [.int (nI j)]) (rest := []) ⟨hx, hb, hml, hown, hts⟩ (d_get6 hDk hk2) (cwV 1 hts gX1_acceptedOf_Jx4a65c_get_915e3 rfl rfl rfl (by decide +kernel) ⟨Nat.le_of_ble_eq_true rfl, Nat.le_of_ble_eq_true rfl⟩) (kpv (q0 := 6) hG hP hD hS h6 rfl) rfl rfl hl.1 rfl (lv_room (Nat.le_of_ble_eq_true rfl)) dX1_acceptedOf_35 ⟨Nat.le_of_ble_eq_true rfl, Nat.le_of_ble_eq_true rfl⟩) hS (fun r35 w H locs hp hP hD hS => ?_)
      have hDk : Dk K ad bad td n M ((acS td M idx (M 11 b) (mrm td n M b rm 8) j).2.1) k idx w := by rw [hp.2]; exact hDk
      rw [hp.1]
      refine kd_cast hx hb hown hts (by decide +kernel) hG hP hDk (hDk.ix hk2) dX1_acceptedOf_38 ?_
      refine lv_astore (lv' := [(5, .ref (bad (idx j))), (0, .ref (ad 0)), (1, .int (nI b)), (2, .int ((acS td M idx (M 11 b) (mrm td n M b rm 8) j).1)), (3, .int ((acS td M idx (M 11 b) (mrm td n M b rm 8) j).2.2)), (4, .int (nI j))]) hx hb dX1_acceptedOf_41 hl (by decide) rfl (fun ls hl => ?_)
      refine lv_aload hx hb dX1_acceptedOf_43 (lv_at hl 0 rfl) ?_
      refine lv_aload_n hx hb dX1_acceptedOf_45 rfl (lv_at hl 1 rfl) ?_
      refine kget (ci := 2) (C := RX1) (T := TX1) (N := 7) hx hb hts hown hG hP 0 hDk.x rfl hinX1 4 (by decide) (by decide +kernel) rfl dX1_acceptedOf_46 ?_
      obtain ⟨q49, hq49, -⟩ := hDk.bill (hDk.ix hk2)
      refine kc_i (va_runV (As := [.int td]) (rest := []) ⟨hx, hb, hml, hown, hts⟩ (c_X0_priceOn hq49) (cwV 1 hts gX1_acceptedOf_X0_priceOn rfl rfl rfl (by decide +kernel) ⟨Nat.le_of_ble_eq_true rfl, Nat.le_of_ble_eq_true rfl⟩) (kpv (q0 := q49) hG hP hD hS hq49 rfl) rfl rfl hl.1 rfl (lv_room (Nat.le_of_ble_eq_true rfl)) dX1_acceptedOf_49 ⟨Nat.le_of_ble_eq_true rfl, Nat.le_of_ble_eq_true rfl⟩) hS (fun r49 w H locs hp hP hD hS => ?_)
      have hDk : Dk K ad bad td n M ((acS td M idx (M 11 b) (mrm td n M b rm 8) j).2.1) k idx w := by rw [hp.2]; exact hDk
      rw [hp.1]
      refine lv_istore (lv' := [(6, .int (price td M (idx j))), (5, .ref (bad (idx j))), (0, .ref (ad 0)), (1, .int (nI b)), (2, .int ((acS td M idx (M 11 b) (mrm td n M b rm 8) j).1)), (3, .int ((acS td M idx (M 11 b) (mrm td n M b rm 8) j).2.2)), (4, .int (nI j))]) hx hb dX1_acceptedOf_52 hl (by decide) rfl (fun ls hl => ?_)
      refine lv_iload hx hb dX1_acceptedOf_54 (lv_at hl 0 rfl) ?_
      refine lv_iload_n hx hb dX1_acceptedOf_56 rfl (lv_at hl 4 rfl) ?_
      refine lv_icmp_gt (tgt := 105) hx hb dX1_acceptedOf_57 (by decide) (fun h57 => ?_) (fun h57 => ?_)
      · refine lv_iinc (v := nI (j + 1)) (lv' := [(4, .int (nI (j + 1))), (6, .int (price td M (idx j))), (5, .ref (bad (idx j))), (0, .ref (ad 0)), (1, .int (nI b)), (2, .int ((acS td M idx (M 11 b) (mrm td n M b rm 8) j).1)), (3, .int ((acS td M idx (M 11 b) (mrm td n M b rm 8) j).2.2))]) hx hb dX1_acceptedOf_105 hl (k := 6) rfl (kinc j) (by decide) rfl (fun ls hl => ?_)
        refine lv_goto (tgt := 17) hx hb dX1_acceptedOf_108 (by decide) ?_
        exact (ih (j + 1) w  ls H locs (by omega) (by rw [acS_f (fun q => q.1 h57)]; exact hDk) hP hD hS (by rw [acS_f (fun q => q.1 h57)]; exact lv_sub hl [3, 4, 5, 6, 0] rfl))
      · refine lv_iload hx hb dX1_acceptedOf_60 (lv_at hl 0 rfl) ?_
        refine lv_aload_n hx hb dX1_acceptedOf_62 rfl (lv_at hl 2 rfl) ?_
        refine kget (ci := 2) (C := RX1) (T := TX1) (N := 7) hx hb hts hown hG hP 0 hDk.x rfl hinX1 6 (by decide) (by decide +kernel) rfl dX1_acceptedOf_63 ?_
        refine lv_aload hx hb dX1_acceptedOf_66 (lv_at hl 1 rfl) ?_
        refine kd_get hx hb hts hown hG hP hDk (hDk.ix hk2) hinX0 2 (by decide) (by decide +kernel) rfl dX1_acceptedOf_68 ?_
        refine ktop (z := nI (su M (idx j))) ((hok _ (hDk.ix hk2)).2.2.1) ?_
        refine kiald (n := 8) (j := (su M (idx j))) hx hb hG hP 4 hDk.a4 (hok _ (hDk.ix hk2)).2.2.2 (by decide) dX1_acceptedOf_71 ?_
        refine lv_icmp_gt (tgt := 105) hx hb dX1_acceptedOf_72 (by decide) (fun h72 => ?_) (fun h72 => ?_)
        · refine lv_iinc (v := nI (j + 1)) (lv' := [(4, .int (nI (j + 1))), (6, .int (price td M (idx j))), (5, .ref (bad (idx j))), (0, .ref (ad 0)), (1, .int (nI b)), (2, .int ((acS td M idx (M 11 b) (mrm td n M b rm 8) j).1)), (3, .int ((acS td M idx (M 11 b) (mrm td n M b rm 8) j).2.2))]) hx hb dX1_acceptedOf_105 hl (k := 6) rfl (kinc j) (by decide) rfl (fun ls hl => ?_)
          refine lv_goto (tgt := 17) hx hb dX1_acceptedOf_108 (by decide) ?_
          exact (ih (j + 1) w  ls H locs (by omega) (by rw [acS_f (fun q => q.2 h72)]; exact hDk) hP hD hS (by rw [acS_f (fun q => q.2 h72)]; exact lv_sub hl [3, 4, 5, 6, 0] rfl))
        · refine lv_iload_n hx hb dX1_acceptedOf_75 rfl (lv_at hl 4 rfl) ?_
          refine lv_iload hx hb dX1_acceptedOf_76 (lv_at hl 0 rfl) ?_
          refine lv_isub hx hb dX1_acceptedOf_78 ?_
          refine lv_istore_n (lv' := [(2, .int ((acS td M idx (M 11 b) (mrm td n M b rm 8) j).1 - (price td M (idx j)))), (6, .int (price td M (idx j))), (5, .ref (bad (idx j))), (0, .ref (ad 0)), (1, .int (nI b)), (3, .int ((acS td M idx (M 11 b) (mrm td n M b rm 8) j).2.2)), (4, .int (nI j))]) hx hb dX1_acceptedOf_79 rfl hl (by decide) rfl (fun ls hl => ?_)
          refine lv_aload_n hx hb dX1_acceptedOf_80 rfl (lv_at hl 3 rfl) ?_
          refine kget (ci := 2) (C := RX1) (T := TX1) (N := 7) hx hb hts hown hG hP 0 hDk.x rfl hinX1 6 (by decide) (by decide +kernel) rfl dX1_acceptedOf_81 ?_
          refine lv_aload hx hb dX1_acceptedOf_84 (lv_at hl 2 rfl) ?_
          refine kd_get hx hb hts hown hG hP hDk (hDk.ix hk2) hinX0 2 (by decide) (by decide +kernel) rfl dX1_acceptedOf_86 ?_
          refine ktop (z := nI (su M (idx j))) ((hok _ (hDk.ix hk2)).2.2.1) ?_
          refine lv_dup2_11 hx hb dX1_acceptedOf_89 rfl rfl ?_
          refine kiald (n := 8) (j := (su M (idx j))) hx hb hG hP 4 hDk.a4 (hok _ (hDk.ix hk2)).2.2.2 (by decide) dX1_acceptedOf_90 ?_
          refine lv_iload hx hb dX1_acceptedOf_91 (lv_at hl 1 rfl) ?_
          refine lv_isub hx hb dX1_acceptedOf_93 ?_
          refine kd_ast4 (j := (su M (idx j))) hx hb hG hP hD hS hDk (hok _ (hDk.ix hk2)).2.2.2 dX1_acceptedOf_94 (fun w H locs hDk hP hD hS => ?_)
          refine lv_iload_n hx hb dX1_acceptedOf_95 rfl (lv_at hl 5 rfl) ?_
          refine lv_iconst (v := 1) hx hb dX1_acceptedOf_96 (by decide) ?_
          refine lv_aload hx hb dX1_acceptedOf_97 (lv_at hl 2 rfl) ?_
          refine kd_get hx hb hts hown hG hP hDk (hDk.ix hk2) hinX0 0 (by decide) (by decide +kernel) rfl dX1_acceptedOf_99 ?_
          refine lv_ishl hx hb dX1_acceptedOf_102 ?_
          refine lv_ior hx hb dX1_acceptedOf_103 ?_
          refine lv_istore_n (lv' := [(3, .int ((acS td M idx (M 11 b) (mrm td n M b rm 8) j).2.2 ||| (1 <<< (nI (idx j) &&& 31)))), (2, .int ((acS td M idx (M 11 b) (mrm td n M b rm 8) j).1 - (price td M (idx j)))), (6, .int (price td M (idx j))), (5, .ref (bad (idx j))), (0, .ref (ad 0)), (1, .int (nI b)), (4, .int (nI j))]) hx hb dX1_acceptedOf_104 rfl hl (by decide) rfl (fun ls hl => ?_)
          refine lv_iinc (v := nI (j + 1)) (lv' := [(4, .int (nI (j + 1))), (3, .int ((acS td M idx (M 11 b) (mrm td n M b rm 8) j).2.2 ||| (1 <<< (nI (idx j) &&& 31)))), (2, .int ((acS td M idx (M 11 b) (mrm td n M b rm 8) j).1 - (price td M (idx j)))), (6, .int (price td M (idx j))), (5, .ref (bad (idx j))), (0, .ref (ad 0)), (1, .int (nI b))]) hx hb dX1_acceptedOf_105 hl (k := 6) rfl (kinc j) (by decide) rfl (fun ls hl => ?_)
          refine lv_goto (tgt := 17) hx hb dX1_acceptedOf_108 (by decide) ?_
          exact (ih (j + 1) w  ls H locs (by omega) (by rw [acS_t ⟨h57, h72⟩]; exact hDk) hP hD hS (by rw [acS_t ⟨h57, h72⟩]; exact lv_sub hl [5, 6, 2, 1, 0] rfl))
  refine LOOP _ (fun w  ls H locs hDk hP hD hS hl => ?_) k 0 w  ls _ _ (by omega) hDk hP hD hS (lv_sub hl [3, 4, 2, 1, 0] rfl)
  refine lv_iload_n hx hb dX1_acceptedOf_111 rfl (lv_at hl 3 rfl) ?_
  exact kr_i hx hb hr hlocks hP hD hS (Nat.zero_le _) (Nat.zero_le _) (⟨rfl, hDk⟩) dX1_acceptedOf_112
