/-! ArrayList: the public add, add at a place -/
theorem lst_set {K : Ks} {w : va_W} {p0 o ea n : Nat} {g : Nat → Nat} {x : Nat × List Value} {z : Nat × va_E} (h : lst K w ea n g) (hp : w[p0]? = some (o, .inr x)) : lst K (w.set p0 z) ea n g := by
  rcases h with h | ⟨r0, cap, a, h1, h2⟩
  · exact Or.inl h
  · exact Or.inr ⟨r0, cap, a, h1, ws_ne h2.1 (ws_shape h2.1 hp), h2.2⟩
theorem bls_set {w : va_W} {p0 o n : Nat} {g : Nat → Nat} {x : List Value} {z : Nat × va_E} (h : bls w n g) (hp : w[p0]? = some (o, .inr (0, x))) : bls (w.set p0 z) n g := fun j hj => by
  obtain ⟨q, vs, hq⟩ := h j hj
  exact ⟨q, vs, ws_ne hq (ws_cls hq hp (by decide))⟩
theorem lAdd_set {K : Ks} {w w2 : va_W} {p0 o ea n pos y : Nat} {mo : Int32} {g : Nat → Nat} {z : Nat × va_E} (h : lAdd K (w.set p0 z) p0 o ea mo n g pos y w2) : lAdd K w p0 o ea mo n g pos y w2 := by
  obtain ⟨r, cap, a, r0, h0, h1, h2, h3, h4, h5, h6, h7⟩ := h
  exact ⟨r, cap, a, r0, h0, h1, h2, h3, h4, h5, fun q z hq hp hz => h6 q z (ws_ne hq hp) hp hz, h7⟩
set_option maxHeartbeats 4000000 in
set_option maxRecDepth 100000 in
theorem c_addE {l : Launch} {K : Ks} {A : Nat → Prop} {w : va_W} {p0 o ea n y qy : Nat} {mo : Int32} {vs : List Value} {g : Nat → Nat} (hp : w[p0]? = some (o, .inr (0, [.int mo, .ref ea, .int (nI n)]))) (hls : lst K w ea n g) (hel : bls w n g) (hy : w[qy]? = some (y, .inr (1, vs))) (hn : n ≤ 29) : Met l yJx4a65c_add_9ea2d wsJx4a65c_add_9ea2d (kR 6 1 60) (kPr K A [.ref o, .ref y] (w)) (kQi K A (fun r w1 => r = 1 ∧ lAdd K w p0 o ea (mo + 1) n g n y w1)) 1 60 A := by
  refine kent (cc := cJx4a65c_add_9ea2d) (maxL := 2) (ret := (some .boolean)) (by decide) rfl (Nat.le_of_ble_eq_true rfl) ?_
  intro p e s m args below meth c ls hx hb hr hts hown hlocks hml hini hG hP hD hS hl
  have hinJx4a65c : ∀ x ∈ wsJx4a65c0, x ∈ wsJx4a65c_add_9ea2d := by decide +kernel
  have hl : lv_has ls 2 [(0, .ref o), (1, .ref y)] := hl
  have hyp : qy ≠ p0 := ws_cls hy hp (by decide)
  refine lv_aload_n hx hb dJx4a65c_add_9ea2d_0 rfl (lv_at hl 0 rfl) ?_
  refine lv_dup hx hb dJx4a65c_add_9ea2d_1 rfl ?_
  refine va_get (D := K.1) (ci := 0) (C := RJx4a65c) (T := TJx4a65c) (N := 3) hx hb hts hinJx4a65c hown hG.1 hP p0 hp rfl 0 (by decide) (hts (.fieldLink RJx4a65c 63 "java/util/ArrayList" "modCount" "I") (by decide +kernel)) (fun x9 h9 => u_same (hts (.sameField "java/util/ArrayList" "java/util/AbstractList" "modCount" "I") (by decide +kernel)) x9 h9) rfl dJx4a65c_add_9ea2d_2 ?_
  refine lv_iconst (v := 1) hx hb dJx4a65c_add_9ea2d_5 (by decide) ?_
  refine lv_iadd hx hb dJx4a65c_add_9ea2d_6 ?_
  refine va_put (D := K.1) (ci := 0) (v := .int (mo + 1)) (ty := .int) (C := RJx4a65c) (T := TJx4a65c) (N := 3) hx hb hts hinJx4a65c tyJx4a65c tyJx4a65c_ok nmJx4a65c hown hG.1 hP hD hS p0 hp rfl 0 (by decide) (hts (.fieldLink RJx4a65c 63 "java/util/ArrayList" "modCount" "I") (by decide +kernel)) (fun x9 h9 => u_same (hts (.sameField "java/util/ArrayList" "java/util/AbstractList" "modCount" "I") (by decide +kernel)) x9 h9) rfl (by decide +kernel) rfl rfl (Nat.le_of_ble_eq_true rfl) dJx4a65c_add_9ea2d_7 (fun H locs hP hD hS => ?_)
  obtain ⟨w1, hw1⟩ : ∃ z, z = w.set p0 (o, .inr (0, [.int (mo + 1), .ref ea, .int (nI n)])) := ⟨_, rfl⟩
  have hP : va_P K.1 kCl w1 H := by rw [hw1]; exact hP
  have hD : va_D A w1 := by rw [hw1]; exact hD
  have hp1 : w1[p0]? = some (o, .inr (0, [.int (mo + 1), .ref ea, .int (nI n)])) := by rw [hw1]; exact ws_self hp
  refine lv_aload_n hx hb dJx4a65c_add_9ea2d_10 rfl (lv_at hl 0 rfl) ?_
  refine lv_aload_n hx hb dJx4a65c_add_9ea2d_11 rfl (lv_at hl 1 rfl) ?_
  refine lv_aload_n hx hb dJx4a65c_add_9ea2d_12 rfl (lv_at hl 0 rfl) ?_
  refine kget (ci := 0) (C := RJx4a65c) (T := TJx4a65c) (N := 3) hx hb hts hown hG hP p0 hp1 rfl hinJx4a65c 1 (by decide) (by decide +kernel) rfl dJx4a65c_add_9ea2d_13 ?_
  refine lv_aload_n hx hb dJx4a65c_add_9ea2d_16 rfl (lv_at hl 0 rfl) ?_
  refine kget (ci := 0) (C := RJx4a65c) (T := TJx4a65c) (N := 3) hx hb hts hown hG hP p0 hp1 rfl hinJx4a65c 2 (by decide) (by decide +kernel) rfl dJx4a65c_add_9ea2d_17 ?_
  refine kc_v (va_runV (As := [.ref y, .ref ea, .int (nI n)]) (rest := []) ⟨hx, hb, hml, hown, hts⟩ (c_add3 hp1 (by rw [hw1]; exact lst_set hls hp) (by rw [hw1]; exact bls_set hel hp) (show w1[qy]? = some (y, .inr (1, vs)) by rw [hw1]; exact ws_ne hy hyp) hn) (cwV 3 hts gJx4a65c_add_9ea2d_Jx4a65c_add_72be8 rfl rfl rfl (by decide +kernel) ⟨Nat.le_of_ble_eq_true rfl, Nat.le_of_ble_eq_true rfl⟩) (kpv (q0 := p0) hG hP hD hS hp1 rfl) rfl rfl hl.1 rfl (lv_room (Nat.le_of_ble_eq_true rfl)) dJx4a65c_add_9ea2d_20 ⟨Nat.le_of_ble_eq_true rfl, Nat.le_of_ble_eq_true rfl⟩) hS (fun w9 H locs hp hP hD hS => ?_)
  have hp7 := hp
  refine lv_iconst (v := 1) hx hb dJx4a65c_add_9ea2d_23 (by decide) ?_
  exact kr_z hx hb hr hlocks hP hD hS (Nat.le_of_ble_eq_true rfl) (Nat.le_of_ble_eq_true rfl) (Or.inr rfl) (⟨rfl, lAdd_set (by rw [hw1] at hp7; exact hp7)⟩) dJx4a65c_add_9ea2d_24
set_option maxHeartbeats 4000000 in
set_option maxRecDepth 100000 in
theorem c_addAt {l : Launch} {K : Ks} {A : Nat → Prop} {w : va_W} {p0 o ea n y qy : Nat} {mo : Int32} {vs : List Value} {g : Nat → Nat} (hp : w[p0]? = some (o, .inr (0, [.int mo, .ref ea, .int (nI n)]))) (hls : lst K w ea n g) (hel : bls w n g) (hy : w[qy]? = some (y, .inr (1, vs))) (hn : n ≤ 29) {pos : Nat} (hpos : pos ≤ n) : Met l yJx4a65c_add_7a177 wsJx4a65c_add_7a177 (kR 6 1 60) (kPr K A [.ref o, .int (nI pos), .ref y] (w)) (kQv K A (fun w1 => lAdd K w p0 o ea (mo + 1) n g pos y w1)) 1 60 A := by
  refine kent (cc := cJx4a65c_add_7a177) (maxL := 5) (ret := none) (by decide) rfl (Nat.le_of_ble_eq_true rfl) ?_
  intro p e s m args below meth c ls hx hb hr hts hown hlocks hml hini hG hP hD hS hl
  have hinJx4a65c : ∀ x ∈ wsJx4a65c0, x ∈ wsJx4a65c_add_7a177 := by decide +kernel
  have hl : lv_has ls 5 [(0, .ref o), (1, .int (nI pos)), (2, .ref y)] := hl
  have hyp : qy ≠ p0 := ws_cls hy hp (by decide)
  refine lv_aload_n hx hb dJx4a65c_add_7a177_0 rfl (lv_at hl 0 rfl) ?_
  refine lv_iload_n hx hb dJx4a65c_add_7a177_1 rfl (lv_at hl 1 rfl) ?_
  refine kc_v (va_runV (As := [.int (nI pos)]) (rest := []) ⟨hx, hb, hml, hown, hts⟩ (c_rangeCheck hp hpos (by omega)) (cwV 1 hts gJx4a65c_add_7a177_Jx4a65c_rangeCheckForAdd_d00df rfl rfl rfl (by decide +kernel) ⟨Nat.le_of_ble_eq_true rfl, Nat.le_of_ble_eq_true rfl⟩) (kpv (q0 := p0) hG hP hD hS hp rfl) rfl rfl hl.1 rfl (lv_room (Nat.le_of_ble_eq_true rfl)) dJx4a65c_add_7a177_2 ⟨Nat.le_of_ble_eq_true rfl, Nat.le_of_ble_eq_true rfl⟩) hS (fun w8 H locs hpz hP hD hS => ?_)
  rw [hpz] at hP hD
  refine lv_aload_n hx hb dJx4a65c_add_7a177_5 rfl (lv_at hl 0 rfl) ?_
  refine lv_dup hx hb dJx4a65c_add_7a177_6 rfl ?_
  refine va_get (D := K.1) (ci := 0) (C := RJx4a65c) (T := TJx4a65c) (N := 3) hx hb hts hinJx4a65c hown hG.1 hP p0 hp rfl 0 (by decide) (hts (.fieldLink RJx4a65c 63 "java/util/ArrayList" "modCount" "I") (by decide +kernel)) (fun x9 h9 => u_same (hts (.sameField "java/util/ArrayList" "java/util/AbstractList" "modCount" "I") (by decide +kernel)) x9 h9) rfl dJx4a65c_add_7a177_7 ?_
  refine lv_iconst (v := 1) hx hb dJx4a65c_add_7a177_10 (by decide) ?_
  refine lv_iadd hx hb dJx4a65c_add_7a177_11 ?_
  refine va_put (D := K.1) (ci := 0) (v := .int (mo + 1)) (ty := .int) (C := RJx4a65c) (T := TJx4a65c) (N := 3) hx hb hts hinJx4a65c tyJx4a65c tyJx4a65c_ok nmJx4a65c hown hG.1 hP hD hS p0 hp rfl 0 (by decide) (hts (.fieldLink RJx4a65c 63 "java/util/ArrayList" "modCount" "I") (by decide +kernel)) (fun x9 h9 => u_same (hts (.sameField "java/util/ArrayList" "java/util/AbstractList" "modCount" "I") (by decide +kernel)) x9 h9) rfl (by decide +kernel) rfl rfl (Nat.le_of_ble_eq_true rfl) dJx4a65c_add_7a177_12 (fun H locs hP hD hS => ?_)
  obtain ⟨w1, hw1⟩ : ∃ z, z = w.set p0 (o, .inr (0, [.int (mo + 1), .ref ea, .int (nI n)])) := ⟨_, rfl⟩
  have hP : va_P K.1 kCl w1 H := by rw [hw1]; exact hP
  have hD : va_D A w1 := by rw [hw1]; exact hD
  have hp1 : w1[p0]? = some (o, .inr (0, [.int (mo + 1), .ref ea, .int (nI n)])) := by rw [hw1]; exact ws_self hp
  have hls1 : lst K w1 ea n g := by rw [hw1]; exact lst_set hls hp
  have hel1 : bls w1 n g := by rw [hw1]; exact bls_set hel hp
  have hfr1 : ∀ (q : Nat) (z : Nat × va_E), w[q]? = some z → q ≠ p0 → w1[q]? = some z := fun q z h h2 => by rw [hw1]; exact ws_ne h h2
  have hmk : mo + 1 = mo + 1 := rfl
  have TAIL : ∀ (w0 : va_W) (r r0 cap : Nat) (a : Nat → Option Nat) (ls : Array Slot) (H : Heap) (locs : List Loc), n + 1 ≤ cap → 2 ≤ cap → cap ≤ 60 → w0[p0]? = some (o, .inr (0, [.int (mo + 1), .ref r, .int (nI n)])) → w0[r0]? = some (r, oA K cap a) → (∀ (q : Nat) (z : Nat × va_E), w[q]? = some z → q ≠ p0 → (z.1 ≠ ea ∨ nOA K z) → w0[q]? = some z ∧ q ≠ r0) → (∀ j, j < n → a j = some (g j)) → va_P K.1 kCl w0 H → va_D A w0 → va_S A s.heap H locs → lv_has ls 5 [(4, .ref r), (3, .int (nI n)), (0, .ref o), (1, .int (nI pos)), (2, .ref y)] → W p l e (kR 6 1 60) s m args below meth c H locs 1 60 (MQ below (kQv K A (fun w1 => lAdd K w p0 o ea (mo + 1) n g pos y w1)) args s 1 60 A) (F0 m 38 ls []) := by
    intro w0 r r0 cap a ls H locs k1 k2 k3 hp0 ha0 hfr hct hP hD hS hl
    have hrp : r0 ≠ p0 := ws_shape ha0 hp0
    have hD0 := hD
    have hrk : r ≠ kE K := fun e9 => va_T.out hG.2.2.1.2.2.2 (by rw [← e9]; exact hD.2 r0 _ ha0)
    have hy0 : w0[qy]? = some (y, .inr (1, vs)) := (hfr qy _ hy hyp (Or.inr nOA_r)).1
    have hyr : qy ≠ r0 := (hfr qy _ hy hyp (Or.inr nOA_r)).2
    have hel0 : bls w0 n g := fun j hj => by
      obtain ⟨q, vs9, hq⟩ := hel j hj
      exact ⟨q, vs9, (hfr q _ hq (ws_cls hq hp (by decide)) (Or.inr nOA_r)).1⟩
    refine lv_aload hx hb dJx4a65c_add_7a177_38 (lv_at hl 0 rfl) ?_
    refine lv_iload_n hx hb dJx4a65c_add_7a177_40 rfl (lv_at hl 3 rfl) ?_
    refine lv_aload hx hb dJx4a65c_add_7a177_41 (lv_at hl 0 rfl) ?_
    refine lv_iload_n hx hb dJx4a65c_add_7a177_43 rfl (lv_at hl 3 rfl) ?_
    refine lv_iconst (v := 1) hx hb dJx4a65c_add_7a177_44 (by decide) ?_
    refine lv_iadd hx hb dJx4a65c_add_7a177_45 ?_
    refine ktop (z := nI (pos + 1)) (nI_1 pos) ?_
    refine lv_iload_n hx hb dJx4a65c_add_7a177_46 rfl (lv_at hl 1 rfl) ?_
    refine lv_iload_n hx hb dJx4a65c_add_7a177_47 rfl (lv_at hl 3 rfl) ?_
    refine lv_isub hx hb dJx4a65c_add_7a177_48 ?_
    refine ktop (z := nI (n - pos)) (pk_sub hpos) ?_
    refine kacpy (sp := pos) (dp := pos + 1) (n := n - pos) hx hb (hml.trans hl.1.symm) hown (hts (.methodLink RJx4a65c 112 arraycopyName) (by decide +kernel)) (hts (.native arraycopyName) (by decide +kernel)) (hts (.static arraycopyName) (by decide +kernel)) (hts (.initialized "java/lang/System") (by decide +kernel)) hG hP hD hS r0 r0 ha0 ha0 (by omega) (by omega) (by omega) (by omega) (by omega) (fun i hi y hy => by obtain rfl := Option.some.inj ((hct (pos + i) (by omega)).symm.trans hy); exact hel0 (pos + i) (by omega)) (Nat.le_of_ble_eq_true rfl) (Nat.le_of_ble_eq_true rfl) dJx4a65c_add_7a177_49 (fun H locs hP hD hS => ?_)
    obtain ⟨w1, hw1⟩ : ∃ z, z = w0.set r0 (r, oA K cap (va_cpy a a pos (pos + 1) (n - pos))) := ⟨_, rfl⟩
    have hP : va_P K.1 kCl w1 H := by rw [hw1]; exact hP
    have hD : va_D A w1 := by rw [hw1]; exact hD
    have hp1 : w1[p0]? = some (o, .inr (0, [.int (mo + 1), .ref r, .int (nI n)])) := by rw [hw1]; exact ws_ne hp0 (Ne.symm hrp)
    have ha1 : w1[r0]? = some (r, oA K cap (va_cpy a a pos (pos + 1) (n - pos))) := by rw [hw1]; exact ws_self ha0
    have hy1 : w1[qy]? = some (y, .inr (1, vs)) := by rw [hw1]; exact ws_ne hy0 hyr
    refine lv_aload hx hb dJx4a65c_add_7a177_52 (lv_at hl 0 rfl) ?_
    refine lv_iload_n hx hb dJx4a65c_add_7a177_54 rfl (lv_at hl 3 rfl) ?_
    refine lv_aload_n hx hb dJx4a65c_add_7a177_55 rfl (lv_at hl 4 rfl) ?_
    refine kaast (j := pos) hx hb hG hP hD hS r0 qy ha1 hy1 (by omega) (by omega) dJx4a65c_add_7a177_56 (fun H locs hP hD hS => ?_)
    obtain ⟨w2, hw2⟩ : ∃ z, z = w1.set r0 (r, oA K cap (va_up (va_cpy a a pos (pos + 1) (n - pos)) pos (some y))) := ⟨_, rfl⟩
    have hP : va_P K.1 kCl w2 H := by rw [hw2]; exact hP
    have hD : va_D A w2 := by rw [hw2]; exact hD
    have hp2 : w2[p0]? = some (o, .inr (0, [.int (mo + 1), .ref r, .int (nI n)])) := by rw [hw2]; exact ws_ne hp1 (Ne.symm hrp)
    have ha2 : w2[r0]? = some (r, oA K cap (va_up (va_cpy a a pos (pos + 1) (n - pos)) pos (some y))) := by rw [hw2]; exact ws_self ha1
    refine lv_aload_n hx hb dJx4a65c_add_7a177_57 rfl (lv_at hl 2 rfl) ?_
    refine lv_iload_n hx hb dJx4a65c_add_7a177_58 rfl (lv_at hl 1 rfl) ?_
    refine lv_iconst (v := 1) hx hb dJx4a65c_add_7a177_59 (by decide) ?_
    refine lv_iadd hx hb dJx4a65c_add_7a177_60 ?_
    refine ktop (z := nI (n + 1)) (nI_1 n) ?_
    refine kput (ci := 0) (C := RJx4a65c) (T := TJx4a65c) (N := 3) hx hb hts hown hG hP hD hS p0 hp2 rfl hinJx4a65c tyJx4a65c tyJx4a65c_ok nmJx4a65c 2 (by decide) (by decide +kernel) rfl (by decide +kernel) (Nat.le_of_ble_eq_true rfl) dJx4a65c_add_7a177_61 (fun H locs hP hD hS => ?_)
    obtain ⟨w3, hw3⟩ : ∃ z, z = w2.set p0 (o, .inr (0, [.int (mo + 1), .ref r, .int (nI (n + 1))])) := ⟨_, rfl⟩
    have hP : va_P K.1 kCl w3 H := by rw [hw3]; exact hP
    have hD : va_D A w3 := by rw [hw3]; exact hD
    have hp3 : w3[p0]? = some (o, .inr (0, [.int (mo + 1), .ref r, .int (nI (n + 1))])) := by rw [hw3]; exact ws_self hp2
    have ha3 : w3[r0]? = some (r, oA K cap (va_up (va_cpy a a pos (pos + 1) (n - pos)) pos (some y))) := by rw [hw3]; exact ws_ne ha2 hrp
    exact kr_v hx hb hr hlocks hP hD hS (Nat.le_refl _) (Nat.le_refl _) (⟨r, cap, va_up (va_cpy a a pos (pos + 1) (n - pos)) pos (some y), r0, hrk, k1, k2, k3, hp3, ha3, fun q z h h2 h3 => ⟨by rw [hw3, hw2, hw1]; exact ws_ne (ws_ne (ws_ne (hfr q z h h2 h3).1 (hfr q z h h2 h3).2) (hfr q z h h2 h3).2) h2, (hfr q z h h2 h3).2, fun e9 => (hfr q z h h2 h3).2 (hD0.1 q r0 z _ (hfr q z h h2 h3).1 ha0 e9)⟩, ins_mid hpos hct⟩) dJx4a65c_add_7a177_64
  rcases hls1 with ⟨he0, hn0⟩ | ⟨r1, cp, a1, hek, ha1, hc1, hc2, hc3, hct1⟩
  · have hPz := hP; have hDz := hD; have hSz := hS; have hlz := hl
    subst he0 hn0
    have hP := hPz; have hD := hDz; have hS := hSz; have hl := hlz
    refine lv_aload_n hx hb dJx4a65c_add_7a177_15 rfl (lv_at hl 0 rfl) ?_
    refine kget (ci := 0) (C := RJx4a65c) (T := TJx4a65c) (N := 3) hx hb hts hown hG hP p0 hp1 rfl hinJx4a65c 2 (by decide) (by decide +kernel) rfl dJx4a65c_add_7a177_16 ?_
    refine lv_dup hx hb dJx4a65c_add_7a177_19 rfl ?_
    refine lv_istore_n (lv' := [(3, .int (nI 0)), (0, .ref o), (1, .int (nI pos)), (2, .ref y)]) hx hb dJx4a65c_add_7a177_20 rfl hl (by decide) rfl (fun ls hl => ?_)
    refine lv_aload_n hx hb dJx4a65c_add_7a177_21 rfl (lv_at hl 1 rfl) ?_
    refine kget (ci := 0) (C := RJx4a65c) (T := TJx4a65c) (N := 3) hx hb hts hown hG hP p0 hp1 rfl hinJx4a65c 1 (by decide) (by decide +kernel) rfl dJx4a65c_add_7a177_22 ?_
    refine lv_dup hx hb dJx4a65c_add_7a177_25 rfl ?_
    refine lv_astore (lv' := [(4, .ref (kE K)), (3, .int (nI 0)), (0, .ref o), (1, .int (nI pos)), (2, .ref y)]) hx hb dJx4a65c_add_7a177_26 hl (by decide) rfl (fun ls hl => ?_)
    refine va_tlen (v := 0) hx hb hG.2.2.1.2.2.2 hS rfl dJx4a65c_add_7a177_28 ?_
    refine lv_icmp_ne (tgt := 38) hx hb dJx4a65c_add_7a177_29 (by decide) (fun h29 => False.elim (h29 nI_0)) (fun h29 => ?_)
    refine lv_aload_n hx hb dJx4a65c_add_7a177_32 rfl (lv_at hl 2 rfl) ?_
    refine kc_r (va_runV (As := []) (rest := []) ⟨hx, hb, hml, hown, hts⟩ (c_grow_s (fun _ => none) hp1) (cwV 0 hts gJx4a65c_add_7a177_Jx4a65c_grow_d5877 rfl rfl rfl (by decide +kernel) ⟨Nat.le_of_ble_eq_true rfl, Nat.le_of_ble_eq_true rfl⟩) (kpv (q0 := p0) hG hP hD hS hp1 rfl) rfl rfl hl.1 rfl (lv_room (Nat.le_of_ble_eq_true rfl)) dJx4a65c_add_7a177_33 ⟨Nat.le_of_ble_eq_true rfl, Nat.le_of_ble_eq_true rfl⟩) hS (fun r w9 H locs hp hP hD hS => ?_)
    have hp7 := hp
    refine lv_astore (lv' := [(4, .ref r), (3, .int (nI 0)), (0, .ref o), (1, .int (nI pos)), (2, .ref y)]) hx hb dJx4a65c_add_7a177_36 hl (by decide) rfl (fun ls hl => ?_)
    obtain ⟨cap9, a9, r9, u1, u2, u3, u4, u5, u6, u7⟩ := hp7
    exact TAIL w9 r r9 cap9 a9 ls H locs u1 u2 u3 u4 u5 (fun q z h h2 _ => u6 q z (hfr1 q z h h2) h2) (fun j hj => absurd hj (Nat.not_lt_zero _)) hP hD hS (lv_sub hl [0, 1, 2, 3, 4] rfl)
  · have hrp1 : r1 ≠ p0 := ws_shape ha1 hp1
    refine lv_aload_n hx hb dJx4a65c_add_7a177_15 rfl (lv_at hl 0 rfl) ?_
    refine kget (ci := 0) (C := RJx4a65c) (T := TJx4a65c) (N := 3) hx hb hts hown hG hP p0 hp1 rfl hinJx4a65c 2 (by decide) (by decide +kernel) rfl dJx4a65c_add_7a177_16 ?_
    refine lv_dup hx hb dJx4a65c_add_7a177_19 rfl ?_
    refine lv_istore_n (lv' := [(3, .int (nI n)), (0, .ref o), (1, .int (nI pos)), (2, .ref y)]) hx hb dJx4a65c_add_7a177_20 rfl hl (by decide) rfl (fun ls hl => ?_)
    refine lv_aload_n hx hb dJx4a65c_add_7a177_21 rfl (lv_at hl 1 rfl) ?_
    refine kget (ci := 0) (C := RJx4a65c) (T := TJx4a65c) (N := 3) hx hb hts hown hG hP p0 hp1 rfl hinJx4a65c 1 (by decide) (by decide +kernel) rfl dJx4a65c_add_7a177_22 ?_
    refine lv_dup hx hb dJx4a65c_add_7a177_25 rfl ?_
    refine lv_astore (lv' := [(4, .ref ea), (3, .int (nI n)), (0, .ref o), (1, .int (nI pos)), (2, .ref y)]) hx hb dJx4a65c_add_7a177_26 hl (by decide) rfl (fun ls hl => ?_)
    refine kalen hx hb hG hP r1 ha1 dJx4a65c_add_7a177_28 ?_
    refine lv_icmp_ne (tgt := 38) hx hb dJx4a65c_add_7a177_29 (by decide) (fun h29 => ?_) (fun h29 => ?_)
    · have hlt : n < cp := Nat.lt_of_le_of_ne hc1 (fun q => h29 (by rw [q]))
      refine W.widen (k := 1) (n := 60) (Nat.le_of_ble_eq_true rfl) (Nat.le_of_ble_eq_true rfl) ?_
      exact TAIL w1 ea r1 cp a1 ls _ _ hlt hc2 hc3 hp1 ha1 (fun q z h h2 h3 => ⟨hfr1 q z h h2, fun e => h3.elim (fun k => k (by subst e; exact (congrArg (fun v => Prod.fst v) (Option.some.inj ((hfr1 _ _ h h2).symm.trans ha1))))) (fun k => k _ _ (by subst e; exact (congrArg (fun v => Prod.snd v) (Option.some.inj ((hfr1 _ _ h h2).symm.trans ha1)))))⟩) hct1 hP hD hS (lv_sub hl [0, 1, 2, 3, 4] rfl)
    · have hncp : n = cp := (nI_eq (by omega) (by omega)).mp h29
      refine lv_aload_n hx hb dJx4a65c_add_7a177_32 rfl (lv_at hl 2 rfl) ?_
      refine kc_r (va_runV (As := []) (rest := []) ⟨hx, hb, hml, hown, hts⟩ (c_grow_f hp1 (r0 := r1) (a := a1) (by rw [hncp]; exact ha1) hrp1 (by omega) hn (fun i hi y hy => by obtain rfl := Option.some.inj ((hct1 i hi).symm.trans hy); exact hel1 i hi)) (cwV 0 hts gJx4a65c_add_7a177_Jx4a65c_grow_d5877 rfl rfl rfl (by decide +kernel) ⟨Nat.le_of_ble_eq_true rfl, Nat.le_of_ble_eq_true rfl⟩) (kpv (q0 := p0) hG hP hD hS hp1 rfl) rfl rfl hl.1 rfl (lv_room (Nat.le_of_ble_eq_true rfl)) dJx4a65c_add_7a177_33 ⟨Nat.le_of_ble_eq_true rfl, Nat.le_of_ble_eq_true rfl⟩) hS (fun r w9 H locs hp hP hD hS => ?_)
      have hp7 := hp
      refine lv_astore (lv' := [(4, .ref r), (3, .int (nI n)), (0, .ref o), (1, .int (nI pos)), (2, .ref y)]) hx hb dJx4a65c_add_7a177_36 hl (by decide) rfl (fun ls hl => ?_)
      obtain ⟨cap9, a9, r9, u1, u2, u3, u4, u5, u6, u7⟩ := hp7
      exact TAIL w9 r r9 cap9 a9 ls H locs u1 u2 u3 u4 u5 (fun q z h h2 _ => u6 q z (hfr1 q z h h2) h2) (fun j hj => (u7 j hj).trans (hct1 j hj)) hP hD hS (lv_sub hl [0, 1, 2, 3, 4] rfl)
