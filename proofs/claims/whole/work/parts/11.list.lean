/-! ArrayList: its methods, by what they do to a world that holds a list at the place p0 (o, its array ea, its size n) -/
theorem ws_self {w : va_W} {p : Nat} {x y : Nat × va_E} (h : w[p]? = some y) : (w.set p x)[p]? = some x := List.getElem?_set_self (List.getElem?_eq_some_iff.mp h).1
theorem ws_ne {w : va_W} {p q : Nat} {x z : Nat × va_E} (h : w[q]? = some z) (hne : q ≠ p) : (w.set p x)[q]? = some z := by rw [List.getElem?_set_ne (Ne.symm hne)]; exact h
theorem ws_app {w : va_W} {q : Nat} {x z : Nat × va_E} (h : w[q]? = some z) : (w ++ [x])[q]? = some z := by rw [List.getElem?_append_left (List.getElem?_eq_some_iff.mp h).1]; exact h
theorem ws_last (w : va_W) (x : Nat × va_E) : (w ++ [x])[w.length]? = some x := by rw [List.getElem?_append_right (Nat.le_refl _), Nat.sub_self]; rfl
theorem ws_lt {w : va_W} {q : Nat} {z : Nat × va_E} (h : w[q]? = some z) : q < w.length := (List.getElem?_eq_some_iff.mp h).1
abbrev oA (K : Ks) (cap : Nat) (f : Nat → Option Nat) : va_E := .inl (kO K, cap, .inr (.inr (.inr (.inr f))))
section KL
variable {p : Program} {l : Launch} {e : Env} {R : Room} {s : State} {m : MethodId} {args : Array Value} {below : List Frame} {meth : Method} {c : Code} {H : Heap} {locs : List Loc} {cells slots : Nat} {Q : State → Prop}
variable {cc : ByteArray} {pc : Nat} {ls : Array Slot} {rest : List Value} {K : Ks} {A : Nat → Prop} {w : va_W} {b : Nat}
theorem kaald (hexec : p.tables.exec = Jvm.exec) (hb : c.code = cc) (hG : kGd K A s) (hP : va_P K.1 kCl w H) (q0 : Nat) {cap j y : Nat} {f : Nat → Option Nat} (ha : w[q0]? = some (b, oA K cap f)) (hj : j < cap) (hn : cap < 2 ^ 31) (hy : f j = some y) (hdg : decode cc pc = .ok (.aaload, 1))
    (kk : W p l e R s m args below meth c H locs cells slots Q (F0 m (pc + 1) ls (.ref y :: rest))) : W p l e R s m args below meth c H locs cells slots Q (F0 m pc ls (.int (nI j) :: .ref b :: rest)) :=
  va_aldq hexec hb hG.1 hP q0 2 ha rfl (vp_in_nI hj hn) hdg (by rw [nI_clamp (Nat.lt_trans hj hn), hy]; exact kk)
theorem kaast (hexec : p.tables.exec = Jvm.exec) (hb : c.code = cc) (hG : kGd K A s) (hP : va_P K.1 kCl w H) (hD : va_D A w) (hS : va_S A s.heap H locs) (q0 qk : Nat) {cap j y : Nat} {vs : List Value} {f : Nat → Option Nat} (ha : w[q0]? = some (b, oA K cap f)) (hv : w[qk]? = some (y, .inr (1, vs))) (hj : j < cap) (hn : cap < 2 ^ 31) (hdg : decode cc pc = .ok (.aastore, 1))
    (kk : ∀ (H1 : Heap) (locs1 : List Loc), va_P K.1 kCl (w.set q0 (b, oA K cap (va_up f j (some y)))) H1 → va_D A (w.set q0 (b, oA K cap (va_up f j (some y)))) → va_S A s.heap H1 locs1 → W p l e R s m args below meth c H1 locs1 cells slots Q (F0 m (pc + 1) ls rest)) : W p l e R s m args below meth c H locs cells slots Q (F0 m pc ls (.ref y :: .int (nI j) :: .ref b :: rest)) :=
  va_astqO (E := "java/lang/Object") (r := (RX0, TX0, 10)) hexec hb hG.1 hP hD hS q0 2 qk 1 ha rfl hG.2.2.2.2.2.2.2.2 hv rfl (vp_in_nI hj hn) hdg (by rw [nI_clamp (Nat.lt_trans hj hn)]; exact kk)
theorem kaastN (hexec : p.tables.exec = Jvm.exec) (hb : c.code = cc) (hG : kGd K A s) (hP : va_P K.1 kCl w H) (hD : va_D A w) (hS : va_S A s.heap H locs) (q0 : Nat) {cap j : Nat} {f : Nat → Option Nat} (ha : w[q0]? = some (b, oA K cap f)) (hj : j < cap) (hn : cap < 2 ^ 31) (hdg : decode cc pc = .ok (.aastore, 1))
    (kk : ∀ (H1 : Heap) (locs1 : List Loc), va_P K.1 kCl (w.set q0 (b, oA K cap (va_up f j none))) H1 → va_D A (w.set q0 (b, oA K cap (va_up f j none))) → va_S A s.heap H1 locs1 → W p l e R s m args below meth c H1 locs1 cells slots Q (F0 m (pc + 1) ls rest)) : W p l e R s m args below meth c H locs cells slots Q (F0 m pc ls (.null :: .int (nI j) :: .ref b :: rest)) :=
  va_astqN (C := "java/lang/Object") hexec hb hG.1 hP hD hS q0 2 ha rfl (vp_in_nI hj hn) hdg (by rw [nI_clamp (Nat.lt_trans hj hn)]; exact kk)
theorem kalen (hexec : p.tables.exec = Jvm.exec) (hb : c.code = cc) (hG : kGd K A s) (hP : va_P K.1 kCl w H) (q0 : Nat) {cap : Nat} {f : Nat → Option Nat} (ha : w[q0]? = some (b, oA K cap f)) (hdg : decode cc pc = .ok (.arraylength, 1))
    (kk : W p l e R s m args below meth c H locs cells slots Q (F0 m (pc + 1) ls (.int (nI cap) :: rest))) : W p l e R s m args below meth c H locs cells slots Q (F0 m pc ls (.ref b :: rest)) :=
  va_alen hexec hb hG.1 hP q0 2 ha rfl rfl hdg kk
/-- a new Object[] -/
theorem kanew (hexec : p.tables.exec = Jvm.exec) (hb : c.code = cc) {own : String} {index : Nat} (hown : s.vm.findClass own = some m.cls) (hclink : (Cond.classLink own index "java/lang/Object").before args s = true) (hG : kGd K A s) (hP : va_P K.1 kCl w H) (hD : va_D A w) (hS : va_S A s.heap H locs) {N : Nat} (hN : N ≤ 90) (hcells : cells + 1 ≤ R.cells) (hslots : slots + N ≤ R.slots) (hdg : decode cc pc = .ok (.anewarray index, 3))
    (kk : ∀ (q : Nat) (H1 : Heap), va_P K.1 kCl (w ++ [(q, oA K N (fun _ => none))]) H1 → va_D A (w ++ [(q, oA K N (fun _ => none))]) → va_S A s.heap H1 locs → W p l e R s m args below meth c H1 locs (cells + 1) (slots + N) Q (F0 m (pc + 3) ls (.ref q :: rest))) : W p l e R s m args below meth c H locs cells slots Q (F0 m pc ls (.int (nI N) :: rest)) := by
  refine va_newq hexec hb hown hclink hG.2.2.2.1.1 hG.1 hP hD hS hG.2.1 (nI_pos (by omega)) (nI_clamp (by omega)) (by omega) hcells hslots hdg (fun q cA H1 hK1 hP1 hD1 hS1 => ?_)
  have e1 := (hK1.2 5 _ rfl).2
  have e2 := (hG.1.2 2 _ rfl).2
  obtain ⟨_, _, _, _, _, f1⟩ := e1
  obtain ⟨_, _, _, _, _, f2⟩ := e2
  have e3 : cA = kO K := Option.some.inj (f1.symm.trans f2)
  subst e3
  exact kk q H1 hP1 hD1 hS1
end KL
theorem mx1 {h : Nat} (h1 : 1 ≤ h) (h2 : h < 2 ^ 30) : (if nI 1 < nI h then nI h else nI 1) = nI h := by
  by_cases c : 1 < h
  · exact if_pos (nI_lt c (by omega))
  · rw [if_neg (nI_nlt (by omega) (by decide)), show h = 1 by omega]
set_option maxHeartbeats 4000000 in
set_option maxRecDepth 100000 in
theorem c_size {l : Launch} {K : Ks} {A : Nat → Prop} {w : va_W} {p0 o ea n : Nat} {mo : Int32} (hp : w[p0]? = some (o, .inr (0, [.int mo, .ref ea, .int (nI n)]))) : Met l yJx4a65c_size_8abf5 wsJx4a65c_size_8abf5 (kR 0 0 0) (kPr K A [.ref o] (w)) (kQi K A (fun r w1 => r = nI n ∧ w1 = w)) 0 0 A := by
  refine kent (cc := cJx4a65c_size_8abf5) (maxL := 1) (ret := (some .int)) (by decide) rfl (Nat.le_of_ble_eq_true rfl) ?_
  intro p e s m args below meth c ls hx hb hr hts hown hlocks hml hini hG hP hD hS hl
  have hinJx4a65c : ∀ x ∈ wsJx4a65c0, x ∈ wsJx4a65c_size_8abf5 := by decide +kernel
  have hl : lv_has ls 1 [(0, .ref o)] := hl
  refine lv_aload_n hx hb dJx4a65c_size_8abf5_0 rfl (lv_at hl 0 rfl) ?_
  refine kget (ci := 0) (C := RJx4a65c) (T := TJx4a65c) (N := 3) hx hb hts hown hG hP p0 hp rfl hinJx4a65c 2 (by decide) (by decide +kernel) rfl dJx4a65c_size_8abf5_1 ?_
  exact kr_i hx hb hr hlocks hP hD hS (Nat.zero_le _) (Nat.zero_le _) (⟨rfl, rfl⟩) dJx4a65c_size_8abf5_4
set_option maxHeartbeats 4000000 in
set_option maxRecDepth 100000 in
theorem c_checkIndex3 {l : Launch} {K : Ks} {A : Nat → Prop} {w : va_W} {i n : Nat} (hi : i < n) (hn : n < 2 ^ 31)  : Met l yJ3_checkIndex_8e157 wsJ3_checkIndex_8e157 (kR 0 0 0) (kPr K A [.int (nI i), .int (nI n), .null] (w)) (kQi K A (fun r w1 => r = nI i ∧ w1 = w)) 0 0 A := by
  refine kent (cc := cJ3_checkIndex_8e157) (maxL := 3) (ret := (some .int)) (by decide) rfl (Nat.le_of_ble_eq_true rfl) ?_
  intro p e s m args below meth c ls hx hb hr hts hown hlocks hml hini hG hP hD hS hl
  have hl : lv_has ls 3 [(0, .int (nI i)), (1, .int (nI n)), (2, .null)] := hl
  refine lv_iload_n hx hb dJ3_checkIndex_8e157_0 rfl (lv_at hl 0 rfl) ?_
  refine lv_if_lt (tgt := 9) hx hb dJ3_checkIndex_8e157_1 (by decide) (fun h1 => False.elim (absurd h1 (nI_pos (by omega)))) (fun h1 => ?_)
  refine lv_iload_n hx hb dJ3_checkIndex_8e157_4 rfl (lv_at hl 0 rfl) ?_
  refine lv_iload_n hx hb dJ3_checkIndex_8e157_5 rfl (lv_at hl 1 rfl) ?_
  refine lv_icmp_lt (tgt := 16) hx hb dJ3_checkIndex_8e157_6 (by decide) (fun h6 => ?_) (fun h6 => False.elim (absurd (nI_lt hi hn) h6))
  refine lv_iload_n hx hb dJ3_checkIndex_8e157_16 rfl (lv_at hl 0 rfl) ?_
  exact kr_i hx hb hr hlocks hP hD hS (Nat.zero_le _) (Nat.zero_le _) (⟨rfl, rfl⟩) dJ3_checkIndex_8e157_17
set_option maxHeartbeats 4000000 in
set_option maxRecDepth 100000 in
theorem c_checkIndex2 {l : Launch} {K : Ks} {A : Nat → Prop} {w : va_W} {i n : Nat} (hi : i < n) (hn : n < 2 ^ 31)  : Met l yJ15_checkIndex_7cf53 wsJ15_checkIndex_7cf53 (kR 1 0 0) (kPr K A [.int (nI i), .int (nI n)] (w)) (kQi K A (fun r w1 => r = nI i ∧ w1 = w)) 0 0 A := by
  refine kent (cc := cJ15_checkIndex_7cf53) (maxL := 2) (ret := (some .int)) (by decide) rfl (Nat.le_of_ble_eq_true rfl) ?_
  intro p e s m args below meth c ls hx hb hr hts hown hlocks hml hini hG hP hD hS hl
  have hl : lv_has ls 2 [(0, .int (nI i)), (1, .int (nI n))] := hl
  refine lv_iload_n hx hb dJ15_checkIndex_7cf53_0 rfl (lv_at hl 0 rfl) ?_
  refine lv_iload_n hx hb dJ15_checkIndex_7cf53_1 rfl (lv_at hl 1 rfl) ?_
  refine lv_null hx hb dJ15_checkIndex_7cf53_2 ?_
  refine kc_i (va_runS (As := [.int (nI i), .int (nI n), .null]) (rest := []) ⟨hx, hb, hml, hown, hts⟩ (c_checkIndex3 hi hn) (va_cwS 3 hts gJ15_checkIndex_7cf53_J3_checkIndex_8e157 rfl rfl rfl (by decide +kernel) ⟨Nat.le_of_ble_eq_true rfl, Nat.le_of_ble_eq_true rfl⟩) (kps hG hP hD hS) rfl rfl hl.1 rfl (lv_room (Nat.le_of_ble_eq_true rfl)) dJ15_checkIndex_7cf53_3 ⟨Nat.le_of_ble_eq_true rfl, Nat.le_of_ble_eq_true rfl⟩) hS (fun r3 w H locs hp hP hD hS => ?_)
  obtain ⟨e9, f9⟩ := hp
  rw [f9] at hP hD
  rw [e9]
  exact kr_i hx hb hr hlocks hP hD hS (Nat.zero_le _) (Nat.zero_le _) (⟨rfl, rfl⟩) dJ15_checkIndex_7cf53_6
set_option maxHeartbeats 4000000 in
set_option maxRecDepth 100000 in
theorem c_elementData {l : Launch} {K : Ks} {A : Nat → Prop} {w : va_W} {p0 o ea n : Nat} {mo : Int32} (hp : w[p0]? = some (o, .inr (0, [.int mo, .ref ea, .int (nI n)]))) {cap r0 : Nat} {a : Nat → Option Nat} (ha : w[r0]? = some (ea, oA K cap a)) (hrp : r0 ≠ p0) {i y : Nat} (hi : i < cap) (hcap : cap < 2 ^ 31) (hy : a i = some y) : Met l yJx4a65c_elementData_915e3 wsJx4a65c_elementData_915e3 (kR 0 0 0) (kPr K A [.ref o, .int (nI i)] (w)) (kQr K A (fun r w1 => r = y ∧ w1 = w)) 0 0 A := by
  refine kent (cc := cJx4a65c_elementData_915e3) (maxL := 2) (ret := (some (.object "java/lang/Object"))) (by decide) rfl (Nat.le_of_ble_eq_true rfl) ?_
  intro p e s m args below meth c ls hx hb hr hts hown hlocks hml hini hG hP hD hS hl
  have hinJx4a65c : ∀ x ∈ wsJx4a65c0, x ∈ wsJx4a65c_elementData_915e3 := by decide +kernel
  have hl : lv_has ls 2 [(0, .ref o), (1, .int (nI i))] := hl
  refine lv_aload_n hx hb dJx4a65c_elementData_915e3_0 rfl (lv_at hl 0 rfl) ?_
  refine kget (ci := 0) (C := RJx4a65c) (T := TJx4a65c) (N := 3) hx hb hts hown hG hP p0 hp rfl hinJx4a65c 1 (by decide) (by decide +kernel) rfl dJx4a65c_elementData_915e3_1 ?_
  refine lv_iload_n hx hb dJx4a65c_elementData_915e3_4 rfl (lv_at hl 1 rfl) ?_
  refine kaald hx hb hG hP r0 ha hi hcap hy dJx4a65c_elementData_915e3_5 ?_
  exact kr_r hx hb hr (Or.inl ⟨_, rfl⟩) hlocks hP hD hS (Nat.zero_le _) (Nat.zero_le _) (⟨rfl, rfl⟩) dJx4a65c_elementData_915e3_6
set_option maxHeartbeats 4000000 in
set_option maxRecDepth 100000 in
theorem c_get {l : Launch} {K : Ks} {A : Nat → Prop} {w : va_W} {p0 o ea n : Nat} {mo : Int32} (hp : w[p0]? = some (o, .inr (0, [.int mo, .ref ea, .int (nI n)]))) {cap r0 : Nat} {a : Nat → Option Nat} (ha : w[r0]? = some (ea, oA K cap a)) (hrp : r0 ≠ p0) {i y : Nat} (hi : i < cap) (hcap : cap < 2 ^ 31) (hy : a i = some y) (hin : i < n) (hn : n < 2 ^ 31) : Met l yJx4a65c_get_915e3 wsJx4a65c_get_915e3 (kR 2 0 0) (kPr K A [.ref o, .int (nI i)] (w)) (kQr K A (fun r w1 => r = y ∧ w1 = w)) 0 0 A := by
  refine kent (cc := cJx4a65c_get_915e3) (maxL := 2) (ret := (some (.object "java/lang/Object"))) (by decide) rfl (Nat.le_of_ble_eq_true rfl) ?_
  intro p e s m args below meth c ls hx hb hr hts hown hlocks hml hini hG hP hD hS hl
  have hinJx4a65c : ∀ x ∈ wsJx4a65c0, x ∈ wsJx4a65c_get_915e3 := by decide +kernel
  have hl : lv_has ls 2 [(0, .ref o), (1, .int (nI i))] := hl
  refine lv_iload_n hx hb dJx4a65c_get_915e3_0 rfl (lv_at hl 1 rfl) ?_
  refine lv_aload_n hx hb dJx4a65c_get_915e3_1 rfl (lv_at hl 0 rfl) ?_
  refine kget (ci := 0) (C := RJx4a65c) (T := TJx4a65c) (N := 3) hx hb hts hown hG hP p0 hp rfl hinJx4a65c 2 (by decide) (by decide +kernel) rfl dJx4a65c_get_915e3_2 ?_
  refine kc_i (va_runS (As := [.int (nI i), .int (nI n)]) (rest := []) ⟨hx, hb, hml, hown, hts⟩ (c_checkIndex2 hin hn) (va_cwS 2 hts gJx4a65c_get_915e3_J15_checkIndex_7cf53 rfl rfl rfl (by decide +kernel) ⟨Nat.le_of_ble_eq_true rfl, Nat.le_of_ble_eq_true rfl⟩) (kps hG hP hD hS) rfl rfl hl.1 rfl (lv_room (Nat.le_of_ble_eq_true rfl)) dJx4a65c_get_915e3_5 ⟨Nat.le_of_ble_eq_true rfl, Nat.le_of_ble_eq_true rfl⟩) hS (fun r5 w H locs hp hP hD hS => ?_)
  obtain ⟨e9, f9⟩ := hp
  rw [f9] at hP hD
  rw [e9]
  refine lv_pop hx hb dJx4a65c_get_915e3_8 rfl ?_
  refine lv_aload_n hx hb dJx4a65c_get_915e3_9 rfl (lv_at hl 0 rfl) ?_
  refine lv_iload_n hx hb dJx4a65c_get_915e3_10 rfl (lv_at hl 1 rfl) ?_
  refine kc_r (va_runV (As := [.int (nI i)]) (rest := []) ⟨hx, hb, hml, hown, hts⟩ (c_elementData hp ha hrp hi hcap hy) (cwV 1 hts gJx4a65c_get_915e3_Jx4a65c_elementData_915e3 rfl rfl rfl (by decide +kernel) ⟨Nat.le_of_ble_eq_true rfl, Nat.le_of_ble_eq_true rfl⟩) (kpv (q0 := p0) hG hP hD hS hp rfl) rfl rfl hl.1 rfl (lv_room (Nat.le_of_ble_eq_true rfl)) dJx4a65c_get_915e3_11 ⟨Nat.le_of_ble_eq_true rfl, Nat.le_of_ble_eq_true rfl⟩) hS (fun r11 w H locs hp hP hD hS => ?_)
  obtain ⟨e9, f9⟩ := hp
  rw [f9] at hP hD
  rw [e9]
  exact kr_r hx hb hr (Or.inl ⟨_, rfl⟩) hlocks hP hD hS (Nat.zero_le _) (Nat.zero_le _) (⟨rfl, rfl⟩) dJx4a65c_get_915e3_14
set_option maxHeartbeats 4000000 in
set_option maxRecDepth 100000 in
theorem c_rangeCheck {l : Launch} {K : Ks} {A : Nat → Prop} {w : va_W} {p0 o ea n : Nat} {mo : Int32} (hp : w[p0]? = some (o, .inr (0, [.int mo, .ref ea, .int (nI n)]))) {i : Nat} (hi : i ≤ n) (hn : n < 2 ^ 31) : Met l yJx4a65c_rangeCheckForAdd_d00df wsJx4a65c_rangeCheckForAdd_d00df (kR 0 0 0) (kPr K A [.ref o, .int (nI i)] (w)) (kQv K A (fun w1 => w1 = w)) 0 0 A := by
  refine kent (cc := cJx4a65c_rangeCheckForAdd_d00df) (maxL := 2) (ret := none) (by decide) rfl (Nat.le_of_ble_eq_true rfl) ?_
  intro p e s m args below meth c ls hx hb hr hts hown hlocks hml hini hG hP hD hS hl
  have hinJx4a65c : ∀ x ∈ wsJx4a65c0, x ∈ wsJx4a65c_rangeCheckForAdd_d00df := by decide +kernel
  have hl : lv_has ls 2 [(0, .ref o), (1, .int (nI i))] := hl
  refine lv_iload_n hx hb dJx4a65c_rangeCheckForAdd_d00df_0 rfl (lv_at hl 1 rfl) ?_
  refine lv_aload_n hx hb dJx4a65c_rangeCheckForAdd_d00df_1 rfl (lv_at hl 0 rfl) ?_
  refine kget (ci := 0) (C := RJx4a65c) (T := TJx4a65c) (N := 3) hx hb hts hown hG hP p0 hp rfl hinJx4a65c 2 (by decide) (by decide +kernel) rfl dJx4a65c_rangeCheckForAdd_d00df_2 ?_
  refine lv_icmp_gt (tgt := 12) hx hb dJx4a65c_rangeCheckForAdd_d00df_5 (by decide) (fun h5 => False.elim (absurd h5 (nI_nlt hi hn))) (fun h5 => ?_)
  refine lv_iload_n hx hb dJx4a65c_rangeCheckForAdd_d00df_8 rfl (lv_at hl 1 rfl) ?_
  refine lv_if_ge (tgt := 25) hx hb dJx4a65c_rangeCheckForAdd_d00df_9 (by decide) (fun h9 => ?_) (fun h9 => False.elim (absurd (nI_pos' (by omega)) h9))
  exact kr_v hx hb hr hlocks hP hD hS (Nat.zero_le _) (Nat.zero_le _) (rfl) dJx4a65c_rangeCheckForAdd_d00df_25
set_option maxHeartbeats 4000000 in
set_option maxRecDepth 100000 in
theorem c_newLength {l : Launch} {K : Ks} {A : Nat → Prop} {w : va_W} {cp h : Nat} (h1 : 1 ≤ h) (hc9 : cp + h < 2 ^ 30)  : Met l yJ8_newLength_cabcc wsJ8_newLength_cabcc (kR 0 0 0) (kPr K A [.int (nI cp), .int (nI 1), .int (nI h)] (w)) (kQi K A (fun r w1 => r = nI (cp + h) ∧ w1 = w)) 0 0 A := by
  refine kent (cc := cJ8_newLength_cabcc) (maxL := 4) (ret := (some .int)) (by decide) rfl (Nat.le_of_ble_eq_true rfl) ?_
  intro p e s m args below meth c ls hx hb hr hts hown hlocks hml hini hG hP hD hS hl
  have hl : lv_has ls 4 [(0, .int (nI cp)), (1, .int (nI 1)), (2, .int (nI h))] := hl
  refine lv_iload_n hx hb dJ8_newLength_cabcc_0 rfl (lv_at hl 0 rfl) ?_
  refine lv_iload_n hx hb dJ8_newLength_cabcc_1 rfl (lv_at hl 1 rfl) ?_
  refine lv_iload_n hx hb dJ8_newLength_cabcc_2 rfl (lv_at hl 2 rfl) ?_
  refine va_mmax hx hb (hml.trans hl.1.symm) hown (hts (.methodLink RJ8 194 Lib.Math.max.name) (by decide +kernel)) (hts (.static Lib.Math.max.name) (by decide +kernel)) (hts (.initialized "java/lang/Math") (by decide +kernel)) (hts (.code Lib.Math.max.name Lib.Math.max.code 2 (some .int)) (by decide +kernel)) (Nat.le_of_ble_eq_true rfl) (Nat.le_of_ble_eq_true rfl) (Nat.zero_le _) (Nat.zero_le _) dJ8_newLength_cabcc_3 ?_
  refine ktop (z := nI h) (mx1 h1 (by omega)) ?_
  refine lv_iadd hx hb dJ8_newLength_cabcc_6 ?_
  refine ktop (z := nI (cp + h)) (nI_add cp h) ?_
  refine lv_istore_n (lv' := [(3, .int (nI (cp + h))), (0, .int (nI cp)), (1, .int (nI 1)), (2, .int (nI h))]) hx hb dJ8_newLength_cabcc_7 rfl hl (by decide) rfl (fun ls hl => ?_)
  refine lv_iconst (v := 0) hx hb dJ8_newLength_cabcc_8 (by decide) ?_
  refine lv_iload_n hx hb dJ8_newLength_cabcc_9 rfl (lv_at hl 0 rfl) ?_
  refine lv_icmp_ge (tgt := 21) hx hb dJ8_newLength_cabcc_10 (by decide) (fun h10 => False.elim (absurd h10 (nI_nle (by omega) (by omega)))) (fun h10 => ?_)
  refine lv_iload_n hx hb dJ8_newLength_cabcc_13 rfl (lv_at hl 0 rfl) ?_
  refine lv_ldc (v := 2147483639) hx hb hown (hts (.constant RJ8 200 2147483639) (by decide +kernel)) dJ8_newLength_cabcc_14 ?_
  refine lv_icmp_gt (tgt := 21) hx hb dJ8_newLength_cabcc_16 (by decide) (fun h16 => False.elim (absurd h16 (nI_nlt (a := 2147483639) (b := cp + h) (by omega) (by decide)))) (fun h16 => ?_)
  refine lv_iload_n hx hb dJ8_newLength_cabcc_19 rfl (lv_at hl 0 rfl) ?_
  exact kr_i hx hb hr hlocks hP hD hS (Nat.zero_le _) (Nat.zero_le _) (⟨rfl, rfl⟩) dJ8_newLength_cabcc_20
set_option maxHeartbeats 4000000 in
set_option maxRecDepth 100000 in
theorem c_clear_0 {l : Launch} {K : Ks} {A : Nat → Prop} {w : va_W} {p0 o ea : Nat} {mo : Int32} (hp : w[p0]? = some (o, .inr (0, [.int mo, .ref ea, .int (nI 0)]))) : Met l yJx4a65c_clear_da8c8 wsJx4a65c_clear_da8c8 (kR 0 0 0) (kPr K A [.ref o] (w)) (kQv K A (fun w1 => w1 = w.set p0 (o, .inr (0, [.int (mo + 1), .ref ea, .int (nI 0)])))) 0 0 A := by
  refine kent (cc := cJx4a65c_clear_da8c8) (maxL := 4) (ret := none) (by decide) rfl (Nat.le_of_ble_eq_true rfl) ?_
  intro p e s m args below meth c ls hx hb hr hts hown hlocks hml hini hG hP hD hS hl
  have hinJx4a65c : ∀ x ∈ wsJx4a65c0, x ∈ wsJx4a65c_clear_da8c8 := by decide +kernel
  have hl : lv_has ls 4 [(0, .ref o)] := hl
  refine lv_aload_n hx hb dJx4a65c_clear_da8c8_0 rfl (lv_at hl 0 rfl) ?_
  refine lv_dup hx hb dJx4a65c_clear_da8c8_1 rfl ?_
  refine va_get (D := K.1) (ci := 0) (C := RJx4a65c) (T := TJx4a65c) (N := 3) hx hb hts hinJx4a65c hown hG.1 hP p0 hp rfl 0 (by decide) (hts (.fieldLink RJx4a65c 63 "java/util/ArrayList" "modCount" "I") (by decide +kernel)) (fun x9 h9 => u_same (hts (.sameField "java/util/ArrayList" "java/util/AbstractList" "modCount" "I") (by decide +kernel)) x9 h9) rfl dJx4a65c_clear_da8c8_2 ?_
  refine lv_iconst (v := 1) hx hb dJx4a65c_clear_da8c8_5 (by decide) ?_
  refine lv_iadd hx hb dJx4a65c_clear_da8c8_6 ?_
  refine va_put (D := K.1) (ci := 0) (v := .int (mo + 1)) (ty := .int) (C := RJx4a65c) (T := TJx4a65c) (N := 3) hx hb hts hinJx4a65c tyJx4a65c tyJx4a65c_ok nmJx4a65c hown hG.1 hP hD hS p0 hp rfl 0 (by decide) (hts (.fieldLink RJx4a65c 63 "java/util/ArrayList" "modCount" "I") (by decide +kernel)) (fun x9 h9 => u_same (hts (.sameField "java/util/ArrayList" "java/util/AbstractList" "modCount" "I") (by decide +kernel)) x9 h9) rfl (by decide +kernel) rfl rfl (Nat.le_of_ble_eq_true rfl) dJx4a65c_clear_da8c8_7 (fun H locs hP hD hS => ?_)
  obtain ⟨w1, hw1⟩ : ∃ z, z = w.set p0 (o, .inr (0, [.int (mo + 1), .ref ea, .int (nI 0)])) := ⟨_, rfl⟩
  have hP : va_P K.1 kCl w1 H := by rw [hw1]; exact hP
  have hD : va_D A w1 := by rw [hw1]; exact hD
  have hp1 : w1[p0]? = some (o, .inr (0, [.int (mo + 1), .ref ea, .int (nI 0)])) := by rw [hw1]; exact ws_self hp
  refine lv_aload_n hx hb dJx4a65c_clear_da8c8_10 rfl (lv_at hl 0 rfl) ?_
  refine kget (ci := 0) (C := RJx4a65c) (T := TJx4a65c) (N := 3) hx hb hts hown hG hP p0 hp1 rfl hinJx4a65c 1 (by decide) (by decide +kernel) rfl dJx4a65c_clear_da8c8_11 ?_
  refine lv_astore_n (lv' := [(1, .ref ea), (0, .ref o)]) hx hb dJx4a65c_clear_da8c8_14 rfl hl (by decide) rfl (fun ls hl => ?_)
  refine lv_aload_n hx hb dJx4a65c_clear_da8c8_15 rfl (lv_at hl 1 rfl) ?_
  refine kget (ci := 0) (C := RJx4a65c) (T := TJx4a65c) (N := 3) hx hb hts hown hG hP p0 hp1 rfl hinJx4a65c 2 (by decide) (by decide +kernel) rfl dJx4a65c_clear_da8c8_16 ?_
  refine lv_istore_n (lv' := [(2, .int (nI 0)), (1, .ref ea), (0, .ref o)]) hx hb dJx4a65c_clear_da8c8_19 rfl hl (by decide) rfl (fun ls hl => ?_)
  refine lv_aload_n hx hb dJx4a65c_clear_da8c8_20 rfl (lv_at hl 2 rfl) ?_
  refine lv_iconst (v := 0) hx hb dJx4a65c_clear_da8c8_21 (by decide) ?_
  refine lv_dup_x1 hx hb dJx4a65c_clear_da8c8_22 rfl rfl ?_
  refine kput (ci := 0) (C := RJx4a65c) (T := TJx4a65c) (N := 3) hx hb hts hown hG hP hD hS p0 hp1 rfl hinJx4a65c tyJx4a65c tyJx4a65c_ok nmJx4a65c 2 (by decide) (by decide +kernel) rfl (by decide +kernel) (Nat.le_of_ble_eq_true rfl) dJx4a65c_clear_da8c8_23 (fun H locs hP hD hS => ?_)
  obtain ⟨w2, hw2⟩ : ∃ z, z = w1.set p0 (o, .inr (0, [.int (mo + 1), .ref ea, .int (nI 0)])) := ⟨_, rfl⟩
  have hP : va_P K.1 kCl w2 H := by rw [hw2]; exact hP
  have hD : va_D A w2 := by rw [hw2]; exact hD
  have hp2 : w2[p0]? = some (o, .inr (0, [.int (mo + 1), .ref ea, .int (nI 0)])) := by rw [hw2]; exact ws_self hp1
  refine lv_istore_n (lv' := [(3, .int 0), (2, .int (nI 0)), (1, .ref ea), (0, .ref o)]) hx hb dJx4a65c_clear_da8c8_26 rfl hl (by decide) rfl (fun ls hl => ?_)
  refine lv_iload_n hx hb dJx4a65c_clear_da8c8_27 rfl (lv_at hl 0 rfl) ?_
  refine lv_iload_n hx hb dJx4a65c_clear_da8c8_28 rfl (lv_at hl 1 rfl) ?_
  refine lv_icmp_ge (tgt := 42) hx hb dJx4a65c_clear_da8c8_29 (by decide) (fun h29 => ?_) (fun h29 => False.elim (absurd (Int32.le_refl _) h29))
  exact kr_v hx hb hr hlocks hP hD hS (Nat.zero_le _) (Nat.zero_le _) (by rw [hw2, hw1, List.set_set]; rfl) dJx4a65c_clear_da8c8_42
