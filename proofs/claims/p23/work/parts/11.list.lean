/-! ArrayList: its methods, by what they do to a world that holds a list at the place p0 (o, its array ea, its size n) -/
theorem ws_self {w : va_W} {p : Nat} {x y : Nat × va_E} (h : w[p]? = some y) : (w.set p x)[p]? = some x := List.getElem?_set_self (List.getElem?_eq_some_iff.mp h).1
theorem ws_ne {w : va_W} {p q : Nat} {x z : Nat × va_E} (h : w[q]? = some z) (hne : q ≠ p) : (w.set p x)[q]? = some z := by rw [List.getElem?_set_ne (Ne.symm hne)]; exact h
theorem ws_app {w : va_W} {q : Nat} {x z : Nat × va_E} (h : w[q]? = some z) : (w ++ [x])[q]? = some z := by rw [List.getElem?_append_left (List.getElem?_eq_some_iff.mp h).1]; exact h
theorem ws_last (w : va_W) (x : Nat × va_E) : (w ++ [x])[w.length]? = some x := by rw [List.getElem?_append_right (Nat.le_refl _), Nat.sub_self]; rfl
theorem ws_lt {w : va_W} {q : Nat} {z : Nat × va_E} (h : w[q]? = some z) : q < w.length := (List.getElem?_eq_some_iff.mp h).1
abbrev oA (K : Ks) (cap : Nat) (f : Nat → Option Nat) : va_E := .inl (kO K, cap, .inr (.inr (.inr (.inr f))))
section KL
variable {p : Program} {l : Launch} {e : Env} {R : Room} {s : State} {m : MethodId} {args : Array Value} {below : List Frame} {meth : Method} {c : Code} {H : Heap} {locs : List Loc} {cells slots : Nat} {Q : State → Prop}
variable {cc : ByteArray} {pc : Nat} {ls : Array Slot} {rest : List Value} {K : Ks} {A : Nat → Prop} {w : va_W} {b : Nat}
theorem kaald (hexec : p.tables.exec = Jvm.exec) (hb : c.code = cc) (hG : kGd K A s) (hP : va_P K.1 kCl w H) (q0 : Nat) {cap j y : Nat} {f : Nat → Option Nat} (ha : w[q0]? = some (b, oA K cap f)) (hj : j < cap) (hn : cap < 2 ^ 31) (hy : f j = some y) (hdg : decode cc pc = .ok (.aaload, 1))
    (kk : W p l e R s m args below meth c H locs cells slots Q (F0 m (pc + 1) ls (.ref y :: rest))) : W p l e R s m args below meth c H locs cells slots Q (F0 m pc ls (.int (nI j) :: .ref b :: rest)) :=
  va_aldq hexec hb hG.1 hP q0 2 ha rfl (vp_in_nI hj hn) hdg (by rw [nI_clamp (Nat.lt_trans hj hn), hy]; exact kk)
theorem kaast (hexec : p.tables.exec = Jvm.exec) (hb : c.code = cc) (hG : kGd K A s) (hP : va_P K.1 kCl w H) (hD : va_D A w) (hS : va_S A s.heap H locs) (q0 qk : Nat) {cap j y : Nat} {vs : List Value} {f : Nat → Option Nat} (ha : w[q0]? = some (b, oA K cap f)) (hv : w[qk]? = some (y, .inr (1, vs))) (hj : j < cap) (hn : cap < 2 ^ 31) (hdg : decode cc pc = .ok (.aastore, 1))
    (kk : ∀ (H1 : Heap) (locs1 : List Loc), va_P K.1 kCl (w.set q0 (b, oA K cap (va_up f j (some y)))) H1 → va_D A (w.set q0 (b, oA K cap (va_up f j (some y)))) → va_S A s.heap H1 locs1 → W p l e R s m args below meth c H1 locs1 cells slots Q (F0 m (pc + 1) ls rest)) : W p l e R s m args below meth c H locs cells slots Q (F0 m pc ls (.ref y :: .int (nI j) :: .ref b :: rest)) :=
  va_astqO (E := "java/lang/Object") (r := (RX0, TX0, 10)) hexec hb hG.1 hP hD hS q0 2 qk 1 ha rfl hG.2.2.2.2.2.2.2.2 hv rfl (vp_in_nI hj hn) hdg (by rw [nI_clamp (Nat.lt_trans hj hn)]; exact kk)
theorem kaastN (hexec : p.tables.exec = Jvm.exec) (hb : c.code = cc) (hG : kGd K A s) (hP : va_P K.1 kCl w H) (hD : va_D A w) (hS : va_S A s.heap H locs) (q0 : Nat) {cap j : Nat} {f : Nat → Option Nat} (ha : w[q0]? = some (b, oA K cap f)) (hj : j < cap) (hn : cap < 2 ^ 31) (hdg : decode cc pc = .ok (.aastore, 1))
    (kk : ∀ (H1 : Heap) (locs1 : List Loc), va_P K.1 kCl (w.set q0 (b, oA K cap (va_up f j none))) H1 → va_D A (w.set q0 (b, oA K cap (va_up f j none))) → va_S A s.heap H1 locs1 → W p l e R s m args below meth c H1 locs1 cells slots Q (F0 m (pc + 1) ls rest)) : W p l e R s m args below meth c H locs cells slots Q (F0 m pc ls (.null :: .int (nI j) :: .ref b :: rest)) :=
  va_astqN (C := "java/lang/Object") hexec hb hG.1 hP hD hS q0 2 ha rfl (vp_in_nI hj hn) hdg (by rw [nI_clamp (Nat.lt_trans hj hn)]; exact kk)
theorem kalen (hexec : p.tables.exec = Jvm.exec) (hb : c.code = cc) (hG : kGd K A s) (hP : va_P K.1 kCl w H) (q0 : Nat) {cap : Nat} {f : Nat → Option Nat} (ha : w[q0]? = some (b, oA K cap f)) (hdg : decode cc pc = .ok (.arraylength, 1))
    (kk : W p l e R s m args below meth c H locs cells slots Q (F0 m (pc + 1) ls (.int (nI cap) :: rest))) : W p l e R s m args below meth c H locs cells slots Q (F0 m pc ls (.ref b :: rest)) :=
  va_alen hexec hb hG.1 hP q0 2 ha rfl rfl hdg kk
/-- a new Object[] -/
theorem kanew (hexec : p.tables.exec = Jvm.exec) (hb : c.code = cc) {own : String} {index : Nat} (hown : s.vm.findClass own = some m.cls) (hclink : (Cond.classLink own index "java/lang/Object").before args s = true) (hG : kGd K A s) (hP : va_P K.1 kCl w H) (hD : va_D A w) (hS : va_S A s.heap H locs) {N : Nat} (hN : N ≤ 90) (hcells : cells + 1 ≤ R.cells) (hslots : slots + N ≤ R.slots) (hdg : decode cc pc = .ok (.anewarray index, 3))
    (kk : ∀ (q : Nat) (H1 : Heap), va_P K.1 kCl (w ++ [(q, oA K N (fun _ => none))]) H1 → va_D A (w ++ [(q, oA K N (fun _ => none))]) → va_S A s.heap H1 locs → W p l e R s m args below meth c H1 locs (cells + 1) (slots + N) Q (F0 m (pc + 3) ls (.ref q :: rest))) : W p l e R s m args below meth c H locs cells slots Q (F0 m pc ls (.int (nI N) :: rest)) := by
  refine va_newq hexec hb hown hclink hG.2.2.2.1.1 hG.1 hP hD hS hG.2.1 (nI_pos (by omega)) (nI_clamp (by omega)) (by omega) hcells hslots hdg (fun q cA H1 hK1 hP1 hD1 hS1 => ?_)
  have e1 := (hK1.2 5 _ rfl).2
  have e2 := (hG.1.2 2 _ rfl).2
  obtain ⟨_, _, _, _, _, f1⟩ := e1
  obtain ⟨_, _, _, _, _, f2⟩ := e2
  have e3 : cA = kO K := Option.some.inj (f1.symm.trans f2)
  subst e3
  exact kk q H1 hP1 hD1 hS1
/-- arraycopy of bills' references -/
theorem kacpy (hexec : p.tables.exec = Jvm.exec) (hb : c.code = cc) (hml : c.maxLocals = ls.size) {own : String} {index : Nat} (hown : s.vm.findClass own = some m.cls) (hlink : (Cond.methodLink own index arraycopyName).before args s = true) (hnat : (Cond.native arraycopyName).before args s = true) (hstat : (Cond.static arraycopyName).before args s = true) (hini : (Cond.initialized "java/lang/System").before args s = true) (hG : kGd K A s) (hP : va_P K.1 kCl w H) (hD : va_D A w) (hS : va_S A s.heap H locs) (q0 q1 : Nat) {b0 cap0 cap1 sp dp n : Nat} {f g : Nat → Option Nat} (ha0 : w[q0]? = some (b0, oA K cap0 f)) (ha1 : w[q1]? = some (b, oA K cap1 g)) (hsp : sp < 2 ^ 30) (hdp : dp < 2 ^ 30) (hn : n < 2 ^ 30) (h4 : sp + n ≤ cap0) (h5 : dp + n ≤ cap1) (hel : ∀ i : Nat, i < n → ∀ y : Nat, f (sp + i) = some y → ∃ (q : Nat) (vs : List Value), w[q]? = some (y, .inr (1, vs)))
    (hframes : 1 ≤ R.frames) (hlocals : (rest.map fun v => v.category).sum + (nativeFrameWords "java/lang/System" "arraycopy" 5 + 11) ≤ R.locals) (hdg : decode cc pc = .ok (.invokestatic index, 3))
    (kk : ∀ (H1 : Heap) (locs1 : List Loc), va_P K.1 kCl (w.set q1 (b, oA K cap1 (va_cpy f g sp dp n))) H1 → va_D A (w.set q1 (b, oA K cap1 (va_cpy f g sp dp n))) → va_S A s.heap H1 locs1 → W p l e R s m args below meth c H1 locs1 cells slots Q (F0 m (pc + 3) ls rest)) : W p l e R s m args below meth c H locs cells slots Q (F0 m pc ls (.int (nI n) :: .int (nI dp) :: .ref b :: .int (nI sp) :: .ref b0 :: rest)) := by
  have e1 : (nI sp).toNatClampNeg = sp := nI_clamp (by omega)
  have e2 : (nI dp).toNatClampNeg = dp := nI_clamp (by omega)
  have e3 : (nI n).toNatClampNeg = n := nI_clamp (by omega)
  refine va_copyq (C := RX0) hexec hb hml hown hlink hnat hstat hini hG.1 hP hD hS q0 q1 2 2 ha0 ha1 rfl rfl (nI_pos (by omega)) (nI_pos (by omega)) (nI_pos (by omega)) (by rw [e1, e3]; exact h4) (by rw [e2, e3]; exact h5) (fun i hi y hy => ?_) (fun comp c0 h1 h2 => vb_asgC hG.2.2.2.2.2.2.2.2 comp c0 h1 h2) hframes hlocals hdg (by rw [e1, e2, e3]; exact kk)
  rw [e3] at hi
  rw [e1] at hy
  obtain ⟨q, vs, hq⟩ := hel i hi y hy
  exact va_recv (q := (RX0, TX0, 10)) hG.1 hP rfl hq
end KL
def lst (K : Ks) (w : va_W) (ea n : Nat) (g : Nat → Nat) : Prop := (ea = kE K ∧ n = 0) ∨ ∃ (r0 cap : Nat) (a : Nat → Option Nat), ea ≠ kE K ∧ w[r0]? = some (ea, oA K cap a) ∧ n ≤ cap ∧ 2 ≤ cap ∧ cap ≤ 60 ∧ ∀ j, j < n → a j = some (g j)
/-- all of these are bills of the world -/
def bls (w : va_W) (n : Nat) (g : Nat → Nat) : Prop := ∀ j, j < n → ∃ (q : Nat) (vs : List Value), w[q]? = some (g j, .inr (1, vs))
def insG (g : Nat → Nat) (pos y : Nat) : Nat → Nat := fun j => if j < pos then g j else if j = pos then y else g (j - 1)
/-- behind grow: a new array r with room -/
def lGr (K : Ks) (w : va_W) (p0 o : Nat) (mo : Int32) (n : Nat) (a : Nat → Option Nat) (r : Nat) (w1 : va_W) : Prop := ∃ (cap' : Nat) (a' : Nat → Option Nat) (r' : Nat), n + 1 ≤ cap' ∧ 2 ≤ cap' ∧ cap' ≤ 60 ∧ w1[p0]? = some (o, .inr (0, [.int mo, .ref r, .int (nI n)])) ∧ w1[r']? = some (r, oA K cap' a') ∧ (∀ (q : Nat) (z : Nat × va_E), w[q]? = some z → q ≠ p0 → w1[q]? = some z ∧ q ≠ r') ∧ ∀ j, j < n → a' j = a j
theorem ws_shape {w : va_W} {p q a b : Nat} {x : ClassId × vp_A} {y : Nat × List Value} (h1 : w[p]? = some (a, .inl x)) (h2 : w[q]? = some (b, .inr y)) : p ≠ q := fun e => by subst e; cases h1.symm.trans h2
theorem ws_cls {w : va_W} {p q a b i j : Nat} {x y : List Value} (h1 : w[p]? = some (a, .inr (i, x))) (h2 : w[q]? = some (b, .inr (j, y))) (hij : i ≠ j) : p ≠ q := fun e => by subst e; cases h1.symm.trans h2; exact hij rfl
theorem ws_same {w : va_W} {p : Nat} {x : Nat × va_E} (h : w[p]? = some x) : w.set p x = w := by
  apply List.ext_getElem?
  intro i
  by_cases hi : i = p
  · subst hi; rw [ws_self h, h]
  · rw [List.getElem?_set_ne (fun e => hi e.symm)]
/-- the first k places are emptied -/
def clf (a : Nat → Option Nat) (k : Nat) : Nat → Option Nat := fun j => if j < k then none else a j
theorem clf_0 (a : Nat → Option Nat) : clf a 0 = a := by funext j; simp [clf]
theorem clf_s (a : Nat → Option Nat) (k : Nat) : va_up (clf a k) k none = clf a (k + 1) := by
  funext j
  unfold va_up clf
  by_cases h : j = k
  · subst h; simp
  · by_cases h2 : j < k
    · rw [if_neg h, if_pos h2, if_pos (by omega)]
    · rw [if_neg h, if_neg h2, if_neg (by omega)]
theorem mx1 {h : Nat} (h1 : 1 ≤ h) (h2 : h < 2 ^ 30) : (if nI 1 < nI h then nI h else nI 1) = nI h := by
  by_cases c : 1 < h
  · exact if_pos (nI_lt c (by omega))
  · rw [if_neg (nI_nlt (by omega) (by decide)), show h = 1 by omega]
theorem shr1 {n : Nat} (h : n < 2 ^ 31) : nI n >>> ((1 : Int32) &&& 31) = nI (n / 2) := by
  have k := pk_shrN (n := n) h ((1 : Int32) &&& 31) 1 (by decide)
  rw [Nat.pow_one] at k
  exact k
theorem cpy0 {f g : Nat → Option Nat} {n j : Nat} (h : j < n) : va_cpy f g 0 0 n j = f j := by
  rw [pk_cpy_in (Nat.zero_le _) (by omega)]
  simp
set_option maxHeartbeats 4000000 in
set_option maxRecDepth 100000 in
theorem c_size {l : Launch} {K : Ks} {A : Nat → Prop} {w : va_W} {p0 o ea n : Nat} {mo : Int32} (hp : w[p0]? = some (o, .inr (0, [.int mo, .ref ea, .int (nI n)]))) : Met l yJx4a65c_size_8abf5 wsJx4a65c_size_8abf5 (kR 0 0 0) (kPr K A [.ref o] (w)) (kQi K A (fun r w1 => r = nI n ∧ w1 = w)) 0 0 A := by
  refine kent (cc := cJx4a65c_size_8abf5) (maxL := 1) (ret := (some .int)) (by decide) rfl (Nat.le_of_ble_eq_true rfl) ?_
  intro p e s m args below meth c ls hx hb hr hts hown hlocks hml hini hG hP hD hS hl
  have hinJx4a65c : ∀ x ∈ wsJx4a65c0, x ∈ wsJx4a65c_size_8abf5 := by decide +kernel
  have hl : lv_has ls 1 [(0, .ref o)] := hl
  refine lv_aload_n hx hb dJx4a65c_size_8abf5_0 rfl (lv_at hl 0 rfl) ?_
  refine kget (ci := 0) (C := RJx4a65c) (T := TJx4a65c) (N := 3) hx hb hts hown hG hP p0 hp rfl hinJx4a65c 2 (by decide) (by decide +kernel) rfl dJx4a65c_size_8abf5_1 ?_
  exact kr_i hx hb hr hlocks hP hD hS (Nat.zero_le _) (Nat.zero_le _) (⟨rfl, rfl⟩) dJx4a65c_size_8abf5_4
set_option maxHeartbeats 4000000 in
set_option maxRecDepth 100000 in
theorem c_checkIndex3 {l : Launch} {K : Ks} {A : Nat → Prop} {w : va_W} {i n : Nat} (hi : i < n) (hn : n < 2 ^ 31)  : Met l yJ3_checkIndex_8e157 wsJ3_checkIndex_8e157 (kR 0 0 0) (kPr K A [.int (nI i), .int (nI n), .null] (w)) (kQi K A (fun r w1 => r = nI i ∧ w1 = w)) 0 0 A := by
  refine kent (cc := cJ3_checkIndex_8e157) (maxL := 3) (ret := (some .int)) (by decide) rfl (Nat.le_of_ble_eq_true rfl) ?_
  intro p e s m args below meth c ls hx hb hr hts hown hlocks hml hini hG hP hD hS hl
  have hl : lv_has ls 3 [(0, .int (nI i)), (1, .int (nI n)), (2, .null)] := hl
  refine lv_iload_n hx hb dJ3_checkIndex_8e157_0 rfl (lv_at hl 0 rfl) ?_
  refine lv_if_lt (tgt := 9) hx hb dJ3_checkIndex_8e157_1 (by decide) (fun h1 => False.elim (absurd h1 (nI_pos (by omega)))) (fun h1 => ?_)
  refine lv_iload_n hx hb dJ3_checkIndex_8e157_4 rfl (lv_at hl 0 rfl) ?_
  refine lv_iload_n hx hb dJ3_checkIndex_8e157_5 rfl (lv_at hl 1 rfl) ?_
  refine lv_icmp_lt (tgt := 16) hx hb dJ3_checkIndex_8e157_6 (by decide) (fun h6 => ?_) (fun h6 => False.elim (absurd (nI_lt hi hn) h6))
  refine lv_iload_n hx hb dJ3_checkIndex_8e157_16 rfl (lv_at hl 0 rfl) ?_
  exact kr_i hx hb hr hlocks hP hD hS (Nat.zero_le _) (Nat.zero_le _) (⟨rfl, rfl⟩) dJ3_checkIndex_8e157_17
set_option maxHeartbeats 4000000 in
set_option maxRecDepth 100000 in
theorem c_checkIndex2 {l : Launch} {K : Ks} {A : Nat → Prop} {w : va_W} {i n : Nat} (hi : i < n) (hn : n < 2 ^ 31)  : Met l yJ15_checkIndex_7cf53 wsJ15_checkIndex_7cf53 (kR 1 0 0) (kPr K A [.int (nI i), .int (nI n)] (w)) (kQi K A (fun r w1 => r = nI i ∧ w1 = w)) 0 0 A := by
  refine kent (cc := cJ15_checkIndex_7cf53) (maxL := 2) (ret := (some .int)) (by decide) rfl (Nat.le_of_ble_eq_true rfl) ?_
  intro p e s m args below meth c ls hx hb hr hts hown hlocks hml hini hG hP hD hS hl
  have hl : lv_has ls 2 [(0, .int (nI i)), (1, .int (nI n))] := hl
  refine lv_iload_n hx hb dJ15_checkIndex_7cf53_0 rfl (lv_at hl 0 rfl) ?_
  refine lv_iload_n hx hb dJ15_checkIndex_7cf53_1 rfl (lv_at hl 1 rfl) ?_
  refine lv_null hx hb dJ15_checkIndex_7cf53_2 ?_
  refine kc_i (va_runS (As := [.int (nI i), .int (nI n), .null]) (rest := []) ⟨hx, hb, hml, hown, hts⟩ (c_checkIndex3 hi hn) (va_cwS 3 hts gJ15_checkIndex_7cf53_J3_checkIndex_8e157 rfl rfl rfl (by decide +kernel) ⟨Nat.le_of_ble_eq_true rfl, Nat.le_of_ble_eq_true rfl⟩) (kps hG hP hD hS) rfl rfl hl.1 rfl (lv_room (Nat.le_of_ble_eq_true rfl)) dJ15_checkIndex_7cf53_3 ⟨Nat.le_of_ble_eq_true rfl, Nat.le_of_ble_eq_true rfl⟩) hS (fun r3 w8 H locs hp hP hD hS => ?_)
  obtain ⟨e9, f9⟩ := hp
  rw [f9] at hP hD
  rw [e9]
  exact kr_i hx hb hr hlocks hP hD hS (Nat.zero_le _) (Nat.zero_le _) (⟨rfl, rfl⟩) dJ15_checkIndex_7cf53_6
set_option maxHeartbeats 4000000 in
set_option maxRecDepth 100000 in
theorem c_elementData {l : Launch} {K : Ks} {A : Nat → Prop} {w : va_W} {p0 o ea n : Nat} {mo : Int32} (hp : w[p0]? = some (o, .inr (0, [.int mo, .ref ea, .int (nI n)]))) {cap r0 : Nat} {a : Nat → Option Nat} (ha : w[r0]? = some (ea, oA K cap a)) (hrp : r0 ≠ p0) {i y : Nat} (hi : i < cap) (hcap : cap < 2 ^ 31) (hy : a i = some y) : Met l yJx4a65c_elementData_915e3 wsJx4a65c_elementData_915e3 (kR 0 0 0) (kPr K A [.ref o, .int (nI i)] (w)) (kQr K A (fun r w1 => r = y ∧ w1 = w)) 0 0 A := by
  refine kent (cc := cJx4a65c_elementData_915e3) (maxL := 2) (ret := (some (.object "java/lang/Object"))) (by decide) rfl (Nat.le_of_ble_eq_true rfl) ?_
  intro p e s m args below meth c ls hx hb hr hts hown hlocks hml hini hG hP hD hS hl
  have hinJx4a65c : ∀ x ∈ wsJx4a65c0, x ∈ wsJx4a65c_elementData_915e3 := by decide +kernel
  have hl : lv_has ls 2 [(0, .ref o), (1, .int (nI i))] := hl
  refine lv_aload_n hx hb dJx4a65c_elementData_915e3_0 rfl (lv_at hl 0 rfl) ?_
  refine kget (ci := 0) (C := RJx4a65c) (T := TJx4a65c) (N := 3) hx hb hts hown hG hP p0 hp rfl hinJx4a65c 1 (by decide) (by decide +kernel) rfl dJx4a65c_elementData_915e3_1 ?_
  refine lv_iload_n hx hb dJx4a65c_elementData_915e3_4 rfl (lv_at hl 1 rfl) ?_
  refine kaald hx hb hG hP r0 ha hi hcap hy dJx4a65c_elementData_915e3_5 ?_
  exact kr_r hx hb hr (Or.inl ⟨_, rfl⟩) hlocks hP hD hS (Nat.zero_le _) (Nat.zero_le _) (⟨rfl, rfl⟩) dJx4a65c_elementData_915e3_6
set_option maxHeartbeats 4000000 in
set_option maxRecDepth 100000 in
theorem c_get {l : Launch} {K : Ks} {A : Nat → Prop} {w : va_W} {p0 o ea n : Nat} {mo : Int32} (hp : w[p0]? = some (o, .inr (0, [.int mo, .ref ea, .int (nI n)]))) {cap r0 : Nat} {a : Nat → Option Nat} (ha : w[r0]? = some (ea, oA K cap a)) (hrp : r0 ≠ p0) {i y : Nat} (hi : i < cap) (hcap : cap < 2 ^ 31) (hy : a i = some y) (hin : i < n) (hn : n < 2 ^ 31) : Met l yJx4a65c_get_915e3 wsJx4a65c_get_915e3 (kR 2 0 0) (kPr K A [.ref o, .int (nI i)] (w)) (kQr K A (fun r w1 => r = y ∧ w1 = w)) 0 0 A := by
  refine kent (cc := cJx4a65c_get_915e3) (maxL := 2) (ret := (some (.object "java/lang/Object"))) (by decide) rfl (Nat.le_of_ble_eq_true rfl) ?_
  intro p e s m args below meth c ls hx hb hr hts hown hlocks hml hini hG hP hD hS hl
  have hinJx4a65c : ∀ x ∈ wsJx4a65c0, x ∈ wsJx4a65c_get_915e3 := by decide +kernel
  have hl : lv_has ls 2 [(0, .ref o), (1, .int (nI i))] := hl
  refine lv_iload_n hx hb dJx4a65c_get_915e3_0 rfl (lv_at hl 1 rfl) ?_
  refine lv_aload_n hx hb dJx4a65c_get_915e3_1 rfl (lv_at hl 0 rfl) ?_
  refine kget (ci := 0) (C := RJx4a65c) (T := TJx4a65c) (N := 3) hx hb hts hown hG hP p0 hp rfl hinJx4a65c 2 (by decide) (by decide +kernel) rfl dJx4a65c_get_915e3_2 ?_
  refine kc_i (va_runS (As := [.int (nI i), .int (nI n)]) (rest := []) ⟨hx, hb, hml, hown, hts⟩ (c_checkIndex2 hin hn) (va_cwS 2 hts gJx4a65c_get_915e3_J15_checkIndex_7cf53 rfl rfl rfl (by decide +kernel) ⟨Nat.le_of_ble_eq_true rfl, Nat.le_of_ble_eq_true rfl⟩) (kps hG hP hD hS) rfl rfl hl.1 rfl (lv_room (Nat.le_of_ble_eq_true rfl)) dJx4a65c_get_915e3_5 ⟨Nat.le_of_ble_eq_true rfl, Nat.le_of_ble_eq_true rfl⟩) hS (fun r5 w8 H locs hp hP hD hS => ?_)
  obtain ⟨e9, f9⟩ := hp
  rw [f9] at hP hD
  rw [e9]
  refine lv_pop hx hb dJx4a65c_get_915e3_8 rfl ?_
  refine lv_aload_n hx hb dJx4a65c_get_915e3_9 rfl (lv_at hl 0 rfl) ?_
  refine lv_iload_n hx hb dJx4a65c_get_915e3_10 rfl (lv_at hl 1 rfl) ?_
  refine kc_r (va_runV (As := [.int (nI i)]) (rest := []) ⟨hx, hb, hml, hown, hts⟩ (c_elementData hp ha hrp hi hcap hy) (cwV 1 hts gJx4a65c_get_915e3_Jx4a65c_elementData_915e3 rfl rfl rfl (by decide +kernel) ⟨Nat.le_of_ble_eq_true rfl, Nat.le_of_ble_eq_true rfl⟩) (kpv (q0 := p0) hG hP hD hS hp rfl) rfl rfl hl.1 rfl (lv_room (Nat.le_of_ble_eq_true rfl)) dJx4a65c_get_915e3_11 ⟨Nat.le_of_ble_eq_true rfl, Nat.le_of_ble_eq_true rfl⟩) hS (fun r11 w8 H locs hp hP hD hS => ?_)
  obtain ⟨e9, f9⟩ := hp
  rw [f9] at hP hD
  rw [e9]
  exact kr_r hx hb hr (Or.inl ⟨_, rfl⟩) hlocks hP hD hS (Nat.zero_le _) (Nat.zero_le _) (⟨rfl, rfl⟩) dJx4a65c_get_915e3_14
set_option maxHeartbeats 4000000 in
set_option maxRecDepth 100000 in
theorem c_rangeCheck {l : Launch} {K : Ks} {A : Nat → Prop} {w : va_W} {p0 o ea n : Nat} {mo : Int32} (hp : w[p0]? = some (o, .inr (0, [.int mo, .ref ea, .int (nI n)]))) {i : Nat} (hi : i ≤ n) (hn : n < 2 ^ 31) : Met l yJx4a65c_rangeCheckForAdd_d00df wsJx4a65c_rangeCheckForAdd_d00df (kR 0 0 0) (kPr K A [.ref o, .int (nI i)] (w)) (kQv K A (fun w1 => w1 = w)) 0 0 A := by
  refine kent (cc := cJx4a65c_rangeCheckForAdd_d00df) (maxL := 2) (ret := none) (by decide) rfl (Nat.le_of_ble_eq_true rfl) ?_
  intro p e s m args below meth c ls hx hb hr hts hown hlocks hml hini hG hP hD hS hl
  have hinJx4a65c : ∀ x ∈ wsJx4a65c0, x ∈ wsJx4a65c_rangeCheckForAdd_d00df := by decide +kernel
  have hl : lv_has ls 2 [(0, .ref o), (1, .int (nI i))] := hl
  refine lv_iload_n hx hb dJx4a65c_rangeCheckForAdd_d00df_0 rfl (lv_at hl 1 rfl) ?_
  refine lv_aload_n hx hb dJx4a65c_rangeCheckForAdd_d00df_1 rfl (lv_at hl 0 rfl) ?_
  refine kget (ci := 0) (C := RJx4a65c) (T := TJx4a65c) (N := 3) hx hb hts hown hG hP p0 hp rfl hinJx4a65c 2 (by decide) (by decide +kernel) rfl dJx4a65c_rangeCheckForAdd_d00df_2 ?_
  refine lv_icmp_gt (tgt := 12) hx hb dJx4a65c_rangeCheckForAdd_d00df_5 (by decide) (fun h5 => False.elim (absurd h5 (nI_nlt hi hn))) (fun h5 => ?_)
  refine lv_iload_n hx hb dJx4a65c_rangeCheckForAdd_d00df_8 rfl (lv_at hl 1 rfl) ?_
  refine lv_if_ge (tgt := 25) hx hb dJx4a65c_rangeCheckForAdd_d00df_9 (by decide) (fun h9 => ?_) (fun h9 => False.elim (absurd (nI_pos' (by omega)) h9))
  exact kr_v hx hb hr hlocks hP hD hS (Nat.zero_le _) (Nat.zero_le _) (rfl) dJx4a65c_rangeCheckForAdd_d00df_25
set_option maxHeartbeats 4000000 in
set_option maxRecDepth 100000 in
theorem c_newLength {l : Launch} {K : Ks} {A : Nat → Prop} {w : va_W} {cp h : Nat} (h1 : 1 ≤ h) (hc9 : cp + h < 2 ^ 30)  : Met l yJ8_newLength_cabcc wsJ8_newLength_cabcc (kR 0 0 0) (kPr K A [.int (nI cp), .int (nI 1), .int (nI h)] (w)) (kQi K A (fun r w1 => r = nI (cp + h) ∧ w1 = w)) 0 0 A := by
  refine kent (cc := cJ8_newLength_cabcc) (maxL := 4) (ret := (some .int)) (by decide) rfl (Nat.le_of_ble_eq_true rfl) ?_
  intro p e s m args below meth c ls hx hb hr hts hown hlocks hml hini hG hP hD hS hl
  have hl : lv_has ls 4 [(0, .int (nI cp)), (1, .int (nI 1)), (2, .int (nI h))] := hl
  refine lv_iload_n hx hb dJ8_newLength_cabcc_0 rfl (lv_at hl 0 rfl) ?_
  refine lv_iload_n hx hb dJ8_newLength_cabcc_1 rfl (lv_at hl 1 rfl) ?_
  refine lv_iload_n hx hb dJ8_newLength_cabcc_2 rfl (lv_at hl 2 rfl) ?_
  refine va_mmax hx hb (hml.trans hl.1.symm) hown (hts (.methodLink RJ8 194 Lib.Math.max.name) (by decide +kernel)) (hts (.static Lib.Math.max.name) (by decide +kernel)) (hts (.initialized "java/lang/Math") (by decide +kernel)) (hts (.code Lib.Math.max.name Lib.Math.max.code 2 (some .int)) (by decide +kernel)) (Nat.le_of_ble_eq_true rfl) (Nat.le_of_ble_eq_true rfl) (Nat.zero_le _) (Nat.zero_le _) dJ8_newLength_cabcc_3 ?_
  refine ktop (z := nI h) (mx1 h1 (by omega)) ?_
  refine lv_iadd hx hb dJ8_newLength_cabcc_6 ?_
  refine ktop (z := nI (cp + h)) (nI_add cp h) ?_
  refine lv_istore_n (lv' := [(3, .int (nI (cp + h))), (0, .int (nI cp)), (1, .int (nI 1)), (2, .int (nI h))]) hx hb dJ8_newLength_cabcc_7 rfl hl (by decide) rfl (fun ls hl => ?_)
  refine lv_iconst (v := 0) hx hb dJ8_newLength_cabcc_8 (by decide) ?_
  refine lv_iload_n hx hb dJ8_newLength_cabcc_9 rfl (lv_at hl 0 rfl) ?_
  refine lv_icmp_ge (tgt := 21) hx hb dJ8_newLength_cabcc_10 (by decide) (fun h10 => False.elim (absurd h10 (nI_nle (by omega) (by omega)))) (fun h10 => ?_)
  refine lv_iload_n hx hb dJ8_newLength_cabcc_13 rfl (lv_at hl 0 rfl) ?_
  refine lv_ldc (v := 2147483639) hx hb hown (hts (.constant RJ8 200 2147483639) (by decide +kernel)) dJ8_newLength_cabcc_14 ?_
  refine lv_icmp_gt (tgt := 21) hx hb dJ8_newLength_cabcc_16 (by decide) (fun h16 => False.elim (absurd h16 (nI_nlt (a := 2147483639) (b := cp + h) (by omega) (by decide)))) (fun h16 => ?_)
  refine lv_iload_n hx hb dJ8_newLength_cabcc_19 rfl (lv_at hl 0 rfl) ?_
  exact kr_i hx hb hr hlocks hP hD hS (Nat.zero_le _) (Nat.zero_le _) (⟨rfl, rfl⟩) dJ8_newLength_cabcc_20
set_option maxHeartbeats 4000000 in
set_option maxRecDepth 100000 in
theorem c_clear_0 {l : Launch} {K : Ks} {A : Nat → Prop} {w : va_W} {p0 o ea : Nat} {mo : Int32} (hp : w[p0]? = some (o, .inr (0, [.int mo, .ref ea, .int (nI 0)]))) : Met l yJx4a65c_clear_da8c8 wsJx4a65c_clear_da8c8 (kR 0 0 0) (kPr K A [.ref o] (w)) (kQv K A (fun w1 => w1 = w.set p0 (o, .inr (0, [.int (mo + 1), .ref ea, .int (nI 0)])))) 0 0 A := by
  refine kent (cc := cJx4a65c_clear_da8c8) (maxL := 4) (ret := none) (by decide) rfl (Nat.le_of_ble_eq_true rfl) ?_
  intro p e s m args below meth c ls hx hb hr hts hown hlocks hml hini hG hP hD hS hl
  have hinJx4a65c : ∀ x ∈ wsJx4a65c0, x ∈ wsJx4a65c_clear_da8c8 := by decide +kernel
  have hl : lv_has ls 4 [(0, .ref o)] := hl
  refine lv_aload_n hx hb dJx4a65c_clear_da8c8_0 rfl (lv_at hl 0 rfl) ?_
  refine lv_dup hx hb dJx4a65c_clear_da8c8_1 rfl ?_
  refine va_get (D := K.1) (ci := 0) (C := RJx4a65c) (T := TJx4a65c) (N := 3) hx hb hts hinJx4a65c hown hG.1 hP p0 hp rfl 0 (by decide) (hts (.fieldLink RJx4a65c 63 "java/util/ArrayList" "modCount" "I") (by decide +kernel)) (fun x9 h9 => u_same (hts (.sameField "java/util/ArrayList" "java/util/AbstractList" "modCount" "I") (by decide +kernel)) x9 h9) rfl dJx4a65c_clear_da8c8_2 ?_
  refine lv_iconst (v := 1) hx hb dJx4a65c_clear_da8c8_5 (by decide) ?_
  refine lv_iadd hx hb dJx4a65c_clear_da8c8_6 ?_
  refine va_put (D := K.1) (ci := 0) (v := .int (mo + 1)) (ty := .int) (C := RJx4a65c) (T := TJx4a65c) (N := 3) hx hb hts hinJx4a65c tyJx4a65c tyJx4a65c_ok nmJx4a65c hown hG.1 hP hD hS p0 hp rfl 0 (by decide) (hts (.fieldLink RJx4a65c 63 "java/util/ArrayList" "modCount" "I") (by decide +kernel)) (fun x9 h9 => u_same (hts (.sameField "java/util/ArrayList" "java/util/AbstractList" "modCount" "I") (by decide +kernel)) x9 h9) rfl (by decide +kernel) rfl rfl (Nat.le_of_ble_eq_true rfl) dJx4a65c_clear_da8c8_7 (fun H locs hP hD hS => ?_)
  obtain ⟨w1, hw1⟩ : ∃ z, z = w.set p0 (o, .inr (0, [.int (mo + 1), .ref ea, .int (nI 0)])) := ⟨_, rfl⟩
  have hP : va_P K.1 kCl w1 H := by rw [hw1]; exact hP
  have hD : va_D A w1 := by rw [hw1]; exact hD
  have hp1 : w1[p0]? = some (o, .inr (0, [.int (mo + 1), .ref ea, .int (nI 0)])) := by rw [hw1]; exact ws_self hp
  refine lv_aload_n hx hb dJx4a65c_clear_da8c8_10 rfl (lv_at hl 0 rfl) ?_
  refine kget (ci := 0) (C := RJx4a65c) (T := TJx4a65c) (N := 3) hx hb hts hown hG hP p0 hp1 rfl hinJx4a65c 1 (by decide) (by decide +kernel) rfl dJx4a65c_clear_da8c8_11 ?_
  refine lv_astore_n (lv' := [(1, .ref ea), (0, .ref o)]) hx hb dJx4a65c_clear_da8c8_14 rfl hl (by decide) rfl (fun ls hl => ?_)
  refine lv_aload_n hx hb dJx4a65c_clear_da8c8_15 rfl (lv_at hl 1 rfl) ?_
  refine kget (ci := 0) (C := RJx4a65c) (T := TJx4a65c) (N := 3) hx hb hts hown hG hP p0 hp1 rfl hinJx4a65c 2 (by decide) (by decide +kernel) rfl dJx4a65c_clear_da8c8_16 ?_
  refine lv_istore_n (lv' := [(2, .int (nI 0)), (1, .ref ea), (0, .ref o)]) hx hb dJx4a65c_clear_da8c8_19 rfl hl (by decide) rfl (fun ls hl => ?_)
  refine lv_aload_n hx hb dJx4a65c_clear_da8c8_20 rfl (lv_at hl 2 rfl) ?_
  refine lv_iconst (v := 0) hx hb dJx4a65c_clear_da8c8_21 (by decide) ?_
  refine lv_dup_x1 hx hb dJx4a65c_clear_da8c8_22 rfl rfl ?_
  refine kput (ci := 0) (C := RJx4a65c) (T := TJx4a65c) (N := 3) hx hb hts hown hG hP hD hS p0 hp1 rfl hinJx4a65c tyJx4a65c tyJx4a65c_ok nmJx4a65c 2 (by decide) (by decide +kernel) rfl (by decide +kernel) (Nat.le_of_ble_eq_true rfl) dJx4a65c_clear_da8c8_23 (fun H locs hP hD hS => ?_)
  obtain ⟨w2, hw2⟩ : ∃ z, z = w1.set p0 (o, .inr (0, [.int (mo + 1), .ref ea, .int (nI 0)])) := ⟨_, rfl⟩
  have hP : va_P K.1 kCl w2 H := by rw [hw2]; exact hP
  have hD : va_D A w2 := by rw [hw2]; exact hD
  have hp2 : w2[p0]? = some (o, .inr (0, [.int (mo + 1), .ref ea, .int (nI 0)])) := by rw [hw2]; exact ws_self hp1
  refine lv_istore_n (lv' := [(3, .int 0), (2, .int (nI 0)), (1, .ref ea), (0, .ref o)]) hx hb dJx4a65c_clear_da8c8_26 rfl hl (by decide) rfl (fun ls hl => ?_)
  refine lv_iload_n hx hb dJx4a65c_clear_da8c8_27 rfl (lv_at hl 0 rfl) ?_
  refine lv_iload_n hx hb dJx4a65c_clear_da8c8_28 rfl (lv_at hl 1 rfl) ?_
  refine lv_icmp_ge (tgt := 42) hx hb dJx4a65c_clear_da8c8_29 (by decide) (fun h29 => ?_) (fun h29 => False.elim (absurd (Int32.le_refl _) h29))
  exact kr_v hx hb hr hlocks hP hD hS (Nat.zero_le _) (Nat.zero_le _) (by rw [hw2, hw1, List.set_set]) dJx4a65c_clear_da8c8_42
set_option maxHeartbeats 4000000 in
set_option maxRecDepth 100000 in
theorem c_clear_n {l : Launch} {K : Ks} {A : Nat → Prop} {w : va_W} {p0 o ea n : Nat} {mo : Int32} (hp : w[p0]? = some (o, .inr (0, [.int mo, .ref ea, .int (nI n)]))) {cap r0 : Nat} {a : Nat → Option Nat} (ha : w[r0]? = some (ea, oA K cap a)) (hrp : r0 ≠ p0) (hnc : n ≤ cap) (hcap : cap ≤ 60) : Met l yJx4a65c_clear_da8c8 wsJx4a65c_clear_da8c8 (kR 0 0 0) (kPr K A [.ref o] (w)) (kQv K A (fun w1 => w1 = (w.set p0 (o, .inr (0, [.int (mo + 1), .ref ea, .int (nI 0)]))).set r0 (ea, oA K cap (clf a n)))) 0 0 A := by
  refine kent (cc := cJx4a65c_clear_da8c8) (maxL := 4) (ret := none) (by decide) rfl (Nat.le_of_ble_eq_true rfl) ?_
  intro p e s m args below meth c ls hx hb hr hts hown hlocks hml hini hG hP hD hS hl
  have hinJx4a65c : ∀ x ∈ wsJx4a65c0, x ∈ wsJx4a65c_clear_da8c8 := by decide +kernel
  have hl : lv_has ls 4 [(0, .ref o)] := hl
  refine lv_aload_n hx hb dJx4a65c_clear_da8c8_0 rfl (lv_at hl 0 rfl) ?_
  refine lv_dup hx hb dJx4a65c_clear_da8c8_1 rfl ?_
  refine va_get (D := K.1) (ci := 0) (C := RJx4a65c) (T := TJx4a65c) (N := 3) hx hb hts hinJx4a65c hown hG.1 hP p0 hp rfl 0 (by decide) (hts (.fieldLink RJx4a65c 63 "java/util/ArrayList" "modCount" "I") (by decide +kernel)) (fun x9 h9 => u_same (hts (.sameField "java/util/ArrayList" "java/util/AbstractList" "modCount" "I") (by decide +kernel)) x9 h9) rfl dJx4a65c_clear_da8c8_2 ?_
  refine lv_iconst (v := 1) hx hb dJx4a65c_clear_da8c8_5 (by decide) ?_
  refine lv_iadd hx hb dJx4a65c_clear_da8c8_6 ?_
  refine va_put (D := K.1) (ci := 0) (v := .int (mo + 1)) (ty := .int) (C := RJx4a65c) (T := TJx4a65c) (N := 3) hx hb hts hinJx4a65c tyJx4a65c tyJx4a65c_ok nmJx4a65c hown hG.1 hP hD hS p0 hp rfl 0 (by decide) (hts (.fieldLink RJx4a65c 63 "java/util/ArrayList" "modCount" "I") (by decide +kernel)) (fun x9 h9 => u_same (hts (.sameField "java/util/ArrayList" "java/util/AbstractList" "modCount" "I") (by decide +kernel)) x9 h9) rfl (by decide +kernel) rfl rfl (Nat.le_of_ble_eq_true rfl) dJx4a65c_clear_da8c8_7 (fun H locs hP hD hS => ?_)
  obtain ⟨w1, hw1⟩ : ∃ z, z = w.set p0 (o, .inr (0, [.int (mo + 1), .ref ea, .int (nI n)])) := ⟨_, rfl⟩
  have hP : va_P K.1 kCl w1 H := by rw [hw1]; exact hP
  have hD : va_D A w1 := by rw [hw1]; exact hD
  have hp1 : w1[p0]? = some (o, .inr (0, [.int (mo + 1), .ref ea, .int (nI n)])) := by rw [hw1]; exact ws_self hp
  have ha1 : w1[r0]? = some (ea, oA K cap a) := by rw [hw1]; exact ws_ne ha hrp
  refine lv_aload_n hx hb dJx4a65c_clear_da8c8_10 rfl (lv_at hl 0 rfl) ?_
  refine kget (ci := 0) (C := RJx4a65c) (T := TJx4a65c) (N := 3) hx hb hts hown hG hP p0 hp1 rfl hinJx4a65c 1 (by decide) (by decide +kernel) rfl dJx4a65c_clear_da8c8_11 ?_
  refine lv_astore_n (lv' := [(1, .ref ea), (0, .ref o)]) hx hb dJx4a65c_clear_da8c8_14 rfl hl (by decide) rfl (fun ls hl => ?_)
  refine lv_aload_n hx hb dJx4a65c_clear_da8c8_15 rfl (lv_at hl 1 rfl) ?_
  refine kget (ci := 0) (C := RJx4a65c) (T := TJx4a65c) (N := 3) hx hb hts hown hG hP p0 hp1 rfl hinJx4a65c 2 (by decide) (by decide +kernel) rfl dJx4a65c_clear_da8c8_16 ?_
  refine lv_istore_n (lv' := [(2, .int (nI n)), (1, .ref ea), (0, .ref o)]) hx hb dJx4a65c_clear_da8c8_19 rfl hl (by decide) rfl (fun ls hl => ?_)
  refine lv_aload_n hx hb dJx4a65c_clear_da8c8_20 rfl (lv_at hl 2 rfl) ?_
  refine lv_iconst (v := 0) hx hb dJx4a65c_clear_da8c8_21 (by decide) ?_
  refine lv_dup_x1 hx hb dJx4a65c_clear_da8c8_22 rfl rfl ?_
  refine kput (ci := 0) (C := RJx4a65c) (T := TJx4a65c) (N := 3) hx hb hts hown hG hP hD hS p0 hp1 rfl hinJx4a65c tyJx4a65c tyJx4a65c_ok nmJx4a65c 2 (by decide) (by decide +kernel) rfl (by decide +kernel) (Nat.le_of_ble_eq_true rfl) dJx4a65c_clear_da8c8_23 (fun H locs hP hD hS => ?_)
  obtain ⟨w2, hw2⟩ : ∃ z, z = w1.set p0 (o, .inr (0, [.int (mo + 1), .ref ea, .int (nI 0)])) := ⟨_, rfl⟩
  have hP : va_P K.1 kCl w2 H := by rw [hw2]; exact hP
  have hD : va_D A w2 := by rw [hw2]; exact hD
  have hp2 : w2[p0]? = some (o, .inr (0, [.int (mo + 1), .ref ea, .int (nI 0)])) := by rw [hw2]; exact ws_self hp1
  have ha2 : w2[r0]? = some (ea, oA K cap a) := by rw [hw2]; exact ws_ne ha1 hrp
  refine lv_istore_n (lv' := [(3, .int 0), (2, .int (nI n)), (1, .ref ea), (0, .ref o)]) hx hb dJx4a65c_clear_da8c8_26 rfl hl (by decide) rfl (fun ls hl => ?_)
  have hwz : w2 = (w.set p0 (o, .inr (0, [.int (mo + 1), .ref ea, .int (nI 0)]))) := by rw [hw2, hw1, List.set_set]
  have hP : va_P K.1 kCl ((w.set p0 (o, .inr (0, [.int (mo + 1), .ref ea, .int (nI 0)]))).set r0 (ea, oA K cap (clf a 0))) H := by rw [clf_0, ← hwz, ws_same ha2]; exact hP
  have hD : va_D A ((w.set p0 (o, .inr (0, [.int (mo + 1), .ref ea, .int (nI 0)]))).set r0 (ea, oA K cap (clf a 0))) := by rw [clf_0, ← hwz, ws_same ha2]; exact hD
  have LOOP : ∀ (Q' : State → Prop), (∀  (ls : Array Slot) (H : Heap) (locs : List Loc), va_P K.1 kCl ((w.set p0 (o, .inr (0, [.int (mo + 1), .ref ea, .int (nI 0)]))).set r0 (ea, oA K cap (clf a n))) H → va_D A ((w.set p0 (o, .inr (0, [.int (mo + 1), .ref ea, .int (nI 0)]))).set r0 (ea, oA K cap (clf a n))) → va_S A s.heap H locs → lv_has ls 4 [(0, .ref o), (1, .ref ea), (2, .int (nI n)), (3, .int (nI n))] → W p l e (kR 0 0 0) s m args below meth c H locs 0 0 Q' (F0 m 42 ls [])) → ∀ (d k : Nat)  (ls : Array Slot) (H : Heap) (locs : List Loc), k + d = n → va_P K.1 kCl ((w.set p0 (o, .inr (0, [.int (mo + 1), .ref ea, .int (nI 0)]))).set r0 (ea, oA K cap (clf a k))) H → va_D A ((w.set p0 (o, .inr (0, [.int (mo + 1), .ref ea, .int (nI 0)]))).set r0 (ea, oA K cap (clf a k))) → va_S A s.heap H locs → lv_has ls 4 [(0, .ref o), (1, .ref ea), (2, .int (nI n)), (3, .int (nI k))] → W p l e (kR 0 0 0) s m args below meth c H locs 0 0 Q' (F0 m 27 ls []) := by
    intro Q' kx d
    induction d with
    | zero =>
      intro k  ls H locs hk hP hD hS hl
      have hk2 : k = n := by omega
      refine lv_iload_n hx hb dJx4a65c_clear_da8c8_27 rfl (lv_at hl 3 rfl) ?_
      refine lv_iload_n hx hb dJx4a65c_clear_da8c8_28 rfl (lv_at hl 2 rfl) ?_
      refine lv_icmp_ge (tgt := 42) hx hb dJx4a65c_clear_da8c8_29 (by decide) (fun h29 => ?_) (fun h29 => False.elim (absurd (nI_le (Nat.le_of_eq hk2.symm) (by omega)) h29))
      have hk3 : n = k := hk2.symm
      subst hk3
      exact kx  ls H locs hP hD hS (lv_sub hl [0, 1, 2, 3] rfl)
    | succ d ih =>
      intro k  ls H locs hk hP hD hS hl
      have hk2 : k < n := by omega
      refine lv_iload_n hx hb dJx4a65c_clear_da8c8_27 rfl (lv_at hl 3 rfl) ?_
      refine lv_iload_n hx hb dJx4a65c_clear_da8c8_28 rfl (lv_at hl 2 rfl) ?_
      refine lv_icmp_ge (tgt := 42) hx hb dJx4a65c_clear_da8c8_29 (by decide) (fun h29 => False.elim (absurd h29 (nI_ge hk2 (by omega)))) (fun h29 => ?_)
      refine lv_aload_n hx hb dJx4a65c_clear_da8c8_32 rfl (lv_at hl 1 rfl) ?_
      refine lv_iload_n hx hb dJx4a65c_clear_da8c8_33 rfl (lv_at hl 3 rfl) ?_
      refine lv_null hx hb dJx4a65c_clear_da8c8_34 ?_
      refine kaastN (j := k) hx hb hG hP hD hS r0 (ws_self (ws_ne ha hrp)) (by omega) (by omega) dJx4a65c_clear_da8c8_35 (fun H locs hP hD hS => ?_)
      refine lv_iinc (v := nI (k + 1)) (lv' := [(3, .int (nI (k + 1))), (0, .ref o), (1, .ref ea), (2, .int (nI n))]) hx hb dJx4a65c_clear_da8c8_36 hl (k := 3) rfl (kinc k) (by decide) rfl (fun ls hl => ?_)
      refine lv_goto (tgt := 27) hx hb dJx4a65c_clear_da8c8_39 (by decide) ?_
      exact (ih (k + 1)  ls H locs (by omega) (by rw [List.set_set, clf_s] at hP; exact hP) (by rw [List.set_set, clf_s] at hD; exact hD) hS (lv_sub hl [1, 2, 3, 0] rfl))
  refine LOOP _ (fun  ls H locs hP hD hS hl => ?_) n 0  ls _ _ (by omega) hP hD hS (lv_sub hl [3, 2, 1, 0] rfl)
  exact kr_v hx hb hr hlocks hP hD hS (Nat.zero_le _) (Nat.zero_le _) (rfl) dJx4a65c_clear_da8c8_42
set_option maxHeartbeats 4000000 in
set_option maxRecDepth 100000 in
theorem c_copyOf3 {l : Launch} {K : Ks} {A : Nat → Prop} {w : va_W} {ea cap c2 r0 : Nat} {a : Nat → Option Nat} (ha : w[r0]? = some (ea, oA K cap a)) (hc2 : cap ≤ c2) (h60 : c2 ≤ 60) (hel : ∀ i : Nat, i < cap → ∀ y : Nat, a i = some y → ∃ (q : Nat) (vs : List Value), w[q]? = some (y, .inr (1, vs)))  : Met l yJ7_copyOf_6403c wsJ7_copyOf_6403c (kR 1 1 60) (kPr K A [.ref ea, .int (nI c2), .ref (kM K)] (w)) (kQr K A (fun r w1 => w1 = w ++ [(r, oA K c2 (va_cpy a (fun _ => none) 0 0 cap))])) 1 60 A := by
  refine kent (cc := cJ7_copyOf_6403c) (maxL := 4) (ret := (some (.array (.object "java/lang/Object")))) (by decide) rfl (Nat.le_of_ble_eq_true rfl) ?_
  intro p e s m args below meth c ls hx hb hr hts hown hlocks hml hini hG hP hD hS hl
  have hl : lv_has ls 4 [(0, .ref ea), (1, .int (nI c2)), (2, .ref (kM K))] := hl
  refine lv_aload_n hx hb dJ7_copyOf_6403c_0 rfl (lv_at hl 2 rfl) ?_
  refine va_ldcM hx hb hown (hts (.classLink RJ7 110 "[Ljava/lang/Object;") (by decide +kernel)) hG.2.2.2.1.2.1 dJ7_copyOf_6403c_1 ?_
  refine lv_acmp_ne (rx := some (kM K)) (ry := some (kM K)) (tgt := 13) hx hb dJ7_copyOf_6403c_3 (by decide) (fun h => absurd rfl h) (fun _ => ?_)
  refine lv_iload_n hx hb dJ7_copyOf_6403c_6 rfl (lv_at hl 1 rfl) ?_
  refine kanew hx hb hown (hts (.classLink RJ7 2 "java/lang/Object") (by decide +kernel)) hG hP hD hS (by omega) (Nat.le_of_ble_eq_true rfl) (by show 0 + c2 ≤ 60; omega) dJ7_copyOf_6403c_7 (fun r H hP hD hS => ?_)
  refine lv_goto (tgt := 24) hx hb dJ7_copyOf_6403c_10 (by decide) ?_
  refine lv_astore_n (lv' := [(3, .ref r), (0, .ref ea), (1, .int (nI c2)), (2, .ref (kM K))]) hx hb dJ7_copyOf_6403c_24 rfl hl (by decide) rfl (fun ls hl => ?_)
  refine lv_aload_n hx hb dJ7_copyOf_6403c_25 rfl (lv_at hl 1 rfl) ?_
  refine lv_iconst (v := 0) hx hb dJ7_copyOf_6403c_26 (by decide) ?_
  refine lv_aload_n hx hb dJ7_copyOf_6403c_27 rfl (lv_at hl 0 rfl) ?_
  refine lv_iconst (v := 0) hx hb dJ7_copyOf_6403c_28 (by decide) ?_
  refine lv_aload_n hx hb dJ7_copyOf_6403c_29 rfl (lv_at hl 1 rfl) ?_
  refine kalen hx hb hG hP r0 (ws_app ha) dJ7_copyOf_6403c_30 ?_
  refine lv_iload_n hx hb dJ7_copyOf_6403c_31 rfl (lv_at hl 2 rfl) ?_
  refine va_mmin hx hb (hml.trans hl.1.symm) hown (hts (.methodLink RJ7 304 Lib.Math.min.name) (by decide +kernel)) (hts (.static Lib.Math.min.name) (by decide +kernel)) (hts (.initialized "java/lang/Math") (by decide +kernel)) (hts (.code Lib.Math.min.name Lib.Math.min.code 2 (some .int)) (by decide +kernel)) (Nat.le_of_ble_eq_true rfl) (Nat.le_of_ble_eq_true rfl) (Nat.le_of_ble_eq_true rfl) (by show 0 + c2 ≤ 60; omega) dJ7_copyOf_6403c_32 ?_
  refine ktop (z := nI cap) (if_neg (nI_nlt hc2 (by omega))) ?_
  refine kacpy (sp := 0) (dp := 0) (n := cap) hx hb (hml.trans hl.1.symm) hown (hts (.methodLink RJ7 150 arraycopyName) (by decide +kernel)) (hts (.native arraycopyName) (by decide +kernel)) (hts (.static arraycopyName) (by decide +kernel)) (hts (.initialized "java/lang/System") (by decide +kernel)) hG hP hD hS r0 w.length (ws_app ha) (ws_last _ _) (by decide) (by decide) (by omega) (by omega) (by omega) (fun i hi y hy => ?_) (Nat.le_of_ble_eq_true rfl) (Nat.le_of_ble_eq_true rfl) dJ7_copyOf_6403c_35 (fun H locs hP hD hS => ?_)
  · obtain ⟨q9, vs9, h9⟩ := hel i hi y (by rw [Nat.zero_add] at hy; exact hy)
    exact ⟨q9, vs9, ws_app h9⟩
  have ew : (w ++ [(r, oA K c2 (fun _ => none))]).set w.length (r, oA K c2 (va_cpy a (fun _ => none) 0 0 cap)) = w ++ [(r, oA K c2 (va_cpy a (fun _ => none) 0 0 cap))] := by simp
  rw [ew] at hP hD
  refine lv_aload_n hx hb dJ7_copyOf_6403c_38 rfl (lv_at hl 0 rfl) ?_
  exact kr_r hx hb hr (Or.inr ⟨_, rfl⟩) hlocks hP hD hS (Nat.le_of_ble_eq_true rfl) (by show 0 + c2 ≤ 60; omega) (rfl) dJ7_copyOf_6403c_39
set_option maxHeartbeats 4000000 in
set_option maxRecDepth 100000 in
theorem c_copyOf2 {l : Launch} {K : Ks} {A : Nat → Prop} {w : va_W} {ea cap c2 r0 : Nat} {a : Nat → Option Nat} (ha : w[r0]? = some (ea, oA K cap a)) (hc2 : cap ≤ c2) (h60 : c2 ≤ 60) (hel : ∀ i : Nat, i < cap → ∀ y : Nat, a i = some y → ∃ (q : Nat) (vs : List Value), w[q]? = some (y, .inr (1, vs)))  : Met l yJ7_copyOf_1904c wsJ7_copyOf_1904c (kR 2 1 60) (kPr K A [.ref ea, .int (nI c2)] (w)) (kQr K A (fun r w1 => w1 = w ++ [(r, oA K c2 (va_cpy a (fun _ => none) 0 0 cap))])) 1 60 A := by
  refine kent (cc := cJ7_copyOf_1904c) (maxL := 2) (ret := (some (.array (.object "java/lang/Object")))) (by decide) rfl (Nat.le_of_ble_eq_true rfl) ?_
  intro p e s m args below meth c ls hx hb hr hts hown hlocks hml hini hG hP hD hS hl
  have hl : lv_has ls 2 [(0, .ref ea), (1, .int (nI c2))] := hl
  refine lv_aload_n hx hb dJ7_copyOf_1904c_0 rfl (lv_at hl 0 rfl) ?_
  refine lv_iload_n hx hb dJ7_copyOf_1904c_1 rfl (lv_at hl 1 rfl) ?_
  refine lv_aload_n hx hb dJ7_copyOf_1904c_2 rfl (lv_at hl 0 rfl) ?_
  refine va_getC hx hb (hml.trans hl.1.symm) hown (hts (.methodLink RJ7 86 ⟨"java/lang/Object", "getClass", "()Ljava/lang/Class;"⟩) (by decide +kernel)) (va_Dc.use hG.2.2.2.1.2.2) (hts (.selects "[Ljava/lang/Object;" ⟨"java/lang/Object", "getClass", "()Ljava/lang/Class;"⟩ ⟨"java/lang/Object", "getClass", "()Ljava/lang/Class;"⟩) (by decide +kernel)) (hts (.instanceMethod ⟨"java/lang/Object", "getClass", "()Ljava/lang/Class;"⟩) (by decide +kernel)) (hts (.native ⟨"java/lang/Object", "getClass", "()Ljava/lang/Class;"⟩) (by decide +kernel)) hG.2.2.2.1.2.1 ⟨_, hP r0 _ ha, rfl, va_nmO (hG.1.2 2 _ rfl).2 (by decide)⟩ (Nat.le_of_ble_eq_true rfl) (Nat.le_of_ble_eq_true rfl) dJ7_copyOf_1904c_3 ?_
  refine kc_r (va_runS (As := [.ref ea, .int (nI c2), .ref (kM K)]) (rest := []) ⟨hx, hb, hml, hown, hts⟩ (c_copyOf3 ha hc2 h60 hel) (va_cwS 3 hts gJ7_copyOf_1904c_J7_copyOf_6403c rfl rfl rfl (by decide +kernel) ⟨Nat.le_of_ble_eq_true rfl, Nat.le_of_ble_eq_true rfl⟩) (kps hG hP hD hS) rfl rfl hl.1 rfl (lv_room (Nat.le_of_ble_eq_true rfl)) dJ7_copyOf_1904c_6 ⟨Nat.le_of_ble_eq_true rfl, Nat.le_of_ble_eq_true rfl⟩) hS (fun r w1 H locs hp hP hD hS => ?_)
  exact kr_r hx hb hr (Or.inr ⟨_, rfl⟩) hlocks hP hD hS (Nat.le_of_ble_eq_true rfl) (Nat.le_of_ble_eq_true rfl) (hp) dJ7_copyOf_1904c_9
set_option maxHeartbeats 4000000 in
set_option maxRecDepth 100000 in
theorem c_growInt_s {l : Launch} {K : Ks} {A : Nat → Prop} {w : va_W} {p0 o : Nat} {mo : Int32} (a : Nat → Option Nat) (hp : w[p0]? = some (o, .inr (0, [.int mo, .ref (kE K), .int (nI 0)])))  : Met l yJx4a65c_grow_92f84 wsJx4a65c_grow_92f84 (kR 3 1 60) (kPr K A [.ref o, .int (nI 1)] (w)) (kQr K A (fun r w1 => lGr K w p0 o mo 0 a r w1)) 1 60 A := by
  refine kent (cc := cJx4a65c_grow_92f84) (maxL := 4) (ret := (some (.array (.object "java/lang/Object")))) (by decide) rfl (Nat.le_of_ble_eq_true rfl) ?_
  intro p e s m args below meth c ls hx hb hr hts hown hlocks hml hini hG hP hD hS hl
  have hinJx4a65c : ∀ x ∈ wsJx4a65c0, x ∈ wsJx4a65c_grow_92f84 := by decide +kernel
  have hl : lv_has ls 4 [(0, .ref o), (1, .int (nI 1))] := hl
  refine lv_aload_n hx hb dJx4a65c_grow_92f84_0 rfl (lv_at hl 0 rfl) ?_
  refine kget (ci := 0) (C := RJx4a65c) (T := TJx4a65c) (N := 3) hx hb hts hown hG hP p0 hp rfl hinJx4a65c 1 (by decide) (by decide +kernel) rfl dJx4a65c_grow_92f84_1 ?_
  refine va_tlen (v := 0) hx hb hG.2.2.1.2.2.2 hS rfl dJx4a65c_grow_92f84_4 ?_
  refine lv_istore_n (lv' := [(2, .int 0), (0, .ref o), (1, .int (nI 1))]) hx hb dJx4a65c_grow_92f84_5 rfl hl (by decide) rfl (fun ls hl => ?_)
  refine lv_iload_n hx hb dJx4a65c_grow_92f84_6 rfl (lv_at hl 0 rfl) ?_
  refine lv_if_gt (tgt := 20) hx hb dJx4a65c_grow_92f84_7 (by decide) (fun h7 => False.elim (absurd h7 (by decide))) (fun h7 => ?_)
  refine lv_aload_n hx hb dJx4a65c_grow_92f84_10 rfl (lv_at hl 1 rfl) ?_
  refine kget (ci := 0) (C := RJx4a65c) (T := TJx4a65c) (N := 3) hx hb hts hown hG hP p0 hp rfl hinJx4a65c 1 (by decide) (by decide +kernel) rfl dJx4a65c_grow_92f84_11 ?_
  refine va_gets hx hb hG.2.2.1.2.2.1 hS hown (hts (.fieldLink RJx4a65c 39 "java/util/ArrayList" "DEFAULTCAPACITY_EMPTY_ELEMENTDATA" "[Ljava/lang/Object;") (by decide +kernel)) (fun _ h9 => h9) dJx4a65c_grow_92f84_14 ?_
  refine lv_acmp_eq (rx := some (kE K)) (ry := some (kE K)) (tgt := 45) hx hb dJx4a65c_grow_92f84_17 (by decide) (fun _ => ?_) (fun h => absurd rfl h)
  refine lv_aload_n hx hb dJx4a65c_grow_92f84_45 rfl (lv_at hl 1 rfl) ?_
  refine lv_bipush (v := 10) hx hb dJx4a65c_grow_92f84_46 (by decide) ?_
  refine lv_iload_n hx hb dJx4a65c_grow_92f84_48 rfl (lv_at hl 2 rfl) ?_
  refine va_mmax hx hb (hml.trans hl.1.symm) hown (hts (.methodLink RJx4a65c 79 Lib.Math.max.name) (by decide +kernel)) (hts (.static Lib.Math.max.name) (by decide +kernel)) (hts (.initialized "java/lang/Math") (by decide +kernel)) (hts (.code Lib.Math.max.name Lib.Math.max.code 2 (some .int)) (by decide +kernel)) (Nat.le_of_ble_eq_true rfl) (Nat.le_of_ble_eq_true rfl) (Nat.zero_le _) (Nat.zero_le _) dJx4a65c_grow_92f84_49 ?_
  refine ktop (z := nI 10) (by decide) ?_
  refine kanew (N := 10) hx hb hown (hts (.classLink RJx4a65c 7 "java/lang/Object") (by decide +kernel)) hG hP hD hS (by decide) (Nat.le_of_ble_eq_true rfl) (Nat.le_of_ble_eq_true rfl) dJx4a65c_grow_92f84_52 (fun r H hP hD hS => ?_)
  obtain ⟨w1, hw1⟩ : ∃ z, z = w ++ [(r, oA K 10 (fun _ => none))] := ⟨_, rfl⟩
  have hP : va_P K.1 kCl w1 H := by rw [hw1]; exact hP
  have hD : va_D A w1 := by rw [hw1]; exact hD
  have hp1 : w1[p0]? = some (o, .inr (0, [.int mo, .ref (kE K), .int (nI 0)])) := by rw [hw1]; exact ws_app hp
  refine lv_dup_x1 hx hb dJx4a65c_grow_92f84_55 rfl rfl ?_
  refine va_put (D := K.1) (ci := 0) (v := .ref r) (ty := .array (.object "java/lang/Object")) (C := RJx4a65c) (T := TJx4a65c) (N := 3) hx hb hts hinJx4a65c tyJx4a65c tyJx4a65c_ok nmJx4a65c hown hG.1 hP hD hS p0 hp1 rfl 1 (by decide) (hts (.fieldLink RJx4a65c 9 "java/util/ArrayList" "elementData" "[Ljava/lang/Object;") (by decide +kernel)) (fun _ h9 => h9) rfl (by decide +kernel) rfl rfl (Nat.le_of_ble_eq_true rfl) dJx4a65c_grow_92f84_56 (fun H locs hP hD hS => ?_)
  obtain ⟨w2, hw2⟩ : ∃ z, z = w1.set p0 (o, .inr (0, [.int mo, .ref r, .int (nI 0)])) := ⟨_, rfl⟩
  have hP : va_P K.1 kCl w2 H := by rw [hw2]; exact hP
  have hD : va_D A w2 := by rw [hw2]; exact hD
  have hp2 : w2[p0]? = some (o, .inr (0, [.int mo, .ref r, .int (nI 0)])) := by rw [hw2]; exact ws_self hp1
  exact kr_r hx hb hr (Or.inr ⟨_, rfl⟩) hlocks hP hD hS (Nat.le_of_ble_eq_true rfl) (Nat.le_of_ble_eq_true rfl) (⟨10, fun _ => none, w.length, by decide, by decide, by decide, by rw [hw2]; exact ws_self hp1, by rw [hw2, hw1]; exact ws_ne (ws_last _ _) (Nat.ne_of_gt (ws_lt hp)), fun q z h h2 => ⟨by rw [hw2, hw1]; exact ws_ne (ws_app h) h2, Nat.ne_of_lt (ws_lt h)⟩, fun j hj => absurd hj (Nat.not_lt_zero _)⟩) dJx4a65c_grow_92f84_59
set_option maxHeartbeats 4000000 in
set_option maxRecDepth 100000 in
theorem c_growInt_f {l : Launch} {K : Ks} {A : Nat → Prop} {w : va_W} {p0 o ea n r0 : Nat} {mo : Int32} {a : Nat → Option Nat} (hp0 : w[p0]? = some (o, .inr (0, [.int mo, .ref ea, .int (nI n)]))) (ha : w[r0]? = some (ea, oA K n a)) (hrp : r0 ≠ p0) (h2 : 2 ≤ n) (h40 : n ≤ 29) (hel : ∀ i : Nat, i < n → ∀ y : Nat, a i = some y → ∃ (q : Nat) (vs : List Value), w[q]? = some (y, .inr (1, vs)))  : Met l yJx4a65c_grow_92f84 wsJx4a65c_grow_92f84 (kR 3 1 60) (kPr K A [.ref o, .int (nI (n + 1))] (w)) (kQr K A (fun r w1 => lGr K w p0 o mo n a r w1)) 1 60 A := by
  refine kent (cc := cJx4a65c_grow_92f84) (maxL := 4) (ret := (some (.array (.object "java/lang/Object")))) (by decide) rfl (Nat.le_of_ble_eq_true rfl) ?_
  intro p e s m args below meth c ls hx hb hr hts hown hlocks hml hini hG hP hD hS hl
  have hinJx4a65c : ∀ x ∈ wsJx4a65c0, x ∈ wsJx4a65c_grow_92f84 := by decide +kernel
  have hl : lv_has ls 4 [(0, .ref o), (1, .int (nI (n + 1)))] := hl
  refine lv_aload_n hx hb dJx4a65c_grow_92f84_0 rfl (lv_at hl 0 rfl) ?_
  refine kget (ci := 0) (C := RJx4a65c) (T := TJx4a65c) (N := 3) hx hb hts hown hG hP p0 hp0 rfl hinJx4a65c 1 (by decide) (by decide +kernel) rfl dJx4a65c_grow_92f84_1 ?_
  refine kalen hx hb hG hP r0 ha dJx4a65c_grow_92f84_4 ?_
  refine lv_istore_n (lv' := [(2, .int (nI n)), (0, .ref o), (1, .int (nI (n + 1)))]) hx hb dJx4a65c_grow_92f84_5 rfl hl (by decide) rfl (fun ls hl => ?_)
  refine lv_iload_n hx hb dJx4a65c_grow_92f84_6 rfl (lv_at hl 0 rfl) ?_
  refine lv_if_gt (tgt := 20) hx hb dJx4a65c_grow_92f84_7 (by decide) (fun h7 => ?_) (fun h7 => False.elim (h7 (nI_lt (a := 0) (by omega) (by omega))))
  refine lv_iload_n hx hb dJx4a65c_grow_92f84_20 rfl (lv_at hl 0 rfl) ?_
  refine lv_iload_n hx hb dJx4a65c_grow_92f84_21 rfl (lv_at hl 2 rfl) ?_
  refine lv_iload_n hx hb dJx4a65c_grow_92f84_22 rfl (lv_at hl 0 rfl) ?_
  refine lv_isub hx hb dJx4a65c_grow_92f84_23 ?_
  refine ktop (z := nI 1) (by rw [pk_sub (by omega), Nat.add_sub_cancel_left]) ?_
  refine lv_iload_n hx hb dJx4a65c_grow_92f84_24 rfl (lv_at hl 0 rfl) ?_
  refine lv_iconst (v := 1) hx hb dJx4a65c_grow_92f84_25 (by decide) ?_
  refine lv_ishr hx hb dJx4a65c_grow_92f84_26 ?_
  refine ktop (z := nI (n / 2)) (shr1 (by omega)) ?_
  refine kc_i (va_runS (As := [.int (nI n), .int (nI 1), .int (nI (n / 2))]) (rest := []) ⟨hx, hb, hml, hown, hts⟩ (c_newLength (by omega) (by omega)) (va_cwS 3 hts gJx4a65c_grow_92f84_J8_newLength_cabcc rfl rfl rfl (by decide +kernel) ⟨Nat.le_of_ble_eq_true rfl, Nat.le_of_ble_eq_true rfl⟩) (kps hG hP hD hS) rfl rfl hl.1 rfl (lv_room (Nat.le_of_ble_eq_true rfl)) dJx4a65c_grow_92f84_27 ⟨Nat.le_of_ble_eq_true rfl, Nat.le_of_ble_eq_true rfl⟩) hS (fun r27 w8 H locs hp hP hD hS => ?_)
  obtain ⟨e9, f9⟩ := hp
  rw [f9] at hP hD
  rw [e9]
  refine lv_istore_n (lv' := [(3, .int (nI (n + n / 2))), (2, .int (nI n)), (0, .ref o), (1, .int (nI (n + 1)))]) hx hb dJx4a65c_grow_92f84_30 rfl hl (by decide) rfl (fun ls hl => ?_)
  refine lv_aload_n hx hb dJx4a65c_grow_92f84_31 rfl (lv_at hl 2 rfl) ?_
  refine lv_aload_n hx hb dJx4a65c_grow_92f84_32 rfl (lv_at hl 2 rfl) ?_
  refine kget (ci := 0) (C := RJx4a65c) (T := TJx4a65c) (N := 3) hx hb hts hown hG hP p0 hp0 rfl hinJx4a65c 1 (by decide) (by decide +kernel) rfl dJx4a65c_grow_92f84_33 ?_
  refine lv_iload_n hx hb dJx4a65c_grow_92f84_36 rfl (lv_at hl 0 rfl) ?_
  refine kc_r (va_runS (As := [.ref ea, .int (nI (n + n / 2))]) (rest := [.ref o]) ⟨hx, hb, hml, hown, hts⟩ (c_copyOf2 (c2 := n + n / 2) ha (by omega) (by omega) hel) (va_cwS 2 hts gJx4a65c_grow_92f84_J7_copyOf_1904c rfl rfl rfl (by decide +kernel) ⟨Nat.le_of_ble_eq_true rfl, Nat.le_of_ble_eq_true rfl⟩) (kps hG hP hD hS) rfl rfl hl.1 rfl (lv_room (Nat.le_of_ble_eq_true rfl)) dJx4a65c_grow_92f84_37 ⟨Nat.le_of_ble_eq_true rfl, Nat.le_of_ble_eq_true rfl⟩) hS (fun r w9 H locs hp hP hD hS => ?_)
  obtain ⟨w1, hw1⟩ : ∃ z, z = w ++ [(r, oA K (n + n / 2) (va_cpy a (fun _ => none) 0 0 n))] := ⟨_, rfl⟩
  rw [← hw1] at hp
  rw [hp] at hP hD
  have hp1 : w1[p0]? = some (o, .inr (0, [.int mo, .ref ea, .int (nI n)])) := by rw [hw1]; exact ws_app hp0
  refine lv_dup_x1 hx hb dJx4a65c_grow_92f84_40 rfl rfl ?_
  refine va_put (D := K.1) (ci := 0) (v := .ref r) (ty := .array (.object "java/lang/Object")) (C := RJx4a65c) (T := TJx4a65c) (N := 3) hx hb hts hinJx4a65c tyJx4a65c tyJx4a65c_ok nmJx4a65c hown hG.1 hP hD hS p0 hp1 rfl 1 (by decide) (hts (.fieldLink RJx4a65c 9 "java/util/ArrayList" "elementData" "[Ljava/lang/Object;") (by decide +kernel)) (fun _ h9 => h9) rfl (by decide +kernel) rfl rfl (Nat.le_of_ble_eq_true rfl) dJx4a65c_grow_92f84_41 (fun H locs hP hD hS => ?_)
  obtain ⟨w2, hw2⟩ : ∃ z, z = w1.set p0 (o, .inr (0, [.int mo, .ref r, .int (nI n)])) := ⟨_, rfl⟩
  have hP : va_P K.1 kCl w2 H := by rw [hw2]; exact hP
  have hD : va_D A w2 := by rw [hw2]; exact hD
  have hp2 : w2[p0]? = some (o, .inr (0, [.int mo, .ref r, .int (nI n)])) := by rw [hw2]; exact ws_self hp1
  exact kr_r hx hb hr (Or.inr ⟨_, rfl⟩) hlocks hP hD hS (Nat.le_of_ble_eq_true rfl) (Nat.le_of_ble_eq_true rfl) (⟨n + n / 2, va_cpy a (fun _ => none) 0 0 n, w.length, by omega, by omega, by omega, by rw [hw2]; exact ws_self hp1, by rw [hw2, hw1]; exact ws_ne (ws_last _ _) (Nat.ne_of_gt (ws_lt hp0)), fun q z h h2 => ⟨by rw [hw2, hw1]; exact ws_ne (ws_app h) h2, Nat.ne_of_lt (ws_lt h)⟩, fun j hj => cpy0 hj⟩) dJx4a65c_grow_92f84_44
set_option maxHeartbeats 4000000 in
set_option maxRecDepth 100000 in
theorem c_grow_s {l : Launch} {K : Ks} {A : Nat → Prop} {w : va_W} {p0 o : Nat} {mo : Int32} (a : Nat → Option Nat) (hp : w[p0]? = some (o, .inr (0, [.int mo, .ref (kE K), .int (nI 0)])))  : Met l yJx4a65c_grow_d5877 wsJx4a65c_grow_d5877 (kR 4 1 60) (kPr K A [.ref o] (w)) (kQr K A (fun r w1 => lGr K w p0 o mo 0 a r w1)) 1 60 A := by
  refine kent (cc := cJx4a65c_grow_d5877) (maxL := 1) (ret := (some (.array (.object "java/lang/Object")))) (by decide) rfl (Nat.le_of_ble_eq_true rfl) ?_
  intro p e s m args below meth c ls hx hb hr hts hown hlocks hml hini hG hP hD hS hl
  have hinJx4a65c : ∀ x ∈ wsJx4a65c0, x ∈ wsJx4a65c_grow_d5877 := by decide +kernel
  have hl : lv_has ls 1 [(0, .ref o)] := hl
  refine lv_aload_n hx hb dJx4a65c_grow_d5877_0 rfl (lv_at hl 0 rfl) ?_
  refine lv_aload_n hx hb dJx4a65c_grow_d5877_1 rfl (lv_at hl 0 rfl) ?_
  refine kget (ci := 0) (C := RJx4a65c) (T := TJx4a65c) (N := 3) hx hb hts hown hG hP p0 hp rfl hinJx4a65c 2 (by decide) (by decide +kernel) rfl dJx4a65c_grow_d5877_2 ?_
  refine lv_iconst (v := 1) hx hb dJx4a65c_grow_d5877_5 (by decide) ?_
  refine lv_iadd hx hb dJx4a65c_grow_d5877_6 ?_
  refine ktop (z := nI (0 + 1)) (nI_1 0) ?_
  refine kc_r (va_runV (As := [.int (nI (0 + 1))]) (rest := []) ⟨hx, hb, hml, hown, hts⟩ (c_growInt_s a hp) (cwV 1 hts gJx4a65c_grow_d5877_Jx4a65c_grow_92f84 rfl rfl rfl (by decide +kernel) ⟨Nat.le_of_ble_eq_true rfl, Nat.le_of_ble_eq_true rfl⟩) (kpv (q0 := p0) hG hP hD hS hp rfl) rfl rfl hl.1 rfl (lv_room (Nat.le_of_ble_eq_true rfl)) dJx4a65c_grow_d5877_7 ⟨Nat.le_of_ble_eq_true rfl, Nat.le_of_ble_eq_true rfl⟩) hS (fun r w9 H locs hp hP hD hS => ?_)
  have hp7 := hp
  exact kr_r hx hb hr (Or.inr ⟨_, rfl⟩) hlocks hP hD hS (Nat.le_of_ble_eq_true rfl) (Nat.le_of_ble_eq_true rfl) (hp7) dJx4a65c_grow_d5877_10
set_option maxHeartbeats 4000000 in
set_option maxRecDepth 100000 in
theorem c_grow_f {l : Launch} {K : Ks} {A : Nat → Prop} {w : va_W} {p0 o ea n r0 : Nat} {mo : Int32} {a : Nat → Option Nat} (hp0 : w[p0]? = some (o, .inr (0, [.int mo, .ref ea, .int (nI n)]))) (ha : w[r0]? = some (ea, oA K n a)) (hrp : r0 ≠ p0) (h2 : 2 ≤ n) (h40 : n ≤ 29) (hel : ∀ i : Nat, i < n → ∀ y : Nat, a i = some y → ∃ (q : Nat) (vs : List Value), w[q]? = some (y, .inr (1, vs)))  : Met l yJx4a65c_grow_d5877 wsJx4a65c_grow_d5877 (kR 4 1 60) (kPr K A [.ref o] (w)) (kQr K A (fun r w1 => lGr K w p0 o mo n a r w1)) 1 60 A := by
  refine kent (cc := cJx4a65c_grow_d5877) (maxL := 1) (ret := (some (.array (.object "java/lang/Object")))) (by decide) rfl (Nat.le_of_ble_eq_true rfl) ?_
  intro p e s m args below meth c ls hx hb hr hts hown hlocks hml hini hG hP hD hS hl
  have hinJx4a65c : ∀ x ∈ wsJx4a65c0, x ∈ wsJx4a65c_grow_d5877 := by decide +kernel
  have hl : lv_has ls 1 [(0, .ref o)] := hl
  refine lv_aload_n hx hb dJx4a65c_grow_d5877_0 rfl (lv_at hl 0 rfl) ?_
  refine lv_aload_n hx hb dJx4a65c_grow_d5877_1 rfl (lv_at hl 0 rfl) ?_
  refine kget (ci := 0) (C := RJx4a65c) (T := TJx4a65c) (N := 3) hx hb hts hown hG hP p0 hp0 rfl hinJx4a65c 2 (by decide) (by decide +kernel) rfl dJx4a65c_grow_d5877_2 ?_
  refine lv_iconst (v := 1) hx hb dJx4a65c_grow_d5877_5 (by decide) ?_
  refine lv_iadd hx hb dJx4a65c_grow_d5877_6 ?_
  refine ktop (z := nI (n + 1)) (nI_1 n) ?_
  refine kc_r (va_runV (As := [.int (nI (n + 1))]) (rest := []) ⟨hx, hb, hml, hown, hts⟩ (c_growInt_f hp0 ha hrp h2 h40 hel) (cwV 1 hts gJx4a65c_grow_d5877_Jx4a65c_grow_92f84 rfl rfl rfl (by decide +kernel) ⟨Nat.le_of_ble_eq_true rfl, Nat.le_of_ble_eq_true rfl⟩) (kpv (q0 := p0) hG hP hD hS hp0 rfl) rfl rfl hl.1 rfl (lv_room (Nat.le_of_ble_eq_true rfl)) dJx4a65c_grow_d5877_7 ⟨Nat.le_of_ble_eq_true rfl, Nat.le_of_ble_eq_true rfl⟩) hS (fun r w9 H locs hp hP hD hS => ?_)
  have hp7 := hp
  exact kr_r hx hb hr (Or.inr ⟨_, rfl⟩) hlocks hP hD hS (Nat.le_of_ble_eq_true rfl) (Nat.le_of_ble_eq_true rfl) (hp7) dJx4a65c_grow_d5877_10
