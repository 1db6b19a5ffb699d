/-! The constructors -/
section KC
variable {p : Program} {l : Launch} {e : Env} {R : Room} {s : State} {m : MethodId} {args : Array Value} {below : List Frame} {meth : Method} {c : Code} {H : Heap} {locs : List Loc} {cells slots : Nat} {Q : State → Prop}
variable {cc : ByteArray} {pc : Nat} {ls : Array Slot} {rest : List Value} {K : Ks} {A : Nat → Prop} {w : va_W} {b : Nat}
/-- a new int array -/
theorem knewi (hexec : p.tables.exec = Jvm.exec) (hb : c.code = cc) (harr : (Cond.arrayClass .int).before args s = true) (hG : kGd K A s) (hP : va_P K.1 kCl w H) (hD : va_D A w) (hS : va_S A s.heap H locs) (N : Nat) {v : Int32} (hv : v = nI N) (hN : N ≤ 90) (hcells : cells + 1 ≤ R.cells) (hslots : slots + N ≤ R.slots) (hdg : decode cc pc = .ok (.newarray .int, 2))
    (kk : ∀ (q : Nat) (H1 : Heap), va_P K.1 kCl (w ++ [(q, .inl (kI K, N, .inl (fun _ => 0)))]) H1 → va_D A (w ++ [(q, .inl (kI K, N, .inl (fun _ => 0)))]) → va_S A s.heap H1 locs → W p l e R s m args below meth c H1 locs (cells + 1) (slots + N) Q (F0 m (pc + 2) ls (.ref q :: rest))) : W p l e R s m args below meth c H locs cells slots Q (F0 m pc ls (.int v :: rest)) := by
  subst hv
  refine va_newa (atype := .int) (a0 := (N, .inl (fun _ => 0))) (ty := .int) (N' := N) hexec hb harr rfl hG.1 hP hD hS hG.2.1 (fun _ => rfl) (nI_pos (by omega)) (nI_clamp (by omega)) (Nat.le_trans (Nat.mul_le_mul_right _ hN) (by decide)) hcells hslots hdg (fun q cA H1 hK1 hP1 hD1 hS1 => ?_)
  have f1 := (hK1.2 5 _ rfl).2
  have f2 := (hG.1.2 0 _ rfl).2
  have e3 : cA = kI K := Option.some.inj (f1.symm.trans f2)
  subst e3
  exact kk q H1 hP1 hD1 hS1
end KC
/-- the first k places filled with c -/
def flU (f : Nat → Int32) (c : Int32) : Nat → Nat → Int32
  | 0 => f
  | k + 1 => upd (flU f c k) k c
theorem flU_s (f : Nat → Int32) (c : Int32) (k : Nat) : upd (flU f c k) k c = flU f c (k + 1) := rfl
/-- the table of a desk that has just opened -/
def M0 : Nat → Nat → Int32 := fun f => if f = 12 then flU (fun _ => 0) 10000000 32 else fun _ => 0
set_option maxHeartbeats 4000000 in
set_option maxRecDepth 100000 in
theorem c_Jxa1e45_init {l : Launch} {K : Ks} {A : Nat → Prop} {w0 : va_W} {y : Nat} : Met l yJxa1e45_init_da8c8 wsJxa1e45_init_da8c8 (kR 0 0 0) (kPr K A [.ref y] (w0)) (kQv K A (fun w => w = w0)) 0 0 A := by
  refine kent (cc := cJxa1e45_init_da8c8) (maxL := 1) (ret := none) (by decide) rfl (Nat.le_of_ble_eq_true rfl) ?_
  intro p e s m args below meth c ls hx hb hr hts hown hlocks hml hini hG hP hD hS hl
  have hl : lv_has ls 1 [(0, .ref y)] := hl
  refine lv_aload_n hx hb dJxa1e45_init_da8c8_0 rfl (lv_at hl 0 rfl) ?_
  refine W.objInit hx hb hown (hts (.methodLink RJxa1e45 1 objectInit) (by decide +kernel)) (hts (.instanceMethod objectInit) (by decide +kernel)) (hts _ (List.mem_cons_of_mem _ (List.mem_of_getElem? (i := 2) rfl))) rfl (by rw [hml]; exact hl.1) rfl dJxa1e45_init_da8c8_1 (Nat.le_of_ble_eq_true rfl) (Nat.le_of_ble_eq_true rfl) ?_
  exact kr_v hx hb hr hlocks hP hD hS (Nat.zero_le _) (Nat.zero_le _) (rfl) dJxa1e45_init_da8c8_4
set_option maxHeartbeats 4000000 in
set_option maxRecDepth 100000 in
theorem c_Jxc12de_init {l : Launch} {K : Ks} {A : Nat → Prop} {w0 : va_W} {y q0 : Nat} (hq : w0[q0]? = some (y, .inr (0, [.int 0, .null, .int 0]))) : Met l yJxc12de_init_da8c8 wsJxc12de_init_da8c8 (kR 1 0 0) (kPr K A [.ref y] (w0)) (kQv K A (fun w => w = w0.set q0 (y, .inr (0, [.int 0, .null, .int 0])))) 0 0 A := by
  refine kent (cc := cJxc12de_init_da8c8) (maxL := 1) (ret := none) (by decide) rfl (Nat.le_of_ble_eq_true rfl) ?_
  intro p e s m args below meth c ls hx hb hr hts hown hlocks hml hini hG hP hD hS hl
  have hl : lv_has ls 1 [(0, .ref y)] := hl
  have hinJx4a65c : ∀ x ∈ wsJx4a65c0, x ∈ wsJxc12de_init_da8c8 := by decide +kernel
  have hlen := ws_lt hq
  have hP : va_P K.1 kCl (w0.set q0 (y, .inr (0, [.int 0, .null, .int 0]))) s.heap := by rw [ws_same hq]; exact hP
  have hD : va_D A (w0.set q0 (y, .inr (0, [.int 0, .null, .int 0]))) := by rw [ws_same hq]; exact hD
  refine lv_aload_n hx hb dJxc12de_init_da8c8_0 rfl (lv_at hl 0 rfl) ?_
  refine kc_v (va_runI (As := []) (rest := []) ⟨hx, hb, hml, hown, hts⟩ (c_Jxa1e45_init) (cwI 0 hts gJxc12de_init_da8c8_Jxa1e45_init_da8c8 rfl rfl rfl (hts (.initialized yJxa1e45_init_da8c8.cls) (by decide +kernel)) (hts (.methodLink RJxc12de 1 yJxa1e45_init_da8c8) (by decide +kernel)) (hts (.instanceMethod yJxa1e45_init_da8c8) (by decide +kernel)) rfl (by decide +kernel) ⟨Nat.le_of_ble_eq_true rfl, Nat.le_of_ble_eq_true rfl⟩) (kps hG hP hD hS) rfl rfl hl.1 rfl (lv_room (Nat.le_of_ble_eq_true rfl)) dJxc12de_init_da8c8_1 ⟨Nat.le_of_ble_eq_true rfl, Nat.le_of_ble_eq_true rfl⟩) hS (fun w H locs hp hP hD hS => ?_)
  rw [hp] at hP hD
  refine lv_aload_n hx hb dJxc12de_init_da8c8_4 rfl (lv_at hl 0 rfl) ?_
  refine lv_iconst (v := 0) hx hb dJxc12de_init_da8c8_5 (by decide) ?_
  refine va_put (D := K.1) (ci := 0) (v := .int 0) (ty := .int) (C := RJx4a65c) (T := TJx4a65c) (N := 3) hx hb hts hinJx4a65c tyJx4a65c tyJx4a65c_ok nmJx4a65c hown hG.1 hP hD hS q0 (List.getElem?_set_self hlen) rfl 0 (by decide) (hts (.fieldLink RJxc12de 7 (TJx4a65c 0).1 (TJx4a65c 0).2.1 (TJx4a65c 0).2.2.1) (by decide +kernel)) (fun _ h => h) rfl (by decide +kernel) rfl rfl (Nat.le_of_ble_eq_true rfl) dJxc12de_init_da8c8_6 (fun H locs hP hD hS => ?_)
  rw [List.set_set] at hP hD
  have hP : va_P K.1 kCl (w0.set q0 (y, .inr (0, [.int 0, .null, .int 0]))) H := hP
  have hD : va_D A (w0.set q0 (y, .inr (0, [.int 0, .null, .int 0]))) := hD
  exact kr_v hx hb hr hlocks hP hD hS (Nat.zero_le _) (Nat.zero_le _) (rfl) dJxc12de_init_da8c8_9
set_option maxHeartbeats 4000000 in
set_option maxRecDepth 100000 in
theorem c_Jx4a65c_init {l : Launch} {K : Ks} {A : Nat → Prop} {w0 : va_W} {y q0 : Nat} (hq : w0[q0]? = some (y, .inr (0, [.int 0, .null, .int 0]))) : Met l yJx4a65c_init_da8c8 wsJx4a65c_init_da8c8 (kR 2 0 0) (kPr K A [.ref y] (w0)) (kQv K A (fun w => w = w0.set q0 (y, .inr (0, [.int 0, .ref (kE K), .int 0])))) 0 0 A := by
  refine kent (cc := cJx4a65c_init_da8c8) (maxL := 1) (ret := none) (by decide) rfl (Nat.le_of_ble_eq_true rfl) ?_
  intro p e s m args below meth c ls hx hb hr hts hown hlocks hml hini hG hP hD hS hl
  have hl : lv_has ls 1 [(0, .ref y)] := hl
  have hinJx4a65c : ∀ x ∈ wsJx4a65c0, x ∈ wsJx4a65c_init_da8c8 := by decide +kernel
  have hlen := ws_lt hq
  have hP : va_P K.1 kCl (w0.set q0 (y, .inr (0, [.int 0, .null, .int 0]))) s.heap := by rw [ws_same hq]; exact hP
  have hD : va_D A (w0.set q0 (y, .inr (0, [.int 0, .null, .int 0]))) := by rw [ws_same hq]; exact hD
  refine lv_aload_n hx hb dJx4a65c_init_da8c8_0 rfl (lv_at hl 0 rfl) ?_
  refine kc_v (va_runI (As := []) (rest := []) ⟨hx, hb, hml, hown, hts⟩ (c_Jxc12de_init (q0 := q0) (List.getElem?_set_self hlen)) (cwI 0 hts gJx4a65c_init_da8c8_Jxc12de_init_da8c8 rfl rfl rfl (hts (.initialized yJxc12de_init_da8c8.cls) (by decide +kernel)) (hts (.methodLink RJx4a65c 1 yJxc12de_init_da8c8) (by decide +kernel)) (hts (.instanceMethod yJxc12de_init_da8c8) (by decide +kernel)) rfl (by decide +kernel) ⟨Nat.le_of_ble_eq_true rfl, Nat.le_of_ble_eq_true rfl⟩) (kps hG hP hD hS) rfl rfl hl.1 rfl (lv_room (Nat.le_of_ble_eq_true rfl)) dJx4a65c_init_da8c8_1 ⟨Nat.le_of_ble_eq_true rfl, Nat.le_of_ble_eq_true rfl⟩) hS (fun w H locs hp hP hD hS => ?_)
  rw [hp, List.set_set] at hP hD
  refine lv_aload_n hx hb dJx4a65c_init_da8c8_4 rfl (lv_at hl 0 rfl) ?_
  refine va_gets hx hb hG.2.2.1.2.2.1 hS hown (hts (.fieldLink RJx4a65c 39 "java/util/ArrayList" "DEFAULTCAPACITY_EMPTY_ELEMENTDATA" "[Ljava/lang/Object;") (by decide +kernel)) (fun _ h9 => h9) dJx4a65c_init_da8c8_5 ?_
  refine va_put (D := K.1) (ci := 0) (v := .ref (kE K)) (ty := .array (.object "java/lang/Object")) (C := RJx4a65c) (T := TJx4a65c) (N := 3) hx hb hts hinJx4a65c tyJx4a65c tyJx4a65c_ok nmJx4a65c hown hG.1 hP hD hS q0 (List.getElem?_set_self hlen) rfl 1 (by decide) (hts (.fieldLink RJx4a65c 9 (TJx4a65c 1).1 (TJx4a65c 1).2.1 (TJx4a65c 1).2.2.1) (by decide +kernel)) (fun _ h => h) rfl (by decide +kernel) rfl rfl (Nat.le_of_ble_eq_true rfl) dJx4a65c_init_da8c8_8 (fun H locs hP hD hS => ?_)
  rw [List.set_set] at hP hD
  have hP : va_P K.1 kCl (w0.set q0 (y, .inr (0, [.int 0, .ref (kE K), .int 0]))) H := hP
  have hD : va_D A (w0.set q0 (y, .inr (0, [.int 0, .ref (kE K), .int 0]))) := hD
  exact kr_v hx hb hr hlocks hP hD hS (Nat.zero_le _) (Nat.zero_le _) (rfl) dJx4a65c_init_da8c8_11
set_option maxHeartbeats 4000000 in
set_option maxRecDepth 100000 in
theorem c_fill {l : Launch} {K : Ks} {A : Nat → Prop} {w0 : va_W} {y q0 : Nat} {f : Nat → Int32} {c0 : Int32} (hq : w0[q0]? = some (y, .inl (kI K, 32, .inl f))) : Met l yJ7_fill_53178 wsJ7_fill_53178 (kR 0 0 0) (kPr K A [.ref y, .int c0] (w0)) (kQv K A (fun w => w = w0.set q0 (y, .inl (kI K, 32, .inl (flU f c0 32))))) 0 0 A := by
  refine kent (cc := cJ7_fill_53178) (maxL := 4) (ret := none) (by decide) rfl (Nat.le_of_ble_eq_true rfl) ?_
  intro p e s m args below meth c ls hx hb hr hts hown hlocks hml hini hG hP hD hS hl
  have hl : lv_has ls 4 [(0, .ref y), (1, .int c0)] := hl
  have hlen := ws_lt hq
  have hP : va_P K.1 kCl (w0.set q0 (y, .inl (kI K, 32, .inl (flU f c0 0)))) s.heap := by show va_P K.1 kCl (w0.set q0 (y, .inl (kI K, 32, .inl f))) s.heap; rw [ws_same hq]; exact hP
  have hD : va_D A (w0.set q0 (y, .inl (kI K, 32, .inl (flU f c0 0)))) := by show va_D A (w0.set q0 (y, .inl (kI K, 32, .inl f))); rw [ws_same hq]; exact hD
  refine lv_iconst (v := 0) hx hb dJ7_fill_53178_0 (by decide) ?_
  refine lv_istore_n (lv' := [(2, .int 0), (0, .ref y), (1, .int c0)]) hx hb dJ7_fill_53178_1 rfl hl (by decide) rfl (fun ls hl => ?_)
  refine lv_aload_n hx hb dJ7_fill_53178_2 rfl (lv_at hl 1 rfl) ?_
  refine va_alen hx hb hG.1 hP q0 0 (List.getElem?_set_self hlen) (ty := .int) rfl (v := nI 32) rfl dJ7_fill_53178_3 ?_
  refine lv_istore_n (lv' := [(3, .int (nI 32)), (2, .int 0), (0, .ref y), (1, .int c0)]) hx hb dJ7_fill_53178_4 rfl hl (by decide) rfl (fun ls hl => ?_)
  have LOOP : ∀ (Q' : State → Prop), (∀  (ls : Array Slot) (H : Heap) (locs : List Loc), va_P K.1 kCl (w0.set q0 (y, .inl (kI K, 32, .inl (flU f c0 32)))) H → va_D A (w0.set q0 (y, .inl (kI K, 32, .inl (flU f c0 32)))) → va_S A s.heap H locs → lv_has ls 4 [(0, .ref y), (1, .int c0), (2, .int (nI 32)), (3, .int (nI 32))] → W p l e ((kR 0 0 0)) s m args below meth c H locs 0 0 Q' (F0 m 20 ls [])) → ∀ (d j : Nat)  (ls : Array Slot) (H : Heap) (locs : List Loc), j + d = 32 → va_P K.1 kCl (w0.set q0 (y, .inl (kI K, 32, .inl (flU f c0 j)))) H → va_D A (w0.set q0 (y, .inl (kI K, 32, .inl (flU f c0 j)))) → va_S A s.heap H locs → lv_has ls 4 [(0, .ref y), (1, .int c0), (2, .int (nI j)), (3, .int (nI 32))] → W p l e ((kR 0 0 0)) s m args below meth c H locs 0 0 Q' (F0 m 5 ls []) := by
    intro Q' kx d
    induction d with
    | zero =>
      intro j  ls H locs hk hP hD hS hl
      have hk2 : j = 32 := by omega
      refine lv_iload_n hx hb dJ7_fill_53178_5 rfl (lv_at hl 2 rfl) ?_
      refine lv_iload_n hx hb dJ7_fill_53178_6 rfl (lv_at hl 3 rfl) ?_
      refine lv_icmp_ge (tgt := 20) hx hb dJ7_fill_53178_7 (by decide) (fun h7 => ?_) (fun h7 => False.elim (h7 (by rw [hk2]; exact Int32.le_refl _)))
      have hk3 : 32 = j := hk2.symm
      subst hk3
      exact kx  ls H locs hP hD hS (lv_sub hl [0, 1, 2, 3] rfl)
    | succ d ih =>
      intro j  ls H locs hk hP hD hS hl
      have hk2 : j < 32 := by omega
      refine lv_iload_n hx hb dJ7_fill_53178_5 rfl (lv_at hl 2 rfl) ?_
      refine lv_iload_n hx hb dJ7_fill_53178_6 rfl (lv_at hl 3 rfl) ?_
      refine lv_icmp_ge (tgt := 20) hx hb dJ7_fill_53178_7 (by decide) (fun h7 => False.elim ((by have h9 := i32_le.mp h7; have ej : (nI j).toInt = j := nI_toInt (by omega); have e32 : (nI 32).toInt = 32 := rfl; have e33 : (32 : Int32).toInt = 32 := rfl; omega))) (fun h7 => ?_)
      refine lv_aload_n hx hb dJ7_fill_53178_10 rfl (lv_at hl 0 rfl) ?_
      refine lv_iload_n hx hb dJ7_fill_53178_11 rfl (lv_at hl 2 rfl) ?_
      refine lv_iload_n hx hb dJ7_fill_53178_12 rfl (lv_at hl 1 rfl) ?_
      refine kiast (n := 32) (j := j) hx hb hG hP hD hS q0 (List.getElem?_set_self hlen) hk2 (by decide) dJ7_fill_53178_13 (fun H locs hP hD hS => ?_)
      rw [List.set_set] at hP hD
      have hP : va_P K.1 kCl (w0.set q0 (y, .inl (kI K, 32, .inl (flU f c0 (j + 1))))) H := hP
      have hD : va_D A (w0.set q0 (y, .inl (kI K, 32, .inl (flU f c0 (j + 1))))) := hD
      refine lv_iinc (v := nI (j + 1)) (lv' := [(2, .int (nI (j + 1))), (0, .ref y), (1, .int c0), (3, .int (nI 32))]) hx hb dJ7_fill_53178_14 hl (k := 2) rfl (kinc j) (by decide) rfl (fun ls hl => ?_)
      refine lv_goto (tgt := 5) hx hb dJ7_fill_53178_17 (by decide) ?_
      exact (ih (j + 1)  ls H locs (by omega) hP hD hS (lv_sub hl [1, 2, 0, 3] rfl))
  refine LOOP _ (fun  ls H locs hP hD hS hl => ?_) 32 0  ls _ _ (by omega) hP hD hS (lv_sub hl [2, 3, 1, 0] rfl)
  exact kr_v hx hb hr hlocks hP hD hS (Nat.zero_le _) (Nat.zero_le _) (rfl) dJ7_fill_53178_20
set_option maxHeartbeats 4000000 in
set_option maxRecDepth 100000 in
theorem c_X1_init {l : Launch} {K : Ks} {A : Nat → Prop} {x : Nat} : Met l yX1_init wsX1_init (kR 3 6 82) (kPr K A [.ref x] ([(x, .inr (2, [.null, .null, .null, .null, .int 0, .null, .null]))])) (kQv K A (fun w => ∃ ad bad : Nat → Nat, ad 0 = x ∧ Dk K ad bad 0 0 M0 (fun _ => 0) 0 (fun _ => 0) w)) 6 82 A := by
  refine kent (cc := cX1_init) (maxL := 1) (ret := none) (by decide) rfl (Nat.le_of_ble_eq_true rfl) ?_
  intro p e s m args below meth c ls hx hb hr hts hown hlocks hml hini hG hP hD hS hl
  have hinX1 : ∀ x ∈ wsX10, x ∈ wsX1_init := by decide +kernel
  have hl : lv_has ls 1 [(0, .ref x)] := hl
  have hinJx4a65c : ∀ x ∈ wsJx4a65c0, x ∈ wsX1_init := by decide +kernel
  refine lv_aload_n hx hb dX1_init_0 rfl (lv_at hl 0 rfl) ?_
  refine W.objInit hx hb hown (hts (.methodLink RX1 1 objectInit) (by decide +kernel)) (hts (.instanceMethod objectInit) (by decide +kernel)) (hts _ (List.mem_cons_of_mem _ (List.mem_append_left _ (List.mem_append_left _ (List.mem_append_left _ (List.mem_of_getElem? (i := 2) rfl)))))) rfl (by rw [hml]; exact hl.1) rfl dX1_init_1 (Nat.le_of_ble_eq_true rfl) (Nat.le_of_ble_eq_true rfl) ?_
  refine lv_aload_n hx hb dX1_init_4 rfl (lv_at hl 0 rfl) ?_
  refine lv_iconst (v := 4) hx hb dX1_init_5 (by decide) ?_
  refine knewi hx hb (hts (.arrayClass .int) (by decide +kernel)) hG hP hD hS 4 rfl (Nat.le_of_ble_eq_true rfl) (Nat.le_of_ble_eq_true rfl) (Nat.le_of_ble_eq_true rfl) dX1_init_6 (fun q1 H hP hD hS => ?_)
  have hP : va_P K.1 kCl ([(x, .inr (2, [.null, .null, .null, .null, .int 0, .null, .null])), (q1, .inl (kI K, 4, .inl (fun _ => 0)))]) H := hP
  have hD : va_D A ([(x, .inr (2, [.null, .null, .null, .null, .int 0, .null, .null])), (q1, .inl (kI K, 4, .inl (fun _ => 0)))]) := hD
  refine va_putF (D := K.1) (ci := 2) (v := .ref q1) (ty := .array .int) (C := RX1) (T := TX1) (N := 7) hx hb hts hinX1 tyX1 tyX1_ok nmX1 hown hG.1 hP hD hS 0 rfl rfl 0 (by decide) (hts (.fieldLink RX1 9 (TX1 0).1 (TX1 0).2.1 (TX1 0).2.2.1) (by decide +kernel)) (fun _ h => h) rfl (hini rfl) rfl (by decide +kernel) rfl rfl (Nat.le_of_ble_eq_true rfl) dX1_init_8 (fun H locs hP hD hS => ?_)
  have hP : va_P K.1 kCl ([(x, .inr (2, [.ref q1, .null, .null, .null, .int 0, .null, .null])), (q1, .inl (kI K, 4, .inl (fun _ => 0)))]) H := hP
  have hD : va_D A ([(x, .inr (2, [.ref q1, .null, .null, .null, .int 0, .null, .null])), (q1, .inl (kI K, 4, .inl (fun _ => 0)))]) := hD
  refine lv_aload_n hx hb dX1_init_11 rfl (lv_at hl 0 rfl) ?_
  refine lv_bipush (v := 32) hx hb dX1_init_12 (by decide) ?_
  refine knewi hx hb (hts (.arrayClass .int) (by decide +kernel)) hG hP hD hS 32 rfl (Nat.le_of_ble_eq_true rfl) (Nat.le_of_ble_eq_true rfl) (Nat.le_of_ble_eq_true rfl) dX1_init_14 (fun q2 H hP hD hS => ?_)
  have hP : va_P K.1 kCl ([(x, .inr (2, [.ref q1, .null, .null, .null, .int 0, .null, .null])), (q1, .inl (kI K, 4, .inl (fun _ => 0))), (q2, .inl (kI K, 32, .inl (fun _ => 0)))]) H := hP
  have hD : va_D A ([(x, .inr (2, [.ref q1, .null, .null, .null, .int 0, .null, .null])), (q1, .inl (kI K, 4, .inl (fun _ => 0))), (q2, .inl (kI K, 32, .inl (fun _ => 0)))]) := hD
  refine va_putF (D := K.1) (ci := 2) (v := .ref q2) (ty := .array .int) (C := RX1) (T := TX1) (N := 7) hx hb hts hinX1 tyX1 tyX1_ok nmX1 hown hG.1 hP hD hS 0 rfl rfl 1 (by decide) (hts (.fieldLink RX1 13 (TX1 1).1 (TX1 1).2.1 (TX1 1).2.2.1) (by decide +kernel)) (fun _ h => h) rfl (hini rfl) rfl (by decide +kernel) rfl rfl (Nat.le_of_ble_eq_true rfl) dX1_init_16 (fun H locs hP hD hS => ?_)
  have hP : va_P K.1 kCl ([(x, .inr (2, [.ref q1, .ref q2, .null, .null, .int 0, .null, .null])), (q1, .inl (kI K, 4, .inl (fun _ => 0))), (q2, .inl (kI K, 32, .inl (fun _ => 0)))]) H := hP
  have hD : va_D A ([(x, .inr (2, [.ref q1, .ref q2, .null, .null, .int 0, .null, .null])), (q1, .inl (kI K, 4, .inl (fun _ => 0))), (q2, .inl (kI K, 32, .inl (fun _ => 0)))]) := hD
  refine lv_aload_n hx hb dX1_init_19 rfl (lv_at hl 0 rfl) ?_
  refine lv_bipush (v := 32) hx hb dX1_init_20 (by decide) ?_
  refine knewi hx hb (hts (.arrayClass .int) (by decide +kernel)) hG hP hD hS 32 rfl (Nat.le_of_ble_eq_true rfl) (Nat.le_of_ble_eq_true rfl) (Nat.le_of_ble_eq_true rfl) dX1_init_22 (fun q3 H hP hD hS => ?_)
  have hP : va_P K.1 kCl ([(x, .inr (2, [.ref q1, .ref q2, .null, .null, .int 0, .null, .null])), (q1, .inl (kI K, 4, .inl (fun _ => 0))), (q2, .inl (kI K, 32, .inl (fun _ => 0))), (q3, .inl (kI K, 32, .inl (fun _ => 0)))]) H := hP
  have hD : va_D A ([(x, .inr (2, [.ref q1, .ref q2, .null, .null, .int 0, .null, .null])), (q1, .inl (kI K, 4, .inl (fun _ => 0))), (q2, .inl (kI K, 32, .inl (fun _ => 0))), (q3, .inl (kI K, 32, .inl (fun _ => 0)))]) := hD
  refine va_putF (D := K.1) (ci := 2) (v := .ref q3) (ty := .array .int) (C := RX1) (T := TX1) (N := 7) hx hb hts hinX1 tyX1 tyX1_ok nmX1 hown hG.1 hP hD hS 0 rfl rfl 2 (by decide) (hts (.fieldLink RX1 16 (TX1 2).1 (TX1 2).2.1 (TX1 2).2.2.1) (by decide +kernel)) (fun _ h => h) rfl (hini rfl) rfl (by decide +kernel) rfl rfl (Nat.le_of_ble_eq_true rfl) dX1_init_24 (fun H locs hP hD hS => ?_)
  have hP : va_P K.1 kCl ([(x, .inr (2, [.ref q1, .ref q2, .ref q3, .null, .int 0, .null, .null])), (q1, .inl (kI K, 4, .inl (fun _ => 0))), (q2, .inl (kI K, 32, .inl (fun _ => 0))), (q3, .inl (kI K, 32, .inl (fun _ => 0)))]) H := hP
  have hD : va_D A ([(x, .inr (2, [.ref q1, .ref q2, .ref q3, .null, .int 0, .null, .null])), (q1, .inl (kI K, 4, .inl (fun _ => 0))), (q2, .inl (kI K, 32, .inl (fun _ => 0))), (q3, .inl (kI K, 32, .inl (fun _ => 0)))]) := hD
  refine lv_aload_n hx hb dX1_init_27 rfl (lv_at hl 0 rfl) ?_
  refine va_new (ci := 0) (fs := [.int 0, .null, .int 0]) (C := RJx4a65c) (T := TJx4a65c) (N := 3) hx hb hts hinJx4a65c tyJx4a65c tyJx4a65c_ok hown (hts (.classLink RX1 19 RJx4a65c) (by decide +kernel)) (hts (.instantiable RJx4a65c 3) (by decide +kernel)) (hts (.initialized RJx4a65c) (by decide +kernel)) hG.1 hP hD hS hG.2.1 rfl (fun j hj => by rcases (show j = 0 ∨ j = 1 ∨ j = 2 by omega) with rfl | rfl | rfl <;> rfl) (Nat.le_of_ble_eq_true rfl) (Nat.le_of_ble_eq_true rfl) dX1_init_28 (fun q4 H hP hD hS => ?_)
  have hP : va_P K.1 kCl ([(x, .inr (2, [.ref q1, .ref q2, .ref q3, .null, .int 0, .null, .null])), (q1, .inl (kI K, 4, .inl (fun _ => 0))), (q2, .inl (kI K, 32, .inl (fun _ => 0))), (q3, .inl (kI K, 32, .inl (fun _ => 0))), (q4, .inr (0, [.int 0, .null, .int 0]))]) H := hP
  have hD : va_D A ([(x, .inr (2, [.ref q1, .ref q2, .ref q3, .null, .int 0, .null, .null])), (q1, .inl (kI K, 4, .inl (fun _ => 0))), (q2, .inl (kI K, 32, .inl (fun _ => 0))), (q3, .inl (kI K, 32, .inl (fun _ => 0))), (q4, .inr (0, [.int 0, .null, .int 0]))]) := hD
  refine lv_dup hx hb dX1_init_31 rfl ?_
  refine kc_v (va_runI (As := []) (rest := [.ref q4, .ref x]) ⟨hx, hb, hml, hown, hts⟩ (c_Jx4a65c_init (q0 := 4) rfl) (cwI 0 hts gX1_init_Jx4a65c_init_da8c8 rfl rfl rfl (hts (.initialized yJx4a65c_init_da8c8.cls) (by decide +kernel)) (hts (.methodLink RX1 21 yJx4a65c_init_da8c8) (by decide +kernel)) (hts (.instanceMethod yJx4a65c_init_da8c8) (by decide +kernel)) rfl (by decide +kernel) ⟨Nat.le_of_ble_eq_true rfl, Nat.le_of_ble_eq_true rfl⟩) (kps hG hP hD hS) rfl rfl hl.1 rfl (lv_room (Nat.le_of_ble_eq_true rfl)) dX1_init_32 ⟨Nat.le_of_ble_eq_true rfl, Nat.le_of_ble_eq_true rfl⟩) hS (fun w H locs hp hP hD hS => ?_)
  rw [hp] at hP hD
  have hP : va_P K.1 kCl ([(x, .inr (2, [.ref q1, .ref q2, .ref q3, .null, .int 0, .null, .null])), (q1, .inl (kI K, 4, .inl (fun _ => 0))), (q2, .inl (kI K, 32, .inl (fun _ => 0))), (q3, .inl (kI K, 32, .inl (fun _ => 0))), (q4, .inr (0, [.int 0, .ref (kE K), .int 0]))]) H := hP
  have hD : va_D A ([(x, .inr (2, [.ref q1, .ref q2, .ref q3, .null, .int 0, .null, .null])), (q1, .inl (kI K, 4, .inl (fun _ => 0))), (q2, .inl (kI K, 32, .inl (fun _ => 0))), (q3, .inl (kI K, 32, .inl (fun _ => 0))), (q4, .inr (0, [.int 0, .ref (kE K), .int 0]))]) := hD
  refine va_putF (D := K.1) (ci := 2) (v := .ref q4) (ty := .object "java/util/ArrayList") (C := RX1) (T := TX1) (N := 7) hx hb hts hinX1 tyX1 tyX1_ok nmX1 hown hG.1 hP hD hS 0 rfl rfl 3 (by decide) (hts (.fieldLink RX1 22 (TX1 3).1 (TX1 3).2.1 (TX1 3).2.2.1) (by decide +kernel)) (fun _ h => h) rfl (hini rfl) rfl (by decide +kernel) rfl rfl (Nat.le_of_ble_eq_true rfl) dX1_init_35 (fun H locs hP hD hS => ?_)
  have hP : va_P K.1 kCl ([(x, .inr (2, [.ref q1, .ref q2, .ref q3, .ref q4, .int 0, .null, .null])), (q1, .inl (kI K, 4, .inl (fun _ => 0))), (q2, .inl (kI K, 32, .inl (fun _ => 0))), (q3, .inl (kI K, 32, .inl (fun _ => 0))), (q4, .inr (0, [.int 0, .ref (kE K), .int 0]))]) H := hP
  have hD : va_D A ([(x, .inr (2, [.ref q1, .ref q2, .ref q3, .ref q4, .int 0, .null, .null])), (q1, .inl (kI K, 4, .inl (fun _ => 0))), (q2, .inl (kI K, 32, .inl (fun _ => 0))), (q3, .inl (kI K, 32, .inl (fun _ => 0))), (q4, .inr (0, [.int 0, .ref (kE K), .int 0]))]) := hD
  refine lv_aload_n hx hb dX1_init_38 rfl (lv_at hl 0 rfl) ?_
  refine lv_iconst (v := 0) hx hb dX1_init_39 (by decide) ?_
  refine va_put (D := K.1) (ci := 2) (v := .int 0) (ty := .int) (C := RX1) (T := TX1) (N := 7) hx hb hts hinX1 tyX1 tyX1_ok nmX1 hown hG.1 hP hD hS 0 rfl rfl 4 (by decide) (hts (.fieldLink RX1 26 (TX1 4).1 (TX1 4).2.1 (TX1 4).2.2.1) (by decide +kernel)) (fun _ h => h) rfl (by decide +kernel) rfl rfl (Nat.le_of_ble_eq_true rfl) dX1_init_40 (fun H locs hP hD hS => ?_)
  have hP : va_P K.1 kCl ([(x, .inr (2, [.ref q1, .ref q2, .ref q3, .ref q4, .int 0, .null, .null])), (q1, .inl (kI K, 4, .inl (fun _ => 0))), (q2, .inl (kI K, 32, .inl (fun _ => 0))), (q3, .inl (kI K, 32, .inl (fun _ => 0))), (q4, .inr (0, [.int 0, .ref (kE K), .int 0]))]) H := hP
  have hD : va_D A ([(x, .inr (2, [.ref q1, .ref q2, .ref q3, .ref q4, .int 0, .null, .null])), (q1, .inl (kI K, 4, .inl (fun _ => 0))), (q2, .inl (kI K, 32, .inl (fun _ => 0))), (q3, .inl (kI K, 32, .inl (fun _ => 0))), (q4, .inr (0, [.int 0, .ref (kE K), .int 0]))]) := hD
  refine lv_aload_n hx hb dX1_init_43 rfl (lv_at hl 0 rfl) ?_
  refine va_new (ci := 0) (fs := [.int 0, .null, .int 0]) (C := RJx4a65c) (T := TJx4a65c) (N := 3) hx hb hts hinJx4a65c tyJx4a65c tyJx4a65c_ok hown (hts (.classLink RX1 19 RJx4a65c) (by decide +kernel)) (hts (.instantiable RJx4a65c 3) (by decide +kernel)) (hts (.initialized RJx4a65c) (by decide +kernel)) hG.1 hP hD hS hG.2.1 rfl (fun j hj => by rcases (show j = 0 ∨ j = 1 ∨ j = 2 by omega) with rfl | rfl | rfl <;> rfl) (Nat.le_of_ble_eq_true rfl) (Nat.le_of_ble_eq_true rfl) dX1_init_44 (fun q5 H hP hD hS => ?_)
  have hP : va_P K.1 kCl ([(x, .inr (2, [.ref q1, .ref q2, .ref q3, .ref q4, .int 0, .null, .null])), (q1, .inl (kI K, 4, .inl (fun _ => 0))), (q2, .inl (kI K, 32, .inl (fun _ => 0))), (q3, .inl (kI K, 32, .inl (fun _ => 0))), (q4, .inr (0, [.int 0, .ref (kE K), .int 0])), (q5, .inr (0, [.int 0, .null, .int 0]))]) H := hP
  have hD : va_D A ([(x, .inr (2, [.ref q1, .ref q2, .ref q3, .ref q4, .int 0, .null, .null])), (q1, .inl (kI K, 4, .inl (fun _ => 0))), (q2, .inl (kI K, 32, .inl (fun _ => 0))), (q3, .inl (kI K, 32, .inl (fun _ => 0))), (q4, .inr (0, [.int 0, .ref (kE K), .int 0])), (q5, .inr (0, [.int 0, .null, .int 0]))]) := hD
  refine lv_dup hx hb dX1_init_47 rfl ?_
  refine kc_v (va_runI (As := []) (rest := [.ref q5, .ref x]) ⟨hx, hb, hml, hown, hts⟩ (c_Jx4a65c_init (q0 := 5) rfl) (cwI 0 hts gX1_init_Jx4a65c_init_da8c8 rfl rfl rfl (hts (.initialized yJx4a65c_init_da8c8.cls) (by decide +kernel)) (hts (.methodLink RX1 21 yJx4a65c_init_da8c8) (by decide +kernel)) (hts (.instanceMethod yJx4a65c_init_da8c8) (by decide +kernel)) rfl (by decide +kernel) ⟨Nat.le_of_ble_eq_true rfl, Nat.le_of_ble_eq_true rfl⟩) (kps hG hP hD hS) rfl rfl hl.1 rfl (lv_room (Nat.le_of_ble_eq_true rfl)) dX1_init_48 ⟨Nat.le_of_ble_eq_true rfl, Nat.le_of_ble_eq_true rfl⟩) hS (fun w H locs hp hP hD hS => ?_)
  rw [hp] at hP hD
  have hP : va_P K.1 kCl ([(x, .inr (2, [.ref q1, .ref q2, .ref q3, .ref q4, .int 0, .null, .null])), (q1, .inl (kI K, 4, .inl (fun _ => 0))), (q2, .inl (kI K, 32, .inl (fun _ => 0))), (q3, .inl (kI K, 32, .inl (fun _ => 0))), (q4, .inr (0, [.int 0, .ref (kE K), .int 0])), (q5, .inr (0, [.int 0, .ref (kE K), .int 0]))]) H := hP
  have hD : va_D A ([(x, .inr (2, [.ref q1, .ref q2, .ref q3, .ref q4, .int 0, .null, .null])), (q1, .inl (kI K, 4, .inl (fun _ => 0))), (q2, .inl (kI K, 32, .inl (fun _ => 0))), (q3, .inl (kI K, 32, .inl (fun _ => 0))), (q4, .inr (0, [.int 0, .ref (kE K), .int 0])), (q5, .inr (0, [.int 0, .ref (kE K), .int 0]))]) := hD
  refine va_putF (D := K.1) (ci := 2) (v := .ref q5) (ty := .object "java/util/ArrayList") (C := RX1) (T := TX1) (N := 7) hx hb hts hinX1 tyX1 tyX1_ok nmX1 hown hG.1 hP hD hS 0 rfl rfl 5 (by decide) (hts (.fieldLink RX1 30 (TX1 5).1 (TX1 5).2.1 (TX1 5).2.2.1) (by decide +kernel)) (fun _ h => h) rfl (hini rfl) rfl (by decide +kernel) rfl rfl (Nat.le_of_ble_eq_true rfl) dX1_init_51 (fun H locs hP hD hS => ?_)
  have hP : va_P K.1 kCl ([(x, .inr (2, [.ref q1, .ref q2, .ref q3, .ref q4, .int 0, .ref q5, .null])), (q1, .inl (kI K, 4, .inl (fun _ => 0))), (q2, .inl (kI K, 32, .inl (fun _ => 0))), (q3, .inl (kI K, 32, .inl (fun _ => 0))), (q4, .inr (0, [.int 0, .ref (kE K), .int 0])), (q5, .inr (0, [.int 0, .ref (kE K), .int 0]))]) H := hP
  have hD : va_D A ([(x, .inr (2, [.ref q1, .ref q2, .ref q3, .ref q4, .int 0, .ref q5, .null])), (q1, .inl (kI K, 4, .inl (fun _ => 0))), (q2, .inl (kI K, 32, .inl (fun _ => 0))), (q3, .inl (kI K, 32, .inl (fun _ => 0))), (q4, .inr (0, [.int 0, .ref (kE K), .int 0])), (q5, .inr (0, [.int 0, .ref (kE K), .int 0]))]) := hD
  refine lv_aload_n hx hb dX1_init_54 rfl (lv_at hl 0 rfl) ?_
  refine lv_bipush (v := 8) hx hb dX1_init_55 (by decide) ?_
  refine knewi hx hb (hts (.arrayClass .int) (by decide +kernel)) hG hP hD hS 8 rfl (Nat.le_of_ble_eq_true rfl) (Nat.le_of_ble_eq_true rfl) (Nat.le_of_ble_eq_true rfl) dX1_init_57 (fun q6 H hP hD hS => ?_)
  have hP : va_P K.1 kCl ([(x, .inr (2, [.ref q1, .ref q2, .ref q3, .ref q4, .int 0, .ref q5, .null])), (q1, .inl (kI K, 4, .inl (fun _ => 0))), (q2, .inl (kI K, 32, .inl (fun _ => 0))), (q3, .inl (kI K, 32, .inl (fun _ => 0))), (q4, .inr (0, [.int 0, .ref (kE K), .int 0])), (q5, .inr (0, [.int 0, .ref (kE K), .int 0])), (q6, .inl (kI K, 8, .inl (fun _ => 0)))]) H := hP
  have hD : va_D A ([(x, .inr (2, [.ref q1, .ref q2, .ref q3, .ref q4, .int 0, .ref q5, .null])), (q1, .inl (kI K, 4, .inl (fun _ => 0))), (q2, .inl (kI K, 32, .inl (fun _ => 0))), (q3, .inl (kI K, 32, .inl (fun _ => 0))), (q4, .inr (0, [.int 0, .ref (kE K), .int 0])), (q5, .inr (0, [.int 0, .ref (kE K), .int 0])), (q6, .inl (kI K, 8, .inl (fun _ => 0)))]) := hD
  refine va_putF (D := K.1) (ci := 2) (v := .ref q6) (ty := .array .int) (C := RX1) (T := TX1) (N := 7) hx hb hts hinX1 tyX1 tyX1_ok nmX1 hown hG.1 hP hD hS 0 rfl rfl 6 (by decide) (hts (.fieldLink RX1 33 (TX1 6).1 (TX1 6).2.1 (TX1 6).2.2.1) (by decide +kernel)) (fun _ h => h) rfl (hini rfl) rfl (by decide +kernel) rfl rfl (Nat.le_of_ble_eq_true rfl) dX1_init_59 (fun H locs hP hD hS => ?_)
  have hP : va_P K.1 kCl ([(x, .inr (2, [.ref q1, .ref q2, .ref q3, .ref q4, .int 0, .ref q5, .ref q6])), (q1, .inl (kI K, 4, .inl (fun _ => 0))), (q2, .inl (kI K, 32, .inl (fun _ => 0))), (q3, .inl (kI K, 32, .inl (fun _ => 0))), (q4, .inr (0, [.int 0, .ref (kE K), .int 0])), (q5, .inr (0, [.int 0, .ref (kE K), .int 0])), (q6, .inl (kI K, 8, .inl (fun _ => 0)))]) H := hP
  have hD : va_D A ([(x, .inr (2, [.ref q1, .ref q2, .ref q3, .ref q4, .int 0, .ref q5, .ref q6])), (q1, .inl (kI K, 4, .inl (fun _ => 0))), (q2, .inl (kI K, 32, .inl (fun _ => 0))), (q3, .inl (kI K, 32, .inl (fun _ => 0))), (q4, .inr (0, [.int 0, .ref (kE K), .int 0])), (q5, .inr (0, [.int 0, .ref (kE K), .int 0])), (q6, .inl (kI K, 8, .inl (fun _ => 0)))]) := hD
  refine lv_aload_n hx hb dX1_init_62 rfl (lv_at hl 0 rfl) ?_
  refine kget (ci := 2) (C := RX1) (T := TX1) (N := 7) hx hb hts hown hG hP 0 rfl rfl hinX1 1 (by decide) (by decide +kernel) rfl dX1_init_63 ?_
  refine lv_ldc (v := 10000000) hx hb hown (hts (.constant RX1 36 10000000) (by decide +kernel)) dX1_init_66 ?_
  refine kc_v (va_runS (As := [.ref q2, .int 10000000]) (rest := []) ⟨hx, hb, hml, hown, hts⟩ (c_fill (q0 := 2) (f := fun _ => 0) (c0 := 10000000) rfl) (va_cwS 2 hts gX1_init_J7_fill_53178 rfl rfl rfl (by decide +kernel) ⟨Nat.le_of_ble_eq_true rfl, Nat.le_of_ble_eq_true rfl⟩) (kps hG hP hD hS) rfl rfl hl.1 rfl (lv_room (Nat.le_of_ble_eq_true rfl)) dX1_init_68 ⟨Nat.le_of_ble_eq_true rfl, Nat.le_of_ble_eq_true rfl⟩) hS (fun w H locs hp hP hD hS => ?_)
  rw [hp] at hP hD
  have hP : va_P K.1 kCl ([(x, .inr (2, [.ref q1, .ref q2, .ref q3, .ref q4, .int 0, .ref q5, .ref q6])), (q1, .inl (kI K, 4, .inl (fun _ => 0))), (q2, .inl (kI K, 32, .inl (flU (fun _ => 0) 10000000 32))), (q3, .inl (kI K, 32, .inl (fun _ => 0))), (q4, .inr (0, [.int 0, .ref (kE K), .int 0])), (q5, .inr (0, [.int 0, .ref (kE K), .int 0])), (q6, .inl (kI K, 8, .inl (fun _ => 0)))]) H := hP
  have hD : va_D A ([(x, .inr (2, [.ref q1, .ref q2, .ref q3, .ref q4, .int 0, .ref q5, .ref q6])), (q1, .inl (kI K, 4, .inl (fun _ => 0))), (q2, .inl (kI K, 32, .inl (flU (fun _ => 0) 10000000 32))), (q3, .inl (kI K, 32, .inl (fun _ => 0))), (q4, .inr (0, [.int 0, .ref (kE K), .int 0])), (q5, .inr (0, [.int 0, .ref (kE K), .int 0])), (q6, .inl (kI K, 8, .inl (fun _ => 0)))]) := hD
  have hP := hP.sub (ws' := [(x, .inr (2, [.ref q1, .ref q2, .ref q3, .ref q4, .int 0, .ref q5, .ref q6])), (q1, .inl (kI K, 4, .inl (fun _ => 0))), (q2, .inl (kI K, 32, .inl (flU (fun _ => 0) 10000000 32))), (q3, .inl (kI K, 32, .inl (fun _ => 0))), (q6, .inl (kI K, 8, .inl (fun _ => 0))), (q4, .inr (0, [.int 0, .ref (kE K), .int 0])), (q5, .inr (0, [.int 0, .ref (kE K), .int 0]))]) [0, 1, 2, 3, 6, 4, 5] rfl
  have hD := hD.sub (ws' := [(x, .inr (2, [.ref q1, .ref q2, .ref q3, .ref q4, .int 0, .ref q5, .ref q6])), (q1, .inl (kI K, 4, .inl (fun _ => 0))), (q2, .inl (kI K, 32, .inl (flU (fun _ => 0) 10000000 32))), (q3, .inl (kI K, 32, .inl (fun _ => 0))), (q6, .inl (kI K, 8, .inl (fun _ => 0))), (q4, .inr (0, [.int 0, .ref (kE K), .int 0])), (q5, .inr (0, [.int 0, .ref (kE K), .int 0]))]) [0, 1, 2, 3, 6, 4, 5] (by decide) rfl
  refine kr_v hx hb hr hlocks hP hD hS (Nat.le_of_ble_eq_true rfl) (Nat.le_of_ble_eq_true rfl) ⟨fun i => [x, q1, q2, q3, q6, q4, q5].getD i 0, fun _ => 0, rfl, ?_⟩ dX1_init_71
  exact ⟨⟨by decide, by decide, fun j hj => absurd hj (Nat.not_lt_zero _)⟩, ⟨rfl, rfl, rfl, rfl, rfl⟩, ⟨0, kE K, 0, kE K, rfl, rfl, Or.inl ⟨rfl, rfl⟩, Or.inl ⟨rfl, rfl⟩, Or.inr rfl⟩, fun i hi => absurd hi (Nat.not_lt_zero _), fun i j hi => absurd hi (Nat.not_lt_zero _)⟩
