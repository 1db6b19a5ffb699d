/-! The class, 7: new bills -/
theorem Dk.app {K : Ks} {ad bad : Nat → Nat} {td : Int32} {n : Nat} {M : Nat → Nat → Int32} {rm : Nat → Int32} {k : Nat} {idx : Nat → Nat} {w : va_W} (h : Dk K ad bad td n M rm k idx w) (x : Nat × va_E) : Dk K ad bad td n M rm k idx (w ++ [x]) := by
  obtain ⟨g1, ⟨x0, x1, x2, x3, x4⟩, ⟨m5, e5, m6, e6, k5, k6, k7, k8, k9⟩, g4, g5⟩ := h
  have hl : ∀ {e m : Nat} {g : Nat → Nat}, lst K w e m g → lst K (w ++ [x]) e m g := fun h => h.elim Or.inl (fun ⟨r0, cap, a, h0, h1, h2⟩ => Or.inr ⟨r0, cap, a, h0, ws_app h1, h2⟩)
  exact ⟨g1, ⟨ws_app x0, ws_app x1, ws_app x2, ws_app x3, ws_app x4⟩, ⟨m5, e5, m6, e6, ws_app k5, ws_app k6, hl k7, hl k8, k9⟩, fun i hi => (g4 i hi).elim (fun q hq => ⟨q, ws_app hq⟩), g5⟩
theorem ws_setlast (w : va_W) (x z : Nat × va_E) : (w ++ [x]).set w.length z = w ++ [z] := by
  rw [List.set_append_right _ _ (Nat.le_refl _), Nat.sub_self]
  rfl
theorem va_fresh {K : Ks} {A : Nat → Prop} {ad bad : Nat → Nat} {td : Int32} {n : Nat} {M : Nat → Nat → Int32} {rm : Nat → Int32} {k : Nat} {idx : Nat → Nat} {w : va_W} {y : Nat} {e : va_E} (hD : va_D A (w ++ [(y, e)])) (h : Dk K ad bad td n M rm k idx w) : ∀ i, i < n → bad i ≠ y := by
  intro i hi he
  obtain ⟨q, hq, -⟩ := h.bill hi
  have e9 := hD.1 q w.length _ _ (ws_app hq) (ws_last w _) he
  have := ws_lt hq
  omega
theorem bl_row {td : Int32} {n : Nat} {M : Nat → Nat → Int32} {b o : Nat} {ct dd : Int32} (h6 : M 6 n = 0) (h8 : M 8 n = 0) (h9 : M 9 n = 0) (h10 : M 10 n = 0) : ([.int (nI n), .int (nI b), .int (nI o), .int (td + dd), .int ct, .int 0, .int (-1), .int 0, .int 0, .int 0] : List Value) = brow (billM td n M b o ct dd) n := by
  simp [brow, billM, up2, va_up, upd, h6, h8, h9, h10]
theorem bl_old {td : Int32} {n : Nat} {M : Nat → Nat → Int32} {b o : Nat} {ct dd : Int32} {i : Nat} (hi : i ≠ n) : brow (billM td n M b o ct dd) i = brow M i := by
  simp [brow, billM, up2, va_up, upd, hi]
set_option maxHeartbeats 4000000 in
set_option maxRecDepth 100000 in
theorem c_X0_init {l : Launch} {K : Ks} {A : Nat → Prop} {w0 : va_W} {y q0 : Nat} {nn bb oo ct due : Int32} (hq : w0[q0]? = some (y, .inr (1, [.int 0, .int 0, .int 0, .int 0, .int 0, .int 0, .int 0, .int 0, .int 0, .int 0]))) : Met l yX0_init wsX0_init (kR 0 0 0) (kPr K A [.ref y, .int nn, .int bb, .int oo, .int ct, .int due] (w0)) (kQv K A (fun w => w = w0.set q0 (y, .inr (1, [.int nn, .int bb, .int oo, .int due, .int ct, .int 0, .int (-1), .int 0, .int 0, .int 0])))) 0 0 A := by
  refine kent (cc := cX0_init) (maxL := 6) (ret := none) (by decide) rfl (Nat.le_of_ble_eq_true rfl) ?_
  intro p e s m args below meth c ls hx hb hr hts hown hlocks hml hini hG hP hD hS hl
  have hinX0 : ∀ x ∈ wsX00, x ∈ wsX0_init := by decide +kernel
  have hl : lv_has ls 6 [(0, .ref y), (1, .int nn), (2, .int bb), (3, .int oo), (4, .int ct), (5, .int due)] := hl
  have hlen := ws_lt hq
  have hP : va_P K.1 kCl (w0.set q0 (y, .inr (1, [.int 0, .int 0, .int 0, .int 0, .int 0, .int 0, .int 0, .int 0, .int 0, .int 0]))) s.heap := by rw [ws_same hq]; exact hP
  have hD : va_D A (w0.set q0 (y, .inr (1, [.int 0, .int 0, .int 0, .int 0, .int 0, .int 0, .int 0, .int 0, .int 0, .int 0]))) := by rw [ws_same hq]; exact hD
  refine lv_aload_n hx hb dX0_init_0 rfl (lv_at hl 0 rfl) ?_
  refine W.objInit hx hb hown (hts (.methodLink RX0 3 objectInit) (by decide +kernel)) (hts (.instanceMethod objectInit) (by decide +kernel)) (hts _ (List.mem_cons_of_mem _ (List.mem_append_left _ (List.mem_of_getElem? (i := 2) rfl)))) rfl (by rw [hml]; exact hl.1) rfl dX0_init_1 (Nat.le_of_ble_eq_true rfl) (Nat.le_of_ble_eq_true rfl) ?_
  refine lv_aload_n hx hb dX0_init_4 rfl (lv_at hl 0 rfl) ?_
  refine lv_iconst (v := 0) hx hb dX0_init_5 (by decide) ?_
  refine va_put (D := K.1) (ci := 1) (v := .int 0) (ty := .int) (C := RX0) (T := TX0) (N := 10) hx hb hts hinX0 tyX0 tyX0_ok nmX0 hown hG.1 hP hD hS q0 (List.getElem?_set_self hlen) rfl 5 (by decide) (hts (.fieldLink RX0 9 (TX0 5).1 (TX0 5).2.1 (TX0 5).2.2.1) (by decide +kernel)) (fun _ h => h) rfl (by decide +kernel) rfl rfl (Nat.le_of_ble_eq_true rfl) dX0_init_6 (fun H locs hP hD hS => ?_)
  rw [List.set_set] at hP hD
  have hP : va_P K.1 kCl (w0.set q0 (y, .inr (1, [.int 0, .int 0, .int 0, .int 0, .int 0, .int 0, .int 0, .int 0, .int 0, .int 0]))) H := hP
  have hD : va_D A (w0.set q0 (y, .inr (1, [.int 0, .int 0, .int 0, .int 0, .int 0, .int 0, .int 0, .int 0, .int 0, .int 0]))) := hD
  refine lv_aload_n hx hb dX0_init_9 rfl (lv_at hl 0 rfl) ?_
  refine lv_iconst (v := (-1)) hx hb dX0_init_10 (by decide) ?_
  refine va_put (D := K.1) (ci := 1) (v := .int (-1)) (ty := .int) (C := RX0) (T := TX0) (N := 10) hx hb hts hinX0 tyX0 tyX0_ok nmX0 hown hG.1 hP hD hS q0 (List.getElem?_set_self hlen) rfl 6 (by decide) (hts (.fieldLink RX0 15 (TX0 6).1 (TX0 6).2.1 (TX0 6).2.2.1) (by decide +kernel)) (fun _ h => h) rfl (by decide +kernel) rfl rfl (Nat.le_of_ble_eq_true rfl) dX0_init_11 (fun H locs hP hD hS => ?_)
  rw [List.set_set] at hP hD
  have hP : va_P K.1 kCl (w0.set q0 (y, .inr (1, [.int 0, .int 0, .int 0, .int 0, .int 0, .int 0, .int (-1), .int 0, .int 0, .int 0]))) H := hP
  have hD : va_D A (w0.set q0 (y, .inr (1, [.int 0, .int 0, .int 0, .int 0, .int 0, .int 0, .int (-1), .int 0, .int 0, .int 0]))) := hD
  refine lv_aload_n hx hb dX0_init_14 rfl (lv_at hl 0 rfl) ?_
  refine lv_iconst (v := 0) hx hb dX0_init_15 (by decide) ?_
  refine va_put (D := K.1) (ci := 1) (v := .int 0) (ty := .int) (C := RX0) (T := TX0) (N := 10) hx hb hts hinX0 tyX0 tyX0_ok nmX0 hown hG.1 hP hD hS q0 (List.getElem?_set_self hlen) rfl 7 (by decide) (hts (.fieldLink RX0 18 (TX0 7).1 (TX0 7).2.1 (TX0 7).2.2.1) (by decide +kernel)) (fun _ h => h) rfl (by decide +kernel) rfl rfl (Nat.le_of_ble_eq_true rfl) dX0_init_16 (fun H locs hP hD hS => ?_)
  rw [List.set_set] at hP hD
  have hP : va_P K.1 kCl (w0.set q0 (y, .inr (1, [.int 0, .int 0, .int 0, .int 0, .int 0, .int 0, .int (-1), .int 0, .int 0, .int 0]))) H := hP
  have hD : va_D A (w0.set q0 (y, .inr (1, [.int 0, .int 0, .int 0, .int 0, .int 0, .int 0, .int (-1), .int 0, .int 0, .int 0]))) := hD
  refine lv_aload_n hx hb dX0_init_19 rfl (lv_at hl 0 rfl) ?_
  refine lv_iconst (v := 0) hx hb dX0_init_20 (by decide) ?_
  refine va_put (D := K.1) (ci := 1) (v := .int 0) (ty := .int) (C := RX0) (T := TX0) (N := 10) hx hb hts hinX0 tyX0 tyX0_ok nmX0 hown hG.1 hP hD hS q0 (List.getElem?_set_self hlen) rfl 8 (by decide) (hts (.fieldLink RX0 21 (TX0 8).1 (TX0 8).2.1 (TX0 8).2.2.1) (by decide +kernel)) (fun _ h => h) rfl (by decide +kernel) rfl rfl (Nat.le_of_ble_eq_true rfl) dX0_init_21 (fun H locs hP hD hS => ?_)
  rw [List.set_set] at hP hD
  have hP : va_P K.1 kCl (w0.set q0 (y, .inr (1, [.int 0, .int 0, .int 0, .int 0, .int 0, .int 0, .int (-1), .int 0, .int 0, .int 0]))) H := hP
  have hD : va_D A (w0.set q0 (y, .inr (1, [.int 0, .int 0, .int 0, .int 0, .int 0, .int 0, .int (-1), .int 0, .int 0, .int 0]))) := hD
  refine lv_aload_n hx hb dX0_init_24 rfl (lv_at hl 0 rfl) ?_
  refine lv_iconst (v := 0) hx hb dX0_init_25 (by decide) ?_
  refine va_put (D := K.1) (ci := 1) (v := .int 0) (ty := .int) (C := RX0) (T := TX0) (N := 10) hx hb hts hinX0 tyX0 tyX0_ok nmX0 hown hG.1 hP hD hS q0 (List.getElem?_set_self hlen) rfl 9 (by decide) (hts (.fieldLink RX0 24 (TX0 9).1 (TX0 9).2.1 (TX0 9).2.2.1) (by decide +kernel)) (fun _ h => h) rfl (by decide +kernel) rfl rfl (Nat.le_of_ble_eq_true rfl) dX0_init_26 (fun H locs hP hD hS => ?_)
  rw [List.set_set] at hP hD
  have hP : va_P K.1 kCl (w0.set q0 (y, .inr (1, [.int 0, .int 0, .int 0, .int 0, .int 0, .int 0, .int (-1), .int 0, .int 0, .int 0]))) H := hP
  have hD : va_D A (w0.set q0 (y, .inr (1, [.int 0, .int 0, .int 0, .int 0, .int 0, .int 0, .int (-1), .int 0, .int 0, .int 0]))) := hD
  refine lv_aload_n hx hb dX0_init_29 rfl (lv_at hl 0 rfl) ?_
  refine lv_iload_n hx hb dX0_init_30 rfl (lv_at hl 1 rfl) ?_
  refine va_putF (D := K.1) (ci := 1) (v := .int nn) (ty := .int) (C := RX0) (T := TX0) (N := 10) hx hb hts hinX0 tyX0 tyX0_ok nmX0 hown hG.1 hP hD hS q0 (List.getElem?_set_self hlen) rfl 0 (by decide) (hts (.fieldLink RX0 27 (TX0 0).1 (TX0 0).2.1 (TX0 0).2.2.1) (by decide +kernel)) (fun _ h => h) rfl (hini rfl) rfl (by decide +kernel) rfl rfl (Nat.le_of_ble_eq_true rfl) dX0_init_31 (fun H locs hP hD hS => ?_)
  rw [List.set_set] at hP hD
  have hP : va_P K.1 kCl (w0.set q0 (y, .inr (1, [.int nn, .int 0, .int 0, .int 0, .int 0, .int 0, .int (-1), .int 0, .int 0, .int 0]))) H := hP
  have hD : va_D A (w0.set q0 (y, .inr (1, [.int nn, .int 0, .int 0, .int 0, .int 0, .int 0, .int (-1), .int 0, .int 0, .int 0]))) := hD
  refine lv_aload_n hx hb dX0_init_34 rfl (lv_at hl 0 rfl) ?_
  refine lv_iload_n hx hb dX0_init_35 rfl (lv_at hl 2 rfl) ?_
  refine va_putF (D := K.1) (ci := 1) (v := .int bb) (ty := .int) (C := RX0) (T := TX0) (N := 10) hx hb hts hinX0 tyX0 tyX0_ok nmX0 hown hG.1 hP hD hS q0 (List.getElem?_set_self hlen) rfl 1 (by decide) (hts (.fieldLink RX0 30 (TX0 1).1 (TX0 1).2.1 (TX0 1).2.2.1) (by decide +kernel)) (fun _ h => h) rfl (hini rfl) rfl (by decide +kernel) rfl rfl (Nat.le_of_ble_eq_true rfl) dX0_init_36 (fun H locs hP hD hS => ?_)
  rw [List.set_set] at hP hD
  have hP : va_P K.1 kCl (w0.set q0 (y, .inr (1, [.int nn, .int bb, .int 0, .int 0, .int 0, .int 0, .int (-1), .int 0, .int 0, .int 0]))) H := hP
  have hD : va_D A (w0.set q0 (y, .inr (1, [.int nn, .int bb, .int 0, .int 0, .int 0, .int 0, .int (-1), .int 0, .int 0, .int 0]))) := hD
  refine lv_aload_n hx hb dX0_init_39 rfl (lv_at hl 0 rfl) ?_
  refine lv_iload_n hx hb dX0_init_40 rfl (lv_at hl 3 rfl) ?_
  refine va_putF (D := K.1) (ci := 1) (v := .int oo) (ty := .int) (C := RX0) (T := TX0) (N := 10) hx hb hts hinX0 tyX0 tyX0_ok nmX0 hown hG.1 hP hD hS q0 (List.getElem?_set_self hlen) rfl 2 (by decide) (hts (.fieldLink RX0 33 (TX0 2).1 (TX0 2).2.1 (TX0 2).2.2.1) (by decide +kernel)) (fun _ h => h) rfl (hini rfl) rfl (by decide +kernel) rfl rfl (Nat.le_of_ble_eq_true rfl) dX0_init_41 (fun H locs hP hD hS => ?_)
  rw [List.set_set] at hP hD
  have hP : va_P K.1 kCl (w0.set q0 (y, .inr (1, [.int nn, .int bb, .int oo, .int 0, .int 0, .int 0, .int (-1), .int 0, .int 0, .int 0]))) H := hP
  have hD : va_D A (w0.set q0 (y, .inr (1, [.int nn, .int bb, .int oo, .int 0, .int 0, .int 0, .int (-1), .int 0, .int 0, .int 0]))) := hD
  refine lv_aload_n hx hb dX0_init_44 rfl (lv_at hl 0 rfl) ?_
  refine lv_iload hx hb dX0_init_45 (lv_at hl 4 rfl) ?_
  refine va_put (D := K.1) (ci := 1) (v := .int ct) (ty := .int) (C := RX0) (T := TX0) (N := 10) hx hb hts hinX0 tyX0 tyX0_ok nmX0 hown hG.1 hP hD hS q0 (List.getElem?_set_self hlen) rfl 4 (by decide) (hts (.fieldLink RX0 36 (TX0 4).1 (TX0 4).2.1 (TX0 4).2.2.1) (by decide +kernel)) (fun _ h => h) rfl (by decide +kernel) rfl rfl (Nat.le_of_ble_eq_true rfl) dX0_init_47 (fun H locs hP hD hS => ?_)
  rw [List.set_set] at hP hD
  have hP : va_P K.1 kCl (w0.set q0 (y, .inr (1, [.int nn, .int bb, .int oo, .int 0, .int ct, .int 0, .int (-1), .int 0, .int 0, .int 0]))) H := hP
  have hD : va_D A (w0.set q0 (y, .inr (1, [.int nn, .int bb, .int oo, .int 0, .int ct, .int 0, .int (-1), .int 0, .int 0, .int 0]))) := hD
  refine lv_aload_n hx hb dX0_init_50 rfl (lv_at hl 0 rfl) ?_
  refine lv_iload hx hb dX0_init_51 (lv_at hl 5 rfl) ?_
  refine va_putF (D := K.1) (ci := 1) (v := .int due) (ty := .int) (C := RX0) (T := TX0) (N := 10) hx hb hts hinX0 tyX0 tyX0_ok nmX0 hown hG.1 hP hD hS q0 (List.getElem?_set_self hlen) rfl 3 (by decide) (hts (.fieldLink RX0 39 (TX0 3).1 (TX0 3).2.1 (TX0 3).2.2.1) (by decide +kernel)) (fun _ h => h) rfl (hini rfl) rfl (by decide +kernel) rfl rfl (Nat.le_of_ble_eq_true rfl) dX0_init_53 (fun H locs hP hD hS => ?_)
  rw [List.set_set] at hP hD
  have hP : va_P K.1 kCl (w0.set q0 (y, .inr (1, [.int nn, .int bb, .int oo, .int due, .int ct, .int 0, .int (-1), .int 0, .int 0, .int 0]))) H := hP
  have hD : va_D A (w0.set q0 (y, .inr (1, [.int nn, .int bb, .int oo, .int due, .int ct, .int 0, .int (-1), .int 0, .int 0, .int 0]))) := hD
  exact kr_v hx hb hr hlocks hP hD hS (Nat.zero_le _) (Nat.zero_le _) (rfl) dX0_init_56
set_option maxHeartbeats 4000000 in
set_option maxRecDepth 100000 in
theorem c_X1_bill_tb {l : Launch} {K : Ks} {A : Nat → Prop} {ad bad : Nat → Nat} {td : Int32} {n : Nat} {M : Nat → Nat → Int32} {rm : Nat → Int32} {k : Nat} {idx : Nat → Nat} {w : va_W} (hDk : Dk K ad bad td n M rm k idx w) (hlt : l.stackTraces = false) {x y ct dd : Int32} (hx4 : ixBad 4 x) : vx_Met l yX1_bill wsX1_bill (kR 7 1 6) (kPr K A [.ref (ad 0), .int x, .int y, .int ct, .int dd] (w)) kNo (kX K A IOB (fun w1 => Dk K ad bad td n M rm k idx w1)) 1 6 A := by
  refine kentT (cc := cX1_bill) (maxL := 6) (ret := (some .int)) (by decide) rfl (Nat.le_of_ble_eq_true rfl) ?_
  intro p e s m args below meth c ls hx hb hr hts hown hlocks hml hxt hG hP hD hS hl
  have hinX1 : ∀ x ∈ wsX10, x ∈ wsX1_bill := by decide +kernel
  have hl : lv_has ls 6 [(0, .ref (ad 0)), (1, .int x), (2, .int y), (3, .int ct), (4, .int dd)] := hl
  have hn30 := hDk.n30
  have hk30 := hDk.k30
  refine lv_iload_n hx hb dX1_bill_0 rfl (lv_at hl 1 rfl) ?_
  refine kc_t (vx_runS (As := [.int x]) (rest := []) ⟨hx, hb, hml, hown, hts⟩ (c_X1_checkBuyer_t hlt (ix4b hx4)) (va_cwS 1 hts gX1_bill_X1_checkBuyer rfl rfl rfl (by decide +kernel) ⟨Nat.le_of_ble_eq_true rfl, Nat.le_of_ble_eq_true rfl⟩) (kps hG hP hD hS) rfl rfl hl.1 rfl (lv_room (Nat.le_of_ble_eq_true rfl)) dX1_bill_1 ⟨Nat.le_of_ble_eq_true rfl, Nat.le_of_ble_eq_true rfl⟩) hS (fun ce q9 w H locs hp hP hD hS hce hcv hcl => ?_)
  have hDk : Dk K ad bad td n M rm k idx w := by rw [hp]; exact hDk
  exact kr_t hxt hlocks hP hD hS hce hcv hcl (Nat.le_of_ble_eq_true rfl) (Nat.le_of_ble_eq_true rfl) hDk
set_option maxHeartbeats 4000000 in
set_option maxRecDepth 100000 in
theorem c_X1_bill_ts {l : Launch} {K : Ks} {A : Nat → Prop} {ad bad : Nat → Nat} {td : Int32} {n : Nat} {M : Nat → Nat → Int32} {rm : Nat → Int32} {k : Nat} {idx : Nat → Nat} {w : va_W} (hDk : Dk K ad bad td n M rm k idx w) (hlt : l.stackTraces = false) {b : Nat} {y : Int32} (hx4 : b < 4) (hx8 : ixBad 8 y) {ct dd : Int32} : vx_Met l yX1_bill wsX1_bill (kR 7 1 6) (kPr K A [.ref (ad 0), .int (nI b), .int y, .int ct, .int dd] (w)) kNo (kX K A IOB (fun w1 => Dk K ad bad td n M rm k idx w1)) 1 6 A := by
  refine kentT (cc := cX1_bill) (maxL := 6) (ret := (some .int)) (by decide) rfl (Nat.le_of_ble_eq_true rfl) ?_
  intro p e s m args below meth c ls hx hb hr hts hown hlocks hml hxt hG hP hD hS hl
  have hinX1 : ∀ x ∈ wsX10, x ∈ wsX1_bill := by decide +kernel
  have hl : lv_has ls 6 [(0, .ref (ad 0)), (1, .int (nI b)), (2, .int y), (3, .int ct), (4, .int dd)] := hl
  have hn30 := hDk.n30
  have hk30 := hDk.k30
  refine lv_iload_n hx hb dX1_bill_0 rfl (lv_at hl 1 rfl) ?_
  refine kc_v (va_runS (As := [.int (nI b)]) (rest := []) ⟨hx, hb, hml, hown, hts⟩ (c_X1_checkBuyer (ix4 hx4)) (va_cwS 1 hts gX1_bill_X1_checkBuyer rfl rfl rfl (by decide +kernel) ⟨Nat.le_of_ble_eq_true rfl, Nat.le_of_ble_eq_true rfl⟩) (kps hG hP hD hS) rfl rfl hl.1 rfl (lv_room (Nat.le_of_ble_eq_true rfl)) dX1_bill_1 ⟨Nat.le_of_ble_eq_true rfl, Nat.le_of_ble_eq_true rfl⟩) hS (fun w H locs hp hP hD hS => ?_)
  have hDk : Dk K ad bad td n M rm k idx w := by rw [hp]; exact hDk
  refine lv_iload_n hx hb dX1_bill_4 rfl (lv_at hl 2 rfl) ?_
  refine kc_t (vx_runS (As := [.int y]) (rest := []) ⟨hx, hb, hml, hown, hts⟩ (c_X1_checkSupplier_t hlt (ix8b hx8)) (va_cwS 1 hts gX1_bill_X1_checkSupplier rfl rfl rfl (by decide +kernel) ⟨Nat.le_of_ble_eq_true rfl, Nat.le_of_ble_eq_true rfl⟩) (kps hG hP hD hS) rfl rfl hl.1 rfl (lv_room (Nat.le_of_ble_eq_true rfl)) dX1_bill_5 ⟨Nat.le_of_ble_eq_true rfl, Nat.le_of_ble_eq_true rfl⟩) hS (fun ce q9 w H locs hp hP hD hS hce hcv hcl => ?_)
  have hDk : Dk K ad bad td n M rm k idx w := by rw [hp]; exact hDk
  exact kr_t hxt hlocks hP hD hS hce hcv hcl (Nat.le_of_ble_eq_true rfl) (Nat.le_of_ble_eq_true rfl) hDk
set_option maxHeartbeats 4000000 in
set_option maxRecDepth 100000 in
theorem c_X1_bill_tc {l : Launch} {K : Ks} {A : Nat → Prop} {ad bad : Nat → Nat} {td : Int32} {n : Nat} {M : Nat → Nat → Int32} {rm : Nat → Int32} {k : Nat} {idx : Nat → Nat} {w : va_W} (hDk : Dk K ad bad td n M rm k idx w) (hlt : l.stackTraces = false) {b o : Nat} (hx4 : b < 4) (hx8 : o < 8) {ct dd : Int32} (hc : ¬ inR 1 1000000 ct) : vx_Met l yX1_bill wsX1_bill (kR 7 1 6) (kPr K A [.ref (ad 0), .int (nI b), .int (nI o), .int ct, .int dd] (w)) kNo (kX K A IAE (fun w1 => Dk K ad bad td n M rm k idx w1)) 1 6 A := by
  refine kentT (cc := cX1_bill) (maxL := 6) (ret := (some .int)) (by decide) rfl (Nat.le_of_ble_eq_true rfl) ?_
  intro p e s m args below meth c ls hx hb hr hts hown hlocks hml hxt hG hP hD hS hl
  have hinX1 : ∀ x ∈ wsX10, x ∈ wsX1_bill := by decide +kernel
  have hl : lv_has ls 6 [(0, .ref (ad 0)), (1, .int (nI b)), (2, .int (nI o)), (3, .int ct), (4, .int dd)] := hl
  have hn30 := hDk.n30
  have hk30 := hDk.k30
  refine lv_iload_n hx hb dX1_bill_0 rfl (lv_at hl 1 rfl) ?_
  refine kc_v (va_runS (As := [.int (nI b)]) (rest := []) ⟨hx, hb, hml, hown, hts⟩ (c_X1_checkBuyer (ix4 hx4)) (va_cwS 1 hts gX1_bill_X1_checkBuyer rfl rfl rfl (by decide +kernel) ⟨Nat.le_of_ble_eq_true rfl, Nat.le_of_ble_eq_true rfl⟩) (kps hG hP hD hS) rfl rfl hl.1 rfl (lv_room (Nat.le_of_ble_eq_true rfl)) dX1_bill_1 ⟨Nat.le_of_ble_eq_true rfl, Nat.le_of_ble_eq_true rfl⟩) hS (fun w H locs hp hP hD hS => ?_)
  have hDk : Dk K ad bad td n M rm k idx w := by rw [hp]; exact hDk
  refine lv_iload_n hx hb dX1_bill_4 rfl (lv_at hl 2 rfl) ?_
  refine kc_v (va_runS (As := [.int (nI o)]) (rest := []) ⟨hx, hb, hml, hown, hts⟩ (c_X1_checkSupplier (ix8 hx8)) (va_cwS 1 hts gX1_bill_X1_checkSupplier rfl rfl rfl (by decide +kernel) ⟨Nat.le_of_ble_eq_true rfl, Nat.le_of_ble_eq_true rfl⟩) (kps hG hP hD hS) rfl rfl hl.1 rfl (lv_room (Nat.le_of_ble_eq_true rfl)) dX1_bill_5 ⟨Nat.le_of_ble_eq_true rfl, Nat.le_of_ble_eq_true rfl⟩) hS (fun w H locs hp hP hD hS => ?_)
  have hDk : Dk K ad bad td n M rm k idx w := by rw [hp]; exact hDk
  refine lv_iload_n hx hb dX1_bill_8 rfl (lv_at hl 3 rfl) ?_
  refine lv_iconst (v := 1) hx hb dX1_bill_9 (by decide) ?_
  refine lv_ldc (v := 1000000) hx hb hown (hts (.constant RX1 59 1000000) (by decide +kernel)) dX1_bill_10 ?_
  refine kc_t (vx_runS (As := [.int ct, .int 1, .int 1000000]) (rest := []) ⟨hx, hb, hml, hown, hts⟩ (c_X1_checkRange_t hlt hc) (va_cwS 3 hts gX1_bill_X1_checkRange rfl rfl rfl (by decide +kernel) ⟨Nat.le_of_ble_eq_true rfl, Nat.le_of_ble_eq_true rfl⟩) (kps hG hP hD hS) rfl rfl hl.1 rfl (lv_room (Nat.le_of_ble_eq_true rfl)) dX1_bill_12 ⟨Nat.le_of_ble_eq_true rfl, Nat.le_of_ble_eq_true rfl⟩) hS (fun ce q9 w H locs hp hP hD hS hce hcv hcl => ?_)
  have hDk : Dk K ad bad td n M rm k idx w := by rw [hp]; exact hDk
  exact kr_t hxt hlocks hP hD hS hce hcv hcl (Nat.le_of_ble_eq_true rfl) (Nat.le_of_ble_eq_true rfl) hDk
set_option maxHeartbeats 4000000 in
set_option maxRecDepth 100000 in
theorem c_X1_bill_td {l : Launch} {K : Ks} {A : Nat → Prop} {ad bad : Nat → Nat} {td : Int32} {n : Nat} {M : Nat → Nat → Int32} {rm : Nat → Int32} {k : Nat} {idx : Nat → Nat} {w : va_W} (hDk : Dk K ad bad td n M rm k idx w) (hlt : l.stackTraces = false) {b o : Nat} (hx4 : b < 4) (hx8 : o < 8) {ct dd : Int32} (hc : inR 1 1000000 ct) (hd : ¬ inR 1 360 dd) : vx_Met l yX1_bill wsX1_bill (kR 7 1 6) (kPr K A [.ref (ad 0), .int (nI b), .int (nI o), .int ct, .int dd] (w)) kNo (kX K A IAE (fun w1 => Dk K ad bad td n M rm k idx w1)) 1 6 A := by
  refine kentT (cc := cX1_bill) (maxL := 6) (ret := (some .int)) (by decide) rfl (Nat.le_of_ble_eq_true rfl) ?_
  intro p e s m args below meth c ls hx hb hr hts hown hlocks hml hxt hG hP hD hS hl
  have hinX1 : ∀ x ∈ wsX10, x ∈ wsX1_bill := by decide +kernel
  have hl : lv_has ls 6 [(0, .ref (ad 0)), (1, .int (nI b)), (2, .int (nI o)), (3, .int ct), (4, .int dd)] := hl
  have hn30 := hDk.n30
  have hk30 := hDk.k30
  refine lv_iload_n hx hb dX1_bill_0 rfl (lv_at hl 1 rfl) ?_
  refine kc_v (va_runS (As := [.int (nI b)]) (rest := []) ⟨hx, hb, hml, hown, hts⟩ (c_X1_checkBuyer (ix4 hx4)) (va_cwS 1 hts gX1_bill_X1_checkBuyer rfl rfl rfl (by decide +kernel) ⟨Nat.le_of_ble_eq_true rfl, Nat.le_of_ble_eq_true rfl⟩) (kps hG hP hD hS) rfl rfl hl.1 rfl (lv_room (Nat.le_of_ble_eq_true rfl)) dX1_bill_1 ⟨Nat.le_of_ble_eq_true rfl, Nat.le_of_ble_eq_true rfl⟩) hS (fun w H locs hp hP hD hS => ?_)
  have hDk : Dk K ad bad td n M rm k idx w := by rw [hp]; exact hDk
  refine lv_iload_n hx hb dX1_bill_4 rfl (lv_at hl 2 rfl) ?_
  refine kc_v (va_runS (As := [.int (nI o)]) (rest := []) ⟨hx, hb, hml, hown, hts⟩ (c_X1_checkSupplier (ix8 hx8)) (va_cwS 1 hts gX1_bill_X1_checkSupplier rfl rfl rfl (by decide +kernel) ⟨Nat.le_of_ble_eq_true rfl, Nat.le_of_ble_eq_true rfl⟩) (kps hG hP hD hS) rfl rfl hl.1 rfl (lv_room (Nat.le_of_ble_eq_true rfl)) dX1_bill_5 ⟨Nat.le_of_ble_eq_true rfl, Nat.le_of_ble_eq_true rfl⟩) hS (fun w H locs hp hP hD hS => ?_)
  have hDk : Dk K ad bad td n M rm k idx w := by rw [hp]; exact hDk
  refine lv_iload_n hx hb dX1_bill_8 rfl (lv_at hl 3 rfl) ?_
  refine lv_iconst (v := 1) hx hb dX1_bill_9 (by decide) ?_
  refine lv_ldc (v := 1000000) hx hb hown (hts (.constant RX1 59 1000000) (by decide +kernel)) dX1_bill_10 ?_
  refine kc_v (va_runS (As := [.int ct, .int 1, .int 1000000]) (rest := []) ⟨hx, hb, hml, hown, hts⟩ (c_X1_checkRange hc) (va_cwS 3 hts gX1_bill_X1_checkRange rfl rfl rfl (by decide +kernel) ⟨Nat.le_of_ble_eq_true rfl, Nat.le_of_ble_eq_true rfl⟩) (kps hG hP hD hS) rfl rfl hl.1 rfl (lv_room (Nat.le_of_ble_eq_true rfl)) dX1_bill_12 ⟨Nat.le_of_ble_eq_true rfl, Nat.le_of_ble_eq_true rfl⟩) hS (fun w H locs hp hP hD hS => ?_)
  have hDk : Dk K ad bad td n M rm k idx w := by rw [hp]; exact hDk
  refine lv_iload hx hb dX1_bill_15 (lv_at hl 4 rfl) ?_
  refine lv_iconst (v := 1) hx hb dX1_bill_17 (by decide) ?_
  refine lv_sipush (v := 360) hx hb dX1_bill_18 (by decide) ?_
  refine kc_t (vx_runS (As := [.int dd, .int 1, .int 360]) (rest := []) ⟨hx, hb, hml, hown, hts⟩ (c_X1_checkRange_t hlt hd) (va_cwS 3 hts gX1_bill_X1_checkRange rfl rfl rfl (by decide +kernel) ⟨Nat.le_of_ble_eq_true rfl, Nat.le_of_ble_eq_true rfl⟩) (kps hG hP hD hS) rfl rfl hl.1 rfl (lv_room (Nat.le_of_ble_eq_true rfl)) dX1_bill_21 ⟨Nat.le_of_ble_eq_true rfl, Nat.le_of_ble_eq_true rfl⟩) hS (fun ce q9 w H locs hp hP hD hS hce hcv hcl => ?_)
  have hDk : Dk K ad bad td n M rm k idx w := by rw [hp]; exact hDk
  exact kr_t hxt hlocks hP hD hS hce hcv hcl (Nat.le_of_ble_eq_true rfl) (Nat.le_of_ble_eq_true rfl) hDk
set_option maxHeartbeats 4000000 in
set_option maxRecDepth 100000 in
theorem c_X1_bill_tp {l : Launch} {K : Ks} {A : Nat → Prop} {ad bad : Nat → Nat} {td : Int32} {n : Nat} {M : Nat → Nat → Int32} {rm : Nat → Int32} {k : Nat} {idx : Nat → Nat} {w : va_W} (hDk : Dk K ad bad td n M rm k idx w) (hlt : l.stackTraces = false) {b o : Nat} (hx4 : b < 4) (hx8 : o < 8) {ct dd : Int32} (hc : inR 1 1000000 ct) (hd : inR 1 360 dd) (h30 : n = 30) : vx_Met l yX1_bill wsX1_bill (kR 7 1 6) (kPr K A [.ref (ad 0), .int (nI b), .int (nI o), .int ct, .int dd] (w)) kNo (kX K A ISE (fun w1 => Dk K ad bad td n M rm k idx w1)) 1 6 A := by
  refine kentT (cc := cX1_bill) (maxL := 6) (ret := (some .int)) (by decide) rfl (Nat.le_of_ble_eq_true rfl) ?_
  intro p e s m args below meth c ls hx hb hr hts hown hlocks hml hxt hG hP hD hS hl
  have hinX1 : ∀ x ∈ wsX10, x ∈ wsX1_bill := by decide +kernel
  have hl : lv_has ls 6 [(0, .ref (ad 0)), (1, .int (nI b)), (2, .int (nI o)), (3, .int ct), (4, .int dd)] := hl
  have hn30 := hDk.n30
  have hk30 := hDk.k30
  refine lv_iload_n hx hb dX1_bill_0 rfl (lv_at hl 1 rfl) ?_
  refine kc_v (va_runS (As := [.int (nI b)]) (rest := []) ⟨hx, hb, hml, hown, hts⟩ (c_X1_checkBuyer (ix4 hx4)) (va_cwS 1 hts gX1_bill_X1_checkBuyer rfl rfl rfl (by decide +kernel) ⟨Nat.le_of_ble_eq_true rfl, Nat.le_of_ble_eq_true rfl⟩) (kps hG hP hD hS) rfl rfl hl.1 rfl (lv_room (Nat.le_of_ble_eq_true rfl)) dX1_bill_1 ⟨Nat.le_of_ble_eq_true rfl, Nat.le_of_ble_eq_true rfl⟩) hS (fun w H locs hp hP hD hS => ?_)
  have hDk : Dk K ad bad td n M rm k idx w := by rw [hp]; exact hDk
  refine lv_iload_n hx hb dX1_bill_4 rfl (lv_at hl 2 rfl) ?_
  refine kc_v (va_runS (As := [.int (nI o)]) (rest := []) ⟨hx, hb, hml, hown, hts⟩ (c_X1_checkSupplier (ix8 hx8)) (va_cwS 1 hts gX1_bill_X1_checkSupplier rfl rfl rfl (by decide +kernel) ⟨Nat.le_of_ble_eq_true rfl, Nat.le_of_ble_eq_true rfl⟩) (kps hG hP hD hS) rfl rfl hl.1 rfl (lv_room (Nat.le_of_ble_eq_true rfl)) dX1_bill_5 ⟨Nat.le_of_ble_eq_true rfl, Nat.le_of_ble_eq_true rfl⟩) hS (fun w H locs hp hP hD hS => ?_)
  have hDk : Dk K ad bad td n M rm k idx w := by rw [hp]; exact hDk
  refine lv_iload_n hx hb dX1_bill_8 rfl (lv_at hl 3 rfl) ?_
  refine lv_iconst (v := 1) hx hb dX1_bill_9 (by decide) ?_
  refine lv_ldc (v := 1000000) hx hb hown (hts (.constant RX1 59 1000000) (by decide +kernel)) dX1_bill_10 ?_
  refine kc_v (va_runS (As := [.int ct, .int 1, .int 1000000]) (rest := []) ⟨hx, hb, hml, hown, hts⟩ (c_X1_checkRange hc) (va_cwS 3 hts gX1_bill_X1_checkRange rfl rfl rfl (by decide +kernel) ⟨Nat.le_of_ble_eq_true rfl, Nat.le_of_ble_eq_true rfl⟩) (kps hG hP hD hS) rfl rfl hl.1 rfl (lv_room (Nat.le_of_ble_eq_true rfl)) dX1_bill_12 ⟨Nat.le_of_ble_eq_true rfl, Nat.le_of_ble_eq_true rfl⟩) hS (fun w H locs hp hP hD hS => ?_)
  have hDk : Dk K ad bad td n M rm k idx w := by rw [hp]; exact hDk
  refine lv_iload hx hb dX1_bill_15 (lv_at hl 4 rfl) ?_
  refine lv_iconst (v := 1) hx hb dX1_bill_17 (by decide) ?_
  refine lv_sipush (v := 360) hx hb dX1_bill_18 (by decide) ?_
  refine kc_v (va_runS (As := [.int dd, .int 1, .int 360]) (rest := []) ⟨hx, hb, hml, hown, hts⟩ (c_X1_checkRange hd) (va_cwS 3 hts gX1_bill_X1_checkRange rfl rfl rfl (by decide +kernel) ⟨Nat.le_of_ble_eq_true rfl, Nat.le_of_ble_eq_true rfl⟩) (kps hG hP hD hS) rfl rfl hl.1 rfl (lv_room (Nat.le_of_ble_eq_true rfl)) dX1_bill_21 ⟨Nat.le_of_ble_eq_true rfl, Nat.le_of_ble_eq_true rfl⟩) hS (fun w H locs hp hP hD hS => ?_)
  have hDk : Dk K ad bad td n M rm k idx w := by rw [hp]; exact hDk
  refine lv_aload_n hx hb dX1_bill_24 rfl (lv_at hl 0 rfl) ?_
  refine kget (ci := 2) (C := RX1) (T := TX1) (N := 7) hx hb hts hown hG hP 0 hDk.x rfl hinX1 3 (by decide) (by decide +kernel) rfl dX1_bill_25 ?_
  obtain ⟨m5, e5, h5⟩ := hDk.l5
  refine kc_i (va_runV (As := []) (rest := []) ⟨hx, hb, hml, hown, hts⟩ (e_size5 h5) (cwV 0 hts gX1_bill_Jx4a65c_size_8abf5 rfl rfl rfl (by decide +kernel) ⟨Nat.le_of_ble_eq_true rfl, Nat.le_of_ble_eq_true rfl⟩) (kpv (q0 := 5) hG hP hD hS h5 rfl) rfl rfl hl.1 rfl (lv_room (Nat.le_of_ble_eq_true rfl)) dX1_bill_28 ⟨Nat.le_of_ble_eq_true rfl, Nat.le_of_ble_eq_true rfl⟩) hS (fun r28 w H locs hp hP hD hS => ?_)
  have hDk : Dk K ad bad td n M rm k idx w := by rw [hp.2]; exact hDk
  rw [hp.1]
  refine lv_istore (lv' := [(5, .int (nI n)), (0, .ref (ad 0)), (1, .int (nI b)), (2, .int (nI o)), (3, .int ct), (4, .int dd)]) hx hb dX1_bill_31 hl (by decide) rfl (fun ls hl => ?_)
  refine lv_iload hx hb dX1_bill_33 (lv_at hl 0 rfl) ?_
  refine lv_bipush (v := 30) hx hb dX1_bill_35 (by decide) ?_
  refine lv_icmp_ge (tgt := 44) hx hb dX1_bill_37 (by decide) (fun h37 => ?_) (fun h37 => False.elim (h37 (by rw [h30]; exact Int32.le_refl _)))
  refine lv_iconst (v := 0) hx hb dX1_bill_44 (by decide) ?_
  refine kc_t (vx_runS (As := [.int 0]) (rest := []) ⟨hx, hb, hml, hown, hts⟩ (c_X1_checkPossible_t hlt) (va_cwS 1 hts gX1_bill_X1_checkPossible rfl rfl rfl (by decide +kernel) ⟨Nat.le_of_ble_eq_true rfl, Nat.le_of_ble_eq_true rfl⟩) (kps hG hP hD hS) rfl rfl hl.1 rfl (lv_room (Nat.le_of_ble_eq_true rfl)) dX1_bill_45 ⟨Nat.le_of_ble_eq_true rfl, Nat.le_of_ble_eq_true rfl⟩) hS (fun ce q9 w H locs hp hP hD hS hce hcv hcl => ?_)
  have hDk : Dk K ad bad td n M rm k idx w := by rw [hp]; exact hDk
  exact kr_t hxt hlocks hP hD hS hce hcv hcl (Nat.le_of_ble_eq_true rfl) (Nat.le_of_ble_eq_true rfl) hDk
set_option maxHeartbeats 4000000 in
set_option maxRecDepth 100000 in
theorem c_X1_bill {l : Launch} {K : Ks} {A : Nat → Prop} {ad bad : Nat → Nat} {td : Int32} {n : Nat} {M : Nat → Nat → Int32} {rm : Nat → Int32} {k : Nat} {idx : Nat → Nat} {w : va_W} (hDk : Dk K ad bad td n M rm k idx w) {b o : Nat} (hx4 : b < 4) (hx8 : o < 8) {ct dd : Int32} (hc : inR 1 1000000 ct) (hd : inR 1 360 dd) (h30 : n < 30) (hz6 : M 6 n = 0) (hz8 : M 8 n = 0) (hz9 : M 9 n = 0) (hz10 : M 10 n = 0) : Met l yX1_bill wsX1_bill (kR 7 2 70) (kPr K A [.ref (ad 0), .int (nI b), .int (nI o), .int ct, .int dd] (w)) (kQi K A (fun r w1 => r = nI n ∧ ∃ bad1 : Nat → Nat, Dk K ad bad1 td (n + 1) (billM td n M b o ct dd) rm k idx w1)) 2 70 A := by
  refine kent (cc := cX1_bill) (maxL := 6) (ret := (some .int)) (by decide) rfl (Nat.le_of_ble_eq_true rfl) ?_
  intro p e s m args below meth c ls hx hb hr hts hown hlocks hml hini hG hP hD hS hl
  have hinX1 : ∀ x ∈ wsX10, x ∈ wsX1_bill := by decide +kernel
  have hl : lv_has ls 6 [(0, .ref (ad 0)), (1, .int (nI b)), (2, .int (nI o)), (3, .int ct), (4, .int dd)] := hl
  have hn30 := hDk.n30
  have hk30 := hDk.k30
  have hinX0 : ∀ x ∈ wsX00, x ∈ wsX1_bill := by decide +kernel
  refine lv_iload_n hx hb dX1_bill_0 rfl (lv_at hl 1 rfl) ?_
  refine kc_v (va_runS (As := [.int (nI b)]) (rest := []) ⟨hx, hb, hml, hown, hts⟩ (c_X1_checkBuyer (ix4 hx4)) (va_cwS 1 hts gX1_bill_X1_checkBuyer rfl rfl rfl (by decide +kernel) ⟨Nat.le_of_ble_eq_true rfl, Nat.le_of_ble_eq_true rfl⟩) (kps hG hP hD hS) rfl rfl hl.1 rfl (lv_room (Nat.le_of_ble_eq_true rfl)) dX1_bill_1 ⟨Nat.le_of_ble_eq_true rfl, Nat.le_of_ble_eq_true rfl⟩) hS (fun w H locs hp hP hD hS => ?_)
  have hDk : Dk K ad bad td n M rm k idx w := by rw [hp]; exact hDk
  refine lv_iload_n hx hb dX1_bill_4 rfl (lv_at hl 2 rfl) ?_
  refine kc_v (va_runS (As := [.int (nI o)]) (rest := []) ⟨hx, hb, hml, hown, hts⟩ (c_X1_checkSupplier (ix8 hx8)) (va_cwS 1 hts gX1_bill_X1_checkSupplier rfl rfl rfl (by decide +kernel) ⟨Nat.le_of_ble_eq_true rfl, Nat.le_of_ble_eq_true rfl⟩) (kps hG hP hD hS) rfl rfl hl.1 rfl (lv_room (Nat.le_of_ble_eq_true rfl)) dX1_bill_5 ⟨Nat.le_of_ble_eq_true rfl, Nat.le_of_ble_eq_true rfl⟩) hS (fun w H locs hp hP hD hS => ?_)
  have hDk : Dk K ad bad td n M rm k idx w := by rw [hp]; exact hDk
  refine lv_iload_n hx hb dX1_bill_8 rfl (lv_at hl 3 rfl) ?_
  refine lv_iconst (v := 1) hx hb dX1_bill_9 (by decide) ?_
  refine lv_ldc (v := 1000000) hx hb hown (hts (.constant RX1 59 1000000) (by decide +kernel)) dX1_bill_10 ?_
  refine kc_v (va_runS (As := [.int ct, .int 1, .int 1000000]) (rest := []) ⟨hx, hb, hml, hown, hts⟩ (c_X1_checkRange hc) (va_cwS 3 hts gX1_bill_X1_checkRange rfl rfl rfl (by decide +kernel) ⟨Nat.le_of_ble_eq_true rfl, Nat.le_of_ble_eq_true rfl⟩) (kps hG hP hD hS) rfl rfl hl.1 rfl (lv_room (Nat.le_of_ble_eq_true rfl)) dX1_bill_12 ⟨Nat.le_of_ble_eq_true rfl, Nat.le_of_ble_eq_true rfl⟩) hS (fun w H locs hp hP hD hS => ?_)
  have hDk : Dk K ad bad td n M rm k idx w := by rw [hp]; exact hDk
  refine lv_iload hx hb dX1_bill_15 (lv_at hl 4 rfl) ?_
  refine lv_iconst (v := 1) hx hb dX1_bill_17 (by decide) ?_
  refine lv_sipush (v := 360) hx hb dX1_bill_18 (by decide) ?_
  refine kc_v (va_runS (As := [.int dd, .int 1, .int 360]) (rest := []) ⟨hx, hb, hml, hown, hts⟩ (c_X1_checkRange hd) (va_cwS 3 hts gX1_bill_X1_checkRange rfl rfl rfl (by decide +kernel) ⟨Nat.le_of_ble_eq_true rfl, Nat.le_of_ble_eq_true rfl⟩) (kps hG hP hD hS) rfl rfl hl.1 rfl (lv_room (Nat.le_of_ble_eq_true rfl)) dX1_bill_21 ⟨Nat.le_of_ble_eq_true rfl, Nat.le_of_ble_eq_true rfl⟩) hS (fun w H locs hp hP hD hS => ?_)
  have hDk : Dk K ad bad td n M rm k idx w := by rw [hp]; exact hDk
  refine lv_aload_n hx hb dX1_bill_24 rfl (lv_at hl 0 rfl) ?_
  refine kget (ci := 2) (C := RX1) (T := TX1) (N := 7) hx hb hts hown hG hP 0 hDk.x rfl hinX1 3 (by decide) (by decide +kernel) rfl dX1_bill_25 ?_
  obtain ⟨m5, e5, h5⟩ := hDk.l5
  refine kc_i (va_runV (As := []) (rest := []) ⟨hx, hb, hml, hown, hts⟩ (e_size5 h5) (cwV 0 hts gX1_bill_Jx4a65c_size_8abf5 rfl rfl rfl (by decide +kernel) ⟨Nat.le_of_ble_eq_true rfl, Nat.le_of_ble_eq_true rfl⟩) (kpv (q0 := 5) hG hP hD hS h5 rfl) rfl rfl hl.1 rfl (lv_room (Nat.le_of_ble_eq_true rfl)) dX1_bill_28 ⟨Nat.le_of_ble_eq_true rfl, Nat.le_of_ble_eq_true rfl⟩) hS (fun r28 w H locs hp hP hD hS => ?_)
  have hDk : Dk K ad bad td n M rm k idx w := by rw [hp.2]; exact hDk
  rw [hp.1]
  refine lv_istore (lv' := [(5, .int (nI n)), (0, .ref (ad 0)), (1, .int (nI b)), (2, .int (nI o)), (3, .int ct), (4, .int dd)]) hx hb dX1_bill_31 hl (by decide) rfl (fun ls hl => ?_)
  refine lv_iload hx hb dX1_bill_33 (lv_at hl 0 rfl) ?_
  refine lv_bipush (v := 30) hx hb dX1_bill_35 (by decide) ?_
  refine lv_icmp_ge (tgt := 44) hx hb dX1_bill_37 (by decide) (fun h37 => False.elim ((by rw [i32_le, nI_toInt (by omega)] at h37; have e30 : (30 : Int32).toInt = 30 := rfl; omega))) (fun h37 => ?_)
  refine lv_iconst (v := 1) hx hb dX1_bill_40 (by decide) ?_
  refine lv_goto (tgt := 45) hx hb dX1_bill_41 (by decide) ?_
  refine kc_v (va_runS (As := [.int 1]) (rest := []) ⟨hx, hb, hml, hown, hts⟩ (c_X1_checkPossible) (va_cwS 1 hts gX1_bill_X1_checkPossible rfl rfl rfl (by decide +kernel) ⟨Nat.le_of_ble_eq_true rfl, Nat.le_of_ble_eq_true rfl⟩) (kps hG hP hD hS) rfl rfl hl.1 rfl (lv_room (Nat.le_of_ble_eq_true rfl)) dX1_bill_45 ⟨Nat.le_of_ble_eq_true rfl, Nat.le_of_ble_eq_true rfl⟩) hS (fun w H locs hp hP hD hS => ?_)
  have hDk : Dk K ad bad td n M rm k idx w := by rw [hp]; exact hDk
  refine lv_aload_n hx hb dX1_bill_48 rfl (lv_at hl 1 rfl) ?_
  refine kget (ci := 2) (C := RX1) (T := TX1) (N := 7) hx hb hts hown hG hP 0 hDk.x rfl hinX1 3 (by decide) (by decide +kernel) rfl dX1_bill_49 ?_
  refine va_new (ci := 1) (fs := [.int 0, .int 0, .int 0, .int 0, .int 0, .int 0, .int 0, .int 0, .int 0, .int 0]) (C := RX0) (T := TX0) (N := 10) hx hb hts hinX0 tyX0 tyX0_ok hown (hts (.classLink RX1 68 RX0) (by decide +kernel)) (hts (.instantiable RX0 10) (by decide +kernel)) (hts (.initialized RX0) (by decide +kernel)) hG.1 hP hD hS hG.2.1 rfl (fun j hj => by rcases (show j = 0 ∨ j = 1 ∨ j = 2 ∨ j = 3 ∨ j = 4 ∨ j = 5 ∨ j = 6 ∨ j = 7 ∨ j = 8 ∨ j = 9 by omega) with rfl | rfl | rfl | rfl | rfl | rfl | rfl | rfl | rfl | rfl <;> rfl) (Nat.le_of_ble_eq_true rfl) (Nat.le_of_ble_eq_true rfl) dX1_bill_52 (fun y H hP hD hS => ?_)
  have hDk0 := hDk
  have hwl : Dk K ad bad td n M rm k idx w := hDk
  have hDk := hDk0.app (y, .inr (1, [.int 0, .int 0, .int 0, .int 0, .int 0, .int 0, .int 0, .int 0, .int 0, .int 0]))
  refine lv_dup hx hb dX1_bill_55 rfl ?_
  refine lv_iload hx hb dX1_bill_56 (lv_at hl 0 rfl) ?_
  refine lv_iload_n hx hb dX1_bill_58 rfl (lv_at hl 2 rfl) ?_
  refine lv_iload_n hx hb dX1_bill_59 rfl (lv_at hl 3 rfl) ?_
  refine lv_iload_n hx hb dX1_bill_60 rfl (lv_at hl 4 rfl) ?_
  refine lv_aload_n hx hb dX1_bill_61 rfl (lv_at hl 1 rfl) ?_
  refine kget (ci := 2) (C := RX1) (T := TX1) (N := 7) hx hb hts hown hG hP 0 hDk.x rfl hinX1 4 (by decide) (by decide +kernel) rfl dX1_bill_62 ?_
  refine lv_iload hx hb dX1_bill_65 (lv_at hl 5 rfl) ?_
  refine lv_iadd hx hb dX1_bill_67 ?_
  refine kc_v (va_runI (As := [.int (nI n), .int (nI b), .int (nI o), .int ct, .int (td + dd)]) (rest := [.ref y, .ref (ad 5)]) ⟨hx, hb, hml, hown, hts⟩ (c_X0_init (q0 := w.length) (ws_last w _)) (cwI 5 hts gX1_bill_X0_init rfl rfl rfl (hts (.initialized yX0_init.cls) (by decide +kernel)) (hts (.methodLink RX1 70 yX0_init) (by decide +kernel)) (hts (.instanceMethod yX0_init) (by decide +kernel)) rfl (by decide +kernel) ⟨Nat.le_of_ble_eq_true rfl, Nat.le_of_ble_eq_true rfl⟩) (kps hG hP hD hS) rfl rfl hl.1 rfl (lv_room (Nat.le_of_ble_eq_true rfl)) dX1_bill_68 ⟨Nat.le_of_ble_eq_true rfl, Nat.le_of_ble_eq_true rfl⟩) hS (fun w1 H locs hp hP hD hS => ?_)
  have e9 : w1 = w ++ [(y, .inr (1, brow (billM td n M b o ct dd) n))] := by rw [hp, bl_row hz6 hz8 hz9 hz10]; exact ws_setlast _ _ _
  rw [e9] at hP hD
  have hDk := hDk0.app (y, .inr (1, brow (billM td n M b o ct dd) n))
  have hyn := va_fresh hD hDk0
  obtain ⟨m5, e5, h5⟩ := hDk.l5
  refine kc_i (va_runV (As := [.ref y]) (rest := []) ⟨hx, hb, hml, hown, hts⟩ (d_add5 hDk (ws_last w _) hyn (by omega) (by simp [billM, up2, va_up]) (by simp [billM, up2, va_up]) (by simp [billM, up2, va_up]) (fun i hi => bl_old (by omega))) (cwV 1 hts gX1_bill_Jx4a65c_add_9ea2d rfl rfl rfl (by decide +kernel) ⟨Nat.le_of_ble_eq_true rfl, Nat.le_of_ble_eq_true rfl⟩) (kpv (q0 := 5) hG hP hD hS h5 rfl) rfl rfl hl.1 rfl (lv_room (Nat.le_of_ble_eq_true rfl)) dX1_bill_71 ⟨Nat.le_of_ble_eq_true rfl, Nat.le_of_ble_eq_true rfl⟩) hS (fun r71 w H locs hp hP hD hS => ?_)
  have hDk : Dk K ad (va_up bad n y) td (n + 1) (billM td n M b o ct dd) rm k idx w := hp.2
  rw [hp.1]
  refine lv_pop hx hb dX1_bill_74 rfl ?_
  refine lv_iload hx hb dX1_bill_75 (lv_at hl 0 rfl) ?_
  exact kr_i hx hb hr hlocks hP hD hS (Nat.le_of_ble_eq_true rfl) (Nat.le_of_ble_eq_true rfl) (⟨rfl, _, hDk⟩) dX1_bill_77
