/-! The class, 2: pairs, bills by number, plain reads and settings -/
theorem nI_ltn {i n : Nat} (h : i < n) (hn : n < 2 ^ 31) : nI i < nI n := by rw [i32_lt, nI_toInt (by omega), nI_toInt hn]; omega
theorem ixb_lt {n : Nat} {x : Int32} (h : ixBad n x) (h1 : ¬ x < 0) (hn : n < 2 ^ 31) : ¬ x < nI n := by
  obtain ⟨j, hj, rfl⟩ := nI_of h1
  rw [i32_lt, nI_toInt hj, nI_toInt hn]
  intro q
  exact h j (by omega) rfl
set_option maxHeartbeats 4000000 in
set_option maxRecDepth 100000 in
theorem c_X1_pairOf {l : Launch} {K : Ks} {A : Nat → Prop} {w0 : va_W} {b o : Nat} (hx4 : b < 4) (hx8 : o < 8) : Met l yX1_pairOf wsX1_pairOf (kR 1 0 0) (kPr K A [.int (nI b), .int (nI o)] (w0)) (kQi K A (fun r w => r = nI (8 * b + o) ∧ w = w0)) 0 0 A := by
  refine kent (cc := cX1_pairOf) (maxL := 2) (ret := (some .int)) (by decide) rfl (Nat.le_of_ble_eq_true rfl) ?_
  intro p e s m args below meth c ls hx hb hr hts hown hlocks hml hini hG hP hD hS hl
  have hl : lv_has ls 2 [(0, .int (nI b)), (1, .int (nI o))] := hl
  refine lv_iload_n hx hb dX1_pairOf_0 rfl (lv_at hl 0 rfl) ?_
  refine kc_v (va_runS (As := [.int (nI b)]) (rest := []) ⟨hx, hb, hml, hown, hts⟩ (c_X1_checkBuyer (ix4 hx4)) (va_cwS 1 hts gX1_pairOf_X1_checkBuyer rfl rfl rfl (by decide +kernel) ⟨Nat.le_of_ble_eq_true rfl, Nat.le_of_ble_eq_true rfl⟩) (kps hG hP hD hS) rfl rfl hl.1 rfl (lv_room (Nat.le_of_ble_eq_true rfl)) dX1_pairOf_1 ⟨Nat.le_of_ble_eq_true rfl, Nat.le_of_ble_eq_true rfl⟩) hS (fun w H locs hp hP hD hS => ?_)
  rw [hp] at hP hD
  refine lv_iload_n hx hb dX1_pairOf_4 rfl (lv_at hl 1 rfl) ?_
  refine kc_v (va_runS (As := [.int (nI o)]) (rest := []) ⟨hx, hb, hml, hown, hts⟩ (c_X1_checkSupplier (ix8 hx8)) (va_cwS 1 hts gX1_pairOf_X1_checkSupplier rfl rfl rfl (by decide +kernel) ⟨Nat.le_of_ble_eq_true rfl, Nat.le_of_ble_eq_true rfl⟩) (kps hG hP hD hS) rfl rfl hl.1 rfl (lv_room (Nat.le_of_ble_eq_true rfl)) dX1_pairOf_5 ⟨Nat.le_of_ble_eq_true rfl, Nat.le_of_ble_eq_true rfl⟩) hS (fun w H locs hp hP hD hS => ?_)
  rw [hp] at hP hD
  refine lv_iload_n hx hb dX1_pairOf_8 rfl (lv_at hl 0 rfl) ?_
  refine lv_bipush (v := 8) hx hb dX1_pairOf_9 (by decide) ?_
  refine lv_imul hx hb dX1_pairOf_11 ?_
  refine lv_iload_n hx hb dX1_pairOf_12 rfl (lv_at hl 1 rfl) ?_
  refine lv_iadd hx hb dX1_pairOf_13 ?_
  exact kr_i hx hb hr hlocks hP hD hS (Nat.zero_le _) (Nat.zero_le _) (⟨p8' b o, rfl⟩) dX1_pairOf_14
set_option maxHeartbeats 4000000 in
set_option maxRecDepth 100000 in
theorem c_X1_pairOf_tb {l : Launch} {K : Ks} {A : Nat → Prop} {w0 : va_W} (hlt : l.stackTraces = false) {x y : Int32} (hx4 : ixBad 4 x) : vx_Met l yX1_pairOf wsX1_pairOf (kR 1 1 6) (kPr K A [.int x, .int y] (w0)) kNo (kX K A IOB (fun w => w = w0)) 1 6 A := by
  refine kentT (cc := cX1_pairOf) (maxL := 2) (ret := (some .int)) (by decide) rfl (Nat.le_of_ble_eq_true rfl) ?_
  intro p e s m args below meth c ls hx hb hr hts hown hlocks hml hxt hG hP hD hS hl
  have hl : lv_has ls 2 [(0, .int x), (1, .int y)] := hl
  refine lv_iload_n hx hb dX1_pairOf_0 rfl (lv_at hl 0 rfl) ?_
  refine kc_t (vx_runS (As := [.int x]) (rest := []) ⟨hx, hb, hml, hown, hts⟩ (c_X1_checkBuyer_t hlt (ix4b hx4)) (va_cwS 1 hts gX1_pairOf_X1_checkBuyer rfl rfl rfl (by decide +kernel) ⟨Nat.le_of_ble_eq_true rfl, Nat.le_of_ble_eq_true rfl⟩) (kps hG hP hD hS) rfl rfl hl.1 rfl (lv_room (Nat.le_of_ble_eq_true rfl)) dX1_pairOf_1 ⟨Nat.le_of_ble_eq_true rfl, Nat.le_of_ble_eq_true rfl⟩) hS (fun ce q9 w H locs hp hP hD hS hce hcv hcl => ?_)
  exact kr_t hxt hlocks hP hD hS hce hcv hcl (Nat.le_of_ble_eq_true rfl) (Nat.le_of_ble_eq_true rfl) hp
set_option maxHeartbeats 4000000 in
set_option maxRecDepth 100000 in
theorem c_X1_pairOf_ts {l : Launch} {K : Ks} {A : Nat → Prop} {w0 : va_W} (hlt : l.stackTraces = false) {b : Nat} {y : Int32} (hx4 : b < 4) (hx8 : ixBad 8 y) : vx_Met l yX1_pairOf wsX1_pairOf (kR 1 1 6) (kPr K A [.int (nI b), .int y] (w0)) kNo (kX K A IOB (fun w => w = w0)) 1 6 A := by
  refine kentT (cc := cX1_pairOf) (maxL := 2) (ret := (some .int)) (by decide) rfl (Nat.le_of_ble_eq_true rfl) ?_
  intro p e s m args below meth c ls hx hb hr hts hown hlocks hml hxt hG hP hD hS hl
  have hl : lv_has ls 2 [(0, .int (nI b)), (1, .int y)] := hl
  refine lv_iload_n hx hb dX1_pairOf_0 rfl (lv_at hl 0 rfl) ?_
  refine kc_v (va_runS (As := [.int (nI b)]) (rest := []) ⟨hx, hb, hml, hown, hts⟩ (c_X1_checkBuyer (ix4 hx4)) (va_cwS 1 hts gX1_pairOf_X1_checkBuyer rfl rfl rfl (by decide +kernel) ⟨Nat.le_of_ble_eq_true rfl, Nat.le_of_ble_eq_true rfl⟩) (kps hG hP hD hS) rfl rfl hl.1 rfl (lv_room (Nat.le_of_ble_eq_true rfl)) dX1_pairOf_1 ⟨Nat.le_of_ble_eq_true rfl, Nat.le_of_ble_eq_true rfl⟩) hS (fun w H locs hp hP hD hS => ?_)
  rw [hp] at hP hD
  refine lv_iload_n hx hb dX1_pairOf_4 rfl (lv_at hl 1 rfl) ?_
  refine kc_t (vx_runS (As := [.int y]) (rest := []) ⟨hx, hb, hml, hown, hts⟩ (c_X1_checkSupplier_t hlt (ix8b hx8)) (va_cwS 1 hts gX1_pairOf_X1_checkSupplier rfl rfl rfl (by decide +kernel) ⟨Nat.le_of_ble_eq_true rfl, Nat.le_of_ble_eq_true rfl⟩) (kps hG hP hD hS) rfl rfl hl.1 rfl (lv_room (Nat.le_of_ble_eq_true rfl)) dX1_pairOf_5 ⟨Nat.le_of_ble_eq_true rfl, Nat.le_of_ble_eq_true rfl⟩) hS (fun ce q9 w H locs hp hP hD hS hce hcv hcl => ?_)
  exact kr_t hxt hlocks hP hD hS hce hcv hcl (Nat.le_of_ble_eq_true rfl) (Nat.le_of_ble_eq_true rfl) hp
set_option maxHeartbeats 4000000 in
set_option maxRecDepth 100000 in
theorem c_X1_billAt {l : Launch} {K : Ks} {A : Nat → Prop} {ad bad : Nat → Nat} {td : Int32} {n : Nat} {M : Nat → Nat → Int32} {rm : Nat → Int32} {k : Nat} {idx : Nat → Nat} {w : va_W} (hDk : Dk K ad bad td n M rm k idx w) {i : Nat} (hi : i < n) : Met l yX1_billAt wsX1_billAt (kR 3 0 0) (kPr K A [.ref (ad 0), .int (nI i)] (w)) (kQr K A (fun r w1 => r = bad i ∧ Dk K ad bad td n M rm k idx w1)) 0 0 A := by
  refine kent (cc := cX1_billAt) (maxL := 2) (ret := (some (.object "EarlybirdDesk$Bill"))) (by decide) rfl (Nat.le_of_ble_eq_true rfl) ?_
  intro p e s m args below meth c ls hx hb hr hts hown hlocks hml hini hG hP hD hS hl
  have hinX1 : ∀ x ∈ wsX10, x ∈ wsX1_billAt := by decide +kernel
  have hl : lv_has ls 2 [(0, .ref (ad 0)), (1, .int (nI i))] := hl
  have hn30 := hDk.n30
  have hk30 := hDk.k30
  refine lv_iload_n hx hb dX1_billAt_0 rfl (lv_at hl 1 rfl) ?_
  refine lv_if_lt (tgt := 15) hx hb dX1_billAt_1 (by decide) (fun h1 => False.elim (nI_pos (by omega) h1)) (fun h1 => ?_)
  refine lv_iload_n hx hb dX1_billAt_4 rfl (lv_at hl 1 rfl) ?_
  refine lv_aload_n hx hb dX1_billAt_5 rfl (lv_at hl 0 rfl) ?_
  refine kget (ci := 2) (C := RX1) (T := TX1) (N := 7) hx hb hts hown hG hP 0 hDk.x rfl hinX1 3 (by decide) (by decide +kernel) rfl dX1_billAt_6 ?_
  obtain ⟨m5, e5, h5⟩ := hDk.l5
  refine kc_i (va_runV (As := []) (rest := [.int (nI i)]) ⟨hx, hb, hml, hown, hts⟩ (e_size5 h5) (cwV 0 hts gX1_billAt_Jx4a65c_size_8abf5 rfl rfl rfl (by decide +kernel) ⟨Nat.le_of_ble_eq_true rfl, Nat.le_of_ble_eq_true rfl⟩) (kpv (q0 := 5) hG hP hD hS h5 rfl) rfl rfl hl.1 rfl (lv_room (Nat.le_of_ble_eq_true rfl)) dX1_billAt_9 ⟨Nat.le_of_ble_eq_true rfl, Nat.le_of_ble_eq_true rfl⟩) hS (fun r9 w H locs hp hP hD hS => ?_)
  have hDk : Dk K ad bad td n M rm k idx w := by rw [hp.2]; exact hDk
  rw [hp.1]
  refine lv_icmp_lt (tgt := 25) hx hb dX1_billAt_12 (by decide) (fun h12 => ?_) (fun h12 => False.elim (h12 (nI_ltn hi (by omega))))
  refine lv_aload_n hx hb dX1_billAt_25 rfl (lv_at hl 0 rfl) ?_
  refine kget (ci := 2) (C := RX1) (T := TX1) (N := 7) hx hb hts hown hG hP 0 hDk.x rfl hinX1 3 (by decide) (by decide +kernel) rfl dX1_billAt_26 ?_
  refine lv_iload_n hx hb dX1_billAt_29 rfl (lv_at hl 1 rfl) ?_
  obtain ⟨m5, e5, h5⟩ := hDk.l5
  refine kc_r (va_runV (As := [.int (nI i)]) (rest := []) ⟨hx, hb, hml, hown, hts⟩ (d_get5 hDk hi) (cwV 1 hts gX1_billAt_Jx4a65c_get_915e3 rfl rfl rfl (by decide +kernel) ⟨Nat.le_of_ble_eq_true rfl, Nat.le_of_ble_eq_true rfl⟩) (kpv (q0 := 5) hG hP hD hS h5 rfl) rfl rfl hl.1 rfl (lv_room (Nat.le_of_ble_eq_true rfl)) dX1_billAt_30 ⟨Nat.le_of_ble_eq_true rfl, Nat.le_of_ble_eq_true rfl⟩) hS (fun r30 w H locs hp hP hD hS => ?_)
  have hDk : Dk K ad bad td n M rm k idx w := by rw [hp.2]; exact hDk
  rw [hp.1]
  refine kd_cast hx hb hown hts (by decide +kernel) hG hP hDk hi dX1_billAt_33 ?_
  exact kr_r hx hb hr (Or.inl ⟨_, rfl⟩) hlocks hP hD hS (Nat.zero_le _) (Nat.zero_le _) (⟨rfl, hDk⟩) dX1_billAt_36
set_option maxHeartbeats 4000000 in
set_option maxRecDepth 100000 in
theorem c_X1_billAt_t {l : Launch} {K : Ks} {A : Nat → Prop} {ad bad : Nat → Nat} {td : Int32} {n : Nat} {M : Nat → Nat → Int32} {rm : Nat → Int32} {k : Nat} {idx : Nat → Nat} {w : va_W} (hDk : Dk K ad bad td n M rm k idx w) (hlt : l.stackTraces = false) {x : Int32} (hix : ixBad n x) : vx_Met l yX1_billAt wsX1_billAt (kR 3 1 6) (kPr K A [.ref (ad 0), .int x] (w)) kNo (kX K A IOB (fun w1 => Dk K ad bad td n M rm k idx w1)) 1 6 A := by
  refine kentT (cc := cX1_billAt) (maxL := 2) (ret := (some (.object "EarlybirdDesk$Bill"))) (by decide) rfl (Nat.le_of_ble_eq_true rfl) ?_
  intro p e s m args below meth c ls hx hb hr hts hown hlocks hml hxt hG hP hD hS hl
  have hinX1 : ∀ x ∈ wsX10, x ∈ wsX1_billAt := by decide +kernel
  have hl : lv_has ls 2 [(0, .ref (ad 0)), (1, .int x)] := hl
  have hn30 := hDk.n30
  have hk30 := hDk.k30
  refine lv_iload_n hx hb dX1_billAt_0 rfl (lv_at hl 1 rfl) ?_
  refine lv_if_lt (tgt := 15) hx hb dX1_billAt_1 (by decide) (fun h1 => ?_) (fun h1 => ?_)
  · exact kthrow (cls := IOB) (text := "no such bill") (ik := 153) (is := 172) (ic := 157) hx hb hlt hown hts hG hP hD hS (by decide) (by decide +kernel) (by decide +kernel) hG.2.2.2.2.1.2.2.2.2 (fun x h => List.mem_cons_of_mem _ (List.mem_append_right _ h)) hG.2.2.2.2.2.1 (by decide +kernel) (by decide +kernel) (hl.1.trans hml.symm) dX1_billAt_15 dX1_billAt_18 dX1_billAt_19 dX1_billAt_21 dX1_billAt_24 hxt hlocks (Nat.le_of_ble_eq_true rfl) (Nat.le_of_ble_eq_true rfl) (Nat.le_of_ble_eq_true rfl) (Nat.le_of_ble_eq_true rfl) (hDk) (Nat.le_of_ble_eq_true rfl) (Nat.le_of_ble_eq_true rfl)
  · refine lv_iload_n hx hb dX1_billAt_4 rfl (lv_at hl 1 rfl) ?_
    refine lv_aload_n hx hb dX1_billAt_5 rfl (lv_at hl 0 rfl) ?_
    refine kget (ci := 2) (C := RX1) (T := TX1) (N := 7) hx hb hts hown hG hP 0 hDk.x rfl hinX1 3 (by decide) (by decide +kernel) rfl dX1_billAt_6 ?_
    obtain ⟨m5, e5, h5⟩ := hDk.l5
    refine kc_i (va_runV (As := []) (rest := [.int x]) ⟨hx, hb, hml, hown, hts⟩ (e_size5 h5) (cwV 0 hts gX1_billAt_Jx4a65c_size_8abf5 rfl rfl rfl (by decide +kernel) ⟨Nat.le_of_ble_eq_true rfl, Nat.le_of_ble_eq_true rfl⟩) (kpv (q0 := 5) hG hP hD hS h5 rfl) rfl rfl hl.1 rfl (lv_room (Nat.le_of_ble_eq_true rfl)) dX1_billAt_9 ⟨Nat.le_of_ble_eq_true rfl, Nat.le_of_ble_eq_true rfl⟩) hS (fun r9 w H locs hp hP hD hS => ?_)
    have hDk : Dk K ad bad td n M rm k idx w := by rw [hp.2]; exact hDk
    rw [hp.1]
    refine lv_icmp_lt (tgt := 25) hx hb dX1_billAt_12 (by decide) (fun h12 => False.elim (ixb_lt hix h1 (by omega) h12)) (fun h12 => ?_)
    exact kthrow (cls := IOB) (text := "no such bill") (ik := 153) (is := 172) (ic := 157) hx hb hlt hown hts hG hP hD hS (by decide) (by decide +kernel) (by decide +kernel) hG.2.2.2.2.1.2.2.2.2 (fun x h => List.mem_cons_of_mem _ (List.mem_append_right _ h)) hG.2.2.2.2.2.1 (by decide +kernel) (by decide +kernel) (hl.1.trans hml.symm) dX1_billAt_15 dX1_billAt_18 dX1_billAt_19 dX1_billAt_21 dX1_billAt_24 hxt hlocks (Nat.le_of_ble_eq_true rfl) (Nat.le_of_ble_eq_true rfl) (Nat.le_of_ble_eq_true rfl) (Nat.le_of_ble_eq_true rfl) (hDk) (Nat.le_of_ble_eq_true rfl) (Nat.le_of_ble_eq_true rfl)
set_option maxHeartbeats 4000000 in
set_option maxRecDepth 100000 in
theorem c_X1_state {l : Launch} {K : Ks} {A : Nat → Prop} {ad bad : Nat → Nat} {td : Int32} {n : Nat} {M : Nat → Nat → Int32} {rm : Nat → Int32} {k : Nat} {idx : Nat → Nat} {w : va_W} (hDk : Dk K ad bad td n M rm k idx w) {i : Nat} (hi : i < n) : Met l yX1_state wsX1_state (kR 4 0 0) (kPr K A [.ref (ad 0), .int (nI i)] (w)) (kQi K A (fun r w1 => r = M 6 i ∧ Dk K ad bad td n M rm k idx w1)) 0 0 A := by
  refine kent (cc := cX1_state) (maxL := 2) (ret := (some .int)) (by decide) rfl (Nat.le_of_ble_eq_true rfl) ?_
  intro p e s m args below meth c ls hx hb hr hts hown hlocks hml hini hG hP hD hS hl
  have hinX0 : ∀ x ∈ wsX00, x ∈ wsX1_state := by decide +kernel
  have hl : lv_has ls 2 [(0, .ref (ad 0)), (1, .int (nI i))] := hl
  have hn30 := hDk.n30
  have hk30 := hDk.k30
  refine lv_aload_n hx hb dX1_state_0 rfl (lv_at hl 0 rfl) ?_
  refine lv_iload_n hx hb dX1_state_1 rfl (lv_at hl 1 rfl) ?_
  refine kc_r (va_runV (As := [.int (nI i)]) (rest := []) ⟨hx, hb, hml, hown, hts⟩ (c_X1_billAt hDk hi) (cwV 1 hts gX1_state_X1_billAt rfl rfl rfl (by decide +kernel) ⟨Nat.le_of_ble_eq_true rfl, Nat.le_of_ble_eq_true rfl⟩) (kpv (q0 := 0) hG hP hD hS hDk.x rfl) rfl rfl hl.1 rfl (lv_room (Nat.le_of_ble_eq_true rfl)) dX1_state_2 ⟨Nat.le_of_ble_eq_true rfl, Nat.le_of_ble_eq_true rfl⟩) hS (fun r2 w H locs hp hP hD hS => ?_)
  have hDk : Dk K ad bad td n M rm k idx w := hp.2
  rw [hp.1]
  refine kd_get hx hb hts hown hG hP hDk hi hinX0 5 (by decide) (by decide +kernel) rfl dX1_state_5 ?_
  exact kr_i hx hb hr hlocks hP hD hS (Nat.zero_le _) (Nat.zero_le _) (⟨rfl, hDk⟩) dX1_state_8
set_option maxHeartbeats 4000000 in
set_option maxRecDepth 100000 in
theorem c_X1_state_t {l : Launch} {K : Ks} {A : Nat → Prop} {ad bad : Nat → Nat} {td : Int32} {n : Nat} {M : Nat → Nat → Int32} {rm : Nat → Int32} {k : Nat} {idx : Nat → Nat} {w : va_W} (hDk : Dk K ad bad td n M rm k idx w) (hlt : l.stackTraces = false) {x : Int32} (hix : ixBad n x) : vx_Met l yX1_state wsX1_state (kR 4 1 6) (kPr K A [.ref (ad 0), .int x] (w)) kNo (kX K A IOB (fun w1 => Dk K ad bad td n M rm k idx w1)) 1 6 A := by
  refine kentT (cc := cX1_state) (maxL := 2) (ret := (some .int)) (by decide) rfl (Nat.le_of_ble_eq_true rfl) ?_
  intro p e s m args below meth c ls hx hb hr hts hown hlocks hml hxt hG hP hD hS hl
  have hinX0 : ∀ x ∈ wsX00, x ∈ wsX1_state := by decide +kernel
  have hl : lv_has ls 2 [(0, .ref (ad 0)), (1, .int x)] := hl
  have hn30 := hDk.n30
  have hk30 := hDk.k30
  refine lv_aload_n hx hb dX1_state_0 rfl (lv_at hl 0 rfl) ?_
  refine lv_iload_n hx hb dX1_state_1 rfl (lv_at hl 1 rfl) ?_
  refine kc_t (vx_runV (As := [.int x]) (rest := []) ⟨hx, hb, hml, hown, hts⟩ (c_X1_billAt_t hDk hlt hix) (cwV 1 hts gX1_state_X1_billAt rfl rfl rfl (by decide +kernel) ⟨Nat.le_of_ble_eq_true rfl, Nat.le_of_ble_eq_true rfl⟩) (kpv (q0 := 0) hG hP hD hS hDk.x rfl) rfl rfl hl.1 rfl (lv_room (Nat.le_of_ble_eq_true rfl)) dX1_state_2 ⟨Nat.le_of_ble_eq_true rfl, Nat.le_of_ble_eq_true rfl⟩) hS (fun ce q9 w H locs hp hP hD hS hce hcv hcl => ?_)
  have hDk : Dk K ad bad td n M rm k idx w := hp
  exact kr_t hxt hlocks hP hD hS hce hcv hcl (Nat.le_of_ble_eq_true rfl) (Nat.le_of_ble_eq_true rfl) hDk
set_option maxHeartbeats 4000000 in
set_option maxRecDepth 100000 in
theorem c_X1_amount {l : Launch} {K : Ks} {A : Nat → Prop} {ad bad : Nat → Nat} {td : Int32} {n : Nat} {M : Nat → Nat → Int32} {rm : Nat → Int32} {k : Nat} {idx : Nat → Nat} {w : va_W} (hDk : Dk K ad bad td n M rm k idx w) {i : Nat} (hi : i < n) : Met l yX1_amount wsX1_amount (kR 4 0 0) (kPr K A [.ref (ad 0), .int (nI i)] (w)) (kQi K A (fun r w1 => r = M 4 i ∧ Dk K ad bad td n M rm k idx w1)) 0 0 A := by
  refine kent (cc := cX1_amount) (maxL := 2) (ret := (some .int)) (by decide) rfl (Nat.le_of_ble_eq_true rfl) ?_
  intro p e s m args below meth c ls hx hb hr hts hown hlocks hml hini hG hP hD hS hl
  have hinX0 : ∀ x ∈ wsX00, x ∈ wsX1_amount := by decide +kernel
  have hl : lv_has ls 2 [(0, .ref (ad 0)), (1, .int (nI i))] := hl
  have hn30 := hDk.n30
  have hk30 := hDk.k30
  refine lv_aload_n hx hb dX1_amount_0 rfl (lv_at hl 0 rfl) ?_
  refine lv_iload_n hx hb dX1_amount_1 rfl (lv_at hl 1 rfl) ?_
  refine kc_r (va_runV (As := [.int (nI i)]) (rest := []) ⟨hx, hb, hml, hown, hts⟩ (c_X1_billAt hDk hi) (cwV 1 hts gX1_amount_X1_billAt rfl rfl rfl (by decide +kernel) ⟨Nat.le_of_ble_eq_true rfl, Nat.le_of_ble_eq_true rfl⟩) (kpv (q0 := 0) hG hP hD hS hDk.x rfl) rfl rfl hl.1 rfl (lv_room (Nat.le_of_ble_eq_true rfl)) dX1_amount_2 ⟨Nat.le_of_ble_eq_true rfl, Nat.le_of_ble_eq_true rfl⟩) hS (fun r2 w H locs hp hP hD hS => ?_)
  have hDk : Dk K ad bad td n M rm k idx w := hp.2
  rw [hp.1]
  refine kd_get hx hb hts hown hG hP hDk hi hinX0 4 (by decide) (by decide +kernel) rfl dX1_amount_5 ?_
  exact kr_i hx hb hr hlocks hP hD hS (Nat.zero_le _) (Nat.zero_le _) (⟨rfl, hDk⟩) dX1_amount_8
set_option maxHeartbeats 4000000 in
set_option maxRecDepth 100000 in
theorem c_X1_amount_t {l : Launch} {K : Ks} {A : Nat → Prop} {ad bad : Nat → Nat} {td : Int32} {n : Nat} {M : Nat → Nat → Int32} {rm : Nat → Int32} {k : Nat} {idx : Nat → Nat} {w : va_W} (hDk : Dk K ad bad td n M rm k idx w) (hlt : l.stackTraces = false) {x : Int32} (hix : ixBad n x) : vx_Met l yX1_amount wsX1_amount (kR 4 1 6) (kPr K A [.ref (ad 0), .int x] (w)) kNo (kX K A IOB (fun w1 => Dk K ad bad td n M rm k idx w1)) 1 6 A := by
  refine kentT (cc := cX1_amount) (maxL := 2) (ret := (some .int)) (by decide) rfl (Nat.le_of_ble_eq_true rfl) ?_
  intro p e s m args below meth c ls hx hb hr hts hown hlocks hml hxt hG hP hD hS hl
  have hinX0 : ∀ x ∈ wsX00, x ∈ wsX1_amount := by decide +kernel
  have hl : lv_has ls 2 [(0, .ref (ad 0)), (1, .int x)] := hl
  have hn30 := hDk.n30
  have hk30 := hDk.k30
  refine lv_aload_n hx hb dX1_amount_0 rfl (lv_at hl 0 rfl) ?_
  refine lv_iload_n hx hb dX1_amount_1 rfl (lv_at hl 1 rfl) ?_
  refine kc_t (vx_runV (As := [.int x]) (rest := []) ⟨hx, hb, hml, hown, hts⟩ (c_X1_billAt_t hDk hlt hix) (cwV 1 hts gX1_amount_X1_billAt rfl rfl rfl (by decide +kernel) ⟨Nat.le_of_ble_eq_true rfl, Nat.le_of_ble_eq_true rfl⟩) (kpv (q0 := 0) hG hP hD hS hDk.x rfl) rfl rfl hl.1 rfl (lv_room (Nat.le_of_ble_eq_true rfl)) dX1_amount_2 ⟨Nat.le_of_ble_eq_true rfl, Nat.le_of_ble_eq_true rfl⟩) hS (fun ce q9 w H locs hp hP hD hS hce hcv hcl => ?_)
  have hDk : Dk K ad bad td n M rm k idx w := hp
  exact kr_t hxt hlocks hP hD hS hce hcv hcl (Nat.le_of_ble_eq_true rfl) (Nat.le_of_ble_eq_true rfl) hDk
set_option maxHeartbeats 4000000 in
set_option maxRecDepth 100000 in
theorem c_X1_paid {l : Launch} {K : Ks} {A : Nat → Prop} {ad bad : Nat → Nat} {td : Int32} {n : Nat} {M : Nat → Nat → Int32} {rm : Nat → Int32} {k : Nat} {idx : Nat → Nat} {w : va_W} (hDk : Dk K ad bad td n M rm k idx w) {i : Nat} (hi : i < n) : Met l yX1_paid wsX1_paid (kR 4 0 0) (kPr K A [.ref (ad 0), .int (nI i)] (w)) (kQi K A (fun r w1 => r = M 8 i ∧ Dk K ad bad td n M rm k idx w1)) 0 0 A := by
  refine kent (cc := cX1_paid) (maxL := 2) (ret := (some .int)) (by decide) rfl (Nat.le_of_ble_eq_true rfl) ?_
  intro p e s m args below meth c ls hx hb hr hts hown hlocks hml hini hG hP hD hS hl
  have hinX0 : ∀ x ∈ wsX00, x ∈ wsX1_paid := by decide +kernel
  have hl : lv_has ls 2 [(0, .ref (ad 0)), (1, .int (nI i))] := hl
  have hn30 := hDk.n30
  have hk30 := hDk.k30
  refine lv_aload_n hx hb dX1_paid_0 rfl (lv_at hl 0 rfl) ?_
  refine lv_iload_n hx hb dX1_paid_1 rfl (lv_at hl 1 rfl) ?_
  refine kc_r (va_runV (As := [.int (nI i)]) (rest := []) ⟨hx, hb, hml, hown, hts⟩ (c_X1_billAt hDk hi) (cwV 1 hts gX1_paid_X1_billAt rfl rfl rfl (by decide +kernel) ⟨Nat.le_of_ble_eq_true rfl, Nat.le_of_ble_eq_true rfl⟩) (kpv (q0 := 0) hG hP hD hS hDk.x rfl) rfl rfl hl.1 rfl (lv_room (Nat.le_of_ble_eq_true rfl)) dX1_paid_2 ⟨Nat.le_of_ble_eq_true rfl, Nat.le_of_ble_eq_true rfl⟩) hS (fun r2 w H locs hp hP hD hS => ?_)
  have hDk : Dk K ad bad td n M rm k idx w := hp.2
  rw [hp.1]
  refine kd_get hx hb hts hown hG hP hDk hi hinX0 7 (by decide) (by decide +kernel) rfl dX1_paid_5 ?_
  exact kr_i hx hb hr hlocks hP hD hS (Nat.zero_le _) (Nat.zero_le _) (⟨rfl, hDk⟩) dX1_paid_8
set_option maxHeartbeats 4000000 in
set_option maxRecDepth 100000 in
theorem c_X1_paid_t {l : Launch} {K : Ks} {A : Nat → Prop} {ad bad : Nat → Nat} {td : Int32} {n : Nat} {M : Nat → Nat → Int32} {rm : Nat → Int32} {k : Nat} {idx : Nat → Nat} {w : va_W} (hDk : Dk K ad bad td n M rm k idx w) (hlt : l.stackTraces = false) {x : Int32} (hix : ixBad n x) : vx_Met l yX1_paid wsX1_paid (kR 4 1 6) (kPr K A [.ref (ad 0), .int x] (w)) kNo (kX K A IOB (fun w1 => Dk K ad bad td n M rm k idx w1)) 1 6 A := by
  refine kentT (cc := cX1_paid) (maxL := 2) (ret := (some .int)) (by decide) rfl (Nat.le_of_ble_eq_true rfl) ?_
  intro p e s m args below meth c ls hx hb hr hts hown hlocks hml hxt hG hP hD hS hl
  have hinX0 : ∀ x ∈ wsX00, x ∈ wsX1_paid := by decide +kernel
  have hl : lv_has ls 2 [(0, .ref (ad 0)), (1, .int x)] := hl
  have hn30 := hDk.n30
  have hk30 := hDk.k30
  refine lv_aload_n hx hb dX1_paid_0 rfl (lv_at hl 0 rfl) ?_
  refine lv_iload_n hx hb dX1_paid_1 rfl (lv_at hl 1 rfl) ?_
  refine kc_t (vx_runV (As := [.int x]) (rest := []) ⟨hx, hb, hml, hown, hts⟩ (c_X1_billAt_t hDk hlt hix) (cwV 1 hts gX1_paid_X1_billAt rfl rfl rfl (by decide +kernel) ⟨Nat.le_of_ble_eq_true rfl, Nat.le_of_ble_eq_true rfl⟩) (kpv (q0 := 0) hG hP hD hS hDk.x rfl) rfl rfl hl.1 rfl (lv_room (Nat.le_of_ble_eq_true rfl)) dX1_paid_2 ⟨Nat.le_of_ble_eq_true rfl, Nat.le_of_ble_eq_true rfl⟩) hS (fun ce q9 w H locs hp hP hD hS hce hcv hcl => ?_)
  have hDk : Dk K ad bad td n M rm k idx w := hp
  exact kr_t hxt hlocks hP hD hS hce hcv hcl (Nat.le_of_ble_eq_true rfl) (Nat.le_of_ble_eq_true rfl) hDk
set_option maxHeartbeats 4000000 in
set_option maxRecDepth 100000 in
theorem c_X1_heldBack {l : Launch} {K : Ks} {A : Nat → Prop} {ad bad : Nat → Nat} {td : Int32} {n : Nat} {M : Nat → Nat → Int32} {rm : Nat → Int32} {k : Nat} {idx : Nat → Nat} {w : va_W} (hDk : Dk K ad bad td n M rm k idx w) {i : Nat} (hi : i < n) : Met l yX1_heldBack wsX1_heldBack (kR 4 0 0) (kPr K A [.ref (ad 0), .int (nI i)] (w)) (kQi K A (fun r w1 => r = M 9 i ∧ Dk K ad bad td n M rm k idx w1)) 0 0 A := by
  refine kent (cc := cX1_heldBack) (maxL := 2) (ret := (some .int)) (by decide) rfl (Nat.le_of_ble_eq_true rfl) ?_
  intro p e s m args below meth c ls hx hb hr hts hown hlocks hml hini hG hP hD hS hl
  have hinX0 : ∀ x ∈ wsX00, x ∈ wsX1_heldBack := by decide +kernel
  have hl : lv_has ls 2 [(0, .ref (ad 0)), (1, .int (nI i))] := hl
  have hn30 := hDk.n30
  have hk30 := hDk.k30
  refine lv_aload_n hx hb dX1_heldBack_0 rfl (lv_at hl 0 rfl) ?_
  refine lv_iload_n hx hb dX1_heldBack_1 rfl (lv_at hl 1 rfl) ?_
  refine kc_r (va_runV (As := [.int (nI i)]) (rest := []) ⟨hx, hb, hml, hown, hts⟩ (c_X1_billAt hDk hi) (cwV 1 hts gX1_heldBack_X1_billAt rfl rfl rfl (by decide +kernel) ⟨Nat.le_of_ble_eq_true rfl, Nat.le_of_ble_eq_true rfl⟩) (kpv (q0 := 0) hG hP hD hS hDk.x rfl) rfl rfl hl.1 rfl (lv_room (Nat.le_of_ble_eq_true rfl)) dX1_heldBack_2 ⟨Nat.le_of_ble_eq_true rfl, Nat.le_of_ble_eq_true rfl⟩) hS (fun r2 w H locs hp hP hD hS => ?_)
  have hDk : Dk K ad bad td n M rm k idx w := hp.2
  rw [hp.1]
  refine kd_get hx hb hts hown hG hP hDk hi hinX0 8 (by decide) (by decide +kernel) rfl dX1_heldBack_5 ?_
  exact kr_i hx hb hr hlocks hP hD hS (Nat.zero_le _) (Nat.zero_le _) (⟨rfl, hDk⟩) dX1_heldBack_8
set_option maxHeartbeats 4000000 in
set_option maxRecDepth 100000 in
theorem c_X1_heldBack_t {l : Launch} {K : Ks} {A : Nat → Prop} {ad bad : Nat → Nat} {td : Int32} {n : Nat} {M : Nat → Nat → Int32} {rm : Nat → Int32} {k : Nat} {idx : Nat → Nat} {w : va_W} (hDk : Dk K ad bad td n M rm k idx w) (hlt : l.stackTraces = false) {x : Int32} (hix : ixBad n x) : vx_Met l yX1_heldBack wsX1_heldBack (kR 4 1 6) (kPr K A [.ref (ad 0), .int x] (w)) kNo (kX K A IOB (fun w1 => Dk K ad bad td n M rm k idx w1)) 1 6 A := by
  refine kentT (cc := cX1_heldBack) (maxL := 2) (ret := (some .int)) (by decide) rfl (Nat.le_of_ble_eq_true rfl) ?_
  intro p e s m args below meth c ls hx hb hr hts hown hlocks hml hxt hG hP hD hS hl
  have hinX0 : ∀ x ∈ wsX00, x ∈ wsX1_heldBack := by decide +kernel
  have hl : lv_has ls 2 [(0, .ref (ad 0)), (1, .int x)] := hl
  have hn30 := hDk.n30
  have hk30 := hDk.k30
  refine lv_aload_n hx hb dX1_heldBack_0 rfl (lv_at hl 0 rfl) ?_
  refine lv_iload_n hx hb dX1_heldBack_1 rfl (lv_at hl 1 rfl) ?_
  refine kc_t (vx_runV (As := [.int x]) (rest := []) ⟨hx, hb, hml, hown, hts⟩ (c_X1_billAt_t hDk hlt hix) (cwV 1 hts gX1_heldBack_X1_billAt rfl rfl rfl (by decide +kernel) ⟨Nat.le_of_ble_eq_true rfl, Nat.le_of_ble_eq_true rfl⟩) (kpv (q0 := 0) hG hP hD hS hDk.x rfl) rfl rfl hl.1 rfl (lv_room (Nat.le_of_ble_eq_true rfl)) dX1_heldBack_2 ⟨Nat.le_of_ble_eq_true rfl, Nat.le_of_ble_eq_true rfl⟩) hS (fun ce q9 w H locs hp hP hD hS hce hcv hcl => ?_)
  have hDk : Dk K ad bad td n M rm k idx w := hp
  exact kr_t hxt hlocks hP hD hS hce hcv hcl (Nat.le_of_ble_eq_true rfl) (Nat.le_of_ble_eq_true rfl) hDk
set_option maxHeartbeats 4000000 in
set_option maxRecDepth 100000 in
theorem c_X1_today {l : Launch} {K : Ks} {A : Nat → Prop} {ad bad : Nat → Nat} {td : Int32} {n : Nat} {M : Nat → Nat → Int32} {rm : Nat → Int32} {k : Nat} {idx : Nat → Nat} {w : va_W} (hDk : Dk K ad bad td n M rm k idx w)  : Met l yX1_today wsX1_today (kR 0 0 0) (kPr K A [.ref (ad 0)] (w)) (kQi K A (fun r w1 => r = td ∧ Dk K ad bad td n M rm k idx w1)) 0 0 A := by
  refine kent (cc := cX1_today) (maxL := 1) (ret := (some .int)) (by decide) rfl (Nat.le_of_ble_eq_true rfl) ?_
  intro p e s m args below meth c ls hx hb hr hts hown hlocks hml hini hG hP hD hS hl
  have hinX1 : ∀ x ∈ wsX10, x ∈ wsX1_today := by decide +kernel
  have hl : lv_has ls 1 [(0, .ref (ad 0))] := hl
  have hn30 := hDk.n30
  have hk30 := hDk.k30
  refine lv_aload_n hx hb dX1_today_0 rfl (lv_at hl 0 rfl) ?_
  refine kget (ci := 2) (C := RX1) (T := TX1) (N := 7) hx hb hts hown hG hP 0 hDk.x rfl hinX1 4 (by decide) (by decide +kernel) rfl dX1_today_1 ?_
  exact kr_i hx hb hr hlocks hP hD hS (Nat.zero_le _) (Nat.zero_le _) (⟨rfl, hDk⟩) dX1_today_4
set_option maxHeartbeats 4000000 in
set_option maxRecDepth 100000 in
theorem c_X1_setBudget_tb {l : Launch} {K : Ks} {A : Nat → Prop} {ad bad : Nat → Nat} {td : Int32} {n : Nat} {M : Nat → Nat → Int32} {rm : Nat → Int32} {k : Nat} {idx : Nat → Nat} {w : va_W} (hDk : Dk K ad bad td n M rm k idx w) (hlt : l.stackTraces = false) {x : Int32} (hx4 : ixBad 4 x) {y : Int32} : vx_Met l yX1_setBudget wsX1_setBudget (kR 4 1 6) (kPr K A [.ref (ad 0), .int x, .int y] (w)) kNo (kX K A IOB (fun w1 => Dk K ad bad td n M rm k idx w1)) 1 6 A := by
  refine kentT (cc := cX1_setBudget) (maxL := 4) (ret := (some .int)) (by decide) rfl (Nat.le_of_ble_eq_true rfl) ?_
  intro p e s m args below meth c ls hx hb hr hts hown hlocks hml hxt hG hP hD hS hl
  have hinX1 : ∀ x ∈ wsX10, x ∈ wsX1_setBudget := by decide +kernel
  have hl : lv_has ls 4 [(0, .ref (ad 0)), (1, .int x), (2, .int y)] := hl
  have hn30 := hDk.n30
  have hk30 := hDk.k30
  refine lv_iload_n hx hb dX1_setBudget_0 rfl (lv_at hl 1 rfl) ?_
  refine kc_t (vx_runS (As := [.int x]) (rest := []) ⟨hx, hb, hml, hown, hts⟩ (c_X1_checkBuyer_t hlt (ix4b hx4)) (va_cwS 1 hts gX1_setBudget_X1_checkBuyer rfl rfl rfl (by decide +kernel) ⟨Nat.le_of_ble_eq_true rfl, Nat.le_of_ble_eq_true rfl⟩) (kps hG hP hD hS) rfl rfl hl.1 rfl (lv_room (Nat.le_of_ble_eq_true rfl)) dX1_setBudget_1 ⟨Nat.le_of_ble_eq_true rfl, Nat.le_of_ble_eq_true rfl⟩) hS (fun ce q9 w H locs hp hP hD hS hce hcv hcl => ?_)
  have hDk : Dk K ad bad td n M rm k idx w := by rw [hp]; exact hDk
  exact kr_t hxt hlocks hP hD hS hce hcv hcl (Nat.le_of_ble_eq_true rfl) (Nat.le_of_ble_eq_true rfl) hDk
set_option maxHeartbeats 4000000 in
set_option maxRecDepth 100000 in
theorem c_X1_setBudget_tr {l : Launch} {K : Ks} {A : Nat → Prop} {ad bad : Nat → Nat} {td : Int32} {n : Nat} {M : Nat → Nat → Int32} {rm : Nat → Int32} {k : Nat} {idx : Nat → Nat} {w : va_W} (hDk : Dk K ad bad td n M rm k idx w) (hlt : l.stackTraces = false) {b : Nat} (hx4 : b < 4) {y : Int32} (hy : ¬ inR 0 100000000 y) : vx_Met l yX1_setBudget wsX1_setBudget (kR 4 1 6) (kPr K A [.ref (ad 0), .int (nI b), .int y] (w)) kNo (kX K A IAE (fun w1 => Dk K ad bad td n M rm k idx w1)) 1 6 A := by
  refine kentT (cc := cX1_setBudget) (maxL := 4) (ret := (some .int)) (by decide) rfl (Nat.le_of_ble_eq_true rfl) ?_
  intro p e s m args below meth c ls hx hb hr hts hown hlocks hml hxt hG hP hD hS hl
  have hinX1 : ∀ x ∈ wsX10, x ∈ wsX1_setBudget := by decide +kernel
  have hl : lv_has ls 4 [(0, .ref (ad 0)), (1, .int (nI b)), (2, .int y)] := hl
  have hn30 := hDk.n30
  have hk30 := hDk.k30
  refine lv_iload_n hx hb dX1_setBudget_0 rfl (lv_at hl 1 rfl) ?_
  refine kc_v (va_runS (As := [.int (nI b)]) (rest := []) ⟨hx, hb, hml, hown, hts⟩ (c_X1_checkBuyer (ix4 hx4)) (va_cwS 1 hts gX1_setBudget_X1_checkBuyer rfl rfl rfl (by decide +kernel) ⟨Nat.le_of_ble_eq_true rfl, Nat.le_of_ble_eq_true rfl⟩) (kps hG hP hD hS) rfl rfl hl.1 rfl (lv_room (Nat.le_of_ble_eq_true rfl)) dX1_setBudget_1 ⟨Nat.le_of_ble_eq_true rfl, Nat.le_of_ble_eq_true rfl⟩) hS (fun w H locs hp hP hD hS => ?_)
  have hDk : Dk K ad bad td n M rm k idx w := by rw [hp]; exact hDk
  refine lv_iload_n hx hb dX1_setBudget_4 rfl (lv_at hl 2 rfl) ?_
  refine lv_iconst (v := 0) hx hb dX1_setBudget_5 (by decide) ?_
  refine lv_ldc (v := 100000000) hx hb hown (hts (.constant RX1 47 100000000) (by decide +kernel)) dX1_setBudget_6 ?_
  refine kc_t (vx_runS (As := [.int y, .int 0, .int 100000000]) (rest := []) ⟨hx, hb, hml, hown, hts⟩ (c_X1_checkRange_t hlt hy) (va_cwS 3 hts gX1_setBudget_X1_checkRange rfl rfl rfl (by decide +kernel) ⟨Nat.le_of_ble_eq_true rfl, Nat.le_of_ble_eq_true rfl⟩) (kps hG hP hD hS) rfl rfl hl.1 rfl (lv_room (Nat.le_of_ble_eq_true rfl)) dX1_setBudget_8 ⟨Nat.le_of_ble_eq_true rfl, Nat.le_of_ble_eq_true rfl⟩) hS (fun ce q9 w H locs hp hP hD hS hce hcv hcl => ?_)
  have hDk : Dk K ad bad td n M rm k idx w := by rw [hp]; exact hDk
  exact kr_t hxt hlocks hP hD hS hce hcv hcl (Nat.le_of_ble_eq_true rfl) (Nat.le_of_ble_eq_true rfl) hDk
set_option maxHeartbeats 4000000 in
set_option maxRecDepth 100000 in
theorem c_X1_setBudget {l : Launch} {K : Ks} {A : Nat → Prop} {ad bad : Nat → Nat} {td : Int32} {n : Nat} {M : Nat → Nat → Int32} {rm : Nat → Int32} {k : Nat} {idx : Nat → Nat} {w : va_W} (hDk : Dk K ad bad td n M rm k idx w) {b : Nat} (hx4 : b < 4) {y : Int32} (hy : inR 0 100000000 y) : Met l yX1_setBudget wsX1_setBudget (kR 4 0 0) (kPr K A [.ref (ad 0), .int (nI b), .int y] (w)) (kQi K A (fun r w1 => r = M 11 b ∧ Dk K ad bad td n (up2 M 11 b y) rm k idx w1)) 0 0 A := by
  refine kent (cc := cX1_setBudget) (maxL := 4) (ret := (some .int)) (by decide) rfl (Nat.le_of_ble_eq_true rfl) ?_
  intro p e s m args below meth c ls hx hb hr hts hown hlocks hml hini hG hP hD hS hl
  have hinX1 : ∀ x ∈ wsX10, x ∈ wsX1_setBudget := by decide +kernel
  have hl : lv_has ls 4 [(0, .ref (ad 0)), (1, .int (nI b)), (2, .int y)] := hl
  have hn30 := hDk.n30
  have hk30 := hDk.k30
  refine lv_iload_n hx hb dX1_setBudget_0 rfl (lv_at hl 1 rfl) ?_
  refine kc_v (va_runS (As := [.int (nI b)]) (rest := []) ⟨hx, hb, hml, hown, hts⟩ (c_X1_checkBuyer (ix4 hx4)) (va_cwS 1 hts gX1_setBudget_X1_checkBuyer rfl rfl rfl (by decide +kernel) ⟨Nat.le_of_ble_eq_true rfl, Nat.le_of_ble_eq_true rfl⟩) (kps hG hP hD hS) rfl rfl hl.1 rfl (lv_room (Nat.le_of_ble_eq_true rfl)) dX1_setBudget_1 ⟨Nat.le_of_ble_eq_true rfl, Nat.le_of_ble_eq_true rfl⟩) hS (fun w H locs hp hP hD hS => ?_)
  have hDk : Dk K ad bad td n M rm k idx w := by rw [hp]; exact hDk
  refine lv_iload_n hx hb dX1_setBudget_4 rfl (lv_at hl 2 rfl) ?_
  refine lv_iconst (v := 0) hx hb dX1_setBudget_5 (by decide) ?_
  refine lv_ldc (v := 100000000) hx hb hown (hts (.constant RX1 47 100000000) (by decide +kernel)) dX1_setBudget_6 ?_
  refine kc_v (va_runS (As := [.int y, .int 0, .int 100000000]) (rest := []) ⟨hx, hb, hml, hown, hts⟩ (c_X1_checkRange hy) (va_cwS 3 hts gX1_setBudget_X1_checkRange rfl rfl rfl (by decide +kernel) ⟨Nat.le_of_ble_eq_true rfl, Nat.le_of_ble_eq_true rfl⟩) (kps hG hP hD hS) rfl rfl hl.1 rfl (lv_room (Nat.le_of_ble_eq_true rfl)) dX1_setBudget_8 ⟨Nat.le_of_ble_eq_true rfl, Nat.le_of_ble_eq_true rfl⟩) hS (fun w H locs hp hP hD hS => ?_)
  have hDk : Dk K ad bad td n M rm k idx w := by rw [hp]; exact hDk
  refine lv_aload_n hx hb dX1_setBudget_11 rfl (lv_at hl 0 rfl) ?_
  refine kget (ci := 2) (C := RX1) (T := TX1) (N := 7) hx hb hts hown hG hP 0 hDk.x rfl hinX1 0 (by decide) (by decide +kernel) rfl dX1_setBudget_12 ?_
  refine lv_iload_n hx hb dX1_setBudget_15 rfl (lv_at hl 1 rfl) ?_
  refine kiald (n := 4) (j := b) hx hb hG hP 1 hDk.a1 (by omega) (by decide) dX1_setBudget_16 ?_
  refine lv_istore_n (lv' := [(3, .int (M 11 b)), (0, .ref (ad 0)), (1, .int (nI b)), (2, .int y)]) hx hb dX1_setBudget_17 rfl hl (by decide) rfl (fun ls hl => ?_)
  refine lv_aload_n hx hb dX1_setBudget_18 rfl (lv_at hl 1 rfl) ?_
  refine kget (ci := 2) (C := RX1) (T := TX1) (N := 7) hx hb hts hown hG hP 0 hDk.x rfl hinX1 0 (by decide) (by decide +kernel) rfl dX1_setBudget_19 ?_
  refine lv_iload_n hx hb dX1_setBudget_22 rfl (lv_at hl 2 rfl) ?_
  refine lv_iload_n hx hb dX1_setBudget_23 rfl (lv_at hl 3 rfl) ?_
  refine kd_ast1 (j := b) hx hb hG hP hD hS hDk (by omega) dX1_setBudget_24 (fun w H locs hDk hP hD hS => ?_)
  refine lv_iload_n hx hb dX1_setBudget_25 rfl (lv_at hl 0 rfl) ?_
  exact kr_i hx hb hr hlocks hP hD hS (Nat.zero_le _) (Nat.zero_le _) (⟨rfl, hDk⟩) dX1_setBudget_26
set_option maxHeartbeats 4000000 in
set_option maxRecDepth 100000 in
theorem c_X1_setLimit_tb {l : Launch} {K : Ks} {A : Nat → Prop} {ad bad : Nat → Nat} {td : Int32} {n : Nat} {M : Nat → Nat → Int32} {rm : Nat → Int32} {k : Nat} {idx : Nat → Nat} {w : va_W} (hDk : Dk K ad bad td n M rm k idx w) (hlt : l.stackTraces = false) {x y z : Int32} (hx4 : ixBad 4 x) : vx_Met l yX1_setLimit wsX1_setLimit (kR 4 1 6) (kPr K A [.ref (ad 0), .int x, .int y, .int z] (w)) kNo (kX K A IOB (fun w1 => Dk K ad bad td n M rm k idx w1)) 1 6 A := by
  refine kentT (cc := cX1_setLimit) (maxL := 6) (ret := (some .int)) (by decide) rfl (Nat.le_of_ble_eq_true rfl) ?_
  intro p e s m args below meth c ls hx hb hr hts hown hlocks hml hxt hG hP hD hS hl
  have hinX1 : ∀ x ∈ wsX10, x ∈ wsX1_setLimit := by decide +kernel
  have hl : lv_has ls 6 [(0, .ref (ad 0)), (1, .int x), (2, .int y), (3, .int z)] := hl
  have hn30 := hDk.n30
  have hk30 := hDk.k30
  refine lv_iload_n hx hb dX1_setLimit_0 rfl (lv_at hl 1 rfl) ?_
  refine lv_iload_n hx hb dX1_setLimit_1 rfl (lv_at hl 2 rfl) ?_
  refine kc_t (vx_runS (As := [.int x, .int y]) (rest := []) ⟨hx, hb, hml, hown, hts⟩ (c_X1_pairOf_tb hlt hx4) (va_cwS 2 hts gX1_setLimit_X1_pairOf rfl rfl rfl (by decide +kernel) ⟨Nat.le_of_ble_eq_true rfl, Nat.le_of_ble_eq_true rfl⟩) (kps hG hP hD hS) rfl rfl hl.1 rfl (lv_room (Nat.le_of_ble_eq_true rfl)) dX1_setLimit_2 ⟨Nat.le_of_ble_eq_true rfl, Nat.le_of_ble_eq_true rfl⟩) hS (fun ce q9 w H locs hp hP hD hS hce hcv hcl => ?_)
  have hDk : Dk K ad bad td n M rm k idx w := by rw [hp]; exact hDk
  exact kr_t hxt hlocks hP hD hS hce hcv hcl (Nat.le_of_ble_eq_true rfl) (Nat.le_of_ble_eq_true rfl) hDk
set_option maxHeartbeats 4000000 in
set_option maxRecDepth 100000 in
theorem c_X1_setLimit_ts {l : Launch} {K : Ks} {A : Nat → Prop} {ad bad : Nat → Nat} {td : Int32} {n : Nat} {M : Nat → Nat → Int32} {rm : Nat → Int32} {k : Nat} {idx : Nat → Nat} {w : va_W} (hDk : Dk K ad bad td n M rm k idx w) (hlt : l.stackTraces = false) {b : Nat} {y : Int32} (hx4 : b < 4) (hx8 : ixBad 8 y) {z : Int32} : vx_Met l yX1_setLimit wsX1_setLimit (kR 4 1 6) (kPr K A [.ref (ad 0), .int (nI b), .int y, .int z] (w)) kNo (kX K A IOB (fun w1 => Dk K ad bad td n M rm k idx w1)) 1 6 A := by
  refine kentT (cc := cX1_setLimit) (maxL := 6) (ret := (some .int)) (by decide) rfl (Nat.le_of_ble_eq_true rfl) ?_
  intro p e s m args below meth c ls hx hb hr hts hown hlocks hml hxt hG hP hD hS hl
  have hinX1 : ∀ x ∈ wsX10, x ∈ wsX1_setLimit := by decide +kernel
  have hl : lv_has ls 6 [(0, .ref (ad 0)), (1, .int (nI b)), (2, .int y), (3, .int z)] := hl
  have hn30 := hDk.n30
  have hk30 := hDk.k30
  refine lv_iload_n hx hb dX1_setLimit_0 rfl (lv_at hl 1 rfl) ?_
  refine lv_iload_n hx hb dX1_setLimit_1 rfl (lv_at hl 2 rfl) ?_
  refine kc_t (vx_runS (As := [.int (nI b), .int y]) (rest := []) ⟨hx, hb, hml, hown, hts⟩ (c_X1_pairOf_ts hlt hx4 hx8) (va_cwS 2 hts gX1_setLimit_X1_pairOf rfl rfl rfl (by decide +kernel) ⟨Nat.le_of_ble_eq_true rfl, Nat.le_of_ble_eq_true rfl⟩) (kps hG hP hD hS) rfl rfl hl.1 rfl (lv_room (Nat.le_of_ble_eq_true rfl)) dX1_setLimit_2 ⟨Nat.le_of_ble_eq_true rfl, Nat.le_of_ble_eq_true rfl⟩) hS (fun ce q9 w H locs hp hP hD hS hce hcv hcl => ?_)
  have hDk : Dk K ad bad td n M rm k idx w := by rw [hp]; exact hDk
  exact kr_t hxt hlocks hP hD hS hce hcv hcl (Nat.le_of_ble_eq_true rfl) (Nat.le_of_ble_eq_true rfl) hDk
set_option maxHeartbeats 4000000 in
set_option maxRecDepth 100000 in
theorem c_X1_setLimit_tr {l : Launch} {K : Ks} {A : Nat → Prop} {ad bad : Nat → Nat} {td : Int32} {n : Nat} {M : Nat → Nat → Int32} {rm : Nat → Int32} {k : Nat} {idx : Nat → Nat} {w : va_W} (hDk : Dk K ad bad td n M rm k idx w) (hlt : l.stackTraces = false) {b o : Nat} (hx4 : b < 4) (hx8 : o < 8) {z : Int32} (hy : ¬ inR 0 100000000 z) : vx_Met l yX1_setLimit wsX1_setLimit (kR 4 1 6) (kPr K A [.ref (ad 0), .int (nI b), .int (nI o), .int z] (w)) kNo (kX K A IAE (fun w1 => Dk K ad bad td n M rm k idx w1)) 1 6 A := by
  refine kentT (cc := cX1_setLimit) (maxL := 6) (ret := (some .int)) (by decide) rfl (Nat.le_of_ble_eq_true rfl) ?_
  intro p e s m args below meth c ls hx hb hr hts hown hlocks hml hxt hG hP hD hS hl
  have hinX1 : ∀ x ∈ wsX10, x ∈ wsX1_setLimit := by decide +kernel
  have hl : lv_has ls 6 [(0, .ref (ad 0)), (1, .int (nI b)), (2, .int (nI o)), (3, .int z)] := hl
  have hn30 := hDk.n30
  have hk30 := hDk.k30
  refine lv_iload_n hx hb dX1_setLimit_0 rfl (lv_at hl 1 rfl) ?_
  refine lv_iload_n hx hb dX1_setLimit_1 rfl (lv_at hl 2 rfl) ?_
  refine kc_i (va_runS (As := [.int (nI b), .int (nI o)]) (rest := []) ⟨hx, hb, hml, hown, hts⟩ (c_X1_pairOf hx4 hx8) (va_cwS 2 hts gX1_setLimit_X1_pairOf rfl rfl rfl (by decide +kernel) ⟨Nat.le_of_ble_eq_true rfl, Nat.le_of_ble_eq_true rfl⟩) (kps hG hP hD hS) rfl rfl hl.1 rfl (lv_room (Nat.le_of_ble_eq_true rfl)) dX1_setLimit_2 ⟨Nat.le_of_ble_eq_true rfl, Nat.le_of_ble_eq_true rfl⟩) hS (fun r2 w H locs hp hP hD hS => ?_)
  have hDk : Dk K ad bad td n M rm k idx w := by rw [hp.2]; exact hDk
  rw [hp.1]
  refine lv_istore (lv' := [(4, .int (nI (8 * b + o))), (0, .ref (ad 0)), (1, .int (nI b)), (2, .int (nI o)), (3, .int z)]) hx hb dX1_setLimit_5 hl (by decide) rfl (fun ls hl => ?_)
  refine lv_iload_n hx hb dX1_setLimit_7 rfl (lv_at hl 4 rfl) ?_
  refine lv_iconst (v := 0) hx hb dX1_setLimit_8 (by decide) ?_
  refine lv_ldc (v := 100000000) hx hb hown (hts (.constant RX1 47 100000000) (by decide +kernel)) dX1_setLimit_9 ?_
  refine kc_t (vx_runS (As := [.int z, .int 0, .int 100000000]) (rest := []) ⟨hx, hb, hml, hown, hts⟩ (c_X1_checkRange_t hlt hy) (va_cwS 3 hts gX1_setLimit_X1_checkRange rfl rfl rfl (by decide +kernel) ⟨Nat.le_of_ble_eq_true rfl, Nat.le_of_ble_eq_true rfl⟩) (kps hG hP hD hS) rfl rfl hl.1 rfl (lv_room (Nat.le_of_ble_eq_true rfl)) dX1_setLimit_11 ⟨Nat.le_of_ble_eq_true rfl, Nat.le_of_ble_eq_true rfl⟩) hS (fun ce q9 w H locs hp hP hD hS hce hcv hcl => ?_)
  have hDk : Dk K ad bad td n M rm k idx w := by rw [hp]; exact hDk
  exact kr_t hxt hlocks hP hD hS hce hcv hcl (Nat.le_of_ble_eq_true rfl) (Nat.le_of_ble_eq_true rfl) hDk
set_option maxHeartbeats 4000000 in
set_option maxRecDepth 100000 in
theorem c_X1_setLimit {l : Launch} {K : Ks} {A : Nat → Prop} {ad bad : Nat → Nat} {td : Int32} {n : Nat} {M : Nat → Nat → Int32} {rm : Nat → Int32} {k : Nat} {idx : Nat → Nat} {w : va_W} (hDk : Dk K ad bad td n M rm k idx w) {b o : Nat} (hx4 : b < 4) (hx8 : o < 8) {z : Int32} (hy : inR 0 100000000 z) : Met l yX1_setLimit wsX1_setLimit (kR 4 0 0) (kPr K A [.ref (ad 0), .int (nI b), .int (nI o), .int z] (w)) (kQi K A (fun r w1 => r = M 12 (8 * b + o) ∧ Dk K ad bad td n (up2 M 12 (8 * b + o) z) rm k idx w1)) 0 0 A := by
  refine kent (cc := cX1_setLimit) (maxL := 6) (ret := (some .int)) (by decide) rfl (Nat.le_of_ble_eq_true rfl) ?_
  intro p e s m args below meth c ls hx hb hr hts hown hlocks hml hini hG hP hD hS hl
  have hinX1 : ∀ x ∈ wsX10, x ∈ wsX1_setLimit := by decide +kernel
  have hl : lv_has ls 6 [(0, .ref (ad 0)), (1, .int (nI b)), (2, .int (nI o)), (3, .int z)] := hl
  have hn30 := hDk.n30
  have hk30 := hDk.k30
  refine lv_iload_n hx hb dX1_setLimit_0 rfl (lv_at hl 1 rfl) ?_
  refine lv_iload_n hx hb dX1_setLimit_1 rfl (lv_at hl 2 rfl) ?_
  refine kc_i (va_runS (As := [.int (nI b), .int (nI o)]) (rest := []) ⟨hx, hb, hml, hown, hts⟩ (c_X1_pairOf hx4 hx8) (va_cwS 2 hts gX1_setLimit_X1_pairOf rfl rfl rfl (by decide +kernel) ⟨Nat.le_of_ble_eq_true rfl, Nat.le_of_ble_eq_true rfl⟩) (kps hG hP hD hS) rfl rfl hl.1 rfl (lv_room (Nat.le_of_ble_eq_true rfl)) dX1_setLimit_2 ⟨Nat.le_of_ble_eq_true rfl, Nat.le_of_ble_eq_true rfl⟩) hS (fun r2 w H locs hp hP hD hS => ?_)
  have hDk : Dk K ad bad td n M rm k idx w := by rw [hp.2]; exact hDk
  rw [hp.1]
  refine lv_istore (lv' := [(4, .int (nI (8 * b + o))), (0, .ref (ad 0)), (1, .int (nI b)), (2, .int (nI o)), (3, .int z)]) hx hb dX1_setLimit_5 hl (by decide) rfl (fun ls hl => ?_)
  refine lv_iload_n hx hb dX1_setLimit_7 rfl (lv_at hl 4 rfl) ?_
  refine lv_iconst (v := 0) hx hb dX1_setLimit_8 (by decide) ?_
  refine lv_ldc (v := 100000000) hx hb hown (hts (.constant RX1 47 100000000) (by decide +kernel)) dX1_setLimit_9 ?_
  refine kc_v (va_runS (As := [.int z, .int 0, .int 100000000]) (rest := []) ⟨hx, hb, hml, hown, hts⟩ (c_X1_checkRange hy) (va_cwS 3 hts gX1_setLimit_X1_checkRange rfl rfl rfl (by decide +kernel) ⟨Nat.le_of_ble_eq_true rfl, Nat.le_of_ble_eq_true rfl⟩) (kps hG hP hD hS) rfl rfl hl.1 rfl (lv_room (Nat.le_of_ble_eq_true rfl)) dX1_setLimit_11 ⟨Nat.le_of_ble_eq_true rfl, Nat.le_of_ble_eq_true rfl⟩) hS (fun w H locs hp hP hD hS => ?_)
  have hDk : Dk K ad bad td n M rm k idx w := by rw [hp]; exact hDk
  refine lv_aload_n hx hb dX1_setLimit_14 rfl (lv_at hl 1 rfl) ?_
  refine kget (ci := 2) (C := RX1) (T := TX1) (N := 7) hx hb hts hown hG hP 0 hDk.x rfl hinX1 1 (by decide) (by decide +kernel) rfl dX1_setLimit_15 ?_
  refine lv_iload hx hb dX1_setLimit_18 (lv_at hl 0 rfl) ?_
  refine kiald (n := 32) (j := (8 * b + o)) hx hb hG hP 2 hDk.a2 (by omega) (by decide) dX1_setLimit_20 ?_
  refine lv_istore (lv' := [(5, .int (M 12 (8 * b + o))), (4, .int (nI (8 * b + o))), (0, .ref (ad 0)), (1, .int (nI b)), (2, .int (nI o)), (3, .int z)]) hx hb dX1_setLimit_21 hl (by decide) rfl (fun ls hl => ?_)
  refine lv_aload_n hx hb dX1_setLimit_23 rfl (lv_at hl 2 rfl) ?_
  refine kget (ci := 2) (C := RX1) (T := TX1) (N := 7) hx hb hts hown hG hP 0 hDk.x rfl hinX1 1 (by decide) (by decide +kernel) rfl dX1_setLimit_24 ?_
  refine lv_iload hx hb dX1_setLimit_27 (lv_at hl 1 rfl) ?_
  refine lv_iload_n hx hb dX1_setLimit_29 rfl (lv_at hl 5 rfl) ?_
  refine kd_ast2 (j := (8 * b + o)) hx hb hG hP hD hS hDk (by omega) dX1_setLimit_30 (fun w H locs hDk hP hD hS => ?_)
  refine lv_iload hx hb dX1_setLimit_31 (lv_at hl 0 rfl) ?_
  exact kr_i hx hb hr hlocks hP hD hS (Nat.zero_le _) (Nat.zero_le _) (⟨rfl, hDk⟩) dX1_setLimit_33
set_option maxHeartbeats 4000000 in
set_option maxRecDepth 100000 in
theorem c_X1_claim_tb {l : Launch} {K : Ks} {A : Nat → Prop} {ad bad : Nat → Nat} {td : Int32} {n : Nat} {M : Nat → Nat → Int32} {rm : Nat → Int32} {k : Nat} {idx : Nat → Nat} {w : va_W} (hDk : Dk K ad bad td n M rm k idx w) (hlt : l.stackTraces = false) {x y : Int32} (hx4 : ixBad 4 x) : vx_Met l yX1_claim wsX1_claim (kR 4 1 6) (kPr K A [.ref (ad 0), .int x, .int y] (w)) kNo (kX K A IOB (fun w1 => Dk K ad bad td n M rm k idx w1)) 1 6 A := by
  refine kentT (cc := cX1_claim) (maxL := 3) (ret := (some .int)) (by decide) rfl (Nat.le_of_ble_eq_true rfl) ?_
  intro p e s m args below meth c ls hx hb hr hts hown hlocks hml hxt hG hP hD hS hl
  have hinX1 : ∀ x ∈ wsX10, x ∈ wsX1_claim := by decide +kernel
  have hl : lv_has ls 3 [(0, .ref (ad 0)), (1, .int x), (2, .int y)] := hl
  have hn30 := hDk.n30
  have hk30 := hDk.k30
  refine lv_aload_n hx hb dX1_claim_0 rfl (lv_at hl 0 rfl) ?_
  refine kget (ci := 2) (C := RX1) (T := TX1) (N := 7) hx hb hts hown hG hP 0 hDk.x rfl hinX1 2 (by decide) (by decide +kernel) rfl dX1_claim_1 ?_
  refine lv_iload_n hx hb dX1_claim_4 rfl (lv_at hl 1 rfl) ?_
  refine lv_iload_n hx hb dX1_claim_5 rfl (lv_at hl 2 rfl) ?_
  refine kc_t (vx_runS (As := [.int x, .int y]) (rest := [.ref (ad 3)]) ⟨hx, hb, hml, hown, hts⟩ (c_X1_pairOf_tb hlt hx4) (va_cwS 2 hts gX1_claim_X1_pairOf rfl rfl rfl (by decide +kernel) ⟨Nat.le_of_ble_eq_true rfl, Nat.le_of_ble_eq_true rfl⟩) (kps hG hP hD hS) rfl rfl hl.1 rfl (lv_room (Nat.le_of_ble_eq_true rfl)) dX1_claim_6 ⟨Nat.le_of_ble_eq_true rfl, Nat.le_of_ble_eq_true rfl⟩) hS (fun ce q9 w H locs hp hP hD hS hce hcv hcl => ?_)
  have hDk : Dk K ad bad td n M rm k idx w := by rw [hp]; exact hDk
  exact kr_t hxt hlocks hP hD hS hce hcv hcl (Nat.le_of_ble_eq_true rfl) (Nat.le_of_ble_eq_true rfl) hDk
set_option maxHeartbeats 4000000 in
set_option maxRecDepth 100000 in
theorem c_X1_claim_ts {l : Launch} {K : Ks} {A : Nat → Prop} {ad bad : Nat → Nat} {td : Int32} {n : Nat} {M : Nat → Nat → Int32} {rm : Nat → Int32} {k : Nat} {idx : Nat → Nat} {w : va_W} (hDk : Dk K ad bad td n M rm k idx w) (hlt : l.stackTraces = false) {b : Nat} {y : Int32} (hx4 : b < 4) (hx8 : ixBad 8 y) : vx_Met l yX1_claim wsX1_claim (kR 4 1 6) (kPr K A [.ref (ad 0), .int (nI b), .int y] (w)) kNo (kX K A IOB (fun w1 => Dk K ad bad td n M rm k idx w1)) 1 6 A := by
  refine kentT (cc := cX1_claim) (maxL := 3) (ret := (some .int)) (by decide) rfl (Nat.le_of_ble_eq_true rfl) ?_
  intro p e s m args below meth c ls hx hb hr hts hown hlocks hml hxt hG hP hD hS hl
  have hinX1 : ∀ x ∈ wsX10, x ∈ wsX1_claim := by decide +kernel
  have hl : lv_has ls 3 [(0, .ref (ad 0)), (1, .int (nI b)), (2, .int y)] := hl
  have hn30 := hDk.n30
  have hk30 := hDk.k30
  refine lv_aload_n hx hb dX1_claim_0 rfl (lv_at hl 0 rfl) ?_
  refine kget (ci := 2) (C := RX1) (T := TX1) (N := 7) hx hb hts hown hG hP 0 hDk.x rfl hinX1 2 (by decide) (by decide +kernel) rfl dX1_claim_1 ?_
  refine lv_iload_n hx hb dX1_claim_4 rfl (lv_at hl 1 rfl) ?_
  refine lv_iload_n hx hb dX1_claim_5 rfl (lv_at hl 2 rfl) ?_
  refine kc_t (vx_runS (As := [.int (nI b), .int y]) (rest := [.ref (ad 3)]) ⟨hx, hb, hml, hown, hts⟩ (c_X1_pairOf_ts hlt hx4 hx8) (va_cwS 2 hts gX1_claim_X1_pairOf rfl rfl rfl (by decide +kernel) ⟨Nat.le_of_ble_eq_true rfl, Nat.le_of_ble_eq_true rfl⟩) (kps hG hP hD hS) rfl rfl hl.1 rfl (lv_room (Nat.le_of_ble_eq_true rfl)) dX1_claim_6 ⟨Nat.le_of_ble_eq_true rfl, Nat.le_of_ble_eq_true rfl⟩) hS (fun ce q9 w H locs hp hP hD hS hce hcv hcl => ?_)
  have hDk : Dk K ad bad td n M rm k idx w := by rw [hp]; exact hDk
  exact kr_t hxt hlocks hP hD hS hce hcv hcl (Nat.le_of_ble_eq_true rfl) (Nat.le_of_ble_eq_true rfl) hDk
set_option maxHeartbeats 4000000 in
set_option maxRecDepth 100000 in
theorem c_X1_claim {l : Launch} {K : Ks} {A : Nat → Prop} {ad bad : Nat → Nat} {td : Int32} {n : Nat} {M : Nat → Nat → Int32} {rm : Nat → Int32} {k : Nat} {idx : Nat → Nat} {w : va_W} (hDk : Dk K ad bad td n M rm k idx w) {b o : Nat} (hx4 : b < 4) (hx8 : o < 8) : Met l yX1_claim wsX1_claim (kR 4 0 0) (kPr K A [.ref (ad 0), .int (nI b), .int (nI o)] (w)) (kQi K A (fun r w1 => r = M 13 (8 * b + o) ∧ Dk K ad bad td n M rm k idx w1)) 0 0 A := by
  refine kent (cc := cX1_claim) (maxL := 3) (ret := (some .int)) (by decide) rfl (Nat.le_of_ble_eq_true rfl) ?_
  intro p e s m args below meth c ls hx hb hr hts hown hlocks hml hini hG hP hD hS hl
  have hinX1 : ∀ x ∈ wsX10, x ∈ wsX1_claim := by decide +kernel
  have hl : lv_has ls 3 [(0, .ref (ad 0)), (1, .int (nI b)), (2, .int (nI o))] := hl
  have hn30 := hDk.n30
  have hk30 := hDk.k30
  refine lv_aload_n hx hb dX1_claim_0 rfl (lv_at hl 0 rfl) ?_
  refine kget (ci := 2) (C := RX1) (T := TX1) (N := 7) hx hb hts hown hG hP 0 hDk.x rfl hinX1 2 (by decide) (by decide +kernel) rfl dX1_claim_1 ?_
  refine lv_iload_n hx hb dX1_claim_4 rfl (lv_at hl 1 rfl) ?_
  refine lv_iload_n hx hb dX1_claim_5 rfl (lv_at hl 2 rfl) ?_
  refine kc_i (va_runS (As := [.int (nI b), .int (nI o)]) (rest := [.ref (ad 3)]) ⟨hx, hb, hml, hown, hts⟩ (c_X1_pairOf hx4 hx8) (va_cwS 2 hts gX1_claim_X1_pairOf rfl rfl rfl (by decide +kernel) ⟨Nat.le_of_ble_eq_true rfl, Nat.le_of_ble_eq_true rfl⟩) (kps hG hP hD hS) rfl rfl hl.1 rfl (lv_room (Nat.le_of_ble_eq_true rfl)) dX1_claim_6 ⟨Nat.le_of_ble_eq_true rfl, Nat.le_of_ble_eq_true rfl⟩) hS (fun r6 w H locs hp hP hD hS => ?_)
  have hDk : Dk K ad bad td n M rm k idx w := by rw [hp.2]; exact hDk
  rw [hp.1]
  refine kiald (n := 32) (j := (8 * b + o)) hx hb hG hP 3 hDk.a3 (by omega) (by decide) dX1_claim_9 ?_
  exact kr_i hx hb hr hlocks hP hD hS (Nat.zero_le _) (Nat.zero_le _) (⟨rfl, hDk⟩) dX1_claim_10
