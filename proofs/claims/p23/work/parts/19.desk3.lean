/-! The class, 3: payments, what a bill may do -/
/-- a payment in the class's order -/
def payD (M : Nat → Nat → Int32) (i : Nat) (sm : Int32) : Nat → Nat → Int32 := up2 (up2 (up2 M 8 i sm) 9 i (payH M i sm)) 13 (pr M i) (M 13 (pr M i) - payH M i sm)
theorem up2_comm (M : Nat → Nat → Int32) {f g : Nat} (h : f ≠ g) {i j : Nat} {v u : Int32} : up2 (up2 M f i v) g j u = up2 (up2 M g j u) f i v := by
  have h' := Ne.symm h
  funext x y
  by_cases h1 : x = f
  · subst h1; simp [up2, va_up, h, h']
  · by_cases h2 : x = g
    · subst h2; simp [up2, va_up, h, h']
    · simp [up2, va_up, h1, h2]
theorem payD_6 (M : Nat → Nat → Int32) (i : Nat) (sm how : Int32) : payD (up2 M 6 i how) i sm = payM M i sm how := by
  rw [← payM_m]
  funext x y
  unfold payD payH pr bu su
  by_cases h6 : x = 6
  · subst h6; simp [up2, va_up]
  · by_cases h8 : x = 8
    · subst h8; simp [up2, va_up]
    · by_cases h9 : x = 9
      · subst h9; simp [up2, va_up]
      · by_cases h13 : x = 13
        · subst h13; simp [up2, va_up]
        · simp [up2, va_up, h6, h8, h9, h13]
set_option maxHeartbeats 4000000 in
set_option maxRecDepth 100000 in
theorem c_X1_pay {l : Launch} {K : Ks} {A : Nat → Prop} {ad bad : Nat → Nat} {td : Int32} {n : Nat} {M : Nat → Nat → Int32} {rm : Nat → Int32} {k : Nat} {idx : Nat → Nat} {w : va_W} (hDk : Dk K ad bad td n M rm k idx w) {i : Nat} (hi : i < n) (hm : okP M i) {sm : Int32} : Met l yX1_pay wsX1_pay (kR 2 0 0) (kPr K A [.ref (ad 0), .ref (bad i), .int sm] (w)) (kQv K A (fun w1 => Dk K ad bad td n (payD M i sm) rm k idx w1)) 0 0 A := by
  refine kent (cc := cX1_pay) (maxL := 5) (ret := none) (by decide) rfl (Nat.le_of_ble_eq_true rfl) ?_
  intro p e s m args below meth c ls hx hb hr hts hown hlocks hml hini hG hP hD hS hl
  have hinX0 : ∀ x ∈ wsX00, x ∈ wsX1_pay := by decide +kernel
  have hinX1 : ∀ x ∈ wsX10, x ∈ wsX1_pay := by decide +kernel
  have hl : lv_has ls 5 [(0, .ref (ad 0)), (1, .ref (bad i)), (2, .int sm)] := hl
  have hn30 := hDk.n30
  have hk30 := hDk.k30
  refine lv_aload_n hx hb dX1_pay_0 rfl (lv_at hl 1 rfl) ?_
  refine kd_get hx hb hts hown hG hP hDk hi hinX0 1 (by decide) (by decide +kernel) rfl dX1_pay_1 ?_
  refine ktop (z := nI (bu M i)) (hm.1) ?_
  refine lv_aload_n hx hb dX1_pay_4 rfl (lv_at hl 1 rfl) ?_
  refine kd_get hx hb hts hown hG hP hDk hi hinX0 2 (by decide) (by decide +kernel) rfl dX1_pay_5 ?_
  refine ktop (z := nI (su M i)) (hm.2.2.1) ?_
  refine kc_i (va_runS (As := [.int (nI (bu M i)), .int (nI (su M i))]) (rest := []) ⟨hx, hb, hml, hown, hts⟩ (c_X1_pairOf hm.2.1 hm.2.2.2) (va_cwS 2 hts gX1_pay_X1_pairOf rfl rfl rfl (by decide +kernel) ⟨Nat.le_of_ble_eq_true rfl, Nat.le_of_ble_eq_true rfl⟩) (kps hG hP hD hS) rfl rfl hl.1 rfl (lv_room (Nat.le_of_ble_eq_true rfl)) dX1_pay_8 ⟨Nat.le_of_ble_eq_true rfl, Nat.le_of_ble_eq_true rfl⟩) hS (fun r8 w H locs hp hP hD hS => ?_)
  have hDk : Dk K ad bad td n M rm k idx w := by rw [hp.2]; exact hDk
  rw [hp.1, show 8 * bu M i + su M i = pr M i from rfl]
  refine lv_istore_n (lv' := [(3, .int (nI (pr M i))), (0, .ref (ad 0)), (1, .ref (bad i)), (2, .int sm)]) hx hb dX1_pay_11 rfl hl (by decide) rfl (fun ls hl => ?_)
  refine lv_iload_n hx hb dX1_pay_12 rfl (lv_at hl 3 rfl) ?_
  refine lv_aload_n hx hb dX1_pay_13 rfl (lv_at hl 1 rfl) ?_
  refine kget (ci := 2) (C := RX1) (T := TX1) (N := 7) hx hb hts hown hG hP 0 hDk.x rfl hinX1 2 (by decide) (by decide +kernel) rfl dX1_pay_14 ?_
  refine lv_iload_n hx hb dX1_pay_17 rfl (lv_at hl 0 rfl) ?_
  refine kiald (n := 32) (j := (pr M i)) hx hb hG hP 3 hDk.a3 hm.lt (by decide) dX1_pay_18 ?_
  refine va_mmin hx hb (hml.trans hl.1.symm) hown (hts (.methodLink RX1 202 Lib.Math.min.name) (by decide +kernel)) (hts (.static Lib.Math.min.name) (by decide +kernel)) (hts (.initialized "java/lang/Math") (by decide +kernel)) (hts (.code Lib.Math.min.name Lib.Math.min.code 2 (some .int)) (by decide +kernel)) (Nat.le_of_ble_eq_true rfl) (Nat.le_of_ble_eq_true rfl) (Nat.zero_le _) (Nat.zero_le _) dX1_pay_19 ?_
  refine ktop (z := (payH M i sm)) rfl ?_
  refine lv_istore (lv' := [(4, .int (payH M i sm)), (3, .int (nI (pr M i))), (0, .ref (ad 0)), (1, .ref (bad i)), (2, .int sm)]) hx hb dX1_pay_22 hl (by decide) rfl (fun ls hl => ?_)
  refine lv_aload_n hx hb dX1_pay_24 rfl (lv_at hl 3 rfl) ?_
  refine lv_iload_n hx hb dX1_pay_25 rfl (lv_at hl 4 rfl) ?_
  refine kd_put (f := 8) hx hb hts hown hG hP hD hS hDk hi hinX0 7 (by decide) (by decide +kernel) (by decide +kernel) (by decide +kernel) (by unfold slotF; decide) dX1_pay_26 (fun w H locs hDk hP hD hS => ?_)
  refine lv_aload_n hx hb dX1_pay_29 rfl (lv_at hl 3 rfl) ?_
  refine lv_iload hx hb dX1_pay_30 (lv_at hl 0 rfl) ?_
  refine kd_put (f := 9) hx hb hts hown hG hP hD hS hDk hi hinX0 8 (by decide) (by decide +kernel) (by decide +kernel) (by decide +kernel) (by unfold slotF; decide) dX1_pay_32 (fun w H locs hDk hP hD hS => ?_)
  refine lv_aload_n hx hb dX1_pay_35 rfl (lv_at hl 2 rfl) ?_
  refine kget (ci := 2) (C := RX1) (T := TX1) (N := 7) hx hb hts hown hG hP 0 hDk.x rfl hinX1 2 (by decide) (by decide +kernel) rfl dX1_pay_36 ?_
  refine lv_iload_n hx hb dX1_pay_39 rfl (lv_at hl 1 rfl) ?_
  refine lv_dup2_11 hx hb dX1_pay_40 rfl rfl ?_
  refine kiald (n := 32) (j := (pr M i)) hx hb hG hP 3 hDk.a3 hm.lt (by decide) dX1_pay_41 ?_
  refine lv_iload hx hb dX1_pay_42 (lv_at hl 0 rfl) ?_
  refine lv_isub hx hb dX1_pay_44 ?_
  refine kd_ast3 (j := (pr M i)) hx hb hG hP hD hS hDk hm.lt dX1_pay_45 (fun w H locs hDk hP hD hS => ?_)
  exact kr_v hx hb hr hlocks hP hD hS (Nat.zero_le _) (Nat.zero_le _) (hDk) dX1_pay_46
set_option maxHeartbeats 4000000 in
set_option maxRecDepth 100000 in
theorem c_X1_payWhenDue {l : Launch} {K : Ks} {A : Nat → Prop} {ad bad : Nat → Nat} {td : Int32} {n : Nat} {M : Nat → Nat → Int32} {rm : Nat → Int32} {k : Nat} {idx : Nat → Nat} {w : va_W} (hDk : Dk K ad bad td n M rm k idx w) {i : Nat} (hi : i < n) (hm : okP M i) : Met l yX1_payWhenDue wsX1_payWhenDue (kR 3 0 0) (kPr K A [.ref (ad 0), .ref (bad i)] (w)) (kQv K A (fun w1 => Dk K ad bad td n (payM M i (M 4 i) 4) rm k idx w1)) 0 0 A := by
  refine kent (cc := cX1_payWhenDue) (maxL := 2) (ret := none) (by decide) rfl (Nat.le_of_ble_eq_true rfl) ?_
  intro p e s m args below meth c ls hx hb hr hts hown hlocks hml hini hG hP hD hS hl
  have hinX0 : ∀ x ∈ wsX00, x ∈ wsX1_payWhenDue := by decide +kernel
  have hl : lv_has ls 2 [(0, .ref (ad 0)), (1, .ref (bad i))] := hl
  have hn30 := hDk.n30
  have hk30 := hDk.k30
  refine lv_aload_n hx hb dX1_payWhenDue_0 rfl (lv_at hl 1 rfl) ?_
  refine lv_iconst (v := 4) hx hb dX1_payWhenDue_1 (by decide) ?_
  refine kd_put (f := 6) hx hb hts hown hG hP hD hS hDk hi hinX0 5 (by decide) (by decide +kernel) (by decide +kernel) (by decide +kernel) (by unfold slotF; decide) dX1_payWhenDue_2 (fun w H locs hDk hP hD hS => ?_)
  refine lv_aload_n hx hb dX1_payWhenDue_5 rfl (lv_at hl 0 rfl) ?_
  refine lv_aload_n hx hb dX1_payWhenDue_6 rfl (lv_at hl 1 rfl) ?_
  refine lv_aload_n hx hb dX1_payWhenDue_7 rfl (lv_at hl 1 rfl) ?_
  refine kd_get hx hb hts hown hG hP hDk hi hinX0 4 (by decide) (by decide +kernel) rfl dX1_payWhenDue_8 ?_
  refine kc_v (va_runV (As := [.ref (bad i), .int ((up2 M 6 i 4) 4 i)]) (rest := []) ⟨hx, hb, hml, hown, hts⟩ (c_X1_pay hDk hi (okP_of (N := up2 M 6 i 4) rfl rfl hm)) (cwV 2 hts gX1_payWhenDue_X1_pay rfl rfl rfl (by decide +kernel) ⟨Nat.le_of_ble_eq_true rfl, Nat.le_of_ble_eq_true rfl⟩) (kpv (q0 := 0) hG hP hD hS hDk.x rfl) rfl rfl hl.1 rfl (lv_room (Nat.le_of_ble_eq_true rfl)) dX1_payWhenDue_11 ⟨Nat.le_of_ble_eq_true rfl, Nat.le_of_ble_eq_true rfl⟩) hS (fun w H locs hp hP hD hS => ?_)
  have hDk : Dk K ad bad td n (payD (up2 M 6 i 4) i (M 4 i)) rm k idx w := hp
  exact kr_v hx hb hr hlocks hP hD hS (Nat.zero_le _) (Nat.zero_le _) (by rw [← payD_6]; exact hDk) dX1_payWhenDue_14
set_option maxHeartbeats 4000000 in
set_option maxRecDepth 100000 in
theorem c_X1_payEarly {l : Launch} {K : Ks} {A : Nat → Prop} {ad bad : Nat → Nat} {td : Int32} {n : Nat} {M : Nat → Nat → Int32} {rm : Nat → Int32} {k : Nat} {idx : Nat → Nat} {w : va_W} (hDk : Dk K ad bad td n M rm k idx w) {i : Nat} (hi : i < n) (hm : okP M i) : Met l yX1_payEarly wsX1_payEarly (kR 3 0 0) (kPr K A [.ref (ad 0), .ref (bad i)] (w)) (kQv K A (fun w1 => Dk K ad bad td n (payM (up2 M 11 (bu M i) (M 11 (bu M i) - price td M i)) i (price td M i) 3) rm k idx w1)) 0 0 A := by
  refine kent (cc := cX1_payEarly) (maxL := 3) (ret := none) (by decide) rfl (Nat.le_of_ble_eq_true rfl) ?_
  intro p e s m args below meth c ls hx hb hr hts hown hlocks hml hini hG hP hD hS hl
  have hinX0 : ∀ x ∈ wsX00, x ∈ wsX1_payEarly := by decide +kernel
  have hinX1 : ∀ x ∈ wsX10, x ∈ wsX1_payEarly := by decide +kernel
  have hl : lv_has ls 3 [(0, .ref (ad 0)), (1, .ref (bad i))] := hl
  have hn30 := hDk.n30
  have hk30 := hDk.k30
  refine lv_aload_n hx hb dX1_payEarly_0 rfl (lv_at hl 1 rfl) ?_
  refine lv_aload_n hx hb dX1_payEarly_1 rfl (lv_at hl 0 rfl) ?_
  refine kget (ci := 2) (C := RX1) (T := TX1) (N := 7) hx hb hts hown hG hP 0 hDk.x rfl hinX1 4 (by decide) (by decide +kernel) rfl dX1_payEarly_2 ?_
  obtain ⟨q5, hq5, -⟩ := hDk.bill hi
  refine kc_i (va_runV (As := [.int td]) (rest := []) ⟨hx, hb, hml, hown, hts⟩ (c_X0_priceOn hq5) (cwV 1 hts gX1_payEarly_X0_priceOn rfl rfl rfl (by decide +kernel) ⟨Nat.le_of_ble_eq_true rfl, Nat.le_of_ble_eq_true rfl⟩) (kpv (q0 := q5) hG hP hD hS hq5 rfl) rfl rfl hl.1 rfl (lv_room (Nat.le_of_ble_eq_true rfl)) dX1_payEarly_5 ⟨Nat.le_of_ble_eq_true rfl, Nat.le_of_ble_eq_true rfl⟩) hS (fun r5 w H locs hp hP hD hS => ?_)
  have hDk : Dk K ad bad td n M rm k idx w := by rw [hp.2]; exact hDk
  rw [hp.1]
  refine lv_istore_n (lv' := [(2, .int (price td M i)), (0, .ref (ad 0)), (1, .ref (bad i))]) hx hb dX1_payEarly_8 rfl hl (by decide) rfl (fun ls hl => ?_)
  refine lv_aload_n hx hb dX1_payEarly_9 rfl (lv_at hl 2 rfl) ?_
  refine lv_iconst (v := 3) hx hb dX1_payEarly_10 (by decide) ?_
  refine kd_put (f := 6) hx hb hts hown hG hP hD hS hDk hi hinX0 5 (by decide) (by decide +kernel) (by decide +kernel) (by decide +kernel) (by unfold slotF; decide) dX1_payEarly_11 (fun w H locs hDk hP hD hS => ?_)
  refine lv_aload_n hx hb dX1_payEarly_14 rfl (lv_at hl 1 rfl) ?_
  refine kget (ci := 2) (C := RX1) (T := TX1) (N := 7) hx hb hts hown hG hP 0 hDk.x rfl hinX1 0 (by decide) (by decide +kernel) rfl dX1_payEarly_15 ?_
  refine lv_aload_n hx hb dX1_payEarly_18 rfl (lv_at hl 2 rfl) ?_
  refine kd_get hx hb hts hown hG hP hDk hi hinX0 1 (by decide) (by decide +kernel) rfl dX1_payEarly_19 ?_
  refine ktop (z := nI (bu M i)) (hm.1) ?_
  refine lv_dup2_11 hx hb dX1_payEarly_22 rfl rfl ?_
  refine kiald (n := 4) (j := (bu M i)) hx hb hG hP 1 hDk.a1 hm.2.1 (by decide) dX1_payEarly_23 ?_
  refine lv_iload_n hx hb dX1_payEarly_24 rfl (lv_at hl 0 rfl) ?_
  refine lv_isub hx hb dX1_payEarly_25 ?_
  refine kd_ast1 (j := (bu M i)) hx hb hG hP hD hS hDk hm.2.1 dX1_payEarly_26 (fun w H locs hDk hP hD hS => ?_)
  refine lv_aload_n hx hb dX1_payEarly_27 rfl (lv_at hl 1 rfl) ?_
  refine lv_aload_n hx hb dX1_payEarly_28 rfl (lv_at hl 2 rfl) ?_
  refine lv_iload_n hx hb dX1_payEarly_29 rfl (lv_at hl 0 rfl) ?_
  refine kc_v (va_runV (As := [.ref (bad i), .int (price td M i)]) (rest := []) ⟨hx, hb, hml, hown, hts⟩ (c_X1_pay hDk hi (okP_of (N := (up2 (up2 M 6 i 3) 11 (bu M i) (M 11 (bu M i) - price td M i))) rfl rfl hm)) (cwV 2 hts gX1_payEarly_X1_pay rfl rfl rfl (by decide +kernel) ⟨Nat.le_of_ble_eq_true rfl, Nat.le_of_ble_eq_true rfl⟩) (kpv (q0 := 0) hG hP hD hS hDk.x rfl) rfl rfl hl.1 rfl (lv_room (Nat.le_of_ble_eq_true rfl)) dX1_payEarly_30 ⟨Nat.le_of_ble_eq_true rfl, Nat.le_of_ble_eq_true rfl⟩) hS (fun w H locs hp hP hD hS => ?_)
  have hDk : Dk K ad bad td n (payD (up2 (up2 M 6 i 3) 11 (bu M i) (M 11 (bu M i) - price td M i)) i (price td M i)) rm k idx w := hp
  exact kr_v hx hb hr hlocks hP hD hS (Nat.zero_le _) (Nat.zero_le _) (by rw [← payD_6, up2_comm M (by decide : (11 : Nat) ≠ 6)]; exact hDk) dX1_payEarly_33
set_option maxHeartbeats 4000000 in
set_option maxRecDepth 100000 in
theorem c_X1_approve_tb {l : Launch} {K : Ks} {A : Nat → Prop} {ad bad : Nat → Nat} {td : Int32} {n : Nat} {M : Nat → Nat → Int32} {rm : Nat → Int32} {k : Nat} {idx : Nat → Nat} {w : va_W} (hDk : Dk K ad bad td n M rm k idx w) (hlt : l.stackTraces = false) {x : Int32} (hix : ixBad n x) : vx_Met l yX1_approve wsX1_approve (kR 4 1 6) (kPr K A [.ref (ad 0), .int x] (w)) kNo (kX K A IOB (fun w1 => Dk K ad bad td n M rm k idx w1)) 1 6 A := by
  refine kentT (cc := cX1_approve) (maxL := 4) (ret := (some .boolean)) (by decide) rfl (Nat.le_of_ble_eq_true rfl) ?_
  intro p e s m args below meth c ls hx hb hr hts hown hlocks hml hxt hG hP hD hS hl
  have hinX0 : ∀ x ∈ wsX00, x ∈ wsX1_approve := by decide +kernel
  have hinX1 : ∀ x ∈ wsX10, x ∈ wsX1_approve := by decide +kernel
  have hl : lv_has ls 4 [(0, .ref (ad 0)), (1, .int x)] := hl
  have hn30 := hDk.n30
  have hk30 := hDk.k30
  refine lv_aload_n hx hb dX1_approve_0 rfl (lv_at hl 0 rfl) ?_
  refine lv_iload_n hx hb dX1_approve_1 rfl (lv_at hl 1 rfl) ?_
  refine kc_t (vx_runV (As := [.int x]) (rest := []) ⟨hx, hb, hml, hown, hts⟩ (c_X1_billAt_t hDk hlt hix) (cwV 1 hts gX1_approve_X1_billAt rfl rfl rfl (by decide +kernel) ⟨Nat.le_of_ble_eq_true rfl, Nat.le_of_ble_eq_true rfl⟩) (kpv (q0 := 0) hG hP hD hS hDk.x rfl) rfl rfl hl.1 rfl (lv_room (Nat.le_of_ble_eq_true rfl)) dX1_approve_2 ⟨Nat.le_of_ble_eq_true rfl, Nat.le_of_ble_eq_true rfl⟩) hS (fun ce q9 w H locs hp hP hD hS hce hcv hcl => ?_)
  have hDk : Dk K ad bad td n M rm k idx w := hp
  exact kr_t hxt hlocks hP hD hS hce hcv hcl (Nat.le_of_ble_eq_true rfl) (Nat.le_of_ble_eq_true rfl) hDk
set_option maxHeartbeats 4000000 in
set_option maxRecDepth 100000 in
theorem c_X1_approve_tp {l : Launch} {K : Ks} {A : Nat → Prop} {ad bad : Nat → Nat} {td : Int32} {n : Nat} {M : Nat → Nat → Int32} {rm : Nat → Int32} {k : Nat} {idx : Nat → Nat} {w : va_W} (hDk : Dk K ad bad td n M rm k idx w) (hlt : l.stackTraces = false) {i : Nat} (hi : i < n) (hst : ¬ (M 6 i = 0 ∨ M 6 i = 2)) : vx_Met l yX1_approve wsX1_approve (kR 4 1 6) (kPr K A [.ref (ad 0), .int (nI i)] (w)) kNo (kX K A ISE (fun w1 => Dk K ad bad td n M rm k idx w1)) 1 6 A := by
  refine kentT (cc := cX1_approve) (maxL := 4) (ret := (some .boolean)) (by decide) rfl (Nat.le_of_ble_eq_true rfl) ?_
  intro p e s m args below meth c ls hx hb hr hts hown hlocks hml hxt hG hP hD hS hl
  have hinX0 : ∀ x ∈ wsX00, x ∈ wsX1_approve := by decide +kernel
  have hinX1 : ∀ x ∈ wsX10, x ∈ wsX1_approve := by decide +kernel
  have hl : lv_has ls 4 [(0, .ref (ad 0)), (1, .int (nI i))] := hl
  have hn30 := hDk.n30
  have hk30 := hDk.k30
  refine lv_aload_n hx hb dX1_approve_0 rfl (lv_at hl 0 rfl) ?_
  refine lv_iload_n hx hb dX1_approve_1 rfl (lv_at hl 1 rfl) ?_
  refine kc_r (va_runV (As := [.int (nI i)]) (rest := []) ⟨hx, hb, hml, hown, hts⟩ (c_X1_billAt hDk hi) (cwV 1 hts gX1_approve_X1_billAt rfl rfl rfl (by decide +kernel) ⟨Nat.le_of_ble_eq_true rfl, Nat.le_of_ble_eq_true rfl⟩) (kpv (q0 := 0) hG hP hD hS hDk.x rfl) rfl rfl hl.1 rfl (lv_room (Nat.le_of_ble_eq_true rfl)) dX1_approve_2 ⟨Nat.le_of_ble_eq_true rfl, Nat.le_of_ble_eq_true rfl⟩) hS (fun r2 w H locs hp hP hD hS => ?_)
  have hDk : Dk K ad bad td n M rm k idx w := hp.2
  rw [hp.1]
  refine lv_astore_n (lv' := [(2, .ref (bad i)), (0, .ref (ad 0)), (1, .int (nI i))]) hx hb dX1_approve_5 rfl hl (by decide) rfl (fun ls hl => ?_)
  refine lv_aload_n hx hb dX1_approve_6 rfl (lv_at hl 0 rfl) ?_
  refine kd_get hx hb hts hown hG hP hDk hi hinX0 5 (by decide) (by decide +kernel) rfl dX1_approve_7 ?_
  refine lv_if_eq (tgt := 21) hx hb dX1_approve_10 (by decide) (fun h10 => False.elim (hst (Or.inl h10))) (fun h10 => ?_)
  refine lv_aload_n hx hb dX1_approve_13 rfl (lv_at hl 0 rfl) ?_
  refine kd_get hx hb hts hown hG hP hDk hi hinX0 5 (by decide) (by decide +kernel) rfl dX1_approve_14 ?_
  refine lv_iconst (v := 2) hx hb dX1_approve_17 (by decide) ?_
  refine lv_icmp_ne (tgt := 25) hx hb dX1_approve_18 (by decide) (fun h18 => ?_) (fun h18 => False.elim (hst (Or.inr h18)))
  refine lv_iconst (v := 0) hx hb dX1_approve_25 (by decide) ?_
  refine kc_t (vx_runS (As := [.int 0]) (rest := []) ⟨hx, hb, hml, hown, hts⟩ (c_X1_checkPossible_t hlt) (va_cwS 1 hts gX1_approve_X1_checkPossible rfl rfl rfl (by decide +kernel) ⟨Nat.le_of_ble_eq_true rfl, Nat.le_of_ble_eq_true rfl⟩) (kps hG hP hD hS) rfl rfl hl.1 rfl (lv_room (Nat.le_of_ble_eq_true rfl)) dX1_approve_26 ⟨Nat.le_of_ble_eq_true rfl, Nat.le_of_ble_eq_true rfl⟩) hS (fun ce q9 w H locs hp hP hD hS hce hcv hcl => ?_)
  have hDk : Dk K ad bad td n M rm k idx w := by rw [hp]; exact hDk
  exact kr_t hxt hlocks hP hD hS hce hcv hcl (Nat.le_of_ble_eq_true rfl) (Nat.le_of_ble_eq_true rfl) hDk
set_option maxHeartbeats 4000000 in
set_option maxRecDepth 100000 in
theorem c_X1_approve_p {l : Launch} {K : Ks} {A : Nat → Prop} {ad bad : Nat → Nat} {td : Int32} {n : Nat} {M : Nat → Nat → Int32} {rm : Nat → Int32} {k : Nat} {idx : Nat → Nat} {w : va_W} (hDk : Dk K ad bad td n M rm k idx w) {i : Nat} (hi : i < n) (hm : okP M i) (hst : M 6 i = 0 ∨ M 6 i = 2) (hdue : M 5 i ≤ td) : Met l yX1_approve wsX1_approve (kR 4 0 0) (kPr K A [.ref (ad 0), .int (nI i)] (w)) (kQi K A (fun r w1 => r = 1 ∧ Dk K ad bad td n (payM M i (M 4 i) 4) rm k idx w1)) 0 0 A := by
  refine kent (cc := cX1_approve) (maxL := 4) (ret := (some .boolean)) (by decide) rfl (Nat.le_of_ble_eq_true rfl) ?_
  intro p e s m args below meth c ls hx hb hr hts hown hlocks hml hini hG hP hD hS hl
  have hinX0 : ∀ x ∈ wsX00, x ∈ wsX1_approve := by decide +kernel
  have hinX1 : ∀ x ∈ wsX10, x ∈ wsX1_approve := by decide +kernel
  have hl : lv_has ls 4 [(0, .ref (ad 0)), (1, .int (nI i))] := hl
  have hn30 := hDk.n30
  have hk30 := hDk.k30
  refine lv_aload_n hx hb dX1_approve_0 rfl (lv_at hl 0 rfl) ?_
  refine lv_iload_n hx hb dX1_approve_1 rfl (lv_at hl 1 rfl) ?_
  refine kc_r (va_runV (As := [.int (nI i)]) (rest := []) ⟨hx, hb, hml, hown, hts⟩ (c_X1_billAt hDk hi) (cwV 1 hts gX1_approve_X1_billAt rfl rfl rfl (by decide +kernel) ⟨Nat.le_of_ble_eq_true rfl, Nat.le_of_ble_eq_true rfl⟩) (kpv (q0 := 0) hG hP hD hS hDk.x rfl) rfl rfl hl.1 rfl (lv_room (Nat.le_of_ble_eq_true rfl)) dX1_approve_2 ⟨Nat.le_of_ble_eq_true rfl, Nat.le_of_ble_eq_true rfl⟩) hS (fun r2 w H locs hp hP hD hS => ?_)
  have hDk : Dk K ad bad td n M rm k idx w := hp.2
  rw [hp.1]
  refine lv_astore_n (lv' := [(2, .ref (bad i)), (0, .ref (ad 0)), (1, .int (nI i))]) hx hb dX1_approve_5 rfl hl (by decide) rfl (fun ls hl => ?_)
  refine lv_aload_n hx hb dX1_approve_6 rfl (lv_at hl 0 rfl) ?_
  refine kd_get hx hb hts hown hG hP hDk hi hinX0 5 (by decide) (by decide +kernel) rfl dX1_approve_7 ?_
  refine lv_if_eq (tgt := 21) hx hb dX1_approve_10 (by decide) (fun h10 => ?_) (fun h10 => ?_)
  · refine lv_iconst (v := 1) hx hb dX1_approve_21 (by decide) ?_
    refine lv_goto (tgt := 26) hx hb dX1_approve_22 (by decide) ?_
    refine kc_v (va_runS (As := [.int 1]) (rest := []) ⟨hx, hb, hml, hown, hts⟩ (c_X1_checkPossible) (va_cwS 1 hts gX1_approve_X1_checkPossible rfl rfl rfl (by decide +kernel) ⟨Nat.le_of_ble_eq_true rfl, Nat.le_of_ble_eq_true rfl⟩) (kps hG hP hD hS) rfl rfl hl.1 rfl (lv_room (Nat.le_of_ble_eq_true rfl)) dX1_approve_26 ⟨Nat.le_of_ble_eq_true rfl, Nat.le_of_ble_eq_true rfl⟩) hS (fun w H locs hp hP hD hS => ?_)
    have hDk : Dk K ad bad td n M rm k idx w := by rw [hp]; exact hDk
    refine lv_aload_n hx hb dX1_approve_29 rfl (lv_at hl 0 rfl) ?_
    refine kd_get hx hb hts hown hG hP hDk hi hinX0 3 (by decide) (by decide +kernel) rfl dX1_approve_30 ?_
    refine lv_aload_n hx hb dX1_approve_33 rfl (lv_at hl 1 rfl) ?_
    refine kget (ci := 2) (C := RX1) (T := TX1) (N := 7) hx hb hts hown hG hP 0 hDk.x rfl hinX1 4 (by decide) (by decide +kernel) rfl dX1_approve_34 ?_
    refine lv_icmp_gt (tgt := 44) hx hb dX1_approve_37 (by decide) (fun h37 => False.elim (absurd hdue (i32_nle.mpr h37))) (fun h37 => ?_)
    refine lv_iconst (v := 1) hx hb dX1_approve_40 (by decide) ?_
    refine lv_goto (tgt := 45) hx hb dX1_approve_41 (by decide) ?_
    refine lv_istore_n (lv' := [(3, .int 1), (2, .ref (bad i)), (0, .ref (ad 0)), (1, .int (nI i))]) hx hb dX1_approve_45 rfl hl (by decide) rfl (fun ls hl => ?_)
    refine lv_iload_n hx hb dX1_approve_46 rfl (lv_at hl 0 rfl) ?_
    refine lv_if_eq (tgt := 58) hx hb dX1_approve_47 (by decide) (fun h47 => False.elim (absurd h47 (by decide))) (fun h47 => ?_)
    refine lv_aload_n hx hb dX1_approve_50 rfl (lv_at hl 2 rfl) ?_
    refine lv_aload_n hx hb dX1_approve_51 rfl (lv_at hl 1 rfl) ?_
    refine kc_v (va_runV (As := [.ref (bad i)]) (rest := []) ⟨hx, hb, hml, hown, hts⟩ (c_X1_payWhenDue hDk hi hm) (cwV 1 hts gX1_approve_X1_payWhenDue rfl rfl rfl (by decide +kernel) ⟨Nat.le_of_ble_eq_true rfl, Nat.le_of_ble_eq_true rfl⟩) (kpv (q0 := 0) hG hP hD hS hDk.x rfl) rfl rfl hl.1 rfl (lv_room (Nat.le_of_ble_eq_true rfl)) dX1_approve_52 ⟨Nat.le_of_ble_eq_true rfl, Nat.le_of_ble_eq_true rfl⟩) hS (fun w H locs hp hP hD hS => ?_)
    have hDk : Dk K ad bad td n (payM M i (M 4 i) 4) rm k idx w := hp
    refine lv_goto (tgt := 63) hx hb dX1_approve_55 (by decide) ?_
    refine lv_iload_n hx hb dX1_approve_63 rfl (lv_at hl 0 rfl) ?_
    exact kr_z hx hb hr hlocks hP hD hS (Nat.zero_le _) (Nat.zero_le _) (Or.inr rfl) (⟨rfl, hDk⟩) dX1_approve_64
  · refine lv_aload_n hx hb dX1_approve_13 rfl (lv_at hl 0 rfl) ?_
    refine kd_get hx hb hts hown hG hP hDk hi hinX0 5 (by decide) (by decide +kernel) rfl dX1_approve_14 ?_
    refine lv_iconst (v := 2) hx hb dX1_approve_17 (by decide) ?_
    refine lv_icmp_ne (tgt := 25) hx hb dX1_approve_18 (by decide) (fun h18 => False.elim (hst.elim h10 h18)) (fun h18 => ?_)
    refine lv_iconst (v := 1) hx hb dX1_approve_21 (by decide) ?_
    refine lv_goto (tgt := 26) hx hb dX1_approve_22 (by decide) ?_
    refine kc_v (va_runS (As := [.int 1]) (rest := []) ⟨hx, hb, hml, hown, hts⟩ (c_X1_checkPossible) (va_cwS 1 hts gX1_approve_X1_checkPossible rfl rfl rfl (by decide +kernel) ⟨Nat.le_of_ble_eq_true rfl, Nat.le_of_ble_eq_true rfl⟩) (kps hG hP hD hS) rfl rfl hl.1 rfl (lv_room (Nat.le_of_ble_eq_true rfl)) dX1_approve_26 ⟨Nat.le_of_ble_eq_true rfl, Nat.le_of_ble_eq_true rfl⟩) hS (fun w H locs hp hP hD hS => ?_)
    have hDk : Dk K ad bad td n M rm k idx w := by rw [hp]; exact hDk
    refine lv_aload_n hx hb dX1_approve_29 rfl (lv_at hl 0 rfl) ?_
    refine kd_get hx hb hts hown hG hP hDk hi hinX0 3 (by decide) (by decide +kernel) rfl dX1_approve_30 ?_
    refine lv_aload_n hx hb dX1_approve_33 rfl (lv_at hl 1 rfl) ?_
    refine kget (ci := 2) (C := RX1) (T := TX1) (N := 7) hx hb hts hown hG hP 0 hDk.x rfl hinX1 4 (by decide) (by decide +kernel) rfl dX1_approve_34 ?_
    refine lv_icmp_gt (tgt := 44) hx hb dX1_approve_37 (by decide) (fun h37 => False.elim (absurd hdue (i32_nle.mpr h37))) (fun h37 => ?_)
    refine lv_iconst (v := 1) hx hb dX1_approve_40 (by decide) ?_
    refine lv_goto (tgt := 45) hx hb dX1_approve_41 (by decide) ?_
    refine lv_istore_n (lv' := [(3, .int 1), (2, .ref (bad i)), (0, .ref (ad 0)), (1, .int (nI i))]) hx hb dX1_approve_45 rfl hl (by decide) rfl (fun ls hl => ?_)
    refine lv_iload_n hx hb dX1_approve_46 rfl (lv_at hl 0 rfl) ?_
    refine lv_if_eq (tgt := 58) hx hb dX1_approve_47 (by decide) (fun h47 => False.elim (absurd h47 (by decide))) (fun h47 => ?_)
    refine lv_aload_n hx hb dX1_approve_50 rfl (lv_at hl 2 rfl) ?_
    refine lv_aload_n hx hb dX1_approve_51 rfl (lv_at hl 1 rfl) ?_
    refine kc_v (va_runV (As := [.ref (bad i)]) (rest := []) ⟨hx, hb, hml, hown, hts⟩ (c_X1_payWhenDue hDk hi hm) (cwV 1 hts gX1_approve_X1_payWhenDue rfl rfl rfl (by decide +kernel) ⟨Nat.le_of_ble_eq_true rfl, Nat.le_of_ble_eq_true rfl⟩) (kpv (q0 := 0) hG hP hD hS hDk.x rfl) rfl rfl hl.1 rfl (lv_room (Nat.le_of_ble_eq_true rfl)) dX1_approve_52 ⟨Nat.le_of_ble_eq_true rfl, Nat.le_of_ble_eq_true rfl⟩) hS (fun w H locs hp hP hD hS => ?_)
    have hDk : Dk K ad bad td n (payM M i (M 4 i) 4) rm k idx w := hp
    refine lv_goto (tgt := 63) hx hb dX1_approve_55 (by decide) ?_
    refine lv_iload_n hx hb dX1_approve_63 rfl (lv_at hl 0 rfl) ?_
    exact kr_z hx hb hr hlocks hP hD hS (Nat.zero_le _) (Nat.zero_le _) (Or.inr rfl) (⟨rfl, hDk⟩) dX1_approve_64
set_option maxHeartbeats 4000000 in
set_option maxRecDepth 100000 in
theorem c_X1_approve_a {l : Launch} {K : Ks} {A : Nat → Prop} {ad bad : Nat → Nat} {td : Int32} {n : Nat} {M : Nat → Nat → Int32} {rm : Nat → Int32} {k : Nat} {idx : Nat → Nat} {w : va_W} (hDk : Dk K ad bad td n M rm k idx w) {i : Nat} (hi : i < n) (hst : M 6 i = 0 ∨ M 6 i = 2) (hdue : ¬ M 5 i ≤ td) : Met l yX1_approve wsX1_approve (kR 4 0 0) (kPr K A [.ref (ad 0), .int (nI i)] (w)) (kQi K A (fun r w1 => r = 0 ∧ Dk K ad bad td n (up2 M 6 i 1) rm k idx w1)) 0 0 A := by
  refine kent (cc := cX1_approve) (maxL := 4) (ret := (some .boolean)) (by decide) rfl (Nat.le_of_ble_eq_true rfl) ?_
  intro p e s m args below meth c ls hx hb hr hts hown hlocks hml hini hG hP hD hS hl
  have hinX0 : ∀ x ∈ wsX00, x ∈ wsX1_approve := by decide +kernel
  have hinX1 : ∀ x ∈ wsX10, x ∈ wsX1_approve := by decide +kernel
  have hl : lv_has ls 4 [(0, .ref (ad 0)), (1, .int (nI i))] := hl
  have hn30 := hDk.n30
  have hk30 := hDk.k30
  refine lv_aload_n hx hb dX1_approve_0 rfl (lv_at hl 0 rfl) ?_
  refine lv_iload_n hx hb dX1_approve_1 rfl (lv_at hl 1 rfl) ?_
  refine kc_r (va_runV (As := [.int (nI i)]) (rest := []) ⟨hx, hb, hml, hown, hts⟩ (c_X1_billAt hDk hi) (cwV 1 hts gX1_approve_X1_billAt rfl rfl rfl (by decide +kernel) ⟨Nat.le_of_ble_eq_true rfl, Nat.le_of_ble_eq_true rfl⟩) (kpv (q0 := 0) hG hP hD hS hDk.x rfl) rfl rfl hl.1 rfl (lv_room (Nat.le_of_ble_eq_true rfl)) dX1_approve_2 ⟨Nat.le_of_ble_eq_true rfl, Nat.le_of_ble_eq_true rfl⟩) hS (fun r2 w H locs hp hP hD hS => ?_)
  have hDk : Dk K ad bad td n M rm k idx w := hp.2
  rw [hp.1]
  refine lv_astore_n (lv' := [(2, .ref (bad i)), (0, .ref (ad 0)), (1, .int (nI i))]) hx hb dX1_approve_5 rfl hl (by decide) rfl (fun ls hl => ?_)
  refine lv_aload_n hx hb dX1_approve_6 rfl (lv_at hl 0 rfl) ?_
  refine kd_get hx hb hts hown hG hP hDk hi hinX0 5 (by decide) (by decide +kernel) rfl dX1_approve_7 ?_
  refine lv_if_eq (tgt := 21) hx hb dX1_approve_10 (by decide) (fun h10 => ?_) (fun h10 => ?_)
  · refine lv_iconst (v := 1) hx hb dX1_approve_21 (by decide) ?_
    refine lv_goto (tgt := 26) hx hb dX1_approve_22 (by decide) ?_
    refine kc_v (va_runS (As := [.int 1]) (rest := []) ⟨hx, hb, hml, hown, hts⟩ (c_X1_checkPossible) (va_cwS 1 hts gX1_approve_X1_checkPossible rfl rfl rfl (by decide +kernel) ⟨Nat.le_of_ble_eq_true rfl, Nat.le_of_ble_eq_true rfl⟩) (kps hG hP hD hS) rfl rfl hl.1 rfl (lv_room (Nat.le_of_ble_eq_true rfl)) dX1_approve_26 ⟨Nat.le_of_ble_eq_true rfl, Nat.le_of_ble_eq_true rfl⟩) hS (fun w H locs hp hP hD hS => ?_)
    have hDk : Dk K ad bad td n M rm k idx w := by rw [hp]; exact hDk
    refine lv_aload_n hx hb dX1_approve_29 rfl (lv_at hl 0 rfl) ?_
    refine kd_get hx hb hts hown hG hP hDk hi hinX0 3 (by decide) (by decide +kernel) rfl dX1_approve_30 ?_
    refine lv_aload_n hx hb dX1_approve_33 rfl (lv_at hl 1 rfl) ?_
    refine kget (ci := 2) (C := RX1) (T := TX1) (N := 7) hx hb hts hown hG hP 0 hDk.x rfl hinX1 4 (by decide) (by decide +kernel) rfl dX1_approve_34 ?_
    refine lv_icmp_gt (tgt := 44) hx hb dX1_approve_37 (by decide) (fun h37 => ?_) (fun h37 => False.elim (hdue (i32_nlt.mp h37)))
    refine lv_iconst (v := 0) hx hb dX1_approve_44 (by decide) ?_
    refine lv_istore_n (lv' := [(3, .int 0), (2, .ref (bad i)), (0, .ref (ad 0)), (1, .int (nI i))]) hx hb dX1_approve_45 rfl hl (by decide) rfl (fun ls hl => ?_)
    refine lv_iload_n hx hb dX1_approve_46 rfl (lv_at hl 0 rfl) ?_
    refine lv_if_eq (tgt := 58) hx hb dX1_approve_47 (by decide) (fun h47 => ?_) (fun h47 => False.elim (absurd rfl h47))
    refine lv_aload_n hx hb dX1_approve_58 rfl (lv_at hl 1 rfl) ?_
    refine lv_iconst (v := 1) hx hb dX1_approve_59 (by decide) ?_
    refine kd_put (f := 6) hx hb hts hown hG hP hD hS hDk hi hinX0 5 (by decide) (by decide +kernel) (by decide +kernel) (by decide +kernel) (by unfold slotF; decide) dX1_approve_60 (fun w H locs hDk hP hD hS => ?_)
    refine lv_iload_n hx hb dX1_approve_63 rfl (lv_at hl 0 rfl) ?_
    exact kr_z hx hb hr hlocks hP hD hS (Nat.zero_le _) (Nat.zero_le _) (Or.inl rfl) (⟨rfl, hDk⟩) dX1_approve_64
  · refine lv_aload_n hx hb dX1_approve_13 rfl (lv_at hl 0 rfl) ?_
    refine kd_get hx hb hts hown hG hP hDk hi hinX0 5 (by decide) (by decide +kernel) rfl dX1_approve_14 ?_
    refine lv_iconst (v := 2) hx hb dX1_approve_17 (by decide) ?_
    refine lv_icmp_ne (tgt := 25) hx hb dX1_approve_18 (by decide) (fun h18 => False.elim (hst.elim h10 h18)) (fun h18 => ?_)
    refine lv_iconst (v := 1) hx hb dX1_approve_21 (by decide) ?_
    refine lv_goto (tgt := 26) hx hb dX1_approve_22 (by decide) ?_
    refine kc_v (va_runS (As := [.int 1]) (rest := []) ⟨hx, hb, hml, hown, hts⟩ (c_X1_checkPossible) (va_cwS 1 hts gX1_approve_X1_checkPossible rfl rfl rfl (by decide +kernel) ⟨Nat.le_of_ble_eq_true rfl, Nat.le_of_ble_eq_true rfl⟩) (kps hG hP hD hS) rfl rfl hl.1 rfl (lv_room (Nat.le_of_ble_eq_true rfl)) dX1_approve_26 ⟨Nat.le_of_ble_eq_true rfl, Nat.le_of_ble_eq_true rfl⟩) hS (fun w H locs hp hP hD hS => ?_)
    have hDk : Dk K ad bad td n M rm k idx w := by rw [hp]; exact hDk
    refine lv_aload_n hx hb dX1_approve_29 rfl (lv_at hl 0 rfl) ?_
    refine kd_get hx hb hts hown hG hP hDk hi hinX0 3 (by decide) (by decide +kernel) rfl dX1_approve_30 ?_
    refine lv_aload_n hx hb dX1_approve_33 rfl (lv_at hl 1 rfl) ?_
    refine kget (ci := 2) (C := RX1) (T := TX1) (N := 7) hx hb hts hown hG hP 0 hDk.x rfl hinX1 4 (by decide) (by decide +kernel) rfl dX1_approve_34 ?_
    refine lv_icmp_gt (tgt := 44) hx hb dX1_approve_37 (by decide) (fun h37 => ?_) (fun h37 => False.elim (hdue (i32_nlt.mp h37)))
    refine lv_iconst (v := 0) hx hb dX1_approve_44 (by decide) ?_
    refine lv_istore_n (lv' := [(3, .int 0), (2, .ref (bad i)), (0, .ref (ad 0)), (1, .int (nI i))]) hx hb dX1_approve_45 rfl hl (by decide) rfl (fun ls hl => ?_)
    refine lv_iload_n hx hb dX1_approve_46 rfl (lv_at hl 0 rfl) ?_
    refine lv_if_eq (tgt := 58) hx hb dX1_approve_47 (by decide) (fun h47 => ?_) (fun h47 => False.elim (absurd rfl h47))
    refine lv_aload_n hx hb dX1_approve_58 rfl (lv_at hl 1 rfl) ?_
    refine lv_iconst (v := 1) hx hb dX1_approve_59 (by decide) ?_
    refine kd_put (f := 6) hx hb hts hown hG hP hD hS hDk hi hinX0 5 (by decide) (by decide +kernel) (by decide +kernel) (by decide +kernel) (by unfold slotF; decide) dX1_approve_60 (fun w H locs hDk hP hD hS => ?_)
    refine lv_iload_n hx hb dX1_approve_63 rfl (lv_at hl 0 rfl) ?_
    exact kr_z hx hb hr hlocks hP hD hS (Nat.zero_le _) (Nat.zero_le _) (Or.inl rfl) (⟨rfl, hDk⟩) dX1_approve_64
set_option maxHeartbeats 4000000 in
set_option maxRecDepth 100000 in
theorem c_X1_dispute_tb {l : Launch} {K : Ks} {A : Nat → Prop} {ad bad : Nat → Nat} {td : Int32} {n : Nat} {M : Nat → Nat → Int32} {rm : Nat → Int32} {k : Nat} {idx : Nat → Nat} {w : va_W} (hDk : Dk K ad bad td n M rm k idx w) (hlt : l.stackTraces = false) {x : Int32} (hix : ixBad n x) : vx_Met l yX1_dispute wsX1_dispute (kR 4 1 6) (kPr K A [.ref (ad 0), .int x] (w)) kNo (kX K A IOB (fun w1 => Dk K ad bad td n M rm k idx w1)) 1 6 A := by
  refine kentT (cc := cX1_dispute) (maxL := 3) (ret := none) (by decide) rfl (Nat.le_of_ble_eq_true rfl) ?_
  intro p e s m args below meth c ls hx hb hr hts hown hlocks hml hxt hG hP hD hS hl
  have hinX0 : ∀ x ∈ wsX00, x ∈ wsX1_dispute := by decide +kernel
  have hl : lv_has ls 3 [(0, .ref (ad 0)), (1, .int x)] := hl
  have hn30 := hDk.n30
  have hk30 := hDk.k30
  refine lv_aload_n hx hb dX1_dispute_0 rfl (lv_at hl 0 rfl) ?_
  refine lv_iload_n hx hb dX1_dispute_1 rfl (lv_at hl 1 rfl) ?_
  refine kc_t (vx_runV (As := [.int x]) (rest := []) ⟨hx, hb, hml, hown, hts⟩ (c_X1_billAt_t hDk hlt hix) (cwV 1 hts gX1_dispute_X1_billAt rfl rfl rfl (by decide +kernel) ⟨Nat.le_of_ble_eq_true rfl, Nat.le_of_ble_eq_true rfl⟩) (kpv (q0 := 0) hG hP hD hS hDk.x rfl) rfl rfl hl.1 rfl (lv_room (Nat.le_of_ble_eq_true rfl)) dX1_dispute_2 ⟨Nat.le_of_ble_eq_true rfl, Nat.le_of_ble_eq_true rfl⟩) hS (fun ce q9 w H locs hp hP hD hS hce hcv hcl => ?_)
  have hDk : Dk K ad bad td n M rm k idx w := hp
  exact kr_t hxt hlocks hP hD hS hce hcv hcl (Nat.le_of_ble_eq_true rfl) (Nat.le_of_ble_eq_true rfl) hDk
set_option maxHeartbeats 4000000 in
set_option maxRecDepth 100000 in
theorem c_X1_dispute_tp {l : Launch} {K : Ks} {A : Nat → Prop} {ad bad : Nat → Nat} {td : Int32} {n : Nat} {M : Nat → Nat → Int32} {rm : Nat → Int32} {k : Nat} {idx : Nat → Nat} {w : va_W} (hDk : Dk K ad bad td n M rm k idx w) (hlt : l.stackTraces = false) {i : Nat} (hi : i < n) (hst : ¬ (M 6 i = 0 ∨ M 6 i = 1)) : vx_Met l yX1_dispute wsX1_dispute (kR 4 1 6) (kPr K A [.ref (ad 0), .int (nI i)] (w)) kNo (kX K A ISE (fun w1 => Dk K ad bad td n M rm k idx w1)) 1 6 A := by
  refine kentT (cc := cX1_dispute) (maxL := 3) (ret := none) (by decide) rfl (Nat.le_of_ble_eq_true rfl) ?_
  intro p e s m args below meth c ls hx hb hr hts hown hlocks hml hxt hG hP hD hS hl
  have hinX0 : ∀ x ∈ wsX00, x ∈ wsX1_dispute := by decide +kernel
  have hl : lv_has ls 3 [(0, .ref (ad 0)), (1, .int (nI i))] := hl
  have hn30 := hDk.n30
  have hk30 := hDk.k30
  refine lv_aload_n hx hb dX1_dispute_0 rfl (lv_at hl 0 rfl) ?_
  refine lv_iload_n hx hb dX1_dispute_1 rfl (lv_at hl 1 rfl) ?_
  refine kc_r (va_runV (As := [.int (nI i)]) (rest := []) ⟨hx, hb, hml, hown, hts⟩ (c_X1_billAt hDk hi) (cwV 1 hts gX1_dispute_X1_billAt rfl rfl rfl (by decide +kernel) ⟨Nat.le_of_ble_eq_true rfl, Nat.le_of_ble_eq_true rfl⟩) (kpv (q0 := 0) hG hP hD hS hDk.x rfl) rfl rfl hl.1 rfl (lv_room (Nat.le_of_ble_eq_true rfl)) dX1_dispute_2 ⟨Nat.le_of_ble_eq_true rfl, Nat.le_of_ble_eq_true rfl⟩) hS (fun r2 w H locs hp hP hD hS => ?_)
  have hDk : Dk K ad bad td n M rm k idx w := hp.2
  rw [hp.1]
  refine lv_astore_n (lv' := [(2, .ref (bad i)), (0, .ref (ad 0)), (1, .int (nI i))]) hx hb dX1_dispute_5 rfl hl (by decide) rfl (fun ls hl => ?_)
  refine lv_aload_n hx hb dX1_dispute_6 rfl (lv_at hl 0 rfl) ?_
  refine kd_get hx hb hts hown hG hP hDk hi hinX0 5 (by decide) (by decide +kernel) rfl dX1_dispute_7 ?_
  refine lv_if_eq (tgt := 21) hx hb dX1_dispute_10 (by decide) (fun h10 => False.elim (hst (Or.inl h10))) (fun h10 => ?_)
  refine lv_aload_n hx hb dX1_dispute_13 rfl (lv_at hl 0 rfl) ?_
  refine kd_get hx hb hts hown hG hP hDk hi hinX0 5 (by decide) (by decide +kernel) rfl dX1_dispute_14 ?_
  refine lv_iconst (v := 1) hx hb dX1_dispute_17 (by decide) ?_
  refine lv_icmp_ne (tgt := 25) hx hb dX1_dispute_18 (by decide) (fun h18 => ?_) (fun h18 => False.elim (hst (Or.inr h18)))
  refine lv_iconst (v := 0) hx hb dX1_dispute_25 (by decide) ?_
  refine kc_t (vx_runS (As := [.int 0]) (rest := []) ⟨hx, hb, hml, hown, hts⟩ (c_X1_checkPossible_t hlt) (va_cwS 1 hts gX1_dispute_X1_checkPossible rfl rfl rfl (by decide +kernel) ⟨Nat.le_of_ble_eq_true rfl, Nat.le_of_ble_eq_true rfl⟩) (kps hG hP hD hS) rfl rfl hl.1 rfl (lv_room (Nat.le_of_ble_eq_true rfl)) dX1_dispute_26 ⟨Nat.le_of_ble_eq_true rfl, Nat.le_of_ble_eq_true rfl⟩) hS (fun ce q9 w H locs hp hP hD hS hce hcv hcl => ?_)
  have hDk : Dk K ad bad td n M rm k idx w := by rw [hp]; exact hDk
  exact kr_t hxt hlocks hP hD hS hce hcv hcl (Nat.le_of_ble_eq_true rfl) (Nat.le_of_ble_eq_true rfl) hDk
set_option maxHeartbeats 4000000 in
set_option maxRecDepth 100000 in
theorem c_X1_dispute {l : Launch} {K : Ks} {A : Nat → Prop} {ad bad : Nat → Nat} {td : Int32} {n : Nat} {M : Nat → Nat → Int32} {rm : Nat → Int32} {k : Nat} {idx : Nat → Nat} {w : va_W} (hDk : Dk K ad bad td n M rm k idx w) {i : Nat} (hi : i < n) (hst : M 6 i = 0 ∨ M 6 i = 1) : Met l yX1_dispute wsX1_dispute (kR 4 0 0) (kPr K A [.ref (ad 0), .int (nI i)] (w)) (kQv K A (fun w1 => Dk K ad bad td n (up2 (up2 M 6 i 2) 7 i (-1)) rm k idx w1)) 0 0 A := by
  refine kent (cc := cX1_dispute) (maxL := 3) (ret := none) (by decide) rfl (Nat.le_of_ble_eq_true rfl) ?_
  intro p e s m args below meth c ls hx hb hr hts hown hlocks hml hini hG hP hD hS hl
  have hinX0 : ∀ x ∈ wsX00, x ∈ wsX1_dispute := by decide +kernel
  have hl : lv_has ls 3 [(0, .ref (ad 0)), (1, .int (nI i))] := hl
  have hn30 := hDk.n30
  have hk30 := hDk.k30
  refine lv_aload_n hx hb dX1_dispute_0 rfl (lv_at hl 0 rfl) ?_
  refine lv_iload_n hx hb dX1_dispute_1 rfl (lv_at hl 1 rfl) ?_
  refine kc_r (va_runV (As := [.int (nI i)]) (rest := []) ⟨hx, hb, hml, hown, hts⟩ (c_X1_billAt hDk hi) (cwV 1 hts gX1_dispute_X1_billAt rfl rfl rfl (by decide +kernel) ⟨Nat.le_of_ble_eq_true rfl, Nat.le_of_ble_eq_true rfl⟩) (kpv (q0 := 0) hG hP hD hS hDk.x rfl) rfl rfl hl.1 rfl (lv_room (Nat.le_of_ble_eq_true rfl)) dX1_dispute_2 ⟨Nat.le_of_ble_eq_true rfl, Nat.le_of_ble_eq_true rfl⟩) hS (fun r2 w H locs hp hP hD hS => ?_)
  have hDk : Dk K ad bad td n M rm k idx w := hp.2
  rw [hp.1]
  refine lv_astore_n (lv' := [(2, .ref (bad i)), (0, .ref (ad 0)), (1, .int (nI i))]) hx hb dX1_dispute_5 rfl hl (by decide) rfl (fun ls hl => ?_)
  refine lv_aload_n hx hb dX1_dispute_6 rfl (lv_at hl 0 rfl) ?_
  refine kd_get hx hb hts hown hG hP hDk hi hinX0 5 (by decide) (by decide +kernel) rfl dX1_dispute_7 ?_
  refine lv_if_eq (tgt := 21) hx hb dX1_dispute_10 (by decide) (fun h10 => ?_) (fun h10 => ?_)
  · refine lv_iconst (v := 1) hx hb dX1_dispute_21 (by decide) ?_
    refine lv_goto (tgt := 26) hx hb dX1_dispute_22 (by decide) ?_
    refine kc_v (va_runS (As := [.int 1]) (rest := []) ⟨hx, hb, hml, hown, hts⟩ (c_X1_checkPossible) (va_cwS 1 hts gX1_dispute_X1_checkPossible rfl rfl rfl (by decide +kernel) ⟨Nat.le_of_ble_eq_true rfl, Nat.le_of_ble_eq_true rfl⟩) (kps hG hP hD hS) rfl rfl hl.1 rfl (lv_room (Nat.le_of_ble_eq_true rfl)) dX1_dispute_26 ⟨Nat.le_of_ble_eq_true rfl, Nat.le_of_ble_eq_true rfl⟩) hS (fun w H locs hp hP hD hS => ?_)
    have hDk : Dk K ad bad td n M rm k idx w := by rw [hp]; exact hDk
    refine lv_aload_n hx hb dX1_dispute_29 rfl (lv_at hl 0 rfl) ?_
    refine lv_iconst (v := 2) hx hb dX1_dispute_30 (by decide) ?_
    refine kd_put (f := 6) hx hb hts hown hG hP hD hS hDk hi hinX0 5 (by decide) (by decide +kernel) (by decide +kernel) (by decide +kernel) (by unfold slotF; decide) dX1_dispute_31 (fun w H locs hDk hP hD hS => ?_)
    refine lv_aload_n hx hb dX1_dispute_34 rfl (lv_at hl 0 rfl) ?_
    refine lv_iconst (v := (-1)) hx hb dX1_dispute_35 (by decide) ?_
    refine kd_put (f := 7) hx hb hts hown hG hP hD hS hDk hi hinX0 6 (by decide) (by decide +kernel) (by decide +kernel) (by decide +kernel) (by unfold slotF; decide) dX1_dispute_36 (fun w H locs hDk hP hD hS => ?_)
    exact kr_v hx hb hr hlocks hP hD hS (Nat.zero_le _) (Nat.zero_le _) (hDk) dX1_dispute_39
  · refine lv_aload_n hx hb dX1_dispute_13 rfl (lv_at hl 0 rfl) ?_
    refine kd_get hx hb hts hown hG hP hDk hi hinX0 5 (by decide) (by decide +kernel) rfl dX1_dispute_14 ?_
    refine lv_iconst (v := 1) hx hb dX1_dispute_17 (by decide) ?_
    refine lv_icmp_ne (tgt := 25) hx hb dX1_dispute_18 (by decide) (fun h18 => False.elim (hst.elim h10 h18)) (fun h18 => ?_)
    refine lv_iconst (v := 1) hx hb dX1_dispute_21 (by decide) ?_
    refine lv_goto (tgt := 26) hx hb dX1_dispute_22 (by decide) ?_
    refine kc_v (va_runS (As := [.int 1]) (rest := []) ⟨hx, hb, hml, hown, hts⟩ (c_X1_checkPossible) (va_cwS 1 hts gX1_dispute_X1_checkPossible rfl rfl rfl (by decide +kernel) ⟨Nat.le_of_ble_eq_true rfl, Nat.le_of_ble_eq_true rfl⟩) (kps hG hP hD hS) rfl rfl hl.1 rfl (lv_room (Nat.le_of_ble_eq_true rfl)) dX1_dispute_26 ⟨Nat.le_of_ble_eq_true rfl, Nat.le_of_ble_eq_true rfl⟩) hS (fun w H locs hp hP hD hS => ?_)
    have hDk : Dk K ad bad td n M rm k idx w := by rw [hp]; exact hDk
    refine lv_aload_n hx hb dX1_dispute_29 rfl (lv_at hl 0 rfl) ?_
    refine lv_iconst (v := 2) hx hb dX1_dispute_30 (by decide) ?_
    refine kd_put (f := 6) hx hb hts hown hG hP hD hS hDk hi hinX0 5 (by decide) (by decide +kernel) (by decide +kernel) (by decide +kernel) (by unfold slotF; decide) dX1_dispute_31 (fun w H locs hDk hP hD hS => ?_)
    refine lv_aload_n hx hb dX1_dispute_34 rfl (lv_at hl 0 rfl) ?_
    refine lv_iconst (v := (-1)) hx hb dX1_dispute_35 (by decide) ?_
    refine kd_put (f := 7) hx hb hts hown hG hP hD hS hDk hi hinX0 6 (by decide) (by decide +kernel) (by decide +kernel) (by decide +kernel) (by unfold slotF; decide) dX1_dispute_36 (fun w H locs hDk hP hD hS => ?_)
    exact kr_v hx hb hr hlocks hP hD hS (Nat.zero_le _) (Nat.zero_le _) (hDk) dX1_dispute_39
set_option maxHeartbeats 4000000 in
set_option maxRecDepth 100000 in
theorem c_X1_noteOnPaid {l : Launch} {K : Ks} {A : Nat → Prop} {ad bad : Nat → Nat} {td : Int32} {n : Nat} {M : Nat → Nat → Int32} {rm : Nat → Int32} {k : Nat} {idx : Nat → Nat} {w : va_W} (hDk : Dk K ad bad td n M rm k idx w) {i : Nat} (hi : i < n) (hm : okP M i) {y : Int32} (ham : inR 1 1000000 (M 4 i)) : Met l yX1_noteOnPaid wsX1_noteOnPaid (kR 2 0 0) (kPr K A [.ref (ad 0), .ref (bad i), .int y] (w)) (kQi K A (fun r w1 => r = moreS M i y ∧ Dk K ad bad td n (noteM M i y) rm k idx w1)) 0 0 A := by
  refine kent (cc := cX1_noteOnPaid) (maxL := 4) (ret := (some .int)) (by decide) rfl (Nat.le_of_ble_eq_true rfl) ?_
  intro p e s m args below meth c ls hx hb hr hts hown hlocks hml hini hG hP hD hS hl
  have hinX0 : ∀ x ∈ wsX00, x ∈ wsX1_noteOnPaid := by decide +kernel
  have hinX1 : ∀ x ∈ wsX10, x ∈ wsX1_noteOnPaid := by decide +kernel
  have hl : lv_has ls 4 [(0, .ref (ad 0)), (1, .ref (bad i)), (2, .int y)] := hl
  have hn30 := hDk.n30
  have hk30 := hDk.k30
  have ham0 : ¬ M 4 i = 0 := fun q => by rw [q] at ham; exact ham.1 (by decide)
  refine lv_aload_n hx hb dX1_noteOnPaid_0 rfl (lv_at hl 1 rfl) ?_
  refine kd_get hx hb hts hown hG hP hDk hi hinX0 4 (by decide) (by decide +kernel) rfl dX1_noteOnPaid_1 ?_
  refine lv_iconst (v := 1) hx hb dX1_noteOnPaid_4 (by decide) ?_
  refine lv_ldc (v := 1000000) hx hb hown (hts (.constant RX1 59 1000000) (by decide +kernel)) dX1_noteOnPaid_5 ?_
  refine kc_v (va_runS (As := [.int (M 4 i), .int 1, .int 1000000]) (rest := []) ⟨hx, hb, hml, hown, hts⟩ (c_X1_checkRange ham) (va_cwS 3 hts gX1_noteOnPaid_X1_checkRange rfl rfl rfl (by decide +kernel) ⟨Nat.le_of_ble_eq_true rfl, Nat.le_of_ble_eq_true rfl⟩) (kps hG hP hD hS) rfl rfl hl.1 rfl (lv_room (Nat.le_of_ble_eq_true rfl)) dX1_noteOnPaid_7 ⟨Nat.le_of_ble_eq_true rfl, Nat.le_of_ble_eq_true rfl⟩) hS (fun w H locs hp hP hD hS => ?_)
  have hDk : Dk K ad bad td n M rm k idx w := by rw [hp]; exact hDk
  refine lv_iload_n hx hb dX1_noteOnPaid_10 rfl (lv_at hl 2 rfl) ?_
  refine lv_i2l (v := (y : Int32).toInt64) hx hb dX1_noteOnPaid_11 rfl ?_
  refine lv_aload_n hx hb dX1_noteOnPaid_12 rfl (lv_at hl 1 rfl) ?_
  refine kd_get hx hb hts hown hG hP hDk hi hinX0 7 (by decide) (by decide +kernel) rfl dX1_noteOnPaid_13 ?_
  refine lv_i2l (v := ((M 8 i) : Int32).toInt64) hx hb dX1_noteOnPaid_16 rfl ?_
  refine lv_lmul hx hb dX1_noteOnPaid_17 ?_
  refine lv_aload_n hx hb dX1_noteOnPaid_18 rfl (lv_at hl 1 rfl) ?_
  refine kd_get hx hb hts hown hG hP hDk hi hinX0 4 (by decide) (by decide +kernel) rfl dX1_noteOnPaid_19 ?_
  refine lv_i2l (v := ((M 4 i) : Int32).toInt64) hx hb dX1_noteOnPaid_22 rfl ?_
  refine lv_ldiv hx hb dX1_noteOnPaid_23 (i64_n0 ham0) ?_
  refine lv_l2i (v := ((((y : Int32).toInt64 * ((M 8 i) : Int32).toInt64) / ((M 4 i) : Int32).toInt64) : Int64).toInt32) hx hb dX1_noteOnPaid_24 rfl ?_
  refine ktop (z := moreS M i y) rfl ?_
  refine lv_istore_n (lv' := [(3, .int (moreS M i y)), (0, .ref (ad 0)), (1, .ref (bad i)), (2, .int y)]) hx hb dX1_noteOnPaid_25 rfl hl (by decide) rfl (fun ls hl => ?_)
  refine lv_aload_n hx hb dX1_noteOnPaid_26 rfl (lv_at hl 2 rfl) ?_
  refine lv_dup hx hb dX1_noteOnPaid_27 rfl ?_
  refine kd_get hx hb hts hown hG hP hDk hi hinX0 9 (by decide) (by decide +kernel) rfl dX1_noteOnPaid_28 ?_
  refine lv_iload_n hx hb dX1_noteOnPaid_31 rfl (lv_at hl 3 rfl) ?_
  refine lv_iadd hx hb dX1_noteOnPaid_32 ?_
  refine kd_put (f := 10) hx hb hts hown hG hP hD hS hDk hi hinX0 9 (by decide) (by decide +kernel) (by decide +kernel) (by decide +kernel) (by unfold slotF; decide) dX1_noteOnPaid_33 (fun w H locs hDk hP hD hS => ?_)
  refine lv_aload_n hx hb dX1_noteOnPaid_36 rfl (lv_at hl 1 rfl) ?_
  refine kget (ci := 2) (C := RX1) (T := TX1) (N := 7) hx hb hts hown hG hP 0 hDk.x rfl hinX1 2 (by decide) (by decide +kernel) rfl dX1_noteOnPaid_37 ?_
  refine lv_aload_n hx hb dX1_noteOnPaid_40 rfl (lv_at hl 2 rfl) ?_
  refine kd_get hx hb hts hown hG hP hDk hi hinX0 1 (by decide) (by decide +kernel) rfl dX1_noteOnPaid_41 ?_
  refine ktop (z := nI (bu M i)) (hm.1) ?_
  refine lv_aload_n hx hb dX1_noteOnPaid_44 rfl (lv_at hl 2 rfl) ?_
  refine kd_get hx hb hts hown hG hP hDk hi hinX0 2 (by decide) (by decide +kernel) rfl dX1_noteOnPaid_45 ?_
  refine ktop (z := nI (su M i)) (hm.2.2.1) ?_
  refine kc_i (va_runS (As := [.int (nI (bu M i)), .int (nI (su M i))]) (rest := [.ref (ad 3)]) ⟨hx, hb, hml, hown, hts⟩ (c_X1_pairOf hm.2.1 hm.2.2.2) (va_cwS 2 hts gX1_noteOnPaid_X1_pairOf rfl rfl rfl (by decide +kernel) ⟨Nat.le_of_ble_eq_true rfl, Nat.le_of_ble_eq_true rfl⟩) (kps hG hP hD hS) rfl rfl hl.1 rfl (lv_room (Nat.le_of_ble_eq_true rfl)) dX1_noteOnPaid_48 ⟨Nat.le_of_ble_eq_true rfl, Nat.le_of_ble_eq_true rfl⟩) hS (fun r48 w H locs hp hP hD hS => ?_)
  have hDk : Dk K ad bad td n (up2 M 10 i ((M 10 i) + y)) rm k idx w := by rw [hp.2]; exact hDk
  rw [hp.1, show 8 * bu M i + su M i = pr M i from rfl]
  refine lv_dup2_11 hx hb dX1_noteOnPaid_51 rfl rfl ?_
  refine kiald (n := 32) (j := (pr M i)) hx hb hG hP 3 hDk.a3 hm.lt (by decide) dX1_noteOnPaid_52 ?_
  refine lv_iload_n hx hb dX1_noteOnPaid_53 rfl (lv_at hl 0 rfl) ?_
  refine lv_iadd hx hb dX1_noteOnPaid_54 ?_
  refine kd_ast3 (j := (pr M i)) hx hb hG hP hD hS hDk hm.lt dX1_noteOnPaid_55 (fun w H locs hDk hP hD hS => ?_)
  refine lv_iload_n hx hb dX1_noteOnPaid_56 rfl (lv_at hl 0 rfl) ?_
  exact kr_i hx hb hr hlocks hP hD hS (Nat.zero_le _) (Nat.zero_le _) (⟨rfl, hDk⟩) dX1_noteOnPaid_57
set_option maxHeartbeats 4000000 in
set_option maxRecDepth 100000 in
theorem c_X1_note_tb {l : Launch} {K : Ks} {A : Nat → Prop} {ad bad : Nat → Nat} {td : Int32} {n : Nat} {M : Nat → Nat → Int32} {rm : Nat → Int32} {k : Nat} {idx : Nat → Nat} {w : va_W} (hDk : Dk K ad bad td n M rm k idx w) (hlt : l.stackTraces = false) {x : Int32} (hix : ixBad n x) {y : Int32} : vx_Met l yX1_note wsX1_note (kR 4 1 6) (kPr K A [.ref (ad 0), .int x, .int y] (w)) kNo (kX K A IOB (fun w1 => Dk K ad bad td n M rm k idx w1)) 1 6 A := by
  refine kentT (cc := cX1_note) (maxL := 4) (ret := (some .int)) (by decide) rfl (Nat.le_of_ble_eq_true rfl) ?_
  intro p e s m args below meth c ls hx hb hr hts hown hlocks hml hxt hG hP hD hS hl
  have hinX0 : ∀ x ∈ wsX00, x ∈ wsX1_note := by decide +kernel
  have hl : lv_has ls 4 [(0, .ref (ad 0)), (1, .int x), (2, .int y)] := hl
  have hn30 := hDk.n30
  have hk30 := hDk.k30
  refine lv_aload_n hx hb dX1_note_0 rfl (lv_at hl 0 rfl) ?_
  refine lv_iload_n hx hb dX1_note_1 rfl (lv_at hl 1 rfl) ?_
  refine kc_t (vx_runV (As := [.int x]) (rest := []) ⟨hx, hb, hml, hown, hts⟩ (c_X1_billAt_t hDk hlt hix) (cwV 1 hts gX1_note_X1_billAt rfl rfl rfl (by decide +kernel) ⟨Nat.le_of_ble_eq_true rfl, Nat.le_of_ble_eq_true rfl⟩) (kpv (q0 := 0) hG hP hD hS hDk.x rfl) rfl rfl hl.1 rfl (lv_room (Nat.le_of_ble_eq_true rfl)) dX1_note_2 ⟨Nat.le_of_ble_eq_true rfl, Nat.le_of_ble_eq_true rfl⟩) hS (fun ce q9 w H locs hp hP hD hS hce hcv hcl => ?_)
  have hDk : Dk K ad bad td n M rm k idx w := hp
  exact kr_t hxt hlocks hP hD hS hce hcv hcl (Nat.le_of_ble_eq_true rfl) (Nat.le_of_ble_eq_true rfl) hDk
set_option maxHeartbeats 4000000 in
set_option maxRecDepth 100000 in
theorem c_X1_note_tr {l : Launch} {K : Ks} {A : Nat → Prop} {ad bad : Nat → Nat} {td : Int32} {n : Nat} {M : Nat → Nat → Int32} {rm : Nat → Int32} {k : Nat} {idx : Nat → Nat} {w : va_W} (hDk : Dk K ad bad td n M rm k idx w) (hlt : l.stackTraces = false) {i : Nat} (hi : i < n) {y : Int32} (hy : ¬ inR 1 (M 4 i - M 10 i) y) : vx_Met l yX1_note wsX1_note (kR 4 1 6) (kPr K A [.ref (ad 0), .int (nI i), .int y] (w)) kNo (kX K A IAE (fun w1 => Dk K ad bad td n M rm k idx w1)) 1 6 A := by
  refine kentT (cc := cX1_note) (maxL := 4) (ret := (some .int)) (by decide) rfl (Nat.le_of_ble_eq_true rfl) ?_
  intro p e s m args below meth c ls hx hb hr hts hown hlocks hml hxt hG hP hD hS hl
  have hinX0 : ∀ x ∈ wsX00, x ∈ wsX1_note := by decide +kernel
  have hl : lv_has ls 4 [(0, .ref (ad 0)), (1, .int (nI i)), (2, .int y)] := hl
  have hn30 := hDk.n30
  have hk30 := hDk.k30
  refine lv_aload_n hx hb dX1_note_0 rfl (lv_at hl 0 rfl) ?_
  refine lv_iload_n hx hb dX1_note_1 rfl (lv_at hl 1 rfl) ?_
  refine kc_r (va_runV (As := [.int (nI i)]) (rest := []) ⟨hx, hb, hml, hown, hts⟩ (c_X1_billAt hDk hi) (cwV 1 hts gX1_note_X1_billAt rfl rfl rfl (by decide +kernel) ⟨Nat.le_of_ble_eq_true rfl, Nat.le_of_ble_eq_true rfl⟩) (kpv (q0 := 0) hG hP hD hS hDk.x rfl) rfl rfl hl.1 rfl (lv_room (Nat.le_of_ble_eq_true rfl)) dX1_note_2 ⟨Nat.le_of_ble_eq_true rfl, Nat.le_of_ble_eq_true rfl⟩) hS (fun r2 w H locs hp hP hD hS => ?_)
  have hDk : Dk K ad bad td n M rm k idx w := hp.2
  rw [hp.1]
  refine lv_astore_n (lv' := [(3, .ref (bad i)), (0, .ref (ad 0)), (1, .int (nI i)), (2, .int y)]) hx hb dX1_note_5 rfl hl (by decide) rfl (fun ls hl => ?_)
  refine lv_iload_n hx hb dX1_note_6 rfl (lv_at hl 3 rfl) ?_
  refine lv_iconst (v := 1) hx hb dX1_note_7 (by decide) ?_
  refine lv_aload_n hx hb dX1_note_8 rfl (lv_at hl 0 rfl) ?_
  refine kd_get hx hb hts hown hG hP hDk hi hinX0 4 (by decide) (by decide +kernel) rfl dX1_note_9 ?_
  refine lv_aload_n hx hb dX1_note_12 rfl (lv_at hl 0 rfl) ?_
  refine kd_get hx hb hts hown hG hP hDk hi hinX0 9 (by decide) (by decide +kernel) rfl dX1_note_13 ?_
  refine lv_isub hx hb dX1_note_16 ?_
  refine kc_t (vx_runS (As := [.int y, .int 1, .int ((M 4 i) - (M 10 i))]) (rest := []) ⟨hx, hb, hml, hown, hts⟩ (c_X1_checkRange_t hlt hy) (va_cwS 3 hts gX1_note_X1_checkRange rfl rfl rfl (by decide +kernel) ⟨Nat.le_of_ble_eq_true rfl, Nat.le_of_ble_eq_true rfl⟩) (kps hG hP hD hS) rfl rfl hl.1 rfl (lv_room (Nat.le_of_ble_eq_true rfl)) dX1_note_17 ⟨Nat.le_of_ble_eq_true rfl, Nat.le_of_ble_eq_true rfl⟩) hS (fun ce q9 w H locs hp hP hD hS hce hcv hcl => ?_)
  have hDk : Dk K ad bad td n M rm k idx w := by rw [hp]; exact hDk
  exact kr_t hxt hlocks hP hD hS hce hcv hcl (Nat.le_of_ble_eq_true rfl) (Nat.le_of_ble_eq_true rfl) hDk
set_option maxHeartbeats 4000000 in
set_option maxRecDepth 100000 in
theorem c_X1_note_p {l : Launch} {K : Ks} {A : Nat → Prop} {ad bad : Nat → Nat} {td : Int32} {n : Nat} {M : Nat → Nat → Int32} {rm : Nat → Int32} {k : Nat} {idx : Nat → Nat} {w : va_W} (hDk : Dk K ad bad td n M rm k idx w) {i : Nat} (hi : i < n) (hm : okP M i) {y : Int32} (ham : inR 1 1000000 (M 4 i)) (hy : inR 1 (M 4 i - M 10 i) y) (hst : M 6 i = 3 ∨ M 6 i = 4) : Met l yX1_note wsX1_note (kR 4 0 0) (kPr K A [.ref (ad 0), .int (nI i), .int y] (w)) (kQi K A (fun r w1 => r = moreS M i y ∧ Dk K ad bad td n (noteM M i y) rm k idx w1)) 0 0 A := by
  refine kent (cc := cX1_note) (maxL := 4) (ret := (some .int)) (by decide) rfl (Nat.le_of_ble_eq_true rfl) ?_
  intro p e s m args below meth c ls hx hb hr hts hown hlocks hml hini hG hP hD hS hl
  have hinX0 : ∀ x ∈ wsX00, x ∈ wsX1_note := by decide +kernel
  have hl : lv_has ls 4 [(0, .ref (ad 0)), (1, .int (nI i)), (2, .int y)] := hl
  have hn30 := hDk.n30
  have hk30 := hDk.k30
  refine lv_aload_n hx hb dX1_note_0 rfl (lv_at hl 0 rfl) ?_
  refine lv_iload_n hx hb dX1_note_1 rfl (lv_at hl 1 rfl) ?_
  refine kc_r (va_runV (As := [.int (nI i)]) (rest := []) ⟨hx, hb, hml, hown, hts⟩ (c_X1_billAt hDk hi) (cwV 1 hts gX1_note_X1_billAt rfl rfl rfl (by decide +kernel) ⟨Nat.le_of_ble_eq_true rfl, Nat.le_of_ble_eq_true rfl⟩) (kpv (q0 := 0) hG hP hD hS hDk.x rfl) rfl rfl hl.1 rfl (lv_room (Nat.le_of_ble_eq_true rfl)) dX1_note_2 ⟨Nat.le_of_ble_eq_true rfl, Nat.le_of_ble_eq_true rfl⟩) hS (fun r2 w H locs hp hP hD hS => ?_)
  have hDk : Dk K ad bad td n M rm k idx w := hp.2
  rw [hp.1]
  refine lv_astore_n (lv' := [(3, .ref (bad i)), (0, .ref (ad 0)), (1, .int (nI i)), (2, .int y)]) hx hb dX1_note_5 rfl hl (by decide) rfl (fun ls hl => ?_)
  refine lv_iload_n hx hb dX1_note_6 rfl (lv_at hl 3 rfl) ?_
  refine lv_iconst (v := 1) hx hb dX1_note_7 (by decide) ?_
  refine lv_aload_n hx hb dX1_note_8 rfl (lv_at hl 0 rfl) ?_
  refine kd_get hx hb hts hown hG hP hDk hi hinX0 4 (by decide) (by decide +kernel) rfl dX1_note_9 ?_
  refine lv_aload_n hx hb dX1_note_12 rfl (lv_at hl 0 rfl) ?_
  refine kd_get hx hb hts hown hG hP hDk hi hinX0 9 (by decide) (by decide +kernel) rfl dX1_note_13 ?_
  refine lv_isub hx hb dX1_note_16 ?_
  refine kc_v (va_runS (As := [.int y, .int 1, .int ((M 4 i) - (M 10 i))]) (rest := []) ⟨hx, hb, hml, hown, hts⟩ (c_X1_checkRange hy) (va_cwS 3 hts gX1_note_X1_checkRange rfl rfl rfl (by decide +kernel) ⟨Nat.le_of_ble_eq_true rfl, Nat.le_of_ble_eq_true rfl⟩) (kps hG hP hD hS) rfl rfl hl.1 rfl (lv_room (Nat.le_of_ble_eq_true rfl)) dX1_note_17 ⟨Nat.le_of_ble_eq_true rfl, Nat.le_of_ble_eq_true rfl⟩) hS (fun w H locs hp hP hD hS => ?_)
  have hDk : Dk K ad bad td n M rm k idx w := by rw [hp]; exact hDk
  refine lv_aload_n hx hb dX1_note_20 rfl (lv_at hl 0 rfl) ?_
  obtain ⟨q21, hq21, -⟩ := hDk.bill hi
  refine kc_i (va_runV (As := []) (rest := []) ⟨hx, hb, hml, hown, hts⟩ (c_X0_isPaid hq21) (cwV 0 hts gX1_note_X0_isPaid rfl rfl rfl (by decide +kernel) ⟨Nat.le_of_ble_eq_true rfl, Nat.le_of_ble_eq_true rfl⟩) (kpv (q0 := q21) hG hP hD hS hq21 rfl) rfl rfl hl.1 rfl (lv_room (Nat.le_of_ble_eq_true rfl)) dX1_note_21 ⟨Nat.le_of_ble_eq_true rfl, Nat.le_of_ble_eq_true rfl⟩) hS (fun r21 w H locs hp hP hD hS => ?_)
  have hDk : Dk K ad bad td n M rm k idx w := by rw [hp.2]; exact hDk
  rw [hp.1, bi_t hst]
  refine lv_if_eq (tgt := 34) hx hb dX1_note_24 (by decide) (fun h24 => False.elim (absurd h24 (by decide))) (fun h24 => ?_)
  refine lv_aload_n hx hb dX1_note_27 rfl (lv_at hl 1 rfl) ?_
  refine lv_aload_n hx hb dX1_note_28 rfl (lv_at hl 0 rfl) ?_
  refine lv_iload_n hx hb dX1_note_29 rfl (lv_at hl 3 rfl) ?_
  refine kc_i (va_runV (As := [.ref (bad i), .int y]) (rest := []) ⟨hx, hb, hml, hown, hts⟩ (c_X1_noteOnPaid hDk hi hm ham) (cwV 2 hts gX1_note_X1_noteOnPaid rfl rfl rfl (by decide +kernel) ⟨Nat.le_of_ble_eq_true rfl, Nat.le_of_ble_eq_true rfl⟩) (kpv (q0 := 0) hG hP hD hS hDk.x rfl) rfl rfl hl.1 rfl (lv_room (Nat.le_of_ble_eq_true rfl)) dX1_note_30 ⟨Nat.le_of_ble_eq_true rfl, Nat.le_of_ble_eq_true rfl⟩) hS (fun r30 w H locs hp hP hD hS => ?_)
  have hDk : Dk K ad bad td n (noteM M i y) rm k idx w := hp.2
  rw [hp.1]
  exact kr_i hx hb hr hlocks hP hD hS (Nat.zero_le _) (Nat.zero_le _) (⟨rfl, hDk⟩) dX1_note_33
set_option maxHeartbeats 4000000 in
set_option maxRecDepth 100000 in
theorem c_X1_note_u {l : Launch} {K : Ks} {A : Nat → Prop} {ad bad : Nat → Nat} {td : Int32} {n : Nat} {M : Nat → Nat → Int32} {rm : Nat → Int32} {k : Nat} {idx : Nat → Nat} {w : va_W} (hDk : Dk K ad bad td n M rm k idx w) {i : Nat} (hi : i < n) {y : Int32} (hy : inR 1 (M 4 i - M 10 i) y) (hst : ¬ (M 6 i = 3 ∨ M 6 i = 4)) : Met l yX1_note wsX1_note (kR 4 0 0) (kPr K A [.ref (ad 0), .int (nI i), .int y] (w)) (kQi K A (fun r w1 => r = M 4 i - y ∧ Dk K ad bad td n (up2 M 4 i (M 4 i - y)) rm k idx w1)) 0 0 A := by
  refine kent (cc := cX1_note) (maxL := 4) (ret := (some .int)) (by decide) rfl (Nat.le_of_ble_eq_true rfl) ?_
  intro p e s m args below meth c ls hx hb hr hts hown hlocks hml hini hG hP hD hS hl
  have hinX0 : ∀ x ∈ wsX00, x ∈ wsX1_note := by decide +kernel
  have hl : lv_has ls 4 [(0, .ref (ad 0)), (1, .int (nI i)), (2, .int y)] := hl
  have hn30 := hDk.n30
  have hk30 := hDk.k30
  refine lv_aload_n hx hb dX1_note_0 rfl (lv_at hl 0 rfl) ?_
  refine lv_iload_n hx hb dX1_note_1 rfl (lv_at hl 1 rfl) ?_
  refine kc_r (va_runV (As := [.int (nI i)]) (rest := []) ⟨hx, hb, hml, hown, hts⟩ (c_X1_billAt hDk hi) (cwV 1 hts gX1_note_X1_billAt rfl rfl rfl (by decide +kernel) ⟨Nat.le_of_ble_eq_true rfl, Nat.le_of_ble_eq_true rfl⟩) (kpv (q0 := 0) hG hP hD hS hDk.x rfl) rfl rfl hl.1 rfl (lv_room (Nat.le_of_ble_eq_true rfl)) dX1_note_2 ⟨Nat.le_of_ble_eq_true rfl, Nat.le_of_ble_eq_true rfl⟩) hS (fun r2 w H locs hp hP hD hS => ?_)
  have hDk : Dk K ad bad td n M rm k idx w := hp.2
  rw [hp.1]
  refine lv_astore_n (lv' := [(3, .ref (bad i)), (0, .ref (ad 0)), (1, .int (nI i)), (2, .int y)]) hx hb dX1_note_5 rfl hl (by decide) rfl (fun ls hl => ?_)
  refine lv_iload_n hx hb dX1_note_6 rfl (lv_at hl 3 rfl) ?_
  refine lv_iconst (v := 1) hx hb dX1_note_7 (by decide) ?_
  refine lv_aload_n hx hb dX1_note_8 rfl (lv_at hl 0 rfl) ?_
  refine kd_get hx hb hts hown hG hP hDk hi hinX0 4 (by decide) (by decide +kernel) rfl dX1_note_9 ?_
  refine lv_aload_n hx hb dX1_note_12 rfl (lv_at hl 0 rfl) ?_
  refine kd_get hx hb hts hown hG hP hDk hi hinX0 9 (by decide) (by decide +kernel) rfl dX1_note_13 ?_
  refine lv_isub hx hb dX1_note_16 ?_
  refine kc_v (va_runS (As := [.int y, .int 1, .int ((M 4 i) - (M 10 i))]) (rest := []) ⟨hx, hb, hml, hown, hts⟩ (c_X1_checkRange hy) (va_cwS 3 hts gX1_note_X1_checkRange rfl rfl rfl (by decide +kernel) ⟨Nat.le_of_ble_eq_true rfl, Nat.le_of_ble_eq_true rfl⟩) (kps hG hP hD hS) rfl rfl hl.1 rfl (lv_room (Nat.le_of_ble_eq_true rfl)) dX1_note_17 ⟨Nat.le_of_ble_eq_true rfl, Nat.le_of_ble_eq_true rfl⟩) hS (fun w H locs hp hP hD hS => ?_)
  have hDk : Dk K ad bad td n M rm k idx w := by rw [hp]; exact hDk
  refine lv_aload_n hx hb dX1_note_20 rfl (lv_at hl 0 rfl) ?_
  obtain ⟨q21, hq21, -⟩ := hDk.bill hi
  refine kc_i (va_runV (As := []) (rest := []) ⟨hx, hb, hml, hown, hts⟩ (c_X0_isPaid hq21) (cwV 0 hts gX1_note_X0_isPaid rfl rfl rfl (by decide +kernel) ⟨Nat.le_of_ble_eq_true rfl, Nat.le_of_ble_eq_true rfl⟩) (kpv (q0 := q21) hG hP hD hS hq21 rfl) rfl rfl hl.1 rfl (lv_room (Nat.le_of_ble_eq_true rfl)) dX1_note_21 ⟨Nat.le_of_ble_eq_true rfl, Nat.le_of_ble_eq_true rfl⟩) hS (fun r21 w H locs hp hP hD hS => ?_)
  have hDk : Dk K ad bad td n M rm k idx w := by rw [hp.2]; exact hDk
  rw [hp.1, bi_f hst]
  refine lv_if_eq (tgt := 34) hx hb dX1_note_24 (by decide) (fun h24 => ?_) (fun h24 => False.elim (absurd rfl h24))
  refine lv_aload_n hx hb dX1_note_34 rfl (lv_at hl 0 rfl) ?_
  refine lv_dup hx hb dX1_note_35 rfl ?_
  refine kd_get hx hb hts hown hG hP hDk hi hinX0 4 (by decide) (by decide +kernel) rfl dX1_note_36 ?_
  refine lv_iload_n hx hb dX1_note_39 rfl (lv_at hl 3 rfl) ?_
  refine lv_isub hx hb dX1_note_40 ?_
  refine kd_put (f := 4) hx hb hts hown hG hP hD hS hDk hi hinX0 4 (by decide) (by decide +kernel) (by decide +kernel) (by decide +kernel) (by unfold slotF; decide) dX1_note_41 (fun w H locs hDk hP hD hS => ?_)
  refine lv_aload_n hx hb dX1_note_44 rfl (lv_at hl 0 rfl) ?_
  refine kd_get hx hb hts hown hG hP hDk hi hinX0 4 (by decide) (by decide +kernel) rfl dX1_note_45 ?_
  exact kr_i hx hb hr hlocks hP hD hS (Nat.zero_le _) (Nat.zero_le _) (⟨by simp [up2, va_up, upd], hDk⟩) dX1_note_48
set_option maxHeartbeats 4000000 in
set_option maxRecDepth 100000 in
theorem c_X1_offer_tb {l : Launch} {K : Ks} {A : Nat → Prop} {ad bad : Nat → Nat} {td : Int32} {n : Nat} {M : Nat → Nat → Int32} {rm : Nat → Int32} {k : Nat} {idx : Nat → Nat} {w : va_W} (hDk : Dk K ad bad td n M rm k idx w) (hlt : l.stackTraces = false) {x : Int32} (hix : ixBad n x) {y : Int32} : vx_Met l yX1_offer wsX1_offer (kR 4 1 6) (kPr K A [.ref (ad 0), .int x, .int y] (w)) kNo (kX K A IOB (fun w1 => Dk K ad bad td n M rm k idx w1)) 1 6 A := by
  refine kentT (cc := cX1_offer) (maxL := 4) (ret := (some .int)) (by decide) rfl (Nat.le_of_ble_eq_true rfl) ?_
  intro p e s m args below meth c ls hx hb hr hts hown hlocks hml hxt hG hP hD hS hl
  have hinX0 : ∀ x ∈ wsX00, x ∈ wsX1_offer := by decide +kernel
  have hinX1 : ∀ x ∈ wsX10, x ∈ wsX1_offer := by decide +kernel
  have hl : lv_has ls 4 [(0, .ref (ad 0)), (1, .int x), (2, .int y)] := hl
  have hn30 := hDk.n30
  have hk30 := hDk.k30
  refine lv_aload_n hx hb dX1_offer_0 rfl (lv_at hl 0 rfl) ?_
  refine lv_iload_n hx hb dX1_offer_1 rfl (lv_at hl 1 rfl) ?_
  refine kc_t (vx_runV (As := [.int x]) (rest := []) ⟨hx, hb, hml, hown, hts⟩ (c_X1_billAt_t hDk hlt hix) (cwV 1 hts gX1_offer_X1_billAt rfl rfl rfl (by decide +kernel) ⟨Nat.le_of_ble_eq_true rfl, Nat.le_of_ble_eq_true rfl⟩) (kpv (q0 := 0) hG hP hD hS hDk.x rfl) rfl rfl hl.1 rfl (lv_room (Nat.le_of_ble_eq_true rfl)) dX1_offer_2 ⟨Nat.le_of_ble_eq_true rfl, Nat.le_of_ble_eq_true rfl⟩) hS (fun ce q9 w H locs hp hP hD hS hce hcv hcl => ?_)
  have hDk : Dk K ad bad td n M rm k idx w := hp
  exact kr_t hxt hlocks hP hD hS hce hcv hcl (Nat.le_of_ble_eq_true rfl) (Nat.le_of_ble_eq_true rfl) hDk
set_option maxHeartbeats 4000000 in
set_option maxRecDepth 100000 in
theorem c_X1_offer_tr {l : Launch} {K : Ks} {A : Nat → Prop} {ad bad : Nat → Nat} {td : Int32} {n : Nat} {M : Nat → Nat → Int32} {rm : Nat → Int32} {k : Nat} {idx : Nat → Nat} {w : va_W} (hDk : Dk K ad bad td n M rm k idx w) (hlt : l.stackTraces = false) {i : Nat} (hi : i < n) {y : Int32} (hy : ¬ inR 0 5000 y) : vx_Met l yX1_offer wsX1_offer (kR 4 1 6) (kPr K A [.ref (ad 0), .int (nI i), .int y] (w)) kNo (kX K A IAE (fun w1 => Dk K ad bad td n M rm k idx w1)) 1 6 A := by
  refine kentT (cc := cX1_offer) (maxL := 4) (ret := (some .int)) (by decide) rfl (Nat.le_of_ble_eq_true rfl) ?_
  intro p e s m args below meth c ls hx hb hr hts hown hlocks hml hxt hG hP hD hS hl
  have hinX0 : ∀ x ∈ wsX00, x ∈ wsX1_offer := by decide +kernel
  have hinX1 : ∀ x ∈ wsX10, x ∈ wsX1_offer := by decide +kernel
  have hl : lv_has ls 4 [(0, .ref (ad 0)), (1, .int (nI i)), (2, .int y)] := hl
  have hn30 := hDk.n30
  have hk30 := hDk.k30
  refine lv_aload_n hx hb dX1_offer_0 rfl (lv_at hl 0 rfl) ?_
  refine lv_iload_n hx hb dX1_offer_1 rfl (lv_at hl 1 rfl) ?_
  refine kc_r (va_runV (As := [.int (nI i)]) (rest := []) ⟨hx, hb, hml, hown, hts⟩ (c_X1_billAt hDk hi) (cwV 1 hts gX1_offer_X1_billAt rfl rfl rfl (by decide +kernel) ⟨Nat.le_of_ble_eq_true rfl, Nat.le_of_ble_eq_true rfl⟩) (kpv (q0 := 0) hG hP hD hS hDk.x rfl) rfl rfl hl.1 rfl (lv_room (Nat.le_of_ble_eq_true rfl)) dX1_offer_2 ⟨Nat.le_of_ble_eq_true rfl, Nat.le_of_ble_eq_true rfl⟩) hS (fun r2 w H locs hp hP hD hS => ?_)
  have hDk : Dk K ad bad td n M rm k idx w := hp.2
  rw [hp.1]
  refine lv_astore_n (lv' := [(3, .ref (bad i)), (0, .ref (ad 0)), (1, .int (nI i)), (2, .int y)]) hx hb dX1_offer_5 rfl hl (by decide) rfl (fun ls hl => ?_)
  refine lv_iload_n hx hb dX1_offer_6 rfl (lv_at hl 3 rfl) ?_
  refine lv_iconst (v := 0) hx hb dX1_offer_7 (by decide) ?_
  refine lv_sipush (v := 5000) hx hb dX1_offer_8 (by decide) ?_
  refine kc_t (vx_runS (As := [.int y, .int 0, .int 5000]) (rest := []) ⟨hx, hb, hml, hown, hts⟩ (c_X1_checkRange_t hlt hy) (va_cwS 3 hts gX1_offer_X1_checkRange rfl rfl rfl (by decide +kernel) ⟨Nat.le_of_ble_eq_true rfl, Nat.le_of_ble_eq_true rfl⟩) (kps hG hP hD hS) rfl rfl hl.1 rfl (lv_room (Nat.le_of_ble_eq_true rfl)) dX1_offer_11 ⟨Nat.le_of_ble_eq_true rfl, Nat.le_of_ble_eq_true rfl⟩) hS (fun ce q9 w H locs hp hP hD hS hce hcv hcl => ?_)
  have hDk : Dk K ad bad td n M rm k idx w := by rw [hp]; exact hDk
  exact kr_t hxt hlocks hP hD hS hce hcv hcl (Nat.le_of_ble_eq_true rfl) (Nat.le_of_ble_eq_true rfl) hDk
set_option maxHeartbeats 4000000 in
set_option maxRecDepth 100000 in
theorem c_X1_offer_tp {l : Launch} {K : Ks} {A : Nat → Prop} {ad bad : Nat → Nat} {td : Int32} {n : Nat} {M : Nat → Nat → Int32} {rm : Nat → Int32} {k : Nat} {idx : Nat → Nat} {w : va_W} (hDk : Dk K ad bad td n M rm k idx w) (hlt : l.stackTraces = false) {i : Nat} (hi : i < n) {y : Int32} (hy : inR 0 5000 y) (hst : ¬ (M 6 i = 1 ∧ ¬ M 5 i ≤ td)) : vx_Met l yX1_offer wsX1_offer (kR 4 1 6) (kPr K A [.ref (ad 0), .int (nI i), .int y] (w)) kNo (kX K A ISE (fun w1 => Dk K ad bad td n M rm k idx w1)) 1 6 A := by
  refine kentT (cc := cX1_offer) (maxL := 4) (ret := (some .int)) (by decide) rfl (Nat.le_of_ble_eq_true rfl) ?_
  intro p e s m args below meth c ls hx hb hr hts hown hlocks hml hxt hG hP hD hS hl
  have hinX0 : ∀ x ∈ wsX00, x ∈ wsX1_offer := by decide +kernel
  have hinX1 : ∀ x ∈ wsX10, x ∈ wsX1_offer := by decide +kernel
  have hl : lv_has ls 4 [(0, .ref (ad 0)), (1, .int (nI i)), (2, .int y)] := hl
  have hn30 := hDk.n30
  have hk30 := hDk.k30
  refine lv_aload_n hx hb dX1_offer_0 rfl (lv_at hl 0 rfl) ?_
  refine lv_iload_n hx hb dX1_offer_1 rfl (lv_at hl 1 rfl) ?_
  refine kc_r (va_runV (As := [.int (nI i)]) (rest := []) ⟨hx, hb, hml, hown, hts⟩ (c_X1_billAt hDk hi) (cwV 1 hts gX1_offer_X1_billAt rfl rfl rfl (by decide +kernel) ⟨Nat.le_of_ble_eq_true rfl, Nat.le_of_ble_eq_true rfl⟩) (kpv (q0 := 0) hG hP hD hS hDk.x rfl) rfl rfl hl.1 rfl (lv_room (Nat.le_of_ble_eq_true rfl)) dX1_offer_2 ⟨Nat.le_of_ble_eq_true rfl, Nat.le_of_ble_eq_true rfl⟩) hS (fun r2 w H locs hp hP hD hS => ?_)
  have hDk : Dk K ad bad td n M rm k idx w := hp.2
  rw [hp.1]
  refine lv_astore_n (lv' := [(3, .ref (bad i)), (0, .ref (ad 0)), (1, .int (nI i)), (2, .int y)]) hx hb dX1_offer_5 rfl hl (by decide) rfl (fun ls hl => ?_)
  refine lv_iload_n hx hb dX1_offer_6 rfl (lv_at hl 3 rfl) ?_
  refine lv_iconst (v := 0) hx hb dX1_offer_7 (by decide) ?_
  refine lv_sipush (v := 5000) hx hb dX1_offer_8 (by decide) ?_
  refine kc_v (va_runS (As := [.int y, .int 0, .int 5000]) (rest := []) ⟨hx, hb, hml, hown, hts⟩ (c_X1_checkRange hy) (va_cwS 3 hts gX1_offer_X1_checkRange rfl rfl rfl (by decide +kernel) ⟨Nat.le_of_ble_eq_true rfl, Nat.le_of_ble_eq_true rfl⟩) (kps hG hP hD hS) rfl rfl hl.1 rfl (lv_room (Nat.le_of_ble_eq_true rfl)) dX1_offer_11 ⟨Nat.le_of_ble_eq_true rfl, Nat.le_of_ble_eq_true rfl⟩) hS (fun w H locs hp hP hD hS => ?_)
  have hDk : Dk K ad bad td n M rm k idx w := by rw [hp]; exact hDk
  refine lv_aload_n hx hb dX1_offer_14 rfl (lv_at hl 0 rfl) ?_
  refine kd_get hx hb hts hown hG hP hDk hi hinX0 5 (by decide) (by decide +kernel) rfl dX1_offer_15 ?_
  refine lv_iconst (v := 1) hx hb dX1_offer_18 (by decide) ?_
  refine lv_icmp_ne (tgt := 37) hx hb dX1_offer_19 (by decide) (fun h19 => ?_) (fun h19 => ?_)
  · refine lv_iconst (v := 0) hx hb dX1_offer_37 (by decide) ?_
    refine kc_t (vx_runS (As := [.int 0]) (rest := []) ⟨hx, hb, hml, hown, hts⟩ (c_X1_checkPossible_t hlt) (va_cwS 1 hts gX1_offer_X1_checkPossible rfl rfl rfl (by decide +kernel) ⟨Nat.le_of_ble_eq_true rfl, Nat.le_of_ble_eq_true rfl⟩) (kps hG hP hD hS) rfl rfl hl.1 rfl (lv_room (Nat.le_of_ble_eq_true rfl)) dX1_offer_38 ⟨Nat.le_of_ble_eq_true rfl, Nat.le_of_ble_eq_true rfl⟩) hS (fun ce q9 w H locs hp hP hD hS hce hcv hcl => ?_)
    have hDk : Dk K ad bad td n M rm k idx w := by rw [hp]; exact hDk
    exact kr_t hxt hlocks hP hD hS hce hcv hcl (Nat.le_of_ble_eq_true rfl) (Nat.le_of_ble_eq_true rfl) hDk
  · refine lv_aload_n hx hb dX1_offer_22 rfl (lv_at hl 0 rfl) ?_
    refine kd_get hx hb hts hown hG hP hDk hi hinX0 3 (by decide) (by decide +kernel) rfl dX1_offer_23 ?_
    refine lv_aload_n hx hb dX1_offer_26 rfl (lv_at hl 1 rfl) ?_
    refine kget (ci := 2) (C := RX1) (T := TX1) (N := 7) hx hb hts hown hG hP 0 hDk.x rfl hinX1 4 (by decide) (by decide +kernel) rfl dX1_offer_27 ?_
    refine lv_icmp_le (tgt := 37) hx hb dX1_offer_30 (by decide) (fun h30 => ?_) (fun h30 => False.elim (hst ⟨h19, h30⟩))
    refine lv_iconst (v := 0) hx hb dX1_offer_37 (by decide) ?_
    refine kc_t (vx_runS (As := [.int 0]) (rest := []) ⟨hx, hb, hml, hown, hts⟩ (c_X1_checkPossible_t hlt) (va_cwS 1 hts gX1_offer_X1_checkPossible rfl rfl rfl (by decide +kernel) ⟨Nat.le_of_ble_eq_true rfl, Nat.le_of_ble_eq_true rfl⟩) (kps hG hP hD hS) rfl rfl hl.1 rfl (lv_room (Nat.le_of_ble_eq_true rfl)) dX1_offer_38 ⟨Nat.le_of_ble_eq_true rfl, Nat.le_of_ble_eq_true rfl⟩) hS (fun ce q9 w H locs hp hP hD hS hce hcv hcl => ?_)
    have hDk : Dk K ad bad td n M rm k idx w := by rw [hp]; exact hDk
    exact kr_t hxt hlocks hP hD hS hce hcv hcl (Nat.le_of_ble_eq_true rfl) (Nat.le_of_ble_eq_true rfl) hDk
set_option maxHeartbeats 4000000 in
set_option maxRecDepth 100000 in
theorem c_X1_offer {l : Launch} {K : Ks} {A : Nat → Prop} {ad bad : Nat → Nat} {td : Int32} {n : Nat} {M : Nat → Nat → Int32} {rm : Nat → Int32} {k : Nat} {idx : Nat → Nat} {w : va_W} (hDk : Dk K ad bad td n M rm k idx w) {i : Nat} (hi : i < n) {y : Int32} (hy : inR 0 5000 y) (hst : M 6 i = 1 ∧ ¬ M 5 i ≤ td) : Met l yX1_offer wsX1_offer (kR 4 0 0) (kPr K A [.ref (ad 0), .int (nI i), .int y] (w)) (kQi K A (fun r w1 => r = price td (up2 M 7 i y) i ∧ Dk K ad bad td n (up2 M 7 i y) rm k idx w1)) 0 0 A := by
  refine kent (cc := cX1_offer) (maxL := 4) (ret := (some .int)) (by decide) rfl (Nat.le_of_ble_eq_true rfl) ?_
  intro p e s m args below meth c ls hx hb hr hts hown hlocks hml hini hG hP hD hS hl
  have hinX0 : ∀ x ∈ wsX00, x ∈ wsX1_offer := by decide +kernel
  have hinX1 : ∀ x ∈ wsX10, x ∈ wsX1_offer := by decide +kernel
  have hl : lv_has ls 4 [(0, .ref (ad 0)), (1, .int (nI i)), (2, .int y)] := hl
  have hn30 := hDk.n30
  have hk30 := hDk.k30
  refine lv_aload_n hx hb dX1_offer_0 rfl (lv_at hl 0 rfl) ?_
  refine lv_iload_n hx hb dX1_offer_1 rfl (lv_at hl 1 rfl) ?_
  refine kc_r (va_runV (As := [.int (nI i)]) (rest := []) ⟨hx, hb, hml, hown, hts⟩ (c_X1_billAt hDk hi) (cwV 1 hts gX1_offer_X1_billAt rfl rfl rfl (by decide +kernel) ⟨Nat.le_of_ble_eq_true rfl, Nat.le_of_ble_eq_true rfl⟩) (kpv (q0 := 0) hG hP hD hS hDk.x rfl) rfl rfl hl.1 rfl (lv_room (Nat.le_of_ble_eq_true rfl)) dX1_offer_2 ⟨Nat.le_of_ble_eq_true rfl, Nat.le_of_ble_eq_true rfl⟩) hS (fun r2 w H locs hp hP hD hS => ?_)
  have hDk : Dk K ad bad td n M rm k idx w := hp.2
  rw [hp.1]
  refine lv_astore_n (lv' := [(3, .ref (bad i)), (0, .ref (ad 0)), (1, .int (nI i)), (2, .int y)]) hx hb dX1_offer_5 rfl hl (by decide) rfl (fun ls hl => ?_)
  refine lv_iload_n hx hb dX1_offer_6 rfl (lv_at hl 3 rfl) ?_
  refine lv_iconst (v := 0) hx hb dX1_offer_7 (by decide) ?_
  refine lv_sipush (v := 5000) hx hb dX1_offer_8 (by decide) ?_
  refine kc_v (va_runS (As := [.int y, .int 0, .int 5000]) (rest := []) ⟨hx, hb, hml, hown, hts⟩ (c_X1_checkRange hy) (va_cwS 3 hts gX1_offer_X1_checkRange rfl rfl rfl (by decide +kernel) ⟨Nat.le_of_ble_eq_true rfl, Nat.le_of_ble_eq_true rfl⟩) (kps hG hP hD hS) rfl rfl hl.1 rfl (lv_room (Nat.le_of_ble_eq_true rfl)) dX1_offer_11 ⟨Nat.le_of_ble_eq_true rfl, Nat.le_of_ble_eq_true rfl⟩) hS (fun w H locs hp hP hD hS => ?_)
  have hDk : Dk K ad bad td n M rm k idx w := by rw [hp]; exact hDk
  refine lv_aload_n hx hb dX1_offer_14 rfl (lv_at hl 0 rfl) ?_
  refine kd_get hx hb hts hown hG hP hDk hi hinX0 5 (by decide) (by decide +kernel) rfl dX1_offer_15 ?_
  refine lv_iconst (v := 1) hx hb dX1_offer_18 (by decide) ?_
  refine lv_icmp_ne (tgt := 37) hx hb dX1_offer_19 (by decide) (fun h19 => False.elim (h19 hst.1)) (fun h19 => ?_)
  refine lv_aload_n hx hb dX1_offer_22 rfl (lv_at hl 0 rfl) ?_
  refine kd_get hx hb hts hown hG hP hDk hi hinX0 3 (by decide) (by decide +kernel) rfl dX1_offer_23 ?_
  refine lv_aload_n hx hb dX1_offer_26 rfl (lv_at hl 1 rfl) ?_
  refine kget (ci := 2) (C := RX1) (T := TX1) (N := 7) hx hb hts hown hG hP 0 hDk.x rfl hinX1 4 (by decide) (by decide +kernel) rfl dX1_offer_27 ?_
  refine lv_icmp_le (tgt := 37) hx hb dX1_offer_30 (by decide) (fun h30 => False.elim (hst.2 h30)) (fun h30 => ?_)
  refine lv_iconst (v := 1) hx hb dX1_offer_33 (by decide) ?_
  refine lv_goto (tgt := 38) hx hb dX1_offer_34 (by decide) ?_
  refine kc_v (va_runS (As := [.int 1]) (rest := []) ⟨hx, hb, hml, hown, hts⟩ (c_X1_checkPossible) (va_cwS 1 hts gX1_offer_X1_checkPossible rfl rfl rfl (by decide +kernel) ⟨Nat.le_of_ble_eq_true rfl, Nat.le_of_ble_eq_true rfl⟩) (kps hG hP hD hS) rfl rfl hl.1 rfl (lv_room (Nat.le_of_ble_eq_true rfl)) dX1_offer_38 ⟨Nat.le_of_ble_eq_true rfl, Nat.le_of_ble_eq_true rfl⟩) hS (fun w H locs hp hP hD hS => ?_)
  have hDk : Dk K ad bad td n M rm k idx w := by rw [hp]; exact hDk
  refine lv_aload_n hx hb dX1_offer_41 rfl (lv_at hl 0 rfl) ?_
  refine lv_iload_n hx hb dX1_offer_42 rfl (lv_at hl 3 rfl) ?_
  refine kd_put (f := 7) hx hb hts hown hG hP hD hS hDk hi hinX0 6 (by decide) (by decide +kernel) (by decide +kernel) (by decide +kernel) (by unfold slotF; decide) dX1_offer_43 (fun w H locs hDk hP hD hS => ?_)
  refine lv_aload_n hx hb dX1_offer_46 rfl (lv_at hl 0 rfl) ?_
  refine lv_aload_n hx hb dX1_offer_47 rfl (lv_at hl 1 rfl) ?_
  refine kget (ci := 2) (C := RX1) (T := TX1) (N := 7) hx hb hts hown hG hP 0 hDk.x rfl hinX1 4 (by decide) (by decide +kernel) rfl dX1_offer_48 ?_
  obtain ⟨q51, hq51, -⟩ := hDk.bill hi
  refine kc_i (va_runV (As := [.int td]) (rest := []) ⟨hx, hb, hml, hown, hts⟩ (c_X0_priceOn hq51) (cwV 1 hts gX1_offer_X0_priceOn rfl rfl rfl (by decide +kernel) ⟨Nat.le_of_ble_eq_true rfl, Nat.le_of_ble_eq_true rfl⟩) (kpv (q0 := q51) hG hP hD hS hq51 rfl) rfl rfl hl.1 rfl (lv_room (Nat.le_of_ble_eq_true rfl)) dX1_offer_51 ⟨Nat.le_of_ble_eq_true rfl, Nat.le_of_ble_eq_true rfl⟩) hS (fun r51 w H locs hp hP hD hS => ?_)
  have hDk : Dk K ad bad td n (up2 M 7 i y) rm k idx w := by rw [hp.2]; exact hDk
  rw [hp.1]
  exact kr_i hx hb hr hlocks hP hD hS (Nat.zero_le _) (Nat.zero_le _) (⟨rfl, hDk⟩) dX1_offer_54
set_option maxHeartbeats 4000000 in
set_option maxRecDepth 100000 in
theorem c_X1_takeBack_tb {l : Launch} {K : Ks} {A : Nat → Prop} {ad bad : Nat → Nat} {td : Int32} {n : Nat} {M : Nat → Nat → Int32} {rm : Nat → Int32} {k : Nat} {idx : Nat → Nat} {w : va_W} (hDk : Dk K ad bad td n M rm k idx w) (hlt : l.stackTraces = false) {x : Int32} (hix : ixBad n x) : vx_Met l yX1_takeBack wsX1_takeBack (kR 4 1 6) (kPr K A [.ref (ad 0), .int x] (w)) kNo (kX K A IOB (fun w1 => Dk K ad bad td n M rm k idx w1)) 1 6 A := by
  refine kentT (cc := cX1_takeBack) (maxL := 4) (ret := (some .int)) (by decide) rfl (Nat.le_of_ble_eq_true rfl) ?_
  intro p e s m args below meth c ls hx hb hr hts hown hlocks hml hxt hG hP hD hS hl
  have hinX0 : ∀ x ∈ wsX00, x ∈ wsX1_takeBack := by decide +kernel
  have hl : lv_has ls 4 [(0, .ref (ad 0)), (1, .int x)] := hl
  have hn30 := hDk.n30
  have hk30 := hDk.k30
  refine lv_aload_n hx hb dX1_takeBack_0 rfl (lv_at hl 0 rfl) ?_
  refine lv_iload_n hx hb dX1_takeBack_1 rfl (lv_at hl 1 rfl) ?_
  refine kc_t (vx_runV (As := [.int x]) (rest := []) ⟨hx, hb, hml, hown, hts⟩ (c_X1_billAt_t hDk hlt hix) (cwV 1 hts gX1_takeBack_X1_billAt rfl rfl rfl (by decide +kernel) ⟨Nat.le_of_ble_eq_true rfl, Nat.le_of_ble_eq_true rfl⟩) (kpv (q0 := 0) hG hP hD hS hDk.x rfl) rfl rfl hl.1 rfl (lv_room (Nat.le_of_ble_eq_true rfl)) dX1_takeBack_2 ⟨Nat.le_of_ble_eq_true rfl, Nat.le_of_ble_eq_true rfl⟩) hS (fun ce q9 w H locs hp hP hD hS hce hcv hcl => ?_)
  have hDk : Dk K ad bad td n M rm k idx w := hp
  exact kr_t hxt hlocks hP hD hS hce hcv hcl (Nat.le_of_ble_eq_true rfl) (Nat.le_of_ble_eq_true rfl) hDk
set_option maxHeartbeats 4000000 in
set_option maxRecDepth 100000 in
theorem c_X1_takeBack_tp {l : Launch} {K : Ks} {A : Nat → Prop} {ad bad : Nat → Nat} {td : Int32} {n : Nat} {M : Nat → Nat → Int32} {rm : Nat → Int32} {k : Nat} {idx : Nat → Nat} {w : va_W} (hDk : Dk K ad bad td n M rm k idx w) (hlt : l.stackTraces = false) {i : Nat} (hi : i < n) (hst : ¬ (¬ M 7 i = -1 ∧ ¬ (M 6 i = 3 ∨ M 6 i = 4))) : vx_Met l yX1_takeBack wsX1_takeBack (kR 4 1 6) (kPr K A [.ref (ad 0), .int (nI i)] (w)) kNo (kX K A ISE (fun w1 => Dk K ad bad td n M rm k idx w1)) 1 6 A := by
  refine kentT (cc := cX1_takeBack) (maxL := 4) (ret := (some .int)) (by decide) rfl (Nat.le_of_ble_eq_true rfl) ?_
  intro p e s m args below meth c ls hx hb hr hts hown hlocks hml hxt hG hP hD hS hl
  have hinX0 : ∀ x ∈ wsX00, x ∈ wsX1_takeBack := by decide +kernel
  have hl : lv_has ls 4 [(0, .ref (ad 0)), (1, .int (nI i))] := hl
  have hn30 := hDk.n30
  have hk30 := hDk.k30
  refine lv_aload_n hx hb dX1_takeBack_0 rfl (lv_at hl 0 rfl) ?_
  refine lv_iload_n hx hb dX1_takeBack_1 rfl (lv_at hl 1 rfl) ?_
  refine kc_r (va_runV (As := [.int (nI i)]) (rest := []) ⟨hx, hb, hml, hown, hts⟩ (c_X1_billAt hDk hi) (cwV 1 hts gX1_takeBack_X1_billAt rfl rfl rfl (by decide +kernel) ⟨Nat.le_of_ble_eq_true rfl, Nat.le_of_ble_eq_true rfl⟩) (kpv (q0 := 0) hG hP hD hS hDk.x rfl) rfl rfl hl.1 rfl (lv_room (Nat.le_of_ble_eq_true rfl)) dX1_takeBack_2 ⟨Nat.le_of_ble_eq_true rfl, Nat.le_of_ble_eq_true rfl⟩) hS (fun r2 w H locs hp hP hD hS => ?_)
  have hDk : Dk K ad bad td n M rm k idx w := hp.2
  rw [hp.1]
  refine lv_astore_n (lv' := [(2, .ref (bad i)), (0, .ref (ad 0)), (1, .int (nI i))]) hx hb dX1_takeBack_5 rfl hl (by decide) rfl (fun ls hl => ?_)
  refine lv_aload_n hx hb dX1_takeBack_6 rfl (lv_at hl 0 rfl) ?_
  refine kd_get hx hb hts hown hG hP hDk hi hinX0 6 (by decide) (by decide +kernel) rfl dX1_takeBack_7 ?_
  refine lv_iconst (v := (-1)) hx hb dX1_takeBack_10 (by decide) ?_
  refine lv_icmp_eq (tgt := 25) hx hb dX1_takeBack_11 (by decide) (fun h11 => ?_) (fun h11 => ?_)
  · refine lv_iconst (v := 0) hx hb dX1_takeBack_25 (by decide) ?_
    refine kc_t (vx_runS (As := [.int 0]) (rest := []) ⟨hx, hb, hml, hown, hts⟩ (c_X1_checkPossible_t hlt) (va_cwS 1 hts gX1_takeBack_X1_checkPossible rfl rfl rfl (by decide +kernel) ⟨Nat.le_of_ble_eq_true rfl, Nat.le_of_ble_eq_true rfl⟩) (kps hG hP hD hS) rfl rfl hl.1 rfl (lv_room (Nat.le_of_ble_eq_true rfl)) dX1_takeBack_26 ⟨Nat.le_of_ble_eq_true rfl, Nat.le_of_ble_eq_true rfl⟩) hS (fun ce q9 w H locs hp hP hD hS hce hcv hcl => ?_)
    have hDk : Dk K ad bad td n M rm k idx w := by rw [hp]; exact hDk
    exact kr_t hxt hlocks hP hD hS hce hcv hcl (Nat.le_of_ble_eq_true rfl) (Nat.le_of_ble_eq_true rfl) hDk
  · refine lv_aload_n hx hb dX1_takeBack_14 rfl (lv_at hl 0 rfl) ?_
    obtain ⟨q15, hq15, -⟩ := hDk.bill hi
    refine kc_i (va_runV (As := []) (rest := []) ⟨hx, hb, hml, hown, hts⟩ (c_X0_isPaid hq15) (cwV 0 hts gX1_takeBack_X0_isPaid rfl rfl rfl (by decide +kernel) ⟨Nat.le_of_ble_eq_true rfl, Nat.le_of_ble_eq_true rfl⟩) (kpv (q0 := q15) hG hP hD hS hq15 rfl) rfl rfl hl.1 rfl (lv_room (Nat.le_of_ble_eq_true rfl)) dX1_takeBack_15 ⟨Nat.le_of_ble_eq_true rfl, Nat.le_of_ble_eq_true rfl⟩) hS (fun r15 w H locs hp hP hD hS => ?_)
    have hDk : Dk K ad bad td n M rm k idx w := by rw [hp.2]; exact hDk
    rw [hp.1]
    refine lv_if_ne (tgt := 25) hx hb dX1_takeBack_18 (by decide) (fun h18 => ?_) (fun h18 => False.elim (hst ⟨h11, bi_d0.mp h18⟩))
    refine lv_iconst (v := 0) hx hb dX1_takeBack_25 (by decide) ?_
    refine kc_t (vx_runS (As := [.int 0]) (rest := []) ⟨hx, hb, hml, hown, hts⟩ (c_X1_checkPossible_t hlt) (va_cwS 1 hts gX1_takeBack_X1_checkPossible rfl rfl rfl (by decide +kernel) ⟨Nat.le_of_ble_eq_true rfl, Nat.le_of_ble_eq_true rfl⟩) (kps hG hP hD hS) rfl rfl hl.1 rfl (lv_room (Nat.le_of_ble_eq_true rfl)) dX1_takeBack_26 ⟨Nat.le_of_ble_eq_true rfl, Nat.le_of_ble_eq_true rfl⟩) hS (fun ce q9 w H locs hp hP hD hS hce hcv hcl => ?_)
    have hDk : Dk K ad bad td n M rm k idx w := by rw [hp]; exact hDk
    exact kr_t hxt hlocks hP hD hS hce hcv hcl (Nat.le_of_ble_eq_true rfl) (Nat.le_of_ble_eq_true rfl) hDk
set_option maxHeartbeats 4000000 in
set_option maxRecDepth 100000 in
theorem c_X1_takeBack {l : Launch} {K : Ks} {A : Nat → Prop} {ad bad : Nat → Nat} {td : Int32} {n : Nat} {M : Nat → Nat → Int32} {rm : Nat → Int32} {k : Nat} {idx : Nat → Nat} {w : va_W} (hDk : Dk K ad bad td n M rm k idx w) {i : Nat} (hi : i < n) (hst : ¬ M 7 i = -1 ∧ ¬ (M 6 i = 3 ∨ M 6 i = 4)) : Met l yX1_takeBack wsX1_takeBack (kR 4 0 0) (kPr K A [.ref (ad 0), .int (nI i)] (w)) (kQi K A (fun r w1 => r = M 7 i ∧ Dk K ad bad td n (up2 M 7 i (-1)) rm k idx w1)) 0 0 A := by
  refine kent (cc := cX1_takeBack) (maxL := 4) (ret := (some .int)) (by decide) rfl (Nat.le_of_ble_eq_true rfl) ?_
  intro p e s m args below meth c ls hx hb hr hts hown hlocks hml hini hG hP hD hS hl
  have hinX0 : ∀ x ∈ wsX00, x ∈ wsX1_takeBack := by decide +kernel
  have hl : lv_has ls 4 [(0, .ref (ad 0)), (1, .int (nI i))] := hl
  have hn30 := hDk.n30
  have hk30 := hDk.k30
  refine lv_aload_n hx hb dX1_takeBack_0 rfl (lv_at hl 0 rfl) ?_
  refine lv_iload_n hx hb dX1_takeBack_1 rfl (lv_at hl 1 rfl) ?_
  refine kc_r (va_runV (As := [.int (nI i)]) (rest := []) ⟨hx, hb, hml, hown, hts⟩ (c_X1_billAt hDk hi) (cwV 1 hts gX1_takeBack_X1_billAt rfl rfl rfl (by decide +kernel) ⟨Nat.le_of_ble_eq_true rfl, Nat.le_of_ble_eq_true rfl⟩) (kpv (q0 := 0) hG hP hD hS hDk.x rfl) rfl rfl hl.1 rfl (lv_room (Nat.le_of_ble_eq_true rfl)) dX1_takeBack_2 ⟨Nat.le_of_ble_eq_true rfl, Nat.le_of_ble_eq_true rfl⟩) hS (fun r2 w H locs hp hP hD hS => ?_)
  have hDk : Dk K ad bad td n M rm k idx w := hp.2
  rw [hp.1]
  refine lv_astore_n (lv' := [(2, .ref (bad i)), (0, .ref (ad 0)), (1, .int (nI i))]) hx hb dX1_takeBack_5 rfl hl (by decide) rfl (fun ls hl => ?_)
  refine lv_aload_n hx hb dX1_takeBack_6 rfl (lv_at hl 0 rfl) ?_
  refine kd_get hx hb hts hown hG hP hDk hi hinX0 6 (by decide) (by decide +kernel) rfl dX1_takeBack_7 ?_
  refine lv_iconst (v := (-1)) hx hb dX1_takeBack_10 (by decide) ?_
  refine lv_icmp_eq (tgt := 25) hx hb dX1_takeBack_11 (by decide) (fun h11 => False.elim (hst.1 h11)) (fun h11 => ?_)
  refine lv_aload_n hx hb dX1_takeBack_14 rfl (lv_at hl 0 rfl) ?_
  obtain ⟨q15, hq15, -⟩ := hDk.bill hi
  refine kc_i (va_runV (As := []) (rest := []) ⟨hx, hb, hml, hown, hts⟩ (c_X0_isPaid hq15) (cwV 0 hts gX1_takeBack_X0_isPaid rfl rfl rfl (by decide +kernel) ⟨Nat.le_of_ble_eq_true rfl, Nat.le_of_ble_eq_true rfl⟩) (kpv (q0 := q15) hG hP hD hS hq15 rfl) rfl rfl hl.1 rfl (lv_room (Nat.le_of_ble_eq_true rfl)) dX1_takeBack_15 ⟨Nat.le_of_ble_eq_true rfl, Nat.le_of_ble_eq_true rfl⟩) hS (fun r15 w H locs hp hP hD hS => ?_)
  have hDk : Dk K ad bad td n M rm k idx w := by rw [hp.2]; exact hDk
  rw [hp.1]
  refine lv_if_ne (tgt := 25) hx hb dX1_takeBack_18 (by decide) (fun h18 => False.elim (hst.2 (bi_dn.mp h18))) (fun h18 => ?_)
  refine lv_iconst (v := 1) hx hb dX1_takeBack_21 (by decide) ?_
  refine lv_goto (tgt := 26) hx hb dX1_takeBack_22 (by decide) ?_
  refine kc_v (va_runS (As := [.int 1]) (rest := []) ⟨hx, hb, hml, hown, hts⟩ (c_X1_checkPossible) (va_cwS 1 hts gX1_takeBack_X1_checkPossible rfl rfl rfl (by decide +kernel) ⟨Nat.le_of_ble_eq_true rfl, Nat.le_of_ble_eq_true rfl⟩) (kps hG hP hD hS) rfl rfl hl.1 rfl (lv_room (Nat.le_of_ble_eq_true rfl)) dX1_takeBack_26 ⟨Nat.le_of_ble_eq_true rfl, Nat.le_of_ble_eq_true rfl⟩) hS (fun w H locs hp hP hD hS => ?_)
  have hDk : Dk K ad bad td n M rm k idx w := by rw [hp]; exact hDk
  refine lv_aload_n hx hb dX1_takeBack_29 rfl (lv_at hl 0 rfl) ?_
  refine kd_get hx hb hts hown hG hP hDk hi hinX0 6 (by decide) (by decide +kernel) rfl dX1_takeBack_30 ?_
  refine lv_istore_n (lv' := [(3, .int (M 7 i)), (2, .ref (bad i)), (0, .ref (ad 0)), (1, .int (nI i))]) hx hb dX1_takeBack_33 rfl hl (by decide) rfl (fun ls hl => ?_)
  refine lv_aload_n hx hb dX1_takeBack_34 rfl (lv_at hl 1 rfl) ?_
  refine lv_iconst (v := (-1)) hx hb dX1_takeBack_35 (by decide) ?_
  refine kd_put (f := 7) hx hb hts hown hG hP hD hS hDk hi hinX0 6 (by decide) (by decide +kernel) (by decide +kernel) (by decide +kernel) (by unfold slotF; decide) dX1_takeBack_36 (fun w H locs hDk hP hD hS => ?_)
  refine lv_iload_n hx hb dX1_takeBack_39 rfl (lv_at hl 0 rfl) ?_
  exact kr_i hx hb hr hlocks hP hD hS (Nat.zero_le _) (Nat.zero_le _) (⟨rfl, hDk⟩) dX1_takeBack_40
