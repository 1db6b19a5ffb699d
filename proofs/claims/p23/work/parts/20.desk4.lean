/-! The class, 4: what counts, the average, days -/
def cpS (td : Int32) (M : Nat → Nat → Int32) (b o : Nat) : Nat → Int32
  | 0 => 0
  | k + 1 => if cntM td M b o k then cpS td M b o k + M 8 k else cpS td M b o k
theorem cpS_t {td : Int32} {M : Nat → Nat → Int32} {b o k : Nat} (h : cntM td M b o k) : cpS td M b o (k + 1) = cpS td M b o k + M 8 k := by rw [cpS, if_pos h]
theorem cpS_f {td : Int32} {M : Nat → Nat → Int32} {b o k : Nat} (h : ¬ cntM td M b o k) : cpS td M b o (k + 1) = cpS td M b o k := by rw [cpS, if_neg h]
theorem loM_cp {td : Int32} {M : Nat → Nat → Int32} {b o : Nat} : ∀ k, M 12 (8 * b + o) - cpS td M b o k = loM td M b o k
  | 0 => by rw [cpS, loM, Int32.sub_zero]
  | k + 1 => by
    by_cases h : cntM td M b o k
    · rw [cpS_t h, loM_t h, ← loM_cp k]
      simp only [Int32.sub_eq_add_neg, Int32.neg_add, Int32.add_assoc]
    · rw [cpS_f h, loM_f h, ← loM_cp k, Int32.sub_zero]
set_option maxHeartbeats 4000000 in
set_option maxRecDepth 100000 in
theorem c_X1_pricesThatCount {l : Launch} {K : Ks} {A : Nat → Prop} {ad bad : Nat → Nat} {td : Int32} {n : Nat} {M : Nat → Nat → Int32} {rm : Nat → Int32} {k : Nat} {idx : Nat → Nat} {w : va_W} (hDk : Dk K ad bad td n M rm k idx w) {b o : Nat} (hx4 : b < 4) (hx8 : o < 8) : Met l yX1_pricesThatCount wsX1_pricesThatCount (kR 3 0 0) (kPr K A [.ref (ad 0), .int (nI b), .int (nI o)] (w)) (kQi K A (fun r w1 => r = cpS td M b o n ∧ Dk K ad bad td n M rm k idx w1)) 0 0 A := by
  refine kent (cc := cX1_pricesThatCount) (maxL := 6) (ret := (some .int)) (by decide) rfl (Nat.le_of_ble_eq_true rfl) ?_
  intro p e s m args below meth c ls hx hb hr hts hown hlocks hml hini hG hP hD hS hl
  have hinX0 : ∀ x ∈ wsX00, x ∈ wsX1_pricesThatCount := by decide +kernel
  have hinX1 : ∀ x ∈ wsX10, x ∈ wsX1_pricesThatCount := by decide +kernel
  have hl : lv_has ls 6 [(0, .ref (ad 0)), (1, .int (nI b)), (2, .int (nI o))] := hl
  have hn30 := hDk.n30
  have hk30 := hDk.k30
  refine lv_iconst (v := 0) hx hb dX1_pricesThatCount_0 (by decide) ?_
  refine lv_istore_n (lv' := [(3, .int 0), (0, .ref (ad 0)), (1, .int (nI b)), (2, .int (nI o))]) hx hb dX1_pricesThatCount_1 rfl hl (by decide) rfl (fun ls hl => ?_)
  refine lv_iconst (v := 0) hx hb dX1_pricesThatCount_2 (by decide) ?_
  refine lv_istore (lv' := [(4, .int 0), (3, .int 0), (0, .ref (ad 0)), (1, .int (nI b)), (2, .int (nI o))]) hx hb dX1_pricesThatCount_3 hl (by decide) rfl (fun ls hl => ?_)
  have LOOP : ∀ (Q' : State → Prop), (∀ (w : va_W)  (ls : Array Slot) (H : Heap) (locs : List Loc), Dk K ad bad td n M rm k idx w → va_P K.1 kCl (w) H → va_D A (w) → va_S A s.heap H locs → lv_has ls 6 [(0, .ref (ad 0)), (1, .int (nI b)), (2, .int (nI o)), (3, .int (cpS td M b o n)), (4, .int (nI n))] → W p l e ((kR 3 0 0)) s m args below meth c H locs 0 0 Q' (F0 m 84 ls [])) → ∀ (d j : Nat) (w : va_W)  (ls : Array Slot) (H : Heap) (locs : List Loc), j + d = n → Dk K ad bad td n M rm k idx w → va_P K.1 kCl (w) H → va_D A (w) → va_S A s.heap H locs → lv_has ls 6 [(0, .ref (ad 0)), (1, .int (nI b)), (2, .int (nI o)), (3, .int (cpS td M b o j)), (4, .int (nI j))] → W p l e ((kR 3 0 0)) s m args below meth c H locs 0 0 Q' (F0 m 5 ls []) := by
    intro Q' kx d
    induction d with
    | zero =>
      intro j w  ls H locs hk hDk hP hD hS hl
      have hk2 : j = n := by omega
      refine lv_iload hx hb dX1_pricesThatCount_5 (lv_at hl 4 rfl) ?_
      refine lv_aload_n hx hb dX1_pricesThatCount_7 rfl (lv_at hl 0 rfl) ?_
      refine kget (ci := 2) (C := RX1) (T := TX1) (N := 7) hx hb hts hown hG hP 0 hDk.x rfl hinX1 3 (by decide) (by decide +kernel) rfl dX1_pricesThatCount_8 ?_
      obtain ⟨m5, e5, h5⟩ := hDk.l5
      refine kc_i (va_runV (As := []) (rest := [.int (nI j)]) ⟨hx, hb, hml, hown, hts⟩ (e_size5 h5) (cwV 0 hts gX1_pricesThatCount_Jx4a65c_size_8abf5 rfl rfl rfl (by decide +kernel) ⟨Nat.le_of_ble_eq_true rfl, Nat.le_of_ble_eq_true rfl⟩) (kpv (q0 := 5) hG hP hD hS h5 rfl) rfl rfl hl.1 rfl (lv_room (Nat.le_of_ble_eq_true rfl)) dX1_pricesThatCount_11 ⟨Nat.le_of_ble_eq_true rfl, Nat.le_of_ble_eq_true rfl⟩) hS (fun r11 w H locs hp hP hD hS => ?_)
      have hDk : Dk K ad bad td n M rm k idx w := by rw [hp.2]; exact hDk
      rw [hp.1]
      refine lv_icmp_ge (tgt := 84) hx hb dX1_pricesThatCount_14 (by decide) (fun h14 => ?_) (fun h14 => False.elim (absurd (nI_le (Nat.le_of_eq hk2.symm) (by omega)) h14))
      have hk3 : n = j := hk2.symm
      subst hk3
      exact kx w  ls H locs hDk hP hD hS (lv_sub hl [0, 1, 2, 3, 4] rfl)
    | succ d ih =>
      intro j w  ls H locs hk hDk hP hD hS hl
      have hk2 : j < n := by omega
      refine lv_iload hx hb dX1_pricesThatCount_5 (lv_at hl 4 rfl) ?_
      refine lv_aload_n hx hb dX1_pricesThatCount_7 rfl (lv_at hl 0 rfl) ?_
      refine kget (ci := 2) (C := RX1) (T := TX1) (N := 7) hx hb hts hown hG hP 0 hDk.x rfl hinX1 3 (by decide) (by decide +kernel) rfl dX1_pricesThatCount_8 ?_
      obtain ⟨m5, e5, h5⟩ := hDk.l5
      refine kc_i (va_runV (As := []) (rest := [.int (nI j)]) ⟨hx, hb, hml, hown, hts⟩ (e_size5 h5) (cwV 0 hts gX1_pricesThatCount_Jx4a65c_size_8abf5 rfl rfl rfl (by decide +kernel) ⟨Nat.le_of_ble_eq_true rfl, Nat.le_of_ble_eq_true rfl⟩) (kpv (q0 := 5) hG hP hD hS h5 rfl) rfl rfl hl.1 rfl (lv_room (Nat.le_of_ble_eq_true rfl)) dX1_pricesThatCount_11 ⟨Nat.le_of_ble_eq_true rfl, Nat.le_of_ble_eq_true rfl⟩) hS (fun r11 w H locs hp hP hD hS => ?_)
      have hDk : Dk K ad bad td n M rm k idx w := by rw [hp.2]; exact hDk
      rw [hp.1]
      refine lv_icmp_ge (tgt := 84) hx hb dX1_pricesThatCount_14 (by decide) (fun h14 => False.elim (absurd h14 (nI_ge hk2 (by omega)))) (fun h14 => ?_)
      refine lv_aload_n hx hb dX1_pricesThatCount_17 rfl (lv_at hl 0 rfl) ?_
      refine kget (ci := 2) (C := RX1) (T := TX1) (N := 7) hx hb hts hown hG hP 0 hDk.x rfl hinX1 3 (by decide) (by decide +kernel) rfl dX1_pricesThatCount_18 ?_
      refine lv_iload hx hb dX1_pricesThatCount_21 (lv_at hl 4 rfl) ?_
      obtain ⟨m5, e5, h5⟩ := hDk.l5
      refine kc_r (va_runV (As := [.int (nI j)]) (rest := []) ⟨hx, hb, hml, hown, hts⟩ (d_get5 hDk hk2) (cwV 1 hts gX1_pricesThatCount_Jx4a65c_get_915e3 rfl rfl rfl (by decide +kernel) ⟨Nat.le_of_ble_eq_true rfl, Nat.le_of_ble_eq_true rfl⟩) (kpv (q0 := 5) hG hP hD hS h5 rfl) rfl rfl hl.1 rfl (lv_room (Nat.le_of_ble_eq_true rfl)) dX1_pricesThatCount_23 ⟨Nat.le_of_ble_eq_true rfl, Nat.le_of_ble_eq_true rfl⟩) hS (fun r23 w H locs hp hP hD hS => ?_)
      have hDk : Dk K ad bad td n M rm k idx w := by rw [hp.2]; exact hDk
      rw [hp.1]
      refine kd_cast hx hb hown hts (by decide +kernel) hG hP hDk hk2 dX1_pricesThatCount_26 ?_
      refine lv_astore (lv' := [(5, .ref (bad j)), (0, .ref (ad 0)), (1, .int (nI b)), (2, .int (nI o)), (3, .int (cpS td M b o j)), (4, .int (nI j))]) hx hb dX1_pricesThatCount_29 hl (by decide) rfl (fun ls hl => ?_)
      refine lv_aload hx hb dX1_pricesThatCount_31 (lv_at hl 0 rfl) ?_
      refine kd_get hx hb hts hown hG hP hDk hk2 hinX0 1 (by decide) (by decide +kernel) rfl dX1_pricesThatCount_33 ?_
      refine lv_iload_n hx hb dX1_pricesThatCount_36 rfl (lv_at hl 2 rfl) ?_
      refine lv_icmp_ne (tgt := 78) hx hb dX1_pricesThatCount_37 (by decide) (fun h37 => ?_) (fun h37 => ?_)
      · refine lv_iinc (v := nI (j + 1)) (lv' := [(4, .int (nI (j + 1))), (5, .ref (bad j)), (0, .ref (ad 0)), (1, .int (nI b)), (2, .int (nI o)), (3, .int (cpS td M b o j))]) hx hb dX1_pricesThatCount_78 hl (k := 5) rfl (kinc j) (by decide) rfl (fun ls hl => ?_)
        refine lv_goto (tgt := 5) hx hb dX1_pricesThatCount_81 (by decide) ?_
        exact (ih (j + 1) w  ls H locs (by omega) hDk hP hD hS (by rw [cpS_f (fun q => h37 q.1)]; exact lv_sub hl [2, 3, 4, 5, 0] rfl))
      · refine lv_aload hx hb dX1_pricesThatCount_40 (lv_at hl 0 rfl) ?_
        refine kd_get hx hb hts hown hG hP hDk hk2 hinX0 2 (by decide) (by decide +kernel) rfl dX1_pricesThatCount_42 ?_
        refine lv_iload_n hx hb dX1_pricesThatCount_45 rfl (lv_at hl 3 rfl) ?_
        refine lv_icmp_ne (tgt := 78) hx hb dX1_pricesThatCount_46 (by decide) (fun h46 => ?_) (fun h46 => ?_)
        · refine lv_iinc (v := nI (j + 1)) (lv' := [(4, .int (nI (j + 1))), (5, .ref (bad j)), (0, .ref (ad 0)), (1, .int (nI b)), (2, .int (nI o)), (3, .int (cpS td M b o j))]) hx hb dX1_pricesThatCount_78 hl (k := 5) rfl (kinc j) (by decide) rfl (fun ls hl => ?_)
          refine lv_goto (tgt := 5) hx hb dX1_pricesThatCount_81 (by decide) ?_
          exact (ih (j + 1) w  ls H locs (by omega) hDk hP hD hS (by rw [cpS_f (fun q => h46 q.2.1)]; exact lv_sub hl [2, 3, 4, 5, 0] rfl))
        · refine lv_aload hx hb dX1_pricesThatCount_49 (lv_at hl 0 rfl) ?_
          refine kd_get hx hb hts hown hG hP hDk hk2 hinX0 5 (by decide) (by decide +kernel) rfl dX1_pricesThatCount_51 ?_
          refine lv_iconst (v := 3) hx hb dX1_pricesThatCount_54 (by decide) ?_
          refine lv_icmp_ne (tgt := 78) hx hb dX1_pricesThatCount_55 (by decide) (fun h55 => ?_) (fun h55 => ?_)
          · refine lv_iinc (v := nI (j + 1)) (lv' := [(4, .int (nI (j + 1))), (5, .ref (bad j)), (0, .ref (ad 0)), (1, .int (nI b)), (2, .int (nI o)), (3, .int (cpS td M b o j))]) hx hb dX1_pricesThatCount_78 hl (k := 5) rfl (kinc j) (by decide) rfl (fun ls hl => ?_)
            refine lv_goto (tgt := 5) hx hb dX1_pricesThatCount_81 (by decide) ?_
            exact (ih (j + 1) w  ls H locs (by omega) hDk hP hD hS (by rw [cpS_f (fun q => h55 q.2.2.1)]; exact lv_sub hl [2, 3, 4, 5, 0] rfl))
          · refine lv_aload hx hb dX1_pricesThatCount_58 (lv_at hl 0 rfl) ?_
            refine kd_get hx hb hts hown hG hP hDk hk2 hinX0 3 (by decide) (by decide +kernel) rfl dX1_pricesThatCount_60 ?_
            refine lv_aload_n hx hb dX1_pricesThatCount_63 rfl (lv_at hl 1 rfl) ?_
            refine kget (ci := 2) (C := RX1) (T := TX1) (N := 7) hx hb hts hown hG hP 0 hDk.x rfl hinX1 4 (by decide) (by decide +kernel) rfl dX1_pricesThatCount_64 ?_
            refine lv_icmp_le (tgt := 78) hx hb dX1_pricesThatCount_67 (by decide) (fun h67 => ?_) (fun h67 => ?_)
            · refine lv_iinc (v := nI (j + 1)) (lv' := [(4, .int (nI (j + 1))), (5, .ref (bad j)), (0, .ref (ad 0)), (1, .int (nI b)), (2, .int (nI o)), (3, .int (cpS td M b o j))]) hx hb dX1_pricesThatCount_78 hl (k := 5) rfl (kinc j) (by decide) rfl (fun ls hl => ?_)
              refine lv_goto (tgt := 5) hx hb dX1_pricesThatCount_81 (by decide) ?_
              exact (ih (j + 1) w  ls H locs (by omega) hDk hP hD hS (by rw [cpS_f (fun q => q.2.2.2 h67)]; exact lv_sub hl [2, 3, 4, 5, 0] rfl))
            · refine lv_iload_n hx hb dX1_pricesThatCount_70 rfl (lv_at hl 4 rfl) ?_
              refine lv_aload hx hb dX1_pricesThatCount_71 (lv_at hl 0 rfl) ?_
              refine kd_get hx hb hts hown hG hP hDk hk2 hinX0 7 (by decide) (by decide +kernel) rfl dX1_pricesThatCount_73 ?_
              refine lv_iadd hx hb dX1_pricesThatCount_76 ?_
              refine lv_istore_n (lv' := [(3, .int (cpS td M b o j + (M 8 j))), (5, .ref (bad j)), (0, .ref (ad 0)), (1, .int (nI b)), (2, .int (nI o)), (4, .int (nI j))]) hx hb dX1_pricesThatCount_77 rfl hl (by decide) rfl (fun ls hl => ?_)
              refine lv_iinc (v := nI (j + 1)) (lv' := [(4, .int (nI (j + 1))), (3, .int (cpS td M b o j + (M 8 j))), (5, .ref (bad j)), (0, .ref (ad 0)), (1, .int (nI b)), (2, .int (nI o))]) hx hb dX1_pricesThatCount_78 hl (k := 5) rfl (kinc j) (by decide) rfl (fun ls hl => ?_)
              refine lv_goto (tgt := 5) hx hb dX1_pricesThatCount_81 (by decide) ?_
              exact (ih (j + 1) w  ls H locs (by omega) hDk hP hD hS (by rw [cpS_t ⟨h37, h46, h55, h67⟩]; exact lv_sub hl [3, 4, 5, 1, 0] rfl))
  refine LOOP _ (fun w  ls H locs hDk hP hD hS hl => ?_) n 0 w  ls _ _ (by omega) hDk hP hD hS (lv_sub hl [2, 3, 4, 1, 0] rfl)
  refine lv_iload_n hx hb dX1_pricesThatCount_84 rfl (lv_at hl 3 rfl) ?_
  exact kr_i hx hb hr hlocks hP hD hS (Nat.zero_le _) (Nat.zero_le _) (⟨rfl, hDk⟩) dX1_pricesThatCount_85
set_option maxHeartbeats 4000000 in
set_option maxRecDepth 100000 in
theorem c_X1_left_tb {l : Launch} {K : Ks} {A : Nat → Prop} {ad bad : Nat → Nat} {td : Int32} {n : Nat} {M : Nat → Nat → Int32} {rm : Nat → Int32} {k : Nat} {idx : Nat → Nat} {w : va_W} (hDk : Dk K ad bad td n M rm k idx w) (hlt : l.stackTraces = false) {x y : Int32} (hx4 : ixBad 4 x) : vx_Met l yX1_left wsX1_left (kR 4 1 6) (kPr K A [.ref (ad 0), .int x, .int y] (w)) kNo (kX K A IOB (fun w1 => Dk K ad bad td n M rm k idx w1)) 1 6 A := by
  refine kentT (cc := cX1_left) (maxL := 4) (ret := (some .int)) (by decide) rfl (Nat.le_of_ble_eq_true rfl) ?_
  intro p e s m args below meth c ls hx hb hr hts hown hlocks hml hxt hG hP hD hS hl
  have hinX1 : ∀ x ∈ wsX10, x ∈ wsX1_left := by decide +kernel
  have hl : lv_has ls 4 [(0, .ref (ad 0)), (1, .int x), (2, .int y)] := hl
  have hn30 := hDk.n30
  have hk30 := hDk.k30
  refine lv_iload_n hx hb dX1_left_0 rfl (lv_at hl 1 rfl) ?_
  refine lv_iload_n hx hb dX1_left_1 rfl (lv_at hl 2 rfl) ?_
  refine kc_t (vx_runS (As := [.int x, .int y]) (rest := []) ⟨hx, hb, hml, hown, hts⟩ (c_X1_pairOf_tb hlt hx4) (va_cwS 2 hts gX1_left_X1_pairOf rfl rfl rfl (by decide +kernel) ⟨Nat.le_of_ble_eq_true rfl, Nat.le_of_ble_eq_true rfl⟩) (kps hG hP hD hS) rfl rfl hl.1 rfl (lv_room (Nat.le_of_ble_eq_true rfl)) dX1_left_2 ⟨Nat.le_of_ble_eq_true rfl, Nat.le_of_ble_eq_true rfl⟩) hS (fun ce q9 w H locs hp hP hD hS hce hcv hcl => ?_)
  have hDk : Dk K ad bad td n M rm k idx w := by rw [hp]; exact hDk
  exact kr_t hxt hlocks hP hD hS hce hcv hcl (Nat.le_of_ble_eq_true rfl) (Nat.le_of_ble_eq_true rfl) hDk
set_option maxHeartbeats 4000000 in
set_option maxRecDepth 100000 in
theorem c_X1_left_ts {l : Launch} {K : Ks} {A : Nat → Prop} {ad bad : Nat → Nat} {td : Int32} {n : Nat} {M : Nat → Nat → Int32} {rm : Nat → Int32} {k : Nat} {idx : Nat → Nat} {w : va_W} (hDk : Dk K ad bad td n M rm k idx w) (hlt : l.stackTraces = false) {b : Nat} {y : Int32} (hx4 : b < 4) (hx8 : ixBad 8 y) : vx_Met l yX1_left wsX1_left (kR 4 1 6) (kPr K A [.ref (ad 0), .int (nI b), .int y] (w)) kNo (kX K A IOB (fun w1 => Dk K ad bad td n M rm k idx w1)) 1 6 A := by
  refine kentT (cc := cX1_left) (maxL := 4) (ret := (some .int)) (by decide) rfl (Nat.le_of_ble_eq_true rfl) ?_
  intro p e s m args below meth c ls hx hb hr hts hown hlocks hml hxt hG hP hD hS hl
  have hinX1 : ∀ x ∈ wsX10, x ∈ wsX1_left := by decide +kernel
  have hl : lv_has ls 4 [(0, .ref (ad 0)), (1, .int (nI b)), (2, .int y)] := hl
  have hn30 := hDk.n30
  have hk30 := hDk.k30
  refine lv_iload_n hx hb dX1_left_0 rfl (lv_at hl 1 rfl) ?_
  refine lv_iload_n hx hb dX1_left_1 rfl (lv_at hl 2 rfl) ?_
  refine kc_t (vx_runS (As := [.int (nI b), .int y]) (rest := []) ⟨hx, hb, hml, hown, hts⟩ (c_X1_pairOf_ts hlt hx4 hx8) (va_cwS 2 hts gX1_left_X1_pairOf rfl rfl rfl (by decide +kernel) ⟨Nat.le_of_ble_eq_true rfl, Nat.le_of_ble_eq_true rfl⟩) (kps hG hP hD hS) rfl rfl hl.1 rfl (lv_room (Nat.le_of_ble_eq_true rfl)) dX1_left_2 ⟨Nat.le_of_ble_eq_true rfl, Nat.le_of_ble_eq_true rfl⟩) hS (fun ce q9 w H locs hp hP hD hS hce hcv hcl => ?_)
  have hDk : Dk K ad bad td n M rm k idx w := by rw [hp]; exact hDk
  exact kr_t hxt hlocks hP hD hS hce hcv hcl (Nat.le_of_ble_eq_true rfl) (Nat.le_of_ble_eq_true rfl) hDk
set_option maxHeartbeats 4000000 in
set_option maxRecDepth 100000 in
theorem c_X1_left {l : Launch} {K : Ks} {A : Nat → Prop} {ad bad : Nat → Nat} {td : Int32} {n : Nat} {M : Nat → Nat → Int32} {rm : Nat → Int32} {k : Nat} {idx : Nat → Nat} {w : va_W} (hDk : Dk K ad bad td n M rm k idx w) {b o : Nat} (hx4 : b < 4) (hx8 : o < 8) : Met l yX1_left wsX1_left (kR 4 0 0) (kPr K A [.ref (ad 0), .int (nI b), .int (nI o)] (w)) (kQi K A (fun r w1 => r = loM td M b o n ∧ Dk K ad bad td n M rm k idx w1)) 0 0 A := by
  refine kent (cc := cX1_left) (maxL := 4) (ret := (some .int)) (by decide) rfl (Nat.le_of_ble_eq_true rfl) ?_
  intro p e s m args below meth c ls hx hb hr hts hown hlocks hml hini hG hP hD hS hl
  have hinX1 : ∀ x ∈ wsX10, x ∈ wsX1_left := by decide +kernel
  have hl : lv_has ls 4 [(0, .ref (ad 0)), (1, .int (nI b)), (2, .int (nI o))] := hl
  have hn30 := hDk.n30
  have hk30 := hDk.k30
  refine lv_iload_n hx hb dX1_left_0 rfl (lv_at hl 1 rfl) ?_
  refine lv_iload_n hx hb dX1_left_1 rfl (lv_at hl 2 rfl) ?_
  refine kc_i (va_runS (As := [.int (nI b), .int (nI o)]) (rest := []) ⟨hx, hb, hml, hown, hts⟩ (c_X1_pairOf hx4 hx8) (va_cwS 2 hts gX1_left_X1_pairOf rfl rfl rfl (by decide +kernel) ⟨Nat.le_of_ble_eq_true rfl, Nat.le_of_ble_eq_true rfl⟩) (kps hG hP hD hS) rfl rfl hl.1 rfl (lv_room (Nat.le_of_ble_eq_true rfl)) dX1_left_2 ⟨Nat.le_of_ble_eq_true rfl, Nat.le_of_ble_eq_true rfl⟩) hS (fun r2 w H locs hp hP hD hS => ?_)
  have hDk : Dk K ad bad td n M rm k idx w := by rw [hp.2]; exact hDk
  rw [hp.1]
  refine lv_istore_n (lv' := [(3, .int (nI (8 * b + o))), (0, .ref (ad 0)), (1, .int (nI b)), (2, .int (nI o))]) hx hb dX1_left_5 rfl hl (by decide) rfl (fun ls hl => ?_)
  refine lv_aload_n hx hb dX1_left_6 rfl (lv_at hl 1 rfl) ?_
  refine kget (ci := 2) (C := RX1) (T := TX1) (N := 7) hx hb hts hown hG hP 0 hDk.x rfl hinX1 1 (by decide) (by decide +kernel) rfl dX1_left_7 ?_
  refine lv_iload_n hx hb dX1_left_10 rfl (lv_at hl 0 rfl) ?_
  refine kiald (n := 32) (j := (8 * b + o)) hx hb hG hP 2 hDk.a2 (by omega) (by decide) dX1_left_11 ?_
  refine lv_aload_n hx hb dX1_left_12 rfl (lv_at hl 1 rfl) ?_
  refine lv_iload_n hx hb dX1_left_13 rfl (lv_at hl 2 rfl) ?_
  refine lv_iload_n hx hb dX1_left_14 rfl (lv_at hl 3 rfl) ?_
  refine kc_i (va_runV (As := [.int (nI b), .int (nI o)]) (rest := [.int (M 12 (8 * b + o))]) ⟨hx, hb, hml, hown, hts⟩ (c_X1_pricesThatCount hDk hx4 hx8) (cwV 2 hts gX1_left_X1_pricesThatCount rfl rfl rfl (by decide +kernel) ⟨Nat.le_of_ble_eq_true rfl, Nat.le_of_ble_eq_true rfl⟩) (kpv (q0 := 0) hG hP hD hS hDk.x rfl) rfl rfl hl.1 rfl (lv_room (Nat.le_of_ble_eq_true rfl)) dX1_left_15 ⟨Nat.le_of_ble_eq_true rfl, Nat.le_of_ble_eq_true rfl⟩) hS (fun r15 w H locs hp hP hD hS => ?_)
  have hDk : Dk K ad bad td n M rm k idx w := hp.2
  rw [hp.1]
  refine lv_isub hx hb dX1_left_18 ?_
  exact kr_i hx hb hr hlocks hP hD hS (Nat.zero_le _) (Nat.zero_le _) (⟨loM_cp n, hDk⟩) dX1_left_19
set_option maxHeartbeats 4000000 in
set_option maxRecDepth 100000 in
theorem c_X1_averageDiscount_tb {l : Launch} {K : Ks} {A : Nat → Prop} {ad bad : Nat → Nat} {td : Int32} {n : Nat} {M : Nat → Nat → Int32} {rm : Nat → Int32} {k : Nat} {idx : Nat → Nat} {w : va_W} (hDk : Dk K ad bad td n M rm k idx w) (hlt : l.stackTraces = false) {x : Int32} (hx4 : ixBad 4 x) : vx_Met l yX1_averageDiscount wsX1_averageDiscount (kR 4 1 6) (kPr K A [.ref (ad 0), .int x] (w)) kNo (kX K A IOB (fun w1 => Dk K ad bad td n M rm k idx w1)) 1 6 A := by
  refine kentT (cc := cX1_averageDiscount) (maxL := 6) (ret := (some .float)) (by decide) rfl (Nat.le_of_ble_eq_true rfl) ?_
  intro p e s m args below meth c ls hx hb hr hts hown hlocks hml hxt hG hP hD hS hl
  have hinX0 : ∀ x ∈ wsX00, x ∈ wsX1_averageDiscount := by decide +kernel
  have hinX1 : ∀ x ∈ wsX10, x ∈ wsX1_averageDiscount := by decide +kernel
  have hl : lv_has ls 6 [(0, .ref (ad 0)), (1, .int x)] := hl
  have hn30 := hDk.n30
  have hk30 := hDk.k30
  refine lv_iload_n hx hb dX1_averageDiscount_0 rfl (lv_at hl 1 rfl) ?_
  refine kc_t (vx_runS (As := [.int x]) (rest := []) ⟨hx, hb, hml, hown, hts⟩ (c_X1_checkBuyer_t hlt (ix4b hx4)) (va_cwS 1 hts gX1_averageDiscount_X1_checkBuyer rfl rfl rfl (by decide +kernel) ⟨Nat.le_of_ble_eq_true rfl, Nat.le_of_ble_eq_true rfl⟩) (kps hG hP hD hS) rfl rfl hl.1 rfl (lv_room (Nat.le_of_ble_eq_true rfl)) dX1_averageDiscount_1 ⟨Nat.le_of_ble_eq_true rfl, Nat.le_of_ble_eq_true rfl⟩) hS (fun ce q9 w H locs hp hP hD hS hce hcv hcl => ?_)
  have hDk : Dk K ad bad td n M rm k idx w := by rw [hp]; exact hDk
  exact kr_t hxt hlocks hP hD hS hce hcv hcl (Nat.le_of_ble_eq_true rfl) (Nat.le_of_ble_eq_true rfl) hDk
set_option maxHeartbeats 4000000 in
set_option maxRecDepth 100000 in
theorem c_X1_averageDiscount_tp {l : Launch} {K : Ks} {A : Nat → Prop} {ad bad : Nat → Nat} {td : Int32} {n : Nat} {M : Nat → Nat → Int32} {rm : Nat → Int32} {k : Nat} {idx : Nat → Nat} {w : va_W} (hDk : Dk K ad bad td n M rm k idx w) (hlt : l.stackTraces = false) {b : Nat} (hx4 : b < 4) (hz : adA M b n = 0) : vx_Met l yX1_averageDiscount wsX1_averageDiscount (kR 4 1 6) (kPr K A [.ref (ad 0), .int (nI b)] (w)) kNo (kX K A ISE (fun w1 => Dk K ad bad td n M rm k idx w1)) 1 6 A := by
  refine kentT (cc := cX1_averageDiscount) (maxL := 6) (ret := (some .float)) (by decide) rfl (Nat.le_of_ble_eq_true rfl) ?_
  intro p e s m args below meth c ls hx hb hr hts hown hlocks hml hxt hG hP hD hS hl
  have hinX0 : ∀ x ∈ wsX00, x ∈ wsX1_averageDiscount := by decide +kernel
  have hinX1 : ∀ x ∈ wsX10, x ∈ wsX1_averageDiscount := by decide +kernel
  have hl : lv_has ls 6 [(0, .ref (ad 0)), (1, .int (nI b))] := hl
  have hn30 := hDk.n30
  have hk30 := hDk.k30
  refine lv_iload_n hx hb dX1_averageDiscount_0 rfl (lv_at hl 1 rfl) ?_
  refine kc_v (va_runS (As := [.int (nI b)]) (rest := []) ⟨hx, hb, hml, hown, hts⟩ (c_X1_checkBuyer (ix4 hx4)) (va_cwS 1 hts gX1_averageDiscount_X1_checkBuyer rfl rfl rfl (by decide +kernel) ⟨Nat.le_of_ble_eq_true rfl, Nat.le_of_ble_eq_true rfl⟩) (kps hG hP hD hS) rfl rfl hl.1 rfl (lv_room (Nat.le_of_ble_eq_true rfl)) dX1_averageDiscount_1 ⟨Nat.le_of_ble_eq_true rfl, Nat.le_of_ble_eq_true rfl⟩) hS (fun w H locs hp hP hD hS => ?_)
  have hDk : Dk K ad bad td n M rm k idx w := by rw [hp]; exact hDk
  refine lv_iconst (v := 0) hx hb dX1_averageDiscount_4 (by decide) ?_
  refine lv_istore_n (lv' := [(2, .int 0), (0, .ref (ad 0)), (1, .int (nI b))]) hx hb dX1_averageDiscount_5 rfl hl (by decide) rfl (fun ls hl => ?_)
  refine lv_iconst (v := 0) hx hb dX1_averageDiscount_6 (by decide) ?_
  refine lv_istore_n (lv' := [(3, .int 0), (2, .int 0), (0, .ref (ad 0)), (1, .int (nI b))]) hx hb dX1_averageDiscount_7 rfl hl (by decide) rfl (fun ls hl => ?_)
  refine lv_iconst (v := 0) hx hb dX1_averageDiscount_8 (by decide) ?_
  refine lv_istore (lv' := [(4, .int 0), (3, .int 0), (2, .int 0), (0, .ref (ad 0)), (1, .int (nI b))]) hx hb dX1_averageDiscount_9 hl (by decide) rfl (fun ls hl => ?_)
  have LOOP : ∀ (Q' : State → Prop), (∀ (w : va_W)  (ls : Array Slot) (H : Heap) (locs : List Loc), Dk K ad bad td n M rm k idx w → va_P K.1 kCl (w) H → va_D A (w) → va_S A s.heap H locs → lv_has ls 6 [(0, .ref (ad 0)), (1, .int (nI b)), (2, .int (adS M b n)), (3, .int (adA M b n)), (4, .int (nI n))] → W p l e ((kR 4 1 6)) s m args below meth c H locs 0 0 Q' (F0 m 83 ls [])) → ∀ (d j : Nat) (w : va_W)  (ls : Array Slot) (H : Heap) (locs : List Loc), j + d = n → Dk K ad bad td n M rm k idx w → va_P K.1 kCl (w) H → va_D A (w) → va_S A s.heap H locs → lv_has ls 6 [(0, .ref (ad 0)), (1, .int (nI b)), (2, .int (adS M b j)), (3, .int (adA M b j)), (4, .int (nI j))] → W p l e ((kR 4 1 6)) s m args below meth c H locs 0 0 Q' (F0 m 11 ls []) := by
    intro Q' kx d
    induction d with
    | zero =>
      intro j w  ls H locs hk hDk hP hD hS hl
      have hk2 : j = n := by omega
      refine lv_iload hx hb dX1_averageDiscount_11 (lv_at hl 4 rfl) ?_
      refine lv_aload_n hx hb dX1_averageDiscount_13 rfl (lv_at hl 0 rfl) ?_
      refine kget (ci := 2) (C := RX1) (T := TX1) (N := 7) hx hb hts hown hG hP 0 hDk.x rfl hinX1 3 (by decide) (by decide +kernel) rfl dX1_averageDiscount_14 ?_
      obtain ⟨m5, e5, h5⟩ := hDk.l5
      refine kc_i (va_runV (As := []) (rest := [.int (nI j)]) ⟨hx, hb, hml, hown, hts⟩ (e_size5 h5) (cwV 0 hts gX1_averageDiscount_Jx4a65c_size_8abf5 rfl rfl rfl (by decide +kernel) ⟨Nat.le_of_ble_eq_true rfl, Nat.le_of_ble_eq_true rfl⟩) (kpv (q0 := 5) hG hP hD hS h5 rfl) rfl rfl hl.1 rfl (lv_room (Nat.le_of_ble_eq_true rfl)) dX1_averageDiscount_17 ⟨Nat.le_of_ble_eq_true rfl, Nat.le_of_ble_eq_true rfl⟩) hS (fun r17 w H locs hp hP hD hS => ?_)
      have hDk : Dk K ad bad td n M rm k idx w := by rw [hp.2]; exact hDk
      rw [hp.1]
      refine lv_icmp_ge (tgt := 83) hx hb dX1_averageDiscount_20 (by decide) (fun h20 => ?_) (fun h20 => False.elim (absurd (nI_le (Nat.le_of_eq hk2.symm) (by omega)) h20))
      have hk3 : n = j := hk2.symm
      subst hk3
      exact kx w  ls H locs hDk hP hD hS (lv_sub hl [0, 1, 2, 3, 4] rfl)
    | succ d ih =>
      intro j w  ls H locs hk hDk hP hD hS hl
      have hk2 : j < n := by omega
      refine lv_iload hx hb dX1_averageDiscount_11 (lv_at hl 4 rfl) ?_
      refine lv_aload_n hx hb dX1_averageDiscount_13 rfl (lv_at hl 0 rfl) ?_
      refine kget (ci := 2) (C := RX1) (T := TX1) (N := 7) hx hb hts hown hG hP 0 hDk.x rfl hinX1 3 (by decide) (by decide +kernel) rfl dX1_averageDiscount_14 ?_
      obtain ⟨m5, e5, h5⟩ := hDk.l5
      refine kc_i (va_runV (As := []) (rest := [.int (nI j)]) ⟨hx, hb, hml, hown, hts⟩ (e_size5 h5) (cwV 0 hts gX1_averageDiscount_Jx4a65c_size_8abf5 rfl rfl rfl (by decide +kernel) ⟨Nat.le_of_ble_eq_true rfl, Nat.le_of_ble_eq_true rfl⟩) (kpv (q0 := 5) hG hP hD hS h5 rfl) rfl rfl hl.1 rfl (lv_room (Nat.le_of_ble_eq_true rfl)) dX1_averageDiscount_17 ⟨Nat.le_of_ble_eq_true rfl, Nat.le_of_ble_eq_true rfl⟩) hS (fun r17 w H locs hp hP hD hS => ?_)
      have hDk : Dk K ad bad td n M rm k idx w := by rw [hp.2]; exact hDk
      rw [hp.1]
      refine lv_icmp_ge (tgt := 83) hx hb dX1_averageDiscount_20 (by decide) (fun h20 => False.elim (absurd h20 (nI_ge hk2 (by omega)))) (fun h20 => ?_)
      refine lv_aload_n hx hb dX1_averageDiscount_23 rfl (lv_at hl 0 rfl) ?_
      refine kget (ci := 2) (C := RX1) (T := TX1) (N := 7) hx hb hts hown hG hP 0 hDk.x rfl hinX1 3 (by decide) (by decide +kernel) rfl dX1_averageDiscount_24 ?_
      refine lv_iload hx hb dX1_averageDiscount_27 (lv_at hl 4 rfl) ?_
      obtain ⟨m5, e5, h5⟩ := hDk.l5
      refine kc_r (va_runV (As := [.int (nI j)]) (rest := []) ⟨hx, hb, hml, hown, hts⟩ (d_get5 hDk hk2) (cwV 1 hts gX1_averageDiscount_Jx4a65c_get_915e3 rfl rfl rfl (by decide +kernel) ⟨Nat.le_of_ble_eq_true rfl, Nat.le_of_ble_eq_true rfl⟩) (kpv (q0 := 5) hG hP hD hS h5 rfl) rfl rfl hl.1 rfl (lv_room (Nat.le_of_ble_eq_true rfl)) dX1_averageDiscount_29 ⟨Nat.le_of_ble_eq_true rfl, Nat.le_of_ble_eq_true rfl⟩) hS (fun r29 w H locs hp hP hD hS => ?_)
      have hDk : Dk K ad bad td n M rm k idx w := by rw [hp.2]; exact hDk
      rw [hp.1]
      refine kd_cast hx hb hown hts (by decide +kernel) hG hP hDk hk2 dX1_averageDiscount_32 ?_
      refine lv_astore (lv' := [(5, .ref (bad j)), (0, .ref (ad 0)), (1, .int (nI b)), (2, .int (adS M b j)), (3, .int (adA M b j)), (4, .int (nI j))]) hx hb dX1_averageDiscount_35 hl (by decide) rfl (fun ls hl => ?_)
      refine lv_aload hx hb dX1_averageDiscount_37 (lv_at hl 0 rfl) ?_
      refine kd_get hx hb hts hown hG hP hDk hk2 hinX0 1 (by decide) (by decide +kernel) rfl dX1_averageDiscount_39 ?_
      refine lv_iload_n hx hb dX1_averageDiscount_42 rfl (lv_at hl 2 rfl) ?_
      refine lv_icmp_ne (tgt := 77) hx hb dX1_averageDiscount_43 (by decide) (fun h43 => ?_) (fun h43 => ?_)
      · refine lv_iinc (v := nI (j + 1)) (lv' := [(4, .int (nI (j + 1))), (5, .ref (bad j)), (0, .ref (ad 0)), (1, .int (nI b)), (2, .int (adS M b j)), (3, .int (adA M b j))]) hx hb dX1_averageDiscount_77 hl (k := 5) rfl (kinc j) (by decide) rfl (fun ls hl => ?_)
        refine lv_goto (tgt := 11) hx hb dX1_averageDiscount_80 (by decide) ?_
        exact (ih (j + 1) w  ls H locs (by omega) hDk hP hD hS (by rw [adS_f (fun q => h43 q.1), adA_f (fun q => h43 q.1), Int32.add_zero, Int32.add_zero]; exact lv_sub hl [2, 3, 4, 5, 0] rfl))
      · refine lv_aload hx hb dX1_averageDiscount_46 (lv_at hl 0 rfl) ?_
        refine kd_get hx hb hts hown hG hP hDk hk2 hinX0 5 (by decide) (by decide +kernel) rfl dX1_averageDiscount_48 ?_
        refine lv_iconst (v := 3) hx hb dX1_averageDiscount_51 (by decide) ?_
        refine lv_icmp_ne (tgt := 77) hx hb dX1_averageDiscount_52 (by decide) (fun h52 => ?_) (fun h52 => ?_)
        · refine lv_iinc (v := nI (j + 1)) (lv' := [(4, .int (nI (j + 1))), (5, .ref (bad j)), (0, .ref (ad 0)), (1, .int (nI b)), (2, .int (adS M b j)), (3, .int (adA M b j))]) hx hb dX1_averageDiscount_77 hl (k := 5) rfl (kinc j) (by decide) rfl (fun ls hl => ?_)
          refine lv_goto (tgt := 11) hx hb dX1_averageDiscount_80 (by decide) ?_
          exact (ih (j + 1) w  ls H locs (by omega) hDk hP hD hS (by rw [adS_f (fun q => h52 q.2), adA_f (fun q => h52 q.2), Int32.add_zero, Int32.add_zero]; exact lv_sub hl [2, 3, 4, 5, 0] rfl))
        · refine lv_iload_n hx hb dX1_averageDiscount_55 rfl (lv_at hl 3 rfl) ?_
          refine lv_aload hx hb dX1_averageDiscount_56 (lv_at hl 0 rfl) ?_
          refine kd_get hx hb hts hown hG hP hDk hk2 hinX0 4 (by decide) (by decide +kernel) rfl dX1_averageDiscount_58 ?_
          refine lv_aload hx hb dX1_averageDiscount_61 (lv_at hl 0 rfl) ?_
          refine kd_get hx hb hts hown hG hP hDk hk2 hinX0 7 (by decide) (by decide +kernel) rfl dX1_averageDiscount_63 ?_
          refine lv_isub hx hb dX1_averageDiscount_66 ?_
          refine lv_iadd hx hb dX1_averageDiscount_67 ?_
          refine lv_istore_n (lv' := [(2, .int (adS M b j + ((M 4 j) - (M 8 j)))), (5, .ref (bad j)), (0, .ref (ad 0)), (1, .int (nI b)), (3, .int (adA M b j)), (4, .int (nI j))]) hx hb dX1_averageDiscount_68 rfl hl (by decide) rfl (fun ls hl => ?_)
          refine lv_iload_n hx hb dX1_averageDiscount_69 rfl (lv_at hl 4 rfl) ?_
          refine lv_aload hx hb dX1_averageDiscount_70 (lv_at hl 1 rfl) ?_
          refine kd_get hx hb hts hown hG hP hDk hk2 hinX0 4 (by decide) (by decide +kernel) rfl dX1_averageDiscount_72 ?_
          refine lv_iadd hx hb dX1_averageDiscount_75 ?_
          refine lv_istore_n (lv' := [(3, .int (adA M b j + (M 4 j))), (2, .int (adS M b j + ((M 4 j) - (M 8 j)))), (5, .ref (bad j)), (0, .ref (ad 0)), (1, .int (nI b)), (4, .int (nI j))]) hx hb dX1_averageDiscount_76 rfl hl (by decide) rfl (fun ls hl => ?_)
          refine lv_iinc (v := nI (j + 1)) (lv' := [(4, .int (nI (j + 1))), (3, .int (adA M b j + (M 4 j))), (2, .int (adS M b j + ((M 4 j) - (M 8 j)))), (5, .ref (bad j)), (0, .ref (ad 0)), (1, .int (nI b))]) hx hb dX1_averageDiscount_77 hl (k := 5) rfl (kinc j) (by decide) rfl (fun ls hl => ?_)
          refine lv_goto (tgt := 11) hx hb dX1_averageDiscount_80 (by decide) ?_
          exact (ih (j + 1) w  ls H locs (by omega) hDk hP hD hS (by rw [adS_t ⟨h43, h52⟩, adA_t ⟨h43, h52⟩]; exact lv_sub hl [4, 5, 2, 1, 0] rfl))
  refine LOOP _ (fun w  ls H locs hDk hP hD hS hl => ?_) n 0 w  ls _ _ (by omega) hDk hP hD hS (lv_sub hl [3, 4, 2, 1, 0] rfl)
  refine lv_iload_n hx hb dX1_averageDiscount_83 rfl (lv_at hl 3 rfl) ?_
  refine lv_if_eq (tgt := 91) hx hb dX1_averageDiscount_84 (by decide) (fun h84 => ?_) (fun h84 => False.elim (h84 hz))
  refine lv_iconst (v := 0) hx hb dX1_averageDiscount_91 (by decide) ?_
  refine kc_t (vx_runS (As := [.int 0]) (rest := []) ⟨hx, hb, hml, hown, hts⟩ (c_X1_checkPossible_t hlt) (va_cwS 1 hts gX1_averageDiscount_X1_checkPossible rfl rfl rfl (by decide +kernel) ⟨Nat.le_of_ble_eq_true rfl, Nat.le_of_ble_eq_true rfl⟩) (kps hG hP hD hS) rfl rfl hl.1 rfl (lv_room (Nat.le_of_ble_eq_true rfl)) dX1_averageDiscount_92 ⟨Nat.le_of_ble_eq_true rfl, Nat.le_of_ble_eq_true rfl⟩) hS (fun ce q9 w H locs hp hP hD hS hce hcv hcl => ?_)
  have hDk : Dk K ad bad td n M rm k idx w := by rw [hp]; exact hDk
  exact kr_t hxt hlocks hP hD hS hce hcv hcl (Nat.le_of_ble_eq_true rfl) (Nat.le_of_ble_eq_true rfl) hDk
set_option maxHeartbeats 4000000 in
set_option maxRecDepth 100000 in
theorem c_X1_averageDiscount {l : Launch} {K : Ks} {A : Nat → Prop} {ad bad : Nat → Nat} {td : Int32} {n : Nat} {M : Nat → Nat → Int32} {rm : Nat → Int32} {k : Nat} {idx : Nat → Nat} {w : va_W} (hDk : Dk K ad bad td n M rm k idx w) {b : Nat} (hx4 : b < 4) (hz : ¬ adA M b n = 0) : Met l yX1_averageDiscount wsX1_averageDiscount (kR 4 0 0) (kPr K A [.ref (ad 0), .int (nI b)] (w)) (kQf K A (fun r w1 => r = FP.fdiv (FP.i2f (adS M b n)) (FP.i2f (adA M b n)) ∧ Dk K ad bad td n M rm k idx w1)) 0 0 A := by
  refine kent (cc := cX1_averageDiscount) (maxL := 6) (ret := (some .float)) (by decide) rfl (Nat.le_of_ble_eq_true rfl) ?_
  intro p e s m args below meth c ls hx hb hr hts hown hlocks hml hini hG hP hD hS hl
  have hinX0 : ∀ x ∈ wsX00, x ∈ wsX1_averageDiscount := by decide +kernel
  have hinX1 : ∀ x ∈ wsX10, x ∈ wsX1_averageDiscount := by decide +kernel
  have hl : lv_has ls 6 [(0, .ref (ad 0)), (1, .int (nI b))] := hl
  have hn30 := hDk.n30
  have hk30 := hDk.k30
  refine lv_iload_n hx hb dX1_averageDiscount_0 rfl (lv_at hl 1 rfl) ?_
  refine kc_v (va_runS (As := [.int (nI b)]) (rest := []) ⟨hx, hb, hml, hown, hts⟩ (c_X1_checkBuyer (ix4 hx4)) (va_cwS 1 hts gX1_averageDiscount_X1_checkBuyer rfl rfl rfl (by decide +kernel) ⟨Nat.le_of_ble_eq_true rfl, Nat.le_of_ble_eq_true rfl⟩) (kps hG hP hD hS) rfl rfl hl.1 rfl (lv_room (Nat.le_of_ble_eq_true rfl)) dX1_averageDiscount_1 ⟨Nat.le_of_ble_eq_true rfl, Nat.le_of_ble_eq_true rfl⟩) hS (fun w H locs hp hP hD hS => ?_)
  have hDk : Dk K ad bad td n M rm k idx w := by rw [hp]; exact hDk
  refine lv_iconst (v := 0) hx hb dX1_averageDiscount_4 (by decide) ?_
  refine lv_istore_n (lv' := [(2, .int 0), (0, .ref (ad 0)), (1, .int (nI b))]) hx hb dX1_averageDiscount_5 rfl hl (by decide) rfl (fun ls hl => ?_)
  refine lv_iconst (v := 0) hx hb dX1_averageDiscount_6 (by decide) ?_
  refine lv_istore_n (lv' := [(3, .int 0), (2, .int 0), (0, .ref (ad 0)), (1, .int (nI b))]) hx hb dX1_averageDiscount_7 rfl hl (by decide) rfl (fun ls hl => ?_)
  refine lv_iconst (v := 0) hx hb dX1_averageDiscount_8 (by decide) ?_
  refine lv_istore (lv' := [(4, .int 0), (3, .int 0), (2, .int 0), (0, .ref (ad 0)), (1, .int (nI b))]) hx hb dX1_averageDiscount_9 hl (by decide) rfl (fun ls hl => ?_)
  have LOOP : ∀ (Q' : State → Prop), (∀ (w : va_W)  (ls : Array Slot) (H : Heap) (locs : List Loc), Dk K ad bad td n M rm k idx w → va_P K.1 kCl (w) H → va_D A (w) → va_S A s.heap H locs → lv_has ls 6 [(0, .ref (ad 0)), (1, .int (nI b)), (2, .int (adS M b n)), (3, .int (adA M b n)), (4, .int (nI n))] → W p l e ((kR 4 0 0)) s m args below meth c H locs 0 0 Q' (F0 m 83 ls [])) → ∀ (d j : Nat) (w : va_W)  (ls : Array Slot) (H : Heap) (locs : List Loc), j + d = n → Dk K ad bad td n M rm k idx w → va_P K.1 kCl (w) H → va_D A (w) → va_S A s.heap H locs → lv_has ls 6 [(0, .ref (ad 0)), (1, .int (nI b)), (2, .int (adS M b j)), (3, .int (adA M b j)), (4, .int (nI j))] → W p l e ((kR 4 0 0)) s m args below meth c H locs 0 0 Q' (F0 m 11 ls []) := by
    intro Q' kx d
    induction d with
    | zero =>
      intro j w  ls H locs hk hDk hP hD hS hl
      have hk2 : j = n := by omega
      refine lv_iload hx hb dX1_averageDiscount_11 (lv_at hl 4 rfl) ?_
      refine lv_aload_n hx hb dX1_averageDiscount_13 rfl (lv_at hl 0 rfl) ?_
      refine kget (ci := 2) (C := RX1) (T := TX1) (N := 7) hx hb hts hown hG hP 0 hDk.x rfl hinX1 3 (by decide) (by decide +kernel) rfl dX1_averageDiscount_14 ?_
      obtain ⟨m5, e5, h5⟩ := hDk.l5
      refine kc_i (va_runV (As := []) (rest := [.int (nI j)]) ⟨hx, hb, hml, hown, hts⟩ (e_size5 h5) (cwV 0 hts gX1_averageDiscount_Jx4a65c_size_8abf5 rfl rfl rfl (by decide +kernel) ⟨Nat.le_of_ble_eq_true rfl, Nat.le_of_ble_eq_true rfl⟩) (kpv (q0 := 5) hG hP hD hS h5 rfl) rfl rfl hl.1 rfl (lv_room (Nat.le_of_ble_eq_true rfl)) dX1_averageDiscount_17 ⟨Nat.le_of_ble_eq_true rfl, Nat.le_of_ble_eq_true rfl⟩) hS (fun r17 w H locs hp hP hD hS => ?_)
      have hDk : Dk K ad bad td n M rm k idx w := by rw [hp.2]; exact hDk
      rw [hp.1]
      refine lv_icmp_ge (tgt := 83) hx hb dX1_averageDiscount_20 (by decide) (fun h20 => ?_) (fun h20 => False.elim (absurd (nI_le (Nat.le_of_eq hk2.symm) (by omega)) h20))
      have hk3 : n = j := hk2.symm
      subst hk3
      exact kx w  ls H locs hDk hP hD hS (lv_sub hl [0, 1, 2, 3, 4] rfl)
    | succ d ih =>
      intro j w  ls H locs hk hDk hP hD hS hl
      have hk2 : j < n := by omega
      refine lv_iload hx hb dX1_averageDiscount_11 (lv_at hl 4 rfl) ?_
      refine lv_aload_n hx hb dX1_averageDiscount_13 rfl (lv_at hl 0 rfl) ?_
      refine kget (ci := 2) (C := RX1) (T := TX1) (N := 7) hx hb hts hown hG hP 0 hDk.x rfl hinX1 3 (by decide) (by decide +kernel) rfl dX1_averageDiscount_14 ?_
      obtain ⟨m5, e5, h5⟩ := hDk.l5
      refine kc_i (va_runV (As := []) (rest := [.int (nI j)]) ⟨hx, hb, hml, hown, hts⟩ (e_size5 h5) (cwV 0 hts gX1_averageDiscount_Jx4a65c_size_8abf5 rfl rfl rfl (by decide +kernel) ⟨Nat.le_of_ble_eq_true rfl, Nat.le_of_ble_eq_true rfl⟩) (kpv (q0 := 5) hG hP hD hS h5 rfl) rfl rfl hl.1 rfl (lv_room (Nat.le_of_ble_eq_true rfl)) dX1_averageDiscount_17 ⟨Nat.le_of_ble_eq_true rfl, Nat.le_of_ble_eq_true rfl⟩) hS (fun r17 w H locs hp hP hD hS => ?_)
      have hDk : Dk K ad bad td n M rm k idx w := by rw [hp.2]; exact hDk
      rw [hp.1]
      refine lv_icmp_ge (tgt := 83) hx hb dX1_averageDiscount_20 (by decide) (fun h20 => False.elim (absurd h20 (nI_ge hk2 (by omega)))) (fun h20 => ?_)
      refine lv_aload_n hx hb dX1_averageDiscount_23 rfl (lv_at hl 0 rfl) ?_
      refine kget (ci := 2) (C := RX1) (T := TX1) (N := 7) hx hb hts hown hG hP 0 hDk.x rfl hinX1 3 (by decide) (by decide +kernel) rfl dX1_averageDiscount_24 ?_
      refine lv_iload hx hb dX1_averageDiscount_27 (lv_at hl 4 rfl) ?_
      obtain ⟨m5, e5, h5⟩ := hDk.l5
      refine kc_r (va_runV (As := [.int (nI j)]) (rest := []) ⟨hx, hb, hml, hown, hts⟩ (d_get5 hDk hk2) (cwV 1 hts gX1_averageDiscount_Jx4a65c_get_915e3 rfl rfl rfl (by decide +kernel) ⟨Nat.le_of_ble_eq_true rfl, Nat.le_of_ble_eq_true rfl⟩) (kpv (q0 := 5) hG hP hD hS h5 rfl) rfl rfl hl.1 rfl (lv_room (Nat.le_of_ble_eq_true rfl)) dX1_averageDiscount_29 ⟨Nat.le_of_ble_eq_true rfl, Nat.le_of_ble_eq_true rfl⟩) hS (fun r29 w H locs hp hP hD hS => ?_)
      have hDk : Dk K ad bad td n M rm k idx w := by rw [hp.2]; exact hDk
      rw [hp.1]
      refine kd_cast hx hb hown hts (by decide +kernel) hG hP hDk hk2 dX1_averageDiscount_32 ?_
      refine lv_astore (lv' := [(5, .ref (bad j)), (0, .ref (ad 0)), (1, .int (nI b)), (2, .int (adS M b j)), (3, .int (adA M b j)), (4, .int (nI j))]) hx hb dX1_averageDiscount_35 hl (by decide) rfl (fun ls hl => ?_)
      refine lv_aload hx hb dX1_averageDiscount_37 (lv_at hl 0 rfl) ?_
      refine kd_get hx hb hts hown hG hP hDk hk2 hinX0 1 (by decide) (by decide +kernel) rfl dX1_averageDiscount_39 ?_
      refine lv_iload_n hx hb dX1_averageDiscount_42 rfl (lv_at hl 2 rfl) ?_
      refine lv_icmp_ne (tgt := 77) hx hb dX1_averageDiscount_43 (by decide) (fun h43 => ?_) (fun h43 => ?_)
      · refine lv_iinc (v := nI (j + 1)) (lv' := [(4, .int (nI (j + 1))), (5, .ref (bad j)), (0, .ref (ad 0)), (1, .int (nI b)), (2, .int (adS M b j)), (3, .int (adA M b j))]) hx hb dX1_averageDiscount_77 hl (k := 5) rfl (kinc j) (by decide) rfl (fun ls hl => ?_)
        refine lv_goto (tgt := 11) hx hb dX1_averageDiscount_80 (by decide) ?_
        exact (ih (j + 1) w  ls H locs (by omega) hDk hP hD hS (by rw [adS_f (fun q => h43 q.1), adA_f (fun q => h43 q.1), Int32.add_zero, Int32.add_zero]; exact lv_sub hl [2, 3, 4, 5, 0] rfl))
      · refine lv_aload hx hb dX1_averageDiscount_46 (lv_at hl 0 rfl) ?_
        refine kd_get hx hb hts hown hG hP hDk hk2 hinX0 5 (by decide) (by decide +kernel) rfl dX1_averageDiscount_48 ?_
        refine lv_iconst (v := 3) hx hb dX1_averageDiscount_51 (by decide) ?_
        refine lv_icmp_ne (tgt := 77) hx hb dX1_averageDiscount_52 (by decide) (fun h52 => ?_) (fun h52 => ?_)
        · refine lv_iinc (v := nI (j + 1)) (lv' := [(4, .int (nI (j + 1))), (5, .ref (bad j)), (0, .ref (ad 0)), (1, .int (nI b)), (2, .int (adS M b j)), (3, .int (adA M b j))]) hx hb dX1_averageDiscount_77 hl (k := 5) rfl (kinc j) (by decide) rfl (fun ls hl => ?_)
          refine lv_goto (tgt := 11) hx hb dX1_averageDiscount_80 (by decide) ?_
          exact (ih (j + 1) w  ls H locs (by omega) hDk hP hD hS (by rw [adS_f (fun q => h52 q.2), adA_f (fun q => h52 q.2), Int32.add_zero, Int32.add_zero]; exact lv_sub hl [2, 3, 4, 5, 0] rfl))
        · refine lv_iload_n hx hb dX1_averageDiscount_55 rfl (lv_at hl 3 rfl) ?_
          refine lv_aload hx hb dX1_averageDiscount_56 (lv_at hl 0 rfl) ?_
          refine kd_get hx hb hts hown hG hP hDk hk2 hinX0 4 (by decide) (by decide +kernel) rfl dX1_averageDiscount_58 ?_
          refine lv_aload hx hb dX1_averageDiscount_61 (lv_at hl 0 rfl) ?_
          refine kd_get hx hb hts hown hG hP hDk hk2 hinX0 7 (by decide) (by decide +kernel) rfl dX1_averageDiscount_63 ?_
          refine lv_isub hx hb dX1_averageDiscount_66 ?_
          refine lv_iadd hx hb dX1_averageDiscount_67 ?_
          refine lv_istore_n (lv' := [(2, .int (adS M b j + ((M 4 j) - (M 8 j)))), (5, .ref (bad j)), (0, .ref (ad 0)), (1, .int (nI b)), (3, .int (adA M b j)), (4, .int (nI j))]) hx hb dX1_averageDiscount_68 rfl hl (by decide) rfl (fun ls hl => ?_)
          refine lv_iload_n hx hb dX1_averageDiscount_69 rfl (lv_at hl 4 rfl) ?_
          refine lv_aload hx hb dX1_averageDiscount_70 (lv_at hl 1 rfl) ?_
          refine kd_get hx hb hts hown hG hP hDk hk2 hinX0 4 (by decide) (by decide +kernel) rfl dX1_averageDiscount_72 ?_
          refine lv_iadd hx hb dX1_averageDiscount_75 ?_
          refine lv_istore_n (lv' := [(3, .int (adA M b j + (M 4 j))), (2, .int (adS M b j + ((M 4 j) - (M 8 j)))), (5, .ref (bad j)), (0, .ref (ad 0)), (1, .int (nI b)), (4, .int (nI j))]) hx hb dX1_averageDiscount_76 rfl hl (by decide) rfl (fun ls hl => ?_)
          refine lv_iinc (v := nI (j + 1)) (lv' := [(4, .int (nI (j + 1))), (3, .int (adA M b j + (M 4 j))), (2, .int (adS M b j + ((M 4 j) - (M 8 j)))), (5, .ref (bad j)), (0, .ref (ad 0)), (1, .int (nI b))]) hx hb dX1_averageDiscount_77 hl (k := 5) rfl (kinc j) (by decide) rfl (fun ls hl => ?_)
          refine lv_goto (tgt := 11) hx hb dX1_averageDiscount_80 (by decide) ?_
          exact (ih (j + 1) w  ls H locs (by omega) hDk hP hD hS (by rw [adS_t ⟨h43, h52⟩, adA_t ⟨h43, h52⟩]; exact lv_sub hl [4, 5, 2, 1, 0] rfl))
  refine LOOP _ (fun w  ls H locs hDk hP hD hS hl => ?_) n 0 w  ls _ _ (by omega) hDk hP hD hS (lv_sub hl [3, 4, 2, 1, 0] rfl)
  refine lv_iload_n hx hb dX1_averageDiscount_83 rfl (lv_at hl 3 rfl) ?_
  refine lv_if_eq (tgt := 91) hx hb dX1_averageDiscount_84 (by decide) (fun h84 => False.elim (hz h84)) (fun h84 => ?_)
  refine lv_iconst (v := 1) hx hb dX1_averageDiscount_87 (by decide) ?_
  refine lv_goto (tgt := 92) hx hb dX1_averageDiscount_88 (by decide) ?_
  refine kc_v (va_runS (As := [.int 1]) (rest := []) ⟨hx, hb, hml, hown, hts⟩ (c_X1_checkPossible) (va_cwS 1 hts gX1_averageDiscount_X1_checkPossible rfl rfl rfl (by decide +kernel) ⟨Nat.le_of_ble_eq_true rfl, Nat.le_of_ble_eq_true rfl⟩) (kps hG hP hD hS) rfl rfl hl.1 rfl (lv_room (Nat.le_of_ble_eq_true rfl)) dX1_averageDiscount_92 ⟨Nat.le_of_ble_eq_true rfl, Nat.le_of_ble_eq_true rfl⟩) hS (fun w H locs hp hP hD hS => ?_)
  have hDk : Dk K ad bad td n M rm k idx w := by rw [hp]; exact hDk
  refine lv_iload_n hx hb dX1_averageDiscount_95 rfl (lv_at hl 2 rfl) ?_
  refine lv_i2f hx hb dX1_averageDiscount_96 ?_
  refine lv_iload_n hx hb dX1_averageDiscount_97 rfl (lv_at hl 3 rfl) ?_
  refine lv_i2f hx hb dX1_averageDiscount_98 ?_
  refine lv_fdiv hx hb dX1_averageDiscount_99 (fdN hz) ?_
  exact kr_f hx hb hr hlocks hP hD hS (Nat.zero_le _) (Nat.zero_le _) (⟨rfl, hDk⟩) dX1_averageDiscount_100
set_option maxHeartbeats 4000000 in
set_option maxRecDepth 100000 in
theorem c_X1_payBillsDueToday {l : Launch} {K : Ks} {A : Nat → Prop} {ad bad : Nat → Nat} {td : Int32} {n : Nat} {M : Nat → Nat → Int32} {rm : Nat → Int32} {k : Nat} {idx : Nat → Nat} {w : va_W} (hDk : Dk K ad bad td n M rm k idx w) (hok : ∀ j, j < n → okP M j) : Met l yX1_payBillsDueToday wsX1_payBillsDueToday (kR 4 0 0) (kPr K A [.ref (ad 0)] (w)) (kQi K A (fun r w1 => r = nI (dyC td M n) ∧ Dk K ad bad td n (dyM td M n) rm k idx w1)) 0 0 A := by
  refine kent (cc := cX1_payBillsDueToday) (maxL := 4) (ret := (some .int)) (by decide) rfl (Nat.le_of_ble_eq_true rfl) ?_
  intro p e s m args below meth c ls hx hb hr hts hown hlocks hml hini hG hP hD hS hl
  have hinX0 : ∀ x ∈ wsX00, x ∈ wsX1_payBillsDueToday := by decide +kernel
  have hinX1 : ∀ x ∈ wsX10, x ∈ wsX1_payBillsDueToday := by decide +kernel
  have hl : lv_has ls 4 [(0, .ref (ad 0))] := hl
  have hn30 := hDk.n30
  have hk30 := hDk.k30
  refine lv_iconst (v := 0) hx hb dX1_payBillsDueToday_0 (by decide) ?_
  refine lv_istore_n (lv' := [(1, .int 0), (0, .ref (ad 0))]) hx hb dX1_payBillsDueToday_1 rfl hl (by decide) rfl (fun ls hl => ?_)
  refine lv_iconst (v := 0) hx hb dX1_payBillsDueToday_2 (by decide) ?_
  refine lv_istore_n (lv' := [(2, .int 0), (1, .int 0), (0, .ref (ad 0))]) hx hb dX1_payBillsDueToday_3 rfl hl (by decide) rfl (fun ls hl => ?_)
  have LOOP : ∀ (Q' : State → Prop), (∀ (w : va_W)  (ls : Array Slot) (H : Heap) (locs : List Loc), Dk K ad bad td n (dyM td M n) rm k idx w → va_P K.1 kCl (w) H → va_D A (w) → va_S A s.heap H locs → lv_has ls 4 [(0, .ref (ad 0)), (1, .int (nI (dyC td M n))), (2, .int (nI n))] → W p l e ((kR 4 0 0)) s m args below meth c H locs 0 0 Q' (F0 m 60 ls [])) → ∀ (d j : Nat) (w : va_W)  (ls : Array Slot) (H : Heap) (locs : List Loc), j + d = n → Dk K ad bad td n (dyM td M j) rm k idx w → va_P K.1 kCl (w) H → va_D A (w) → va_S A s.heap H locs → lv_has ls 4 [(0, .ref (ad 0)), (1, .int (nI (dyC td M j))), (2, .int (nI j))] → W p l e ((kR 4 0 0)) s m args below meth c H locs 0 0 Q' (F0 m 4 ls []) := by
    intro Q' kx d
    induction d with
    | zero =>
      intro j w  ls H locs hk hDk hP hD hS hl
      have hk2 : j = n := by omega
      refine lv_iload_n hx hb dX1_payBillsDueToday_4 rfl (lv_at hl 2 rfl) ?_
      refine lv_aload_n hx hb dX1_payBillsDueToday_5 rfl (lv_at hl 0 rfl) ?_
      refine kget (ci := 2) (C := RX1) (T := TX1) (N := 7) hx hb hts hown hG hP 0 hDk.x rfl hinX1 3 (by decide) (by decide +kernel) rfl dX1_payBillsDueToday_6 ?_
      obtain ⟨m5, e5, h5⟩ := hDk.l5
      refine kc_i (va_runV (As := []) (rest := [.int (nI j)]) ⟨hx, hb, hml, hown, hts⟩ (e_size5 h5) (cwV 0 hts gX1_payBillsDueToday_Jx4a65c_size_8abf5 rfl rfl rfl (by decide +kernel) ⟨Nat.le_of_ble_eq_true rfl, Nat.le_of_ble_eq_true rfl⟩) (kpv (q0 := 5) hG hP hD hS h5 rfl) rfl rfl hl.1 rfl (lv_room (Nat.le_of_ble_eq_true rfl)) dX1_payBillsDueToday_9 ⟨Nat.le_of_ble_eq_true rfl, Nat.le_of_ble_eq_true rfl⟩) hS (fun r9 w H locs hp hP hD hS => ?_)
      have hDk : Dk K ad bad td n (dyM td M j) rm k idx w := by rw [hp.2]; exact hDk
      rw [hp.1]
      refine lv_icmp_ge (tgt := 60) hx hb dX1_payBillsDueToday_12 (by decide) (fun h12 => ?_) (fun h12 => False.elim (absurd (nI_le (Nat.le_of_eq hk2.symm) (by omega)) h12))
      have hk3 : n = j := hk2.symm
      subst hk3
      exact kx w  ls H locs hDk hP hD hS (lv_sub hl [0, 1, 2] rfl)
    | succ d ih =>
      intro j w  ls H locs hk hDk hP hD hS hl
      have hk2 : j < n := by omega
      refine lv_iload_n hx hb dX1_payBillsDueToday_4 rfl (lv_at hl 2 rfl) ?_
      refine lv_aload_n hx hb dX1_payBillsDueToday_5 rfl (lv_at hl 0 rfl) ?_
      refine kget (ci := 2) (C := RX1) (T := TX1) (N := 7) hx hb hts hown hG hP 0 hDk.x rfl hinX1 3 (by decide) (by decide +kernel) rfl dX1_payBillsDueToday_6 ?_
      obtain ⟨m5, e5, h5⟩ := hDk.l5
      refine kc_i (va_runV (As := []) (rest := [.int (nI j)]) ⟨hx, hb, hml, hown, hts⟩ (e_size5 h5) (cwV 0 hts gX1_payBillsDueToday_Jx4a65c_size_8abf5 rfl rfl rfl (by decide +kernel) ⟨Nat.le_of_ble_eq_true rfl, Nat.le_of_ble_eq_true rfl⟩) (kpv (q0 := 5) hG hP hD hS h5 rfl) rfl rfl hl.1 rfl (lv_room (Nat.le_of_ble_eq_true rfl)) dX1_payBillsDueToday_9 ⟨Nat.le_of_ble_eq_true rfl, Nat.le_of_ble_eq_true rfl⟩) hS (fun r9 w H locs hp hP hD hS => ?_)
      have hDk : Dk K ad bad td n (dyM td M j) rm k idx w := by rw [hp.2]; exact hDk
      rw [hp.1]
      refine lv_icmp_ge (tgt := 60) hx hb dX1_payBillsDueToday_12 (by decide) (fun h12 => False.elim (absurd h12 (nI_ge hk2 (by omega)))) (fun h12 => ?_)
      refine lv_aload_n hx hb dX1_payBillsDueToday_15 rfl (lv_at hl 0 rfl) ?_
      refine kget (ci := 2) (C := RX1) (T := TX1) (N := 7) hx hb hts hown hG hP 0 hDk.x rfl hinX1 3 (by decide) (by decide +kernel) rfl dX1_payBillsDueToday_16 ?_
      refine lv_iload_n hx hb dX1_payBillsDueToday_19 rfl (lv_at hl 2 rfl) ?_
      obtain ⟨m5, e5, h5⟩ := hDk.l5
      refine kc_r (va_runV (As := [.int (nI j)]) (rest := []) ⟨hx, hb, hml, hown, hts⟩ (d_get5 hDk hk2) (cwV 1 hts gX1_payBillsDueToday_Jx4a65c_get_915e3 rfl rfl rfl (by decide +kernel) ⟨Nat.le_of_ble_eq_true rfl, Nat.le_of_ble_eq_true rfl⟩) (kpv (q0 := 5) hG hP hD hS h5 rfl) rfl rfl hl.1 rfl (lv_room (Nat.le_of_ble_eq_true rfl)) dX1_payBillsDueToday_20 ⟨Nat.le_of_ble_eq_true rfl, Nat.le_of_ble_eq_true rfl⟩) hS (fun r20 w H locs hp hP hD hS => ?_)
      have hDk : Dk K ad bad td n (dyM td M j) rm k idx w := by rw [hp.2]; exact hDk
      rw [hp.1]
      refine kd_cast hx hb hown hts (by decide +kernel) hG hP hDk hk2 dX1_payBillsDueToday_23 ?_
      refine lv_astore_n (lv' := [(3, .ref (bad j)), (0, .ref (ad 0)), (1, .int (nI (dyC td M j))), (2, .int (nI j))]) hx hb dX1_payBillsDueToday_26 rfl hl (by decide) rfl (fun ls hl => ?_)
      refine lv_aload_n hx hb dX1_payBillsDueToday_27 rfl (lv_at hl 0 rfl) ?_
      refine kd_get hx hb hts hown hG hP hDk hk2 hinX0 5 (by decide) (by decide +kernel) rfl dX1_payBillsDueToday_28 ?_
      refine lv_iconst (v := 1) hx hb dX1_payBillsDueToday_31 (by decide) ?_
      refine lv_icmp_ne (tgt := 54) hx hb dX1_payBillsDueToday_32 (by decide) (fun h32 => ?_) (fun h32 => ?_)
      · refine lv_iinc (v := nI (j + 1)) (lv' := [(2, .int (nI (j + 1))), (3, .ref (bad j)), (0, .ref (ad 0)), (1, .int (nI (dyC td M j)))]) hx hb dX1_payBillsDueToday_54 hl (k := 3) rfl (kinc j) (by decide) rfl (fun ls hl => ?_)
        refine lv_goto (tgt := 4) hx hb dX1_payBillsDueToday_57 (by decide) ?_
        exact (ih (j + 1) w  ls H locs (by omega) (by rw [dyM_f (fun q => h32 q.1)]; exact hDk) hP hD hS (by rw [dyC_f (fun q => h32 q.1)]; exact lv_sub hl [2, 3, 0] rfl))
      · refine lv_aload_n hx hb dX1_payBillsDueToday_35 rfl (lv_at hl 0 rfl) ?_
        refine kd_get hx hb hts hown hG hP hDk hk2 hinX0 3 (by decide) (by decide +kernel) rfl dX1_payBillsDueToday_36 ?_
        refine lv_aload_n hx hb dX1_payBillsDueToday_39 rfl (lv_at hl 1 rfl) ?_
        refine kget (ci := 2) (C := RX1) (T := TX1) (N := 7) hx hb hts hown hG hP 0 hDk.x rfl hinX1 4 (by decide) (by decide +kernel) rfl dX1_payBillsDueToday_40 ?_
        refine lv_icmp_ne (tgt := 54) hx hb dX1_payBillsDueToday_43 (by decide) (fun h43 => ?_) (fun h43 => ?_)
        · refine lv_iinc (v := nI (j + 1)) (lv' := [(2, .int (nI (j + 1))), (3, .ref (bad j)), (0, .ref (ad 0)), (1, .int (nI (dyC td M j)))]) hx hb dX1_payBillsDueToday_54 hl (k := 3) rfl (kinc j) (by decide) rfl (fun ls hl => ?_)
          refine lv_goto (tgt := 4) hx hb dX1_payBillsDueToday_57 (by decide) ?_
          exact (ih (j + 1) w  ls H locs (by omega) (by rw [dyM_f (fun q => h43 q.2)]; exact hDk) hP hD hS (by rw [dyC_f (fun q => h43 q.2)]; exact lv_sub hl [2, 3, 0] rfl))
        · refine lv_aload_n hx hb dX1_payBillsDueToday_46 rfl (lv_at hl 1 rfl) ?_
          refine lv_aload_n hx hb dX1_payBillsDueToday_47 rfl (lv_at hl 0 rfl) ?_
          refine kc_v (va_runV (As := [.ref (bad j)]) (rest := []) ⟨hx, hb, hml, hown, hts⟩ (c_X1_payWhenDue hDk hk2 (okP_dy (hok j hk2))) (cwV 1 hts gX1_payBillsDueToday_X1_payWhenDue rfl rfl rfl (by decide +kernel) ⟨Nat.le_of_ble_eq_true rfl, Nat.le_of_ble_eq_true rfl⟩) (kpv (q0 := 0) hG hP hD hS hDk.x rfl) rfl rfl hl.1 rfl (lv_room (Nat.le_of_ble_eq_true rfl)) dX1_payBillsDueToday_48 ⟨Nat.le_of_ble_eq_true rfl, Nat.le_of_ble_eq_true rfl⟩) hS (fun w H locs hp hP hD hS => ?_)
          have hDk : Dk K ad bad td n (payM (dyM td M j) j (dyM td M j 4 j) 4) rm k idx w := hp
          refine lv_iinc (v := nI ((dyC td M j) + 1)) (lv' := [(1, .int (nI ((dyC td M j) + 1))), (3, .ref (bad j)), (0, .ref (ad 0)), (2, .int (nI j))]) hx hb dX1_payBillsDueToday_51 hl (k := 2) rfl (kinc (dyC td M j)) (by decide) rfl (fun ls hl => ?_)
          refine lv_iinc (v := nI (j + 1)) (lv' := [(2, .int (nI (j + 1))), (1, .int (nI ((dyC td M j) + 1))), (3, .ref (bad j)), (0, .ref (ad 0))]) hx hb dX1_payBillsDueToday_54 hl (k := 3) rfl (kinc j) (by decide) rfl (fun ls hl => ?_)
          refine lv_goto (tgt := 4) hx hb dX1_payBillsDueToday_57 (by decide) ?_
          exact (ih (j + 1) w  ls H locs (by omega) (by rw [dyM_t ⟨h32, h43⟩]; exact hDk) hP hD hS (by rw [dyC_t ⟨h32, h43⟩]; exact lv_sub hl [3, 1, 0] rfl))
  refine LOOP _ (fun w  ls H locs hDk hP hD hS hl => ?_) n 0 w  ls _ _ (by omega) hDk hP hD hS (lv_sub hl [2, 1, 0] rfl)
  refine lv_iload_n hx hb dX1_payBillsDueToday_60 rfl (lv_at hl 1 rfl) ?_
  exact kr_i hx hb hr hlocks hP hD hS (Nat.zero_le _) (Nat.zero_le _) (⟨rfl, hDk⟩) dX1_payBillsDueToday_61
set_option maxHeartbeats 4000000 in
set_option maxRecDepth 100000 in
theorem c_X1_pass_tr {l : Launch} {K : Ks} {A : Nat → Prop} {ad bad : Nat → Nat} {td : Int32} {n : Nat} {M : Nat → Nat → Int32} {rm : Nat → Int32} {k : Nat} {idx : Nat → Nat} {w : va_W} (hDk : Dk K ad bad td n M rm k idx w) (hlt : l.stackTraces = false) {y : Int32} (hy : ¬ inR 1 400 y) : vx_Met l yX1_pass wsX1_pass (kR 5 1 6) (kPr K A [.ref (ad 0), .int y] (w)) kNo (kX K A IAE (fun w1 => Dk K ad bad td n M rm k idx w1)) 1 6 A := by
  refine kentT (cc := cX1_pass) (maxL := 4) (ret := (some .int)) (by decide) rfl (Nat.le_of_ble_eq_true rfl) ?_
  intro p e s m args below meth c ls hx hb hr hts hown hlocks hml hxt hG hP hD hS hl
  have hinX1 : ∀ x ∈ wsX10, x ∈ wsX1_pass := by decide +kernel
  have hl : lv_has ls 4 [(0, .ref (ad 0)), (1, .int y)] := hl
  have hn30 := hDk.n30
  have hk30 := hDk.k30
  refine lv_iload_n hx hb dX1_pass_0 rfl (lv_at hl 1 rfl) ?_
  refine lv_iconst (v := 1) hx hb dX1_pass_1 (by decide) ?_
  refine lv_sipush (v := 400) hx hb dX1_pass_2 (by decide) ?_
  refine kc_t (vx_runS (As := [.int y, .int 1, .int 400]) (rest := []) ⟨hx, hb, hml, hown, hts⟩ (c_X1_checkRange_t hlt hy) (va_cwS 3 hts gX1_pass_X1_checkRange rfl rfl rfl (by decide +kernel) ⟨Nat.le_of_ble_eq_true rfl, Nat.le_of_ble_eq_true rfl⟩) (kps hG hP hD hS) rfl rfl hl.1 rfl (lv_room (Nat.le_of_ble_eq_true rfl)) dX1_pass_5 ⟨Nat.le_of_ble_eq_true rfl, Nat.le_of_ble_eq_true rfl⟩) hS (fun ce q9 w H locs hp hP hD hS hce hcv hcl => ?_)
  have hDk : Dk K ad bad td n M rm k idx w := by rw [hp]; exact hDk
  exact kr_t hxt hlocks hP hD hS hce hcv hcl (Nat.le_of_ble_eq_true rfl) (Nat.le_of_ble_eq_true rfl) hDk
set_option maxHeartbeats 4000000 in
set_option maxRecDepth 100000 in
theorem c_X1_pass {l : Launch} {K : Ks} {A : Nat → Prop} {ad bad : Nat → Nat} {td : Int32} {n : Nat} {M : Nat → Nat → Int32} {rm : Nat → Int32} {k : Nat} {idx : Nat → Nat} {w : va_W} (hDk : Dk K ad bad td n M rm k idx w) {D : Nat} (hD4 : D ≤ 400) (hy : inR 1 400 (nI D)) (hok : ∀ j, j < n → okP M j) : Met l yX1_pass wsX1_pass (kR 5 0 0) (kPr K A [.ref (ad 0), .int (nI D)] (w)) (kQi K A (fun r w1 => r = nI (psC td n M D) ∧ Dk K ad bad (td + nI D) n (psM td n M D) rm k idx w1)) 0 0 A := by
  refine kent (cc := cX1_pass) (maxL := 4) (ret := (some .int)) (by decide) rfl (Nat.le_of_ble_eq_true rfl) ?_
  intro p e s m args below meth c ls hx hb hr hts hown hlocks hml hini hG hP hD hS hl
  have hinX1 : ∀ x ∈ wsX10, x ∈ wsX1_pass := by decide +kernel
  have hl : lv_has ls 4 [(0, .ref (ad 0)), (1, .int (nI D))] := hl
  have hn30 := hDk.n30
  have hk30 := hDk.k30
  refine lv_iload_n hx hb dX1_pass_0 rfl (lv_at hl 1 rfl) ?_
  refine lv_iconst (v := 1) hx hb dX1_pass_1 (by decide) ?_
  refine lv_sipush (v := 400) hx hb dX1_pass_2 (by decide) ?_
  refine kc_v (va_runS (As := [.int (nI D), .int 1, .int 400]) (rest := []) ⟨hx, hb, hml, hown, hts⟩ (c_X1_checkRange hy) (va_cwS 3 hts gX1_pass_X1_checkRange rfl rfl rfl (by decide +kernel) ⟨Nat.le_of_ble_eq_true rfl, Nat.le_of_ble_eq_true rfl⟩) (kps hG hP hD hS) rfl rfl hl.1 rfl (lv_room (Nat.le_of_ble_eq_true rfl)) dX1_pass_5 ⟨Nat.le_of_ble_eq_true rfl, Nat.le_of_ble_eq_true rfl⟩) hS (fun w H locs hp hP hD hS => ?_)
  have hDk : Dk K ad bad td n M rm k idx w := by rw [hp]; exact hDk
  refine lv_iconst (v := 0) hx hb dX1_pass_8 (by decide) ?_
  refine lv_istore_n (lv' := [(2, .int 0), (0, .ref (ad 0)), (1, .int (nI D))]) hx hb dX1_pass_9 rfl hl (by decide) rfl (fun ls hl => ?_)
  refine lv_iconst (v := 0) hx hb dX1_pass_10 (by decide) ?_
  refine lv_istore_n (lv' := [(3, .int 0), (2, .int 0), (0, .ref (ad 0)), (1, .int (nI D))]) hx hb dX1_pass_11 rfl hl (by decide) rfl (fun ls hl => ?_)
  have LOOP : ∀ (Q' : State → Prop), (∀ (w : va_W)  (ls : Array Slot) (H : Heap) (locs : List Loc), Dk K ad bad (td + nI D) n (psM td n M D) rm k idx w → va_P K.1 kCl (w) H → va_D A (w) → va_S A s.heap H locs → lv_has ls 4 [(0, .ref (ad 0)), (1, .int (nI D)), (2, .int (nI (psC td n M D))), (3, .int (nI D))] → W p l e ((kR 5 0 0)) s m args below meth c H locs 0 0 Q' (F0 m 40 ls [])) → ∀ (d j : Nat) (w : va_W)  (ls : Array Slot) (H : Heap) (locs : List Loc), j + d = D → Dk K ad bad (td + nI j) n (psM td n M j) rm k idx w → va_P K.1 kCl (w) H → va_D A (w) → va_S A s.heap H locs → lv_has ls 4 [(0, .ref (ad 0)), (1, .int (nI D)), (2, .int (nI (psC td n M j))), (3, .int (nI j))] → W p l e ((kR 5 0 0)) s m args below meth c H locs 0 0 Q' (F0 m 12 ls []) := by
    intro Q' kx d
    induction d with
    | zero =>
      intro j w  ls H locs hk hDk hP hD hS hl
      have hk2 : j = D := by omega
      refine lv_iload_n hx hb dX1_pass_12 rfl (lv_at hl 3 rfl) ?_
      refine lv_iload_n hx hb dX1_pass_13 rfl (lv_at hl 1 rfl) ?_
      refine lv_icmp_ge (tgt := 40) hx hb dX1_pass_14 (by decide) (fun h14 => ?_) (fun h14 => False.elim (absurd (nI_le (Nat.le_of_eq hk2.symm) (by omega)) h14))
      have hk3 : D = j := hk2.symm
      subst hk3
      exact kx w  ls H locs hDk hP hD hS (lv_sub hl [0, 1, 2, 3] rfl)
    | succ d ih =>
      intro j w  ls H locs hk hDk hP hD hS hl
      have hk2 : j < D := by omega
      refine lv_iload_n hx hb dX1_pass_12 rfl (lv_at hl 3 rfl) ?_
      refine lv_iload_n hx hb dX1_pass_13 rfl (lv_at hl 1 rfl) ?_
      refine lv_icmp_ge (tgt := 40) hx hb dX1_pass_14 (by decide) (fun h14 => False.elim (absurd h14 (nI_ge hk2 (by omega)))) (fun h14 => ?_)
      refine lv_aload_n hx hb dX1_pass_17 rfl (lv_at hl 0 rfl) ?_
      refine lv_dup hx hb dX1_pass_18 rfl ?_
      refine kget (ci := 2) (C := RX1) (T := TX1) (N := 7) hx hb hts hown hG hP 0 hDk.x rfl hinX1 4 (by decide) (by decide +kernel) rfl dX1_pass_19 ?_
      refine lv_iconst (v := 1) hx hb dX1_pass_22 (by decide) ?_
      refine lv_iadd hx hb dX1_pass_23 ?_
      refine ktop (z := (td + nI (j + 1))) (by rw [Int32.add_assoc]; exact congrArg (fun z => td + z) (nI_1 j)) ?_
      refine kd_puttd hx hb hts hown hG hP hD hS hDk hinX1 (by decide +kernel) dX1_pass_24 (fun w H locs hDk hP hD hS => ?_)
      refine lv_iload_n hx hb dX1_pass_27 rfl (lv_at hl 2 rfl) ?_
      refine lv_aload_n hx hb dX1_pass_28 rfl (lv_at hl 0 rfl) ?_
      refine kc_i (va_runV (As := []) (rest := [.int (nI (psC td n M j))]) ⟨hx, hb, hml, hown, hts⟩ (c_X1_payBillsDueToday hDk (fun i hi => okP_ps (hok i hi))) (cwV 0 hts gX1_pass_X1_payBillsDueToday rfl rfl rfl (by decide +kernel) ⟨Nat.le_of_ble_eq_true rfl, Nat.le_of_ble_eq_true rfl⟩) (kpv (q0 := 0) hG hP hD hS hDk.x rfl) rfl rfl hl.1 rfl (lv_room (Nat.le_of_ble_eq_true rfl)) dX1_pass_29 ⟨Nat.le_of_ble_eq_true rfl, Nat.le_of_ble_eq_true rfl⟩) hS (fun r29 w H locs hp hP hD hS => ?_)
      have hDk : Dk K ad bad (td + nI (j + 1)) n (dyM (td + nI (j + 1)) (psM td n M j) n) rm k idx w := hp.2
      rw [hp.1]
      refine lv_iadd hx hb dX1_pass_32 ?_
      refine ktop (z := nI (psC td n M (j + 1))) (nI_add _ _) ?_
      refine lv_istore_n (lv' := [(2, .int (nI (psC td n M (j + 1)))), (0, .ref (ad 0)), (1, .int (nI D)), (3, .int (nI j))]) hx hb dX1_pass_33 rfl hl (by decide) rfl (fun ls hl => ?_)
      refine lv_iinc (v := nI (j + 1)) (lv' := [(3, .int (nI (j + 1))), (2, .int (nI (psC td n M (j + 1)))), (0, .ref (ad 0)), (1, .int (nI D))]) hx hb dX1_pass_34 hl (k := 3) rfl (kinc j) (by decide) rfl (fun ls hl => ?_)
      refine lv_goto (tgt := 12) hx hb dX1_pass_37 (by decide) ?_
      exact (ih (j + 1) w  ls H locs (by omega) hDk hP hD hS (lv_sub hl [2, 3, 1, 0] rfl))
  refine LOOP _ (fun w  ls H locs hDk hP hD hS hl => ?_) D 0 w  ls _ _ (by omega) (by rw [show td + nI 0 = td from by rw [nI_0, Int32.add_zero]]; exact hDk) hP hD hS (lv_sub hl [2, 3, 1, 0] rfl)
  refine lv_iload_n hx hb dX1_pass_40 rfl (lv_at hl 2 rfl) ?_
  exact kr_i hx hb hr hlocks hP hD hS (Nat.zero_le _) (Nat.zero_le _) (⟨rfl, hDk⟩) dX1_pass_41
