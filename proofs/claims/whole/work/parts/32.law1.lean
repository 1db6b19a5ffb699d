/-! The law's helpers -/
theorem n64_of {r : UInt64} (h : Jvm.FP.Core.dIsNaN r = false) : vf_n64 r := by
  have h1 : ¬ 9218868437227405312 < r.toNat % 2 ^ 63 := fun q => by rw [(Jvm.FP.Core.isNaN_bits r).mpr q] at h; cases h
  have h2 : (r &&& 0x7fffffffffffffff).toNat = r.toNat % 2 ^ 63 := by
    rw [UInt64.toNat_and]
    exact Nat.and_two_pow_sub_one_eq_mod r.toNat 63
  show r &&& 0x7fffffffffffffff ≤ 0x7ff0000000000000
  rw [UInt64.le_iff_toNat_le, h2]
  exact Nat.not_lt.mp h1
theorem fd64N {x y : Int32} (h : ¬ y = 0) : Jvm.FP.Core.dIsNaN (FP.f2d (FP.fdiv (FP.i2f x) (FP.i2f y))) = false := by
  unfold FP.f2d
  rw [if_neg (by rw [fdNN h]; exact Bool.false_ne_true)]
  exact Jvm.FP.Core.f2d_out (fdNN h)
theorem fd64 {x y : Int32} (h : ¬ y = 0) : vf_n64 (FP.f2d (FP.fdiv (FP.i2f x) (FP.i2f y))) := n64_of (fd64N h)
set_option maxHeartbeats 4000000 in
set_option maxRecDepth 100000 in
theorem h_setBudget_tb {l : Launch} {K : Ks} {A : Nat → Prop} {ad bad : Nat → Nat} {td : Int32} {n : Nat} {M : Nat → Nat → Int32} {w : va_W} (hE : DkE K ad bad td n M w) {o : Nat} {g : Nat → Int64} (hlt : l.stackTraces = false) {x : Int32} (hx4 : ixBad 4 x) {y : Int32} : Met l yL_setBudget wsL_setBudget (kR 5 1 6) (kPr K A [.ref (ad 0), .int x, .int y, .ref o] (w ++ [(o, oJ K g)])) (kQi K A (fun r w1 => r = 1 ∧ ∃ w2 : va_W, w1 = w2 ++ [(o, oJ K g)] ∧ DkE K ad bad td n M w2)) 1 6 A := by
  obtain ⟨rm, k, idx, hDk⟩ := hE
  refine kentH (cc := cL_setBudget) (maxL := 5) (ret := some .int) (hh := [(0, 10, 13, 13), (0, 10, 17, 15)]) (by decide) rfl (Nat.le_of_ble_eq_true rfl) ?_
  intro p e s m args below meth c ls hx hb hr hts hown hlocks hml hxt hG hP hD hS hl
  have hl : lv_has ls 5 [(0, .ref (ad 0)), (1, .int x), (2, .int y), (3, .ref o)] := hl
  refine lv_aload_n hx hb dL_setBudget_0 rfl (lv_at hl 3 rfl) ?_
  refine lv_iconst (v := 0) hx hb dL_setBudget_1 (by decide) ?_
  refine lv_aload_n hx hb dL_setBudget_2 rfl (lv_at hl 0 rfl) ?_
  refine lv_iload_n hx hb dL_setBudget_3 rfl (lv_at hl 1 rfl) ?_
  refine lv_iload_n hx hb dL_setBudget_4 rfl (lv_at hl 2 rfl) ?_
  refine kf_t (W2 := [(o, oJ K g)])  (vx_runV (As := [.int x, .int y]) (rest := [.int 0, .ref o]) ⟨hx, hb, hml, hown, hts⟩ (c_X1_setBudget_tb hDk hlt hx4) (cwV 2 hts gL_setBudget_X1_setBudget rfl rfl rfl (by decide +kernel) ⟨(Nat.le_of_ble_eq_true rfl), (Nat.le_of_ble_eq_true rfl)⟩) (lpv (q0 := 0) hG hP hD hS hDk.x rfl) rfl rfl hl.1 rfl (lv_room (Nat.le_of_ble_eq_true rfl)) dL_setBudget_5 ⟨(Nat.le_of_ble_eq_true rfl), (Nat.le_of_ble_eq_true rfl)⟩) hS hP hD (fun ce q9 w H locs hp hP hD hS hce hcv hcl => ?_)
  refine vx_catch (own := RL) (name := IOB) (E := IOB) hown [] ⟨0, 10, 13, 13⟩ [⟨0, 10, 17, 15⟩] (hxt.trans rfl) (fun z hz => absurd hz (by simp)) rfl (by decide) (hts (.classLink RL 13 IOB) (by decide +kernel)) (va_Nw.use rfl hG.2.2.2.2.2.1) hce hcv hcl ?_
  refine lv_astore (lv' := [(4, .ref q9), (0, .ref (ad 0)), (1, .int x), (2, .int y), (3, .ref o)]) hx hb dL_setBudget_13 hl (by decide) rfl (fun ls hl => ?_)
  refine lv_iconst (v := 1) hx hb dL_setBudget_15 (by decide) ?_
  exact kr_i hx hb hr hlocks hP hD hS (Nat.le_of_ble_eq_true rfl) (Nat.le_of_ble_eq_true rfl) (⟨rfl, w, rfl, ⟨_, _, _, hp⟩⟩) dL_setBudget_16
set_option maxHeartbeats 4000000 in
set_option maxRecDepth 100000 in
theorem h_setBudget_tr {l : Launch} {K : Ks} {A : Nat → Prop} {ad bad : Nat → Nat} {td : Int32} {n : Nat} {M : Nat → Nat → Int32} {w : va_W} (hE : DkE K ad bad td n M w) {o : Nat} {g : Nat → Int64} (hlt : l.stackTraces = false) {b : Nat} (hx4 : b < 4) {y : Int32} (hy : ¬ inR 0 100000000 y) : Met l yL_setBudget wsL_setBudget (kR 5 1 6) (kPr K A [.ref (ad 0), .int (nI b), .int y, .ref o] (w ++ [(o, oJ K g)])) (kQi K A (fun r w1 => r = 2 ∧ ∃ w2 : va_W, w1 = w2 ++ [(o, oJ K g)] ∧ DkE K ad bad td n M w2)) 1 6 A := by
  obtain ⟨rm, k, idx, hDk⟩ := hE
  refine kentH (cc := cL_setBudget) (maxL := 5) (ret := some .int) (hh := [(0, 10, 13, 13), (0, 10, 17, 15)]) (by decide) rfl (Nat.le_of_ble_eq_true rfl) ?_
  intro p e s m args below meth c ls hx hb hr hts hown hlocks hml hxt hG hP hD hS hl
  have hl : lv_has ls 5 [(0, .ref (ad 0)), (1, .int (nI b)), (2, .int y), (3, .ref o)] := hl
  refine lv_aload_n hx hb dL_setBudget_0 rfl (lv_at hl 3 rfl) ?_
  refine lv_iconst (v := 0) hx hb dL_setBudget_1 (by decide) ?_
  refine lv_aload_n hx hb dL_setBudget_2 rfl (lv_at hl 0 rfl) ?_
  refine lv_iload_n hx hb dL_setBudget_3 rfl (lv_at hl 1 rfl) ?_
  refine lv_iload_n hx hb dL_setBudget_4 rfl (lv_at hl 2 rfl) ?_
  refine kf_t (W2 := [(o, oJ K g)])  (vx_runV (As := [.int (nI b), .int y]) (rest := [.int 0, .ref o]) ⟨hx, hb, hml, hown, hts⟩ (c_X1_setBudget_tr hDk hlt hx4 hy) (cwV 2 hts gL_setBudget_X1_setBudget rfl rfl rfl (by decide +kernel) ⟨(Nat.le_of_ble_eq_true rfl), (Nat.le_of_ble_eq_true rfl)⟩) (lpv (q0 := 0) hG hP hD hS hDk.x rfl) rfl rfl hl.1 rfl (lv_room (Nat.le_of_ble_eq_true rfl)) dL_setBudget_5 ⟨(Nat.le_of_ble_eq_true rfl), (Nat.le_of_ble_eq_true rfl)⟩) hS hP hD (fun ce q9 w H locs hp hP hD hS hce hcv hcl => ?_)
  refine vx_catch (own := RL) (name := IAE) (E := IAE) hown [⟨0, 10, 13, 13⟩] ⟨0, 10, 17, 15⟩ [] (hxt.trans rfl) (fun z hz => by rw [List.mem_singleton.mp hz]; exact Or.inr ⟨by decide, IOB, hts (.classLink RL 13 IOB) (by decide +kernel), hG.2.2.2.2.2.2.2.1.2.2.2.2.1⟩) rfl (by decide) (hts (.classLink RL 15 IAE) (by decide +kernel)) (va_Nw.use rfl hG.2.2.2.2.2.2.1) hce hcv hcl ?_
  refine lv_astore (lv' := [(4, .ref q9), (0, .ref (ad 0)), (1, .int (nI b)), (2, .int y), (3, .ref o)]) hx hb dL_setBudget_17 hl (by decide) rfl (fun ls hl => ?_)
  refine lv_iconst (v := 2) hx hb dL_setBudget_19 (by decide) ?_
  exact kr_i hx hb hr hlocks hP hD hS (Nat.le_of_ble_eq_true rfl) (Nat.le_of_ble_eq_true rfl) (⟨rfl, w, rfl, ⟨_, _, _, hp⟩⟩) dL_setBudget_20
set_option maxHeartbeats 4000000 in
set_option maxRecDepth 100000 in
theorem h_setBudget {l : Launch} {K : Ks} {A : Nat → Prop} {ad bad : Nat → Nat} {td : Int32} {n : Nat} {M : Nat → Nat → Int32} {w : va_W} (hE : DkE K ad bad td n M w) {o : Nat} {g : Nat → Int64} {b : Nat} (hx4 : b < 4) {y : Int32} (hy : inR 0 100000000 y) : Met l yL_setBudget wsL_setBudget (kR 5 0 0) (kPr K A [.ref (ad 0), .int (nI b), .int y, .ref o] (w ++ [(o, oJ K g)])) (kQi K A (fun r w1 => r = 0 ∧ ∃ (w2 : va_W) (g1 : Nat → Int64), w1 = w2 ++ [(o, oJ K g1)] ∧ g1 0 = ((M 11 b)).toInt64 ∧ DkE K ad bad td n (up2 M 11 b y) w2)) 0 0 A := by
  obtain ⟨rm, k, idx, hDk⟩ := hE
  refine kentH (cc := cL_setBudget) (maxL := 5) (ret := some .int) (hh := [(0, 10, 13, 13), (0, 10, 17, 15)]) (by decide) rfl (Nat.le_of_ble_eq_true rfl) ?_
  intro p e s m args below meth c ls hx hb hr hts hown hlocks hml hxt hG hP hD hS hl
  have hl : lv_has ls 5 [(0, .ref (ad 0)), (1, .int (nI b)), (2, .int y), (3, .ref o)] := hl
  refine lv_aload_n hx hb dL_setBudget_0 rfl (lv_at hl 3 rfl) ?_
  refine lv_iconst (v := 0) hx hb dL_setBudget_1 (by decide) ?_
  refine lv_aload_n hx hb dL_setBudget_2 rfl (lv_at hl 0 rfl) ?_
  refine lv_iload_n hx hb dL_setBudget_3 rfl (lv_at hl 1 rfl) ?_
  refine lv_iload_n hx hb dL_setBudget_4 rfl (lv_at hl 2 rfl) ?_
  refine kf_i (W2 := [(o, oJ K g)])  (va_runV (As := [.int (nI b), .int y]) (rest := [.int 0, .ref o]) ⟨hx, hb, hml, hown, hts⟩ (c_X1_setBudget hDk hx4 hy) (cwV 2 hts gL_setBudget_X1_setBudget rfl rfl rfl (by decide +kernel) ⟨(Nat.le_of_ble_eq_true rfl), (Nat.le_of_ble_eq_true rfl)⟩) (lpv (q0 := 0) hG hP hD hS hDk.x rfl) rfl rfl hl.1 rfl (lv_room (Nat.le_of_ble_eq_true rfl)) dL_setBudget_5 ⟨(Nat.le_of_ble_eq_true rfl), (Nat.le_of_ble_eq_true rfl)⟩) hS hP hD (fun r w H locs hp hP hD hS => ?_)
  obtain ⟨hp1, hDk⟩ := hp
  rw [hp1]
  refine lv_i2l (v := ((M 11 b) : Int32).toInt64) hx hb dL_setBudget_8 rfl ?_
  refine kjast hx hb hG hP hD hS dL_setBudget_9 (fun g1 H locs hg hP hD hS => ?_)
  refine lv_goto (tgt := 21) hx hb dL_setBudget_10 (by decide) ?_
  refine lv_iconst (v := 0) hx hb dL_setBudget_21 (by decide) ?_
  exact kr_i hx hb hr hlocks hP hD hS (Nat.le_of_ble_eq_true rfl) (Nat.le_of_ble_eq_true rfl) (⟨rfl, w, g1, rfl, hg, _, _, _, hDk⟩) dL_setBudget_22
set_option maxHeartbeats 4000000 in
set_option maxRecDepth 100000 in
theorem h_setLimit_tb {l : Launch} {K : Ks} {A : Nat → Prop} {ad bad : Nat → Nat} {td : Int32} {n : Nat} {M : Nat → Nat → Int32} {w : va_W} (hE : DkE K ad bad td n M w) {o : Nat} {g : Nat → Int64} (hlt : l.stackTraces = false) {x y z : Int32} (hx4 : ixBad 4 x) : Met l yL_setLimit wsL_setLimit (kR 5 1 6) (kPr K A [.ref (ad 0), .int x, .int y, .int z, .ref o] (w ++ [(o, oJ K g)])) (kQi K A (fun r w1 => r = 1 ∧ ∃ w2 : va_W, w1 = w2 ++ [(o, oJ K g)] ∧ DkE K ad bad td n M w2)) 1 6 A := by
  obtain ⟨rm, k, idx, hDk⟩ := hE
  refine kentH (cc := cL_setLimit) (maxL := 6) (ret := some .int) (hh := [(0, 12, 15, 13), (0, 12, 19, 15)]) (by decide) rfl (Nat.le_of_ble_eq_true rfl) ?_
  intro p e s m args below meth c ls hx hb hr hts hown hlocks hml hxt hG hP hD hS hl
  have hl : lv_has ls 6 [(0, .ref (ad 0)), (1, .int x), (2, .int y), (3, .int z), (4, .ref o)] := hl
  refine lv_aload hx hb dL_setLimit_0 (lv_at hl 4 rfl) ?_
  refine lv_iconst (v := 0) hx hb dL_setLimit_2 (by decide) ?_
  refine lv_aload_n hx hb dL_setLimit_3 rfl (lv_at hl 0 rfl) ?_
  refine lv_iload_n hx hb dL_setLimit_4 rfl (lv_at hl 1 rfl) ?_
  refine lv_iload_n hx hb dL_setLimit_5 rfl (lv_at hl 2 rfl) ?_
  refine lv_iload_n hx hb dL_setLimit_6 rfl (lv_at hl 3 rfl) ?_
  refine kf_t (W2 := [(o, oJ K g)])  (vx_runV (As := [.int x, .int y, .int z]) (rest := [.int 0, .ref o]) ⟨hx, hb, hml, hown, hts⟩ (c_X1_setLimit_tb hDk hlt hx4) (cwV 3 hts gL_setLimit_X1_setLimit rfl rfl rfl (by decide +kernel) ⟨(Nat.le_of_ble_eq_true rfl), (Nat.le_of_ble_eq_true rfl)⟩) (lpv (q0 := 0) hG hP hD hS hDk.x rfl) rfl rfl hl.1 rfl (lv_room (Nat.le_of_ble_eq_true rfl)) dL_setLimit_7 ⟨(Nat.le_of_ble_eq_true rfl), (Nat.le_of_ble_eq_true rfl)⟩) hS hP hD (fun ce q9 w H locs hp hP hD hS hce hcv hcl => ?_)
  refine vx_catch (own := RL) (name := IOB) (E := IOB) hown [] ⟨0, 12, 15, 13⟩ [⟨0, 12, 19, 15⟩] (hxt.trans rfl) (fun z hz => absurd hz (by simp)) rfl (by decide) (hts (.classLink RL 13 IOB) (by decide +kernel)) (va_Nw.use rfl hG.2.2.2.2.2.1) hce hcv hcl ?_
  refine lv_astore (lv' := [(5, .ref q9), (0, .ref (ad 0)), (1, .int x), (2, .int y), (3, .int z), (4, .ref o)]) hx hb dL_setLimit_15 hl (by decide) rfl (fun ls hl => ?_)
  refine lv_iconst (v := 1) hx hb dL_setLimit_17 (by decide) ?_
  exact kr_i hx hb hr hlocks hP hD hS (Nat.le_of_ble_eq_true rfl) (Nat.le_of_ble_eq_true rfl) (⟨rfl, w, rfl, ⟨_, _, _, hp⟩⟩) dL_setLimit_18
set_option maxHeartbeats 4000000 in
set_option maxRecDepth 100000 in
theorem h_setLimit_ts {l : Launch} {K : Ks} {A : Nat → Prop} {ad bad : Nat → Nat} {td : Int32} {n : Nat} {M : Nat → Nat → Int32} {w : va_W} (hE : DkE K ad bad td n M w) {o : Nat} {g : Nat → Int64} (hlt : l.stackTraces = false) {b : Nat} {y : Int32} (hx4 : b < 4) (hx8 : ixBad 8 y) {z : Int32} : Met l yL_setLimit wsL_setLimit (kR 5 1 6) (kPr K A [.ref (ad 0), .int (nI b), .int y, .int z, .ref o] (w ++ [(o, oJ K g)])) (kQi K A (fun r w1 => r = 1 ∧ ∃ w2 : va_W, w1 = w2 ++ [(o, oJ K g)] ∧ DkE K ad bad td n M w2)) 1 6 A := by
  obtain ⟨rm, k, idx, hDk⟩ := hE
  refine kentH (cc := cL_setLimit) (maxL := 6) (ret := some .int) (hh := [(0, 12, 15, 13), (0, 12, 19, 15)]) (by decide) rfl (Nat.le_of_ble_eq_true rfl) ?_
  intro p e s m args below meth c ls hx hb hr hts hown hlocks hml hxt hG hP hD hS hl
  have hl : lv_has ls 6 [(0, .ref (ad 0)), (1, .int (nI b)), (2, .int y), (3, .int z), (4, .ref o)] := hl
  refine lv_aload hx hb dL_setLimit_0 (lv_at hl 4 rfl) ?_
  refine lv_iconst (v := 0) hx hb dL_setLimit_2 (by decide) ?_
  refine lv_aload_n hx hb dL_setLimit_3 rfl (lv_at hl 0 rfl) ?_
  refine lv_iload_n hx hb dL_setLimit_4 rfl (lv_at hl 1 rfl) ?_
  refine lv_iload_n hx hb dL_setLimit_5 rfl (lv_at hl 2 rfl) ?_
  refine lv_iload_n hx hb dL_setLimit_6 rfl (lv_at hl 3 rfl) ?_
  refine kf_t (W2 := [(o, oJ K g)])  (vx_runV (As := [.int (nI b), .int y, .int z]) (rest := [.int 0, .ref o]) ⟨hx, hb, hml, hown, hts⟩ (c_X1_setLimit_ts hDk hlt hx4 hx8) (cwV 3 hts gL_setLimit_X1_setLimit rfl rfl rfl (by decide +kernel) ⟨(Nat.le_of_ble_eq_true rfl), (Nat.le_of_ble_eq_true rfl)⟩) (lpv (q0 := 0) hG hP hD hS hDk.x rfl) rfl rfl hl.1 rfl (lv_room (Nat.le_of_ble_eq_true rfl)) dL_setLimit_7 ⟨(Nat.le_of_ble_eq_true rfl), (Nat.le_of_ble_eq_true rfl)⟩) hS hP hD (fun ce q9 w H locs hp hP hD hS hce hcv hcl => ?_)
  refine vx_catch (own := RL) (name := IOB) (E := IOB) hown [] ⟨0, 12, 15, 13⟩ [⟨0, 12, 19, 15⟩] (hxt.trans rfl) (fun z hz => absurd hz (by simp)) rfl (by decide) (hts (.classLink RL 13 IOB) (by decide +kernel)) (va_Nw.use rfl hG.2.2.2.2.2.1) hce hcv hcl ?_
  refine lv_astore (lv' := [(5, .ref q9), (0, .ref (ad 0)), (1, .int (nI b)), (2, .int y), (3, .int z), (4, .ref o)]) hx hb dL_setLimit_15 hl (by decide) rfl (fun ls hl => ?_)
  refine lv_iconst (v := 1) hx hb dL_setLimit_17 (by decide) ?_
  exact kr_i hx hb hr hlocks hP hD hS (Nat.le_of_ble_eq_true rfl) (Nat.le_of_ble_eq_true rfl) (⟨rfl, w, rfl, ⟨_, _, _, hp⟩⟩) dL_setLimit_18
set_option maxHeartbeats 4000000 in
set_option maxRecDepth 100000 in
theorem h_setLimit_tr {l : Launch} {K : Ks} {A : Nat → Prop} {ad bad : Nat → Nat} {td : Int32} {n : Nat} {M : Nat → Nat → Int32} {w : va_W} (hE : DkE K ad bad td n M w) {o : Nat} {g : Nat → Int64} (hlt : l.stackTraces = false) {b u : Nat} (hx4 : b < 4) (hx8 : u < 8) {z : Int32} (hy : ¬ inR 0 100000000 z) : Met l yL_setLimit wsL_setLimit (kR 5 1 6) (kPr K A [.ref (ad 0), .int (nI b), .int (nI u), .int z, .ref o] (w ++ [(o, oJ K g)])) (kQi K A (fun r w1 => r = 2 ∧ ∃ w2 : va_W, w1 = w2 ++ [(o, oJ K g)] ∧ DkE K ad bad td n M w2)) 1 6 A := by
  obtain ⟨rm, k, idx, hDk⟩ := hE
  refine kentH (cc := cL_setLimit) (maxL := 6) (ret := some .int) (hh := [(0, 12, 15, 13), (0, 12, 19, 15)]) (by decide) rfl (Nat.le_of_ble_eq_true rfl) ?_
  intro p e s m args below meth c ls hx hb hr hts hown hlocks hml hxt hG hP hD hS hl
  have hl : lv_has ls 6 [(0, .ref (ad 0)), (1, .int (nI b)), (2, .int (nI u)), (3, .int z), (4, .ref o)] := hl
  refine lv_aload hx hb dL_setLimit_0 (lv_at hl 4 rfl) ?_
  refine lv_iconst (v := 0) hx hb dL_setLimit_2 (by decide) ?_
  refine lv_aload_n hx hb dL_setLimit_3 rfl (lv_at hl 0 rfl) ?_
  refine lv_iload_n hx hb dL_setLimit_4 rfl (lv_at hl 1 rfl) ?_
  refine lv_iload_n hx hb dL_setLimit_5 rfl (lv_at hl 2 rfl) ?_
  refine lv_iload_n hx hb dL_setLimit_6 rfl (lv_at hl 3 rfl) ?_
  refine kf_t (W2 := [(o, oJ K g)])  (vx_runV (As := [.int (nI b), .int (nI u), .int z]) (rest := [.int 0, .ref o]) ⟨hx, hb, hml, hown, hts⟩ (c_X1_setLimit_tr hDk hlt hx4 hx8 hy) (cwV 3 hts gL_setLimit_X1_setLimit rfl rfl rfl (by decide +kernel) ⟨(Nat.le_of_ble_eq_true rfl), (Nat.le_of_ble_eq_true rfl)⟩) (lpv (q0 := 0) hG hP hD hS hDk.x rfl) rfl rfl hl.1 rfl (lv_room (Nat.le_of_ble_eq_true rfl)) dL_setLimit_7 ⟨(Nat.le_of_ble_eq_true rfl), (Nat.le_of_ble_eq_true rfl)⟩) hS hP hD (fun ce q9 w H locs hp hP hD hS hce hcv hcl => ?_)
  refine vx_catch (own := RL) (name := IAE) (E := IAE) hown [⟨0, 12, 15, 13⟩] ⟨0, 12, 19, 15⟩ [] (hxt.trans rfl) (fun z hz => by rw [List.mem_singleton.mp hz]; exact Or.inr ⟨by decide, IOB, hts (.classLink RL 13 IOB) (by decide +kernel), hG.2.2.2.2.2.2.2.1.2.2.2.2.1⟩) rfl (by decide) (hts (.classLink RL 15 IAE) (by decide +kernel)) (va_Nw.use rfl hG.2.2.2.2.2.2.1) hce hcv hcl ?_
  refine lv_astore (lv' := [(5, .ref q9), (0, .ref (ad 0)), (1, .int (nI b)), (2, .int (nI u)), (3, .int z), (4, .ref o)]) hx hb dL_setLimit_19 hl (by decide) rfl (fun ls hl => ?_)
  refine lv_iconst (v := 2) hx hb dL_setLimit_21 (by decide) ?_
  exact kr_i hx hb hr hlocks hP hD hS (Nat.le_of_ble_eq_true rfl) (Nat.le_of_ble_eq_true rfl) (⟨rfl, w, rfl, ⟨_, _, _, hp⟩⟩) dL_setLimit_22
set_option maxHeartbeats 4000000 in
set_option maxRecDepth 100000 in
theorem h_setLimit {l : Launch} {K : Ks} {A : Nat → Prop} {ad bad : Nat → Nat} {td : Int32} {n : Nat} {M : Nat → Nat → Int32} {w : va_W} (hE : DkE K ad bad td n M w) {o : Nat} {g : Nat → Int64} {b u : Nat} (hx4 : b < 4) (hx8 : u < 8) {z : Int32} (hy : inR 0 100000000 z) : Met l yL_setLimit wsL_setLimit (kR 5 0 0) (kPr K A [.ref (ad 0), .int (nI b), .int (nI u), .int z, .ref o] (w ++ [(o, oJ K g)])) (kQi K A (fun r w1 => r = 0 ∧ ∃ (w2 : va_W) (g1 : Nat → Int64), w1 = w2 ++ [(o, oJ K g1)] ∧ g1 0 = ((M 12 (8 * b + u))).toInt64 ∧ DkE K ad bad td n (up2 M 12 (8 * b + u) z) w2)) 0 0 A := by
  obtain ⟨rm, k, idx, hDk⟩ := hE
  refine kentH (cc := cL_setLimit) (maxL := 6) (ret := some .int) (hh := [(0, 12, 15, 13), (0, 12, 19, 15)]) (by decide) rfl (Nat.le_of_ble_eq_true rfl) ?_
  intro p e s m args below meth c ls hx hb hr hts hown hlocks hml hxt hG hP hD hS hl
  have hl : lv_has ls 6 [(0, .ref (ad 0)), (1, .int (nI b)), (2, .int (nI u)), (3, .int z), (4, .ref o)] := hl
  refine lv_aload hx hb dL_setLimit_0 (lv_at hl 4 rfl) ?_
  refine lv_iconst (v := 0) hx hb dL_setLimit_2 (by decide) ?_
  refine lv_aload_n hx hb dL_setLimit_3 rfl (lv_at hl 0 rfl) ?_
  refine lv_iload_n hx hb dL_setLimit_4 rfl (lv_at hl 1 rfl) ?_
  refine lv_iload_n hx hb dL_setLimit_5 rfl (lv_at hl 2 rfl) ?_
  refine lv_iload_n hx hb dL_setLimit_6 rfl (lv_at hl 3 rfl) ?_
  refine kf_i (W2 := [(o, oJ K g)])  (va_runV (As := [.int (nI b), .int (nI u), .int z]) (rest := [.int 0, .ref o]) ⟨hx, hb, hml, hown, hts⟩ (c_X1_setLimit hDk hx4 hx8 hy) (cwV 3 hts gL_setLimit_X1_setLimit rfl rfl rfl (by decide +kernel) ⟨(Nat.le_of_ble_eq_true rfl), (Nat.le_of_ble_eq_true rfl)⟩) (lpv (q0 := 0) hG hP hD hS hDk.x rfl) rfl rfl hl.1 rfl (lv_room (Nat.le_of_ble_eq_true rfl)) dL_setLimit_7 ⟨(Nat.le_of_ble_eq_true rfl), (Nat.le_of_ble_eq_true rfl)⟩) hS hP hD (fun r w H locs hp hP hD hS => ?_)
  obtain ⟨hp1, hDk⟩ := hp
  rw [hp1]
  refine lv_i2l (v := ((M 12 (8 * b + u)) : Int32).toInt64) hx hb dL_setLimit_10 rfl ?_
  refine kjast hx hb hG hP hD hS dL_setLimit_11 (fun g1 H locs hg hP hD hS => ?_)
  refine lv_goto (tgt := 23) hx hb dL_setLimit_12 (by decide) ?_
  refine lv_iconst (v := 0) hx hb dL_setLimit_23 (by decide) ?_
  exact kr_i hx hb hr hlocks hP hD hS (Nat.le_of_ble_eq_true rfl) (Nat.le_of_ble_eq_true rfl) (⟨rfl, w, g1, rfl, hg, _, _, _, hDk⟩) dL_setLimit_24
set_option maxHeartbeats 4000000 in
set_option maxRecDepth 100000 in
theorem h_bill_tb {l : Launch} {K : Ks} {A : Nat → Prop} {ad bad : Nat → Nat} {td : Int32} {n : Nat} {M : Nat → Nat → Int32} {w : va_W} (hE : DkE K ad bad td n M w) {o : Nat} {g : Nat → Int64} (hlt : l.stackTraces = false) {x y ct dd : Int32} (hx4 : ixBad 4 x) : Met l yL_bill wsL_bill (kR 8 1 6) (kPr K A [.ref (ad 0), .int x, .int y, .int ct, .int dd, .ref o] (w ++ [(o, oJ K g)])) (kQi K A (fun r w1 => r = 1 ∧ ∃ w2 : va_W, w1 = w2 ++ [(o, oJ K g)] ∧ DkE K ad bad td n M w2)) 1 6 A := by
  obtain ⟨rm, k, idx, hDk⟩ := hE
  refine kentH (cc := cL_bill) (maxL := 7) (ret := some .int) (hh := [(0, 14, 17, 13), (0, 14, 21, 15), (0, 14, 25, 25)]) (by decide) rfl (Nat.le_of_ble_eq_true rfl) ?_
  intro p e s m args below meth c ls hx hb hr hts hown hlocks hml hxt hG hP hD hS hl
  have hl : lv_has ls 7 [(0, .ref (ad 0)), (1, .int x), (2, .int y), (3, .int ct), (4, .int dd), (5, .ref o)] := hl
  refine lv_aload hx hb dL_bill_0 (lv_at hl 5 rfl) ?_
  refine lv_iconst (v := 0) hx hb dL_bill_2 (by decide) ?_
  refine lv_aload_n hx hb dL_bill_3 rfl (lv_at hl 0 rfl) ?_
  refine lv_iload_n hx hb dL_bill_4 rfl (lv_at hl 1 rfl) ?_
  refine lv_iload_n hx hb dL_bill_5 rfl (lv_at hl 2 rfl) ?_
  refine lv_iload_n hx hb dL_bill_6 rfl (lv_at hl 3 rfl) ?_
  refine lv_iload hx hb dL_bill_7 (lv_at hl 4 rfl) ?_
  refine kf_t (W2 := [(o, oJ K g)])  (vx_runV (As := [.int x, .int y, .int ct, .int dd]) (rest := [.int 0, .ref o]) ⟨hx, hb, hml, hown, hts⟩ (c_X1_bill_tb hDk hlt hx4) (cwV 4 hts gL_bill_X1_bill rfl rfl rfl (by decide +kernel) ⟨(Nat.le_of_ble_eq_true rfl), (Nat.le_of_ble_eq_true rfl)⟩) (lpv (q0 := 0) hG hP hD hS hDk.x rfl) rfl rfl hl.1 rfl (lv_room (Nat.le_of_ble_eq_true rfl)) dL_bill_9 ⟨(Nat.le_of_ble_eq_true rfl), (Nat.le_of_ble_eq_true rfl)⟩) hS hP hD (fun ce q9 w H locs hp hP hD hS hce hcv hcl => ?_)
  refine vx_catch (own := RL) (name := IOB) (E := IOB) hown [] ⟨0, 14, 17, 13⟩ [⟨0, 14, 21, 15⟩, ⟨0, 14, 25, 25⟩] (hxt.trans rfl) (fun z hz => absurd hz (by simp)) rfl (by decide) (hts (.classLink RL 13 IOB) (by decide +kernel)) (va_Nw.use rfl hG.2.2.2.2.2.1) hce hcv hcl ?_
  refine lv_astore (lv' := [(6, .ref q9), (0, .ref (ad 0)), (1, .int x), (2, .int y), (3, .int ct), (4, .int dd), (5, .ref o)]) hx hb dL_bill_17 hl (by decide) rfl (fun ls hl => ?_)
  refine lv_iconst (v := 1) hx hb dL_bill_19 (by decide) ?_
  exact kr_i hx hb hr hlocks hP hD hS (Nat.le_of_ble_eq_true rfl) (Nat.le_of_ble_eq_true rfl) (⟨rfl, w, rfl, ⟨_, _, _, hp⟩⟩) dL_bill_20
set_option maxHeartbeats 4000000 in
set_option maxRecDepth 100000 in
theorem h_bill_ts {l : Launch} {K : Ks} {A : Nat → Prop} {ad bad : Nat → Nat} {td : Int32} {n : Nat} {M : Nat → Nat → Int32} {w : va_W} (hE : DkE K ad bad td n M w) {o : Nat} {g : Nat → Int64} (hlt : l.stackTraces = false) {b : Nat} {y : Int32} (hx4 : b < 4) (hx8 : ixBad 8 y) {ct dd : Int32} : Met l yL_bill wsL_bill (kR 8 1 6) (kPr K A [.ref (ad 0), .int (nI b), .int y, .int ct, .int dd, .ref o] (w ++ [(o, oJ K g)])) (kQi K A (fun r w1 => r = 1 ∧ ∃ w2 : va_W, w1 = w2 ++ [(o, oJ K g)] ∧ DkE K ad bad td n M w2)) 1 6 A := by
  obtain ⟨rm, k, idx, hDk⟩ := hE
  refine kentH (cc := cL_bill) (maxL := 7) (ret := some .int) (hh := [(0, 14, 17, 13), (0, 14, 21, 15), (0, 14, 25, 25)]) (by decide) rfl (Nat.le_of_ble_eq_true rfl) ?_
  intro p e s m args below meth c ls hx hb hr hts hown hlocks hml hxt hG hP hD hS hl
  have hl : lv_has ls 7 [(0, .ref (ad 0)), (1, .int (nI b)), (2, .int y), (3, .int ct), (4, .int dd), (5, .ref o)] := hl
  refine lv_aload hx hb dL_bill_0 (lv_at hl 5 rfl) ?_
  refine lv_iconst (v := 0) hx hb dL_bill_2 (by decide) ?_
  refine lv_aload_n hx hb dL_bill_3 rfl (lv_at hl 0 rfl) ?_
  refine lv_iload_n hx hb dL_bill_4 rfl (lv_at hl 1 rfl) ?_
  refine lv_iload_n hx hb dL_bill_5 rfl (lv_at hl 2 rfl) ?_
  refine lv_iload_n hx hb dL_bill_6 rfl (lv_at hl 3 rfl) ?_
  refine lv_iload hx hb dL_bill_7 (lv_at hl 4 rfl) ?_
  refine kf_t (W2 := [(o, oJ K g)])  (vx_runV (As := [.int (nI b), .int y, .int ct, .int dd]) (rest := [.int 0, .ref o]) ⟨hx, hb, hml, hown, hts⟩ (c_X1_bill_ts hDk hlt hx4 hx8) (cwV 4 hts gL_bill_X1_bill rfl rfl rfl (by decide +kernel) ⟨(Nat.le_of_ble_eq_true rfl), (Nat.le_of_ble_eq_true rfl)⟩) (lpv (q0 := 0) hG hP hD hS hDk.x rfl) rfl rfl hl.1 rfl (lv_room (Nat.le_of_ble_eq_true rfl)) dL_bill_9 ⟨(Nat.le_of_ble_eq_true rfl), (Nat.le_of_ble_eq_true rfl)⟩) hS hP hD (fun ce q9 w H locs hp hP hD hS hce hcv hcl => ?_)
  refine vx_catch (own := RL) (name := IOB) (E := IOB) hown [] ⟨0, 14, 17, 13⟩ [⟨0, 14, 21, 15⟩, ⟨0, 14, 25, 25⟩] (hxt.trans rfl) (fun z hz => absurd hz (by simp)) rfl (by decide) (hts (.classLink RL 13 IOB) (by decide +kernel)) (va_Nw.use rfl hG.2.2.2.2.2.1) hce hcv hcl ?_
  refine lv_astore (lv' := [(6, .ref q9), (0, .ref (ad 0)), (1, .int (nI b)), (2, .int y), (3, .int ct), (4, .int dd), (5, .ref o)]) hx hb dL_bill_17 hl (by decide) rfl (fun ls hl => ?_)
  refine lv_iconst (v := 1) hx hb dL_bill_19 (by decide) ?_
  exact kr_i hx hb hr hlocks hP hD hS (Nat.le_of_ble_eq_true rfl) (Nat.le_of_ble_eq_true rfl) (⟨rfl, w, rfl, ⟨_, _, _, hp⟩⟩) dL_bill_20
set_option maxHeartbeats 4000000 in
set_option maxRecDepth 100000 in
theorem h_bill_tc {l : Launch} {K : Ks} {A : Nat → Prop} {ad bad : Nat → Nat} {td : Int32} {n : Nat} {M : Nat → Nat → Int32} {w : va_W} (hE : DkE K ad bad td n M w) {o : Nat} {g : Nat → Int64} (hlt : l.stackTraces = false) {b u : Nat} (hx4 : b < 4) (hx8 : u < 8) {ct dd : Int32} (hc : ¬ inR 1 1000000 ct) : Met l yL_bill wsL_bill (kR 8 1 6) (kPr K A [.ref (ad 0), .int (nI b), .int (nI u), .int ct, .int dd, .ref o] (w ++ [(o, oJ K g)])) (kQi K A (fun r w1 => r = 2 ∧ ∃ w2 : va_W, w1 = w2 ++ [(o, oJ K g)] ∧ DkE K ad bad td n M w2)) 1 6 A := by
  obtain ⟨rm, k, idx, hDk⟩ := hE
  refine kentH (cc := cL_bill) (maxL := 7) (ret := some .int) (hh := [(0, 14, 17, 13), (0, 14, 21, 15), (0, 14, 25, 25)]) (by decide) rfl (Nat.le_of_ble_eq_true rfl) ?_
  intro p e s m args below meth c ls hx hb hr hts hown hlocks hml hxt hG hP hD hS hl
  have hl : lv_has ls 7 [(0, .ref (ad 0)), (1, .int (nI b)), (2, .int (nI u)), (3, .int ct), (4, .int dd), (5, .ref o)] := hl
  refine lv_aload hx hb dL_bill_0 (lv_at hl 5 rfl) ?_
  refine lv_iconst (v := 0) hx hb dL_bill_2 (by decide) ?_
  refine lv_aload_n hx hb dL_bill_3 rfl (lv_at hl 0 rfl) ?_
  refine lv_iload_n hx hb dL_bill_4 rfl (lv_at hl 1 rfl) ?_
  refine lv_iload_n hx hb dL_bill_5 rfl (lv_at hl 2 rfl) ?_
  refine lv_iload_n hx hb dL_bill_6 rfl (lv_at hl 3 rfl) ?_
  refine lv_iload hx hb dL_bill_7 (lv_at hl 4 rfl) ?_
  refine kf_t (W2 := [(o, oJ K g)])  (vx_runV (As := [.int (nI b), .int (nI u), .int ct, .int dd]) (rest := [.int 0, .ref o]) ⟨hx, hb, hml, hown, hts⟩ (c_X1_bill_tc hDk hlt hx4 hx8 hc) (cwV 4 hts gL_bill_X1_bill rfl rfl rfl (by decide +kernel) ⟨(Nat.le_of_ble_eq_true rfl), (Nat.le_of_ble_eq_true rfl)⟩) (lpv (q0 := 0) hG hP hD hS hDk.x rfl) rfl rfl hl.1 rfl (lv_room (Nat.le_of_ble_eq_true rfl)) dL_bill_9 ⟨(Nat.le_of_ble_eq_true rfl), (Nat.le_of_ble_eq_true rfl)⟩) hS hP hD (fun ce q9 w H locs hp hP hD hS hce hcv hcl => ?_)
  refine vx_catch (own := RL) (name := IAE) (E := IAE) hown [⟨0, 14, 17, 13⟩] ⟨0, 14, 21, 15⟩ [⟨0, 14, 25, 25⟩] (hxt.trans rfl) (fun z hz => by rw [List.mem_singleton.mp hz]; exact Or.inr ⟨by decide, IOB, hts (.classLink RL 13 IOB) (by decide +kernel), hG.2.2.2.2.2.2.2.1.2.2.2.2.1⟩) rfl (by decide) (hts (.classLink RL 15 IAE) (by decide +kernel)) (va_Nw.use rfl hG.2.2.2.2.2.2.1) hce hcv hcl ?_
  refine lv_astore (lv' := [(6, .ref q9), (0, .ref (ad 0)), (1, .int (nI b)), (2, .int (nI u)), (3, .int ct), (4, .int dd), (5, .ref o)]) hx hb dL_bill_21 hl (by decide) rfl (fun ls hl => ?_)
  refine lv_iconst (v := 2) hx hb dL_bill_23 (by decide) ?_
  exact kr_i hx hb hr hlocks hP hD hS (Nat.le_of_ble_eq_true rfl) (Nat.le_of_ble_eq_true rfl) (⟨rfl, w, rfl, ⟨_, _, _, hp⟩⟩) dL_bill_24
set_option maxHeartbeats 4000000 in
set_option maxRecDepth 100000 in
theorem h_bill_td {l : Launch} {K : Ks} {A : Nat → Prop} {ad bad : Nat → Nat} {td : Int32} {n : Nat} {M : Nat → Nat → Int32} {w : va_W} (hE : DkE K ad bad td n M w) {o : Nat} {g : Nat → Int64} (hlt : l.stackTraces = false) {b u : Nat} (hx4 : b < 4) (hx8 : u < 8) {ct dd : Int32} (hc : inR 1 1000000 ct) (hd : ¬ inR 1 360 dd) : Met l yL_bill wsL_bill (kR 8 1 6) (kPr K A [.ref (ad 0), .int (nI b), .int (nI u), .int ct, .int dd, .ref o] (w ++ [(o, oJ K g)])) (kQi K A (fun r w1 => r = 2 ∧ ∃ w2 : va_W, w1 = w2 ++ [(o, oJ K g)] ∧ DkE K ad bad td n M w2)) 1 6 A := by
  obtain ⟨rm, k, idx, hDk⟩ := hE
  refine kentH (cc := cL_bill) (maxL := 7) (ret := some .int) (hh := [(0, 14, 17, 13), (0, 14, 21, 15), (0, 14, 25, 25)]) (by decide) rfl (Nat.le_of_ble_eq_true rfl) ?_
  intro p e s m args below meth c ls hx hb hr hts hown hlocks hml hxt hG hP hD hS hl
  have hl : lv_has ls 7 [(0, .ref (ad 0)), (1, .int (nI b)), (2, .int (nI u)), (3, .int ct), (4, .int dd), (5, .ref o)] := hl
  refine lv_aload hx hb dL_bill_0 (lv_at hl 5 rfl) ?_
  refine lv_iconst (v := 0) hx hb dL_bill_2 (by decide) ?_
  refine lv_aload_n hx hb dL_bill_3 rfl (lv_at hl 0 rfl) ?_
  refine lv_iload_n hx hb dL_bill_4 rfl (lv_at hl 1 rfl) ?_
  refine lv_iload_n hx hb dL_bill_5 rfl (lv_at hl 2 rfl) ?_
  refine lv_iload_n hx hb dL_bill_6 rfl (lv_at hl 3 rfl) ?_
  refine lv_iload hx hb dL_bill_7 (lv_at hl 4 rfl) ?_
  refine kf_t (W2 := [(o, oJ K g)])  (vx_runV (As := [.int (nI b), .int (nI u), .int ct, .int dd]) (rest := [.int 0, .ref o]) ⟨hx, hb, hml, hown, hts⟩ (c_X1_bill_td hDk hlt hx4 hx8 hc hd) (cwV 4 hts gL_bill_X1_bill rfl rfl rfl (by decide +kernel) ⟨(Nat.le_of_ble_eq_true rfl), (Nat.le_of_ble_eq_true rfl)⟩) (lpv (q0 := 0) hG hP hD hS hDk.x rfl) rfl rfl hl.1 rfl (lv_room (Nat.le_of_ble_eq_true rfl)) dL_bill_9 ⟨(Nat.le_of_ble_eq_true rfl), (Nat.le_of_ble_eq_true rfl)⟩) hS hP hD (fun ce q9 w H locs hp hP hD hS hce hcv hcl => ?_)
  refine vx_catch (own := RL) (name := IAE) (E := IAE) hown [⟨0, 14, 17, 13⟩] ⟨0, 14, 21, 15⟩ [⟨0, 14, 25, 25⟩] (hxt.trans rfl) (fun z hz => by rw [List.mem_singleton.mp hz]; exact Or.inr ⟨by decide, IOB, hts (.classLink RL 13 IOB) (by decide +kernel), hG.2.2.2.2.2.2.2.1.2.2.2.2.1⟩) rfl (by decide) (hts (.classLink RL 15 IAE) (by decide +kernel)) (va_Nw.use rfl hG.2.2.2.2.2.2.1) hce hcv hcl ?_
  refine lv_astore (lv' := [(6, .ref q9), (0, .ref (ad 0)), (1, .int (nI b)), (2, .int (nI u)), (3, .int ct), (4, .int dd), (5, .ref o)]) hx hb dL_bill_21 hl (by decide) rfl (fun ls hl => ?_)
  refine lv_iconst (v := 2) hx hb dL_bill_23 (by decide) ?_
  exact kr_i hx hb hr hlocks hP hD hS (Nat.le_of_ble_eq_true rfl) (Nat.le_of_ble_eq_true rfl) (⟨rfl, w, rfl, ⟨_, _, _, hp⟩⟩) dL_bill_24
set_option maxHeartbeats 4000000 in
set_option maxRecDepth 100000 in
theorem h_bill_tp {l : Launch} {K : Ks} {A : Nat → Prop} {ad bad : Nat → Nat} {td : Int32} {n : Nat} {M : Nat → Nat → Int32} {w : va_W} (hE : DkE K ad bad td n M w) {o : Nat} {g : Nat → Int64} (hlt : l.stackTraces = false) {b u : Nat} (hx4 : b < 4) (hx8 : u < 8) {ct dd : Int32} (hc : inR 1 1000000 ct) (hd : inR 1 360 dd) (h30 : n = 30) : Met l yL_bill wsL_bill (kR 8 1 6) (kPr K A [.ref (ad 0), .int (nI b), .int (nI u), .int ct, .int dd, .ref o] (w ++ [(o, oJ K g)])) (kQi K A (fun r w1 => r = 3 ∧ ∃ w2 : va_W, w1 = w2 ++ [(o, oJ K g)] ∧ DkE K ad bad td n M w2)) 1 6 A := by
  obtain ⟨rm, k, idx, hDk⟩ := hE
  refine kentH (cc := cL_bill) (maxL := 7) (ret := some .int) (hh := [(0, 14, 17, 13), (0, 14, 21, 15), (0, 14, 25, 25)]) (by decide) rfl (Nat.le_of_ble_eq_true rfl) ?_
  intro p e s m args below meth c ls hx hb hr hts hown hlocks hml hxt hG hP hD hS hl
  have hl : lv_has ls 7 [(0, .ref (ad 0)), (1, .int (nI b)), (2, .int (nI u)), (3, .int ct), (4, .int dd), (5, .ref o)] := hl
  refine lv_aload hx hb dL_bill_0 (lv_at hl 5 rfl) ?_
  refine lv_iconst (v := 0) hx hb dL_bill_2 (by decide) ?_
  refine lv_aload_n hx hb dL_bill_3 rfl (lv_at hl 0 rfl) ?_
  refine lv_iload_n hx hb dL_bill_4 rfl (lv_at hl 1 rfl) ?_
  refine lv_iload_n hx hb dL_bill_5 rfl (lv_at hl 2 rfl) ?_
  refine lv_iload_n hx hb dL_bill_6 rfl (lv_at hl 3 rfl) ?_
  refine lv_iload hx hb dL_bill_7 (lv_at hl 4 rfl) ?_
  refine kf_t (W2 := [(o, oJ K g)])  (vx_runV (As := [.int (nI b), .int (nI u), .int ct, .int dd]) (rest := [.int 0, .ref o]) ⟨hx, hb, hml, hown, hts⟩ (c_X1_bill_tp hDk hlt hx4 hx8 hc hd h30) (cwV 4 hts gL_bill_X1_bill rfl rfl rfl (by decide +kernel) ⟨(Nat.le_of_ble_eq_true rfl), (Nat.le_of_ble_eq_true rfl)⟩) (lpv (q0 := 0) hG hP hD hS hDk.x rfl) rfl rfl hl.1 rfl (lv_room (Nat.le_of_ble_eq_true rfl)) dL_bill_9 ⟨(Nat.le_of_ble_eq_true rfl), (Nat.le_of_ble_eq_true rfl)⟩) hS hP hD (fun ce q9 w H locs hp hP hD hS hce hcv hcl => ?_)
  have hpass : ∀ z ∈ ([⟨0, 14, 17, 13⟩, ⟨0, 14, 21, 15⟩] : List ExceptionTableEntry), covers z 9 = false ∨ (z.catchType ≠ 0 ∧ ∃ nm : String, (Cond.classLink RL z.catchType nm).before args s = true ∧ va_Nc ISE nm s) := by
    intro z hz
    rcases List.mem_cons.mp hz with h9 | h9
    · rw [h9]; exact Or.inr ⟨by decide, IOB, hts (.classLink RL 13 IOB) (by decide +kernel), hG.2.2.2.2.2.2.2.1.2.2.2.2.2.1⟩
    · rw [List.mem_singleton.mp h9]; exact Or.inr ⟨by decide, IAE, hts (.classLink RL 15 IAE) (by decide +kernel), hG.2.2.2.2.2.2.2.1.2.2.2.2.2.2⟩
  refine vx_catch (own := RL) (name := ISE) (E := ISE) hown [⟨0, 14, 17, 13⟩, ⟨0, 14, 21, 15⟩] ⟨0, 14, 25, 25⟩ [] (hxt.trans rfl) hpass rfl (by decide) (hts (.classLink RL 25 ISE) (by decide +kernel)) (va_Nw.use rfl hG.2.2.2.2.2.2.2.1.1) hce hcv hcl ?_
  refine lv_astore (lv' := [(6, .ref q9), (0, .ref (ad 0)), (1, .int (nI b)), (2, .int (nI u)), (3, .int ct), (4, .int dd), (5, .ref o)]) hx hb dL_bill_25 hl (by decide) rfl (fun ls hl => ?_)
  refine lv_iconst (v := 3) hx hb dL_bill_27 (by decide) ?_
  exact kr_i hx hb hr hlocks hP hD hS (Nat.le_of_ble_eq_true rfl) (Nat.le_of_ble_eq_true rfl) (⟨rfl, w, rfl, ⟨_, _, _, hp⟩⟩) dL_bill_28
set_option maxHeartbeats 4000000 in
set_option maxRecDepth 100000 in
theorem h_bill {l : Launch} {K : Ks} {A : Nat → Prop} {ad bad : Nat → Nat} {td : Int32} {n : Nat} {M : Nat → Nat → Int32} {w : va_W} (hE : DkE K ad bad td n M w) {o : Nat} {g : Nat → Int64} {b u : Nat} (hx4 : b < 4) (hx8 : u < 8) {ct dd : Int32} (hc : inR 1 1000000 ct) (hd : inR 1 360 dd) (h30 : n < 30) (hz6 : M 6 n = 0) (hz8 : M 8 n = 0) (hz9 : M 9 n = 0) (hz10 : M 10 n = 0) : Met l yL_bill wsL_bill (kR 8 2 70) (kPr K A [.ref (ad 0), .int (nI b), .int (nI u), .int ct, .int dd, .ref o] (w ++ [(o, oJ K g)])) (kQi K A (fun r w1 => r = 0 ∧ ∃ (w2 : va_W) (g1 : Nat → Int64), w1 = w2 ++ [(o, oJ K g1)] ∧ g1 0 = (nI n).toInt64 ∧ ∃ bad1 : Nat → Nat, DkE K ad bad1 td (n + 1) (billM td n M b u ct dd) w2)) 2 70 A := by
  obtain ⟨rm, k, idx, hDk⟩ := hE
  refine kentH (cc := cL_bill) (maxL := 7) (ret := some .int) (hh := [(0, 14, 17, 13), (0, 14, 21, 15), (0, 14, 25, 25)]) (by decide) rfl (Nat.le_of_ble_eq_true rfl) ?_
  intro p e s m args below meth c ls hx hb hr hts hown hlocks hml hxt hG hP hD hS hl
  have hl : lv_has ls 7 [(0, .ref (ad 0)), (1, .int (nI b)), (2, .int (nI u)), (3, .int ct), (4, .int dd), (5, .ref o)] := hl
  refine lv_aload hx hb dL_bill_0 (lv_at hl 5 rfl) ?_
  refine lv_iconst (v := 0) hx hb dL_bill_2 (by decide) ?_
  refine lv_aload_n hx hb dL_bill_3 rfl (lv_at hl 0 rfl) ?_
  refine lv_iload_n hx hb dL_bill_4 rfl (lv_at hl 1 rfl) ?_
  refine lv_iload_n hx hb dL_bill_5 rfl (lv_at hl 2 rfl) ?_
  refine lv_iload_n hx hb dL_bill_6 rfl (lv_at hl 3 rfl) ?_
  refine lv_iload hx hb dL_bill_7 (lv_at hl 4 rfl) ?_
  refine kf_i (W2 := [(o, oJ K g)])  (va_runV (As := [.int (nI b), .int (nI u), .int ct, .int dd]) (rest := [.int 0, .ref o]) ⟨hx, hb, hml, hown, hts⟩ (c_X1_bill hDk hx4 hx8 hc hd h30 hz6 hz8 hz9 hz10) (cwV 4 hts gL_bill_X1_bill rfl rfl rfl (by decide +kernel) ⟨(Nat.le_of_ble_eq_true rfl), (Nat.le_of_ble_eq_true rfl)⟩) (lpv (q0 := 0) hG hP hD hS hDk.x rfl) rfl rfl hl.1 rfl (lv_room (Nat.le_of_ble_eq_true rfl)) dL_bill_9 ⟨(Nat.le_of_ble_eq_true rfl), (Nat.le_of_ble_eq_true rfl)⟩) hS hP hD (fun r w H locs hp hP hD hS => ?_)
  obtain ⟨hp1, bad1, hDk⟩ := hp
  rw [hp1]
  refine lv_i2l (v := ((nI n) : Int32).toInt64) hx hb dL_bill_12 rfl ?_
  refine kjast hx hb hG hP hD hS dL_bill_13 (fun g1 H locs hg hP hD hS => ?_)
  refine lv_goto (tgt := 29) hx hb dL_bill_14 (by decide) ?_
  refine lv_iconst (v := 0) hx hb dL_bill_29 (by decide) ?_
  exact kr_i hx hb hr hlocks hP hD hS (Nat.le_of_ble_eq_true rfl) (Nat.le_of_ble_eq_true rfl) (⟨rfl, w, g1, rfl, hg, bad1, _, _, _, hDk⟩) dL_bill_30
set_option maxHeartbeats 4000000 in
set_option maxRecDepth 100000 in
theorem h_state_tb {l : Launch} {K : Ks} {A : Nat → Prop} {ad bad : Nat → Nat} {td : Int32} {n : Nat} {M : Nat → Nat → Int32} {w : va_W} (hE : DkE K ad bad td n M w) {o : Nat} {g : Nat → Int64} (hlt : l.stackTraces = false) {x : Int32} (hix : ixBad n x) : Met l yL_state wsL_state (kR 5 1 6) (kPr K A [.ref (ad 0), .int x, .ref o] (w ++ [(o, oJ K g)])) (kQi K A (fun r w1 => r = 1 ∧ ∃ w2 : va_W, w1 = w2 ++ [(o, oJ K g)] ∧ DkE K ad bad td n M w2)) 1 6 A := by
  obtain ⟨rm, k, idx, hDk⟩ := hE
  refine kentH (cc := cL_state) (maxL := 4) (ret := some .int) (hh := [(0, 9, 12, 13)]) (by decide) rfl (Nat.le_of_ble_eq_true rfl) ?_
  intro p e s m args below meth c ls hx hb hr hts hown hlocks hml hxt hG hP hD hS hl
  have hl : lv_has ls 4 [(0, .ref (ad 0)), (1, .int x), (2, .ref o)] := hl
  refine lv_aload_n hx hb dL_state_0 rfl (lv_at hl 2 rfl) ?_
  refine lv_iconst (v := 0) hx hb dL_state_1 (by decide) ?_
  refine lv_aload_n hx hb dL_state_2 rfl (lv_at hl 0 rfl) ?_
  refine lv_iload_n hx hb dL_state_3 rfl (lv_at hl 1 rfl) ?_
  refine kf_t (W2 := [(o, oJ K g)])  (vx_runV (As := [.int x]) (rest := [.int 0, .ref o]) ⟨hx, hb, hml, hown, hts⟩ (c_X1_state_t hDk hlt hix) (cwV 1 hts gL_state_X1_state rfl rfl rfl (by decide +kernel) ⟨(Nat.le_of_ble_eq_true rfl), (Nat.le_of_ble_eq_true rfl)⟩) (lpv (q0 := 0) hG hP hD hS hDk.x rfl) rfl rfl hl.1 rfl (lv_room (Nat.le_of_ble_eq_true rfl)) dL_state_4 ⟨(Nat.le_of_ble_eq_true rfl), (Nat.le_of_ble_eq_true rfl)⟩) hS hP hD (fun ce q9 w H locs hp hP hD hS hce hcv hcl => ?_)
  refine vx_catch (own := RL) (name := IOB) (E := IOB) hown [] ⟨0, 9, 12, 13⟩ [] (hxt.trans rfl) (fun z hz => absurd hz (by simp)) rfl (by decide) (hts (.classLink RL 13 IOB) (by decide +kernel)) (va_Nw.use rfl hG.2.2.2.2.2.1) hce hcv hcl ?_
  refine lv_astore_n (lv' := [(3, .ref q9), (0, .ref (ad 0)), (1, .int x), (2, .ref o)]) hx hb dL_state_12 rfl hl (by decide) rfl (fun ls hl => ?_)
  refine lv_iconst (v := 1) hx hb dL_state_13 (by decide) ?_
  exact kr_i hx hb hr hlocks hP hD hS (Nat.le_of_ble_eq_true rfl) (Nat.le_of_ble_eq_true rfl) (⟨rfl, w, rfl, ⟨_, _, _, hp⟩⟩) dL_state_14
set_option maxHeartbeats 4000000 in
set_option maxRecDepth 100000 in
theorem h_state {l : Launch} {K : Ks} {A : Nat → Prop} {ad bad : Nat → Nat} {td : Int32} {n : Nat} {M : Nat → Nat → Int32} {w : va_W} (hE : DkE K ad bad td n M w) {o : Nat} {g : Nat → Int64} {i : Nat} (hi : i < n) : Met l yL_state wsL_state (kR 5 0 0) (kPr K A [.ref (ad 0), .int (nI i), .ref o] (w ++ [(o, oJ K g)])) (kQi K A (fun r w1 => r = 0 ∧ ∃ (w2 : va_W) (g1 : Nat → Int64), w1 = w2 ++ [(o, oJ K g1)] ∧ g1 0 = ((M 6 i)).toInt64 ∧ DkE K ad bad td n M w2)) 0 0 A := by
  obtain ⟨rm, k, idx, hDk⟩ := hE
  refine kentH (cc := cL_state) (maxL := 4) (ret := some .int) (hh := [(0, 9, 12, 13)]) (by decide) rfl (Nat.le_of_ble_eq_true rfl) ?_
  intro p e s m args below meth c ls hx hb hr hts hown hlocks hml hxt hG hP hD hS hl
  have hl : lv_has ls 4 [(0, .ref (ad 0)), (1, .int (nI i)), (2, .ref o)] := hl
  refine lv_aload_n hx hb dL_state_0 rfl (lv_at hl 2 rfl) ?_
  refine lv_iconst (v := 0) hx hb dL_state_1 (by decide) ?_
  refine lv_aload_n hx hb dL_state_2 rfl (lv_at hl 0 rfl) ?_
  refine lv_iload_n hx hb dL_state_3 rfl (lv_at hl 1 rfl) ?_
  refine kf_i (W2 := [(o, oJ K g)])  (va_runV (As := [.int (nI i)]) (rest := [.int 0, .ref o]) ⟨hx, hb, hml, hown, hts⟩ (c_X1_state hDk hi) (cwV 1 hts gL_state_X1_state rfl rfl rfl (by decide +kernel) ⟨(Nat.le_of_ble_eq_true rfl), (Nat.le_of_ble_eq_true rfl)⟩) (lpv (q0 := 0) hG hP hD hS hDk.x rfl) rfl rfl hl.1 rfl (lv_room (Nat.le_of_ble_eq_true rfl)) dL_state_4 ⟨(Nat.le_of_ble_eq_true rfl), (Nat.le_of_ble_eq_true rfl)⟩) hS hP hD (fun r w H locs hp hP hD hS => ?_)
  obtain ⟨hp1, hDk⟩ := hp
  rw [hp1]
  refine lv_i2l (v := ((M 6 i) : Int32).toInt64) hx hb dL_state_7 rfl ?_
  refine kjast hx hb hG hP hD hS dL_state_8 (fun g1 H locs hg hP hD hS => ?_)
  refine lv_goto (tgt := 15) hx hb dL_state_9 (by decide) ?_
  refine lv_iconst (v := 0) hx hb dL_state_15 (by decide) ?_
  exact kr_i hx hb hr hlocks hP hD hS (Nat.le_of_ble_eq_true rfl) (Nat.le_of_ble_eq_true rfl) (⟨rfl, w, g1, rfl, hg, _, _, _, hDk⟩) dL_state_16
set_option maxHeartbeats 4000000 in
set_option maxRecDepth 100000 in
theorem h_amount_tb {l : Launch} {K : Ks} {A : Nat → Prop} {ad bad : Nat → Nat} {td : Int32} {n : Nat} {M : Nat → Nat → Int32} {w : va_W} (hE : DkE K ad bad td n M w) {o : Nat} {g : Nat → Int64} (hlt : l.stackTraces = false) {x : Int32} (hix : ixBad n x) : Met l yL_amount wsL_amount (kR 5 1 6) (kPr K A [.ref (ad 0), .int x, .ref o] (w ++ [(o, oJ K g)])) (kQi K A (fun r w1 => r = 1 ∧ ∃ w2 : va_W, w1 = w2 ++ [(o, oJ K g)] ∧ DkE K ad bad td n M w2)) 1 6 A := by
  obtain ⟨rm, k, idx, hDk⟩ := hE
  refine kentH (cc := cL_amount) (maxL := 4) (ret := some .int) (hh := [(0, 9, 12, 13)]) (by decide) rfl (Nat.le_of_ble_eq_true rfl) ?_
  intro p e s m args below meth c ls hx hb hr hts hown hlocks hml hxt hG hP hD hS hl
  have hl : lv_has ls 4 [(0, .ref (ad 0)), (1, .int x), (2, .ref o)] := hl
  refine lv_aload_n hx hb dL_amount_0 rfl (lv_at hl 2 rfl) ?_
  refine lv_iconst (v := 0) hx hb dL_amount_1 (by decide) ?_
  refine lv_aload_n hx hb dL_amount_2 rfl (lv_at hl 0 rfl) ?_
  refine lv_iload_n hx hb dL_amount_3 rfl (lv_at hl 1 rfl) ?_
  refine kf_t (W2 := [(o, oJ K g)])  (vx_runV (As := [.int x]) (rest := [.int 0, .ref o]) ⟨hx, hb, hml, hown, hts⟩ (c_X1_amount_t hDk hlt hix) (cwV 1 hts gL_amount_X1_amount rfl rfl rfl (by decide +kernel) ⟨(Nat.le_of_ble_eq_true rfl), (Nat.le_of_ble_eq_true rfl)⟩) (lpv (q0 := 0) hG hP hD hS hDk.x rfl) rfl rfl hl.1 rfl (lv_room (Nat.le_of_ble_eq_true rfl)) dL_amount_4 ⟨(Nat.le_of_ble_eq_true rfl), (Nat.le_of_ble_eq_true rfl)⟩) hS hP hD (fun ce q9 w H locs hp hP hD hS hce hcv hcl => ?_)
  refine vx_catch (own := RL) (name := IOB) (E := IOB) hown [] ⟨0, 9, 12, 13⟩ [] (hxt.trans rfl) (fun z hz => absurd hz (by simp)) rfl (by decide) (hts (.classLink RL 13 IOB) (by decide +kernel)) (va_Nw.use rfl hG.2.2.2.2.2.1) hce hcv hcl ?_
  refine lv_astore_n (lv' := [(3, .ref q9), (0, .ref (ad 0)), (1, .int x), (2, .ref o)]) hx hb dL_amount_12 rfl hl (by decide) rfl (fun ls hl => ?_)
  refine lv_iconst (v := 1) hx hb dL_amount_13 (by decide) ?_
  exact kr_i hx hb hr hlocks hP hD hS (Nat.le_of_ble_eq_true rfl) (Nat.le_of_ble_eq_true rfl) (⟨rfl, w, rfl, ⟨_, _, _, hp⟩⟩) dL_amount_14
set_option maxHeartbeats 4000000 in
set_option maxRecDepth 100000 in
theorem h_amount {l : Launch} {K : Ks} {A : Nat → Prop} {ad bad : Nat → Nat} {td : Int32} {n : Nat} {M : Nat → Nat → Int32} {w : va_W} (hE : DkE K ad bad td n M w) {o : Nat} {g : Nat → Int64} {i : Nat} (hi : i < n) : Met l yL_amount wsL_amount (kR 5 0 0) (kPr K A [.ref (ad 0), .int (nI i), .ref o] (w ++ [(o, oJ K g)])) (kQi K A (fun r w1 => r = 0 ∧ ∃ (w2 : va_W) (g1 : Nat → Int64), w1 = w2 ++ [(o, oJ K g1)] ∧ g1 0 = ((M 4 i)).toInt64 ∧ DkE K ad bad td n M w2)) 0 0 A := by
  obtain ⟨rm, k, idx, hDk⟩ := hE
  refine kentH (cc := cL_amount) (maxL := 4) (ret := some .int) (hh := [(0, 9, 12, 13)]) (by decide) rfl (Nat.le_of_ble_eq_true rfl) ?_
  intro p e s m args below meth c ls hx hb hr hts hown hlocks hml hxt hG hP hD hS hl
  have hl : lv_has ls 4 [(0, .ref (ad 0)), (1, .int (nI i)), (2, .ref o)] := hl
  refine lv_aload_n hx hb dL_amount_0 rfl (lv_at hl 2 rfl) ?_
  refine lv_iconst (v := 0) hx hb dL_amount_1 (by decide) ?_
  refine lv_aload_n hx hb dL_amount_2 rfl (lv_at hl 0 rfl) ?_
  refine lv_iload_n hx hb dL_amount_3 rfl (lv_at hl 1 rfl) ?_
  refine kf_i (W2 := [(o, oJ K g)])  (va_runV (As := [.int (nI i)]) (rest := [.int 0, .ref o]) ⟨hx, hb, hml, hown, hts⟩ (c_X1_amount hDk hi) (cwV 1 hts gL_amount_X1_amount rfl rfl rfl (by decide +kernel) ⟨(Nat.le_of_ble_eq_true rfl), (Nat.le_of_ble_eq_true rfl)⟩) (lpv (q0 := 0) hG hP hD hS hDk.x rfl) rfl rfl hl.1 rfl (lv_room (Nat.le_of_ble_eq_true rfl)) dL_amount_4 ⟨(Nat.le_of_ble_eq_true rfl), (Nat.le_of_ble_eq_true rfl)⟩) hS hP hD (fun r w H locs hp hP hD hS => ?_)
  obtain ⟨hp1, hDk⟩ := hp
  rw [hp1]
  refine lv_i2l (v := ((M 4 i) : Int32).toInt64) hx hb dL_amount_7 rfl ?_
  refine kjast hx hb hG hP hD hS dL_amount_8 (fun g1 H locs hg hP hD hS => ?_)
  refine lv_goto (tgt := 15) hx hb dL_amount_9 (by decide) ?_
  refine lv_iconst (v := 0) hx hb dL_amount_15 (by decide) ?_
  exact kr_i hx hb hr hlocks hP hD hS (Nat.le_of_ble_eq_true rfl) (Nat.le_of_ble_eq_true rfl) (⟨rfl, w, g1, rfl, hg, _, _, _, hDk⟩) dL_amount_16
set_option maxHeartbeats 4000000 in
set_option maxRecDepth 100000 in
theorem h_paid_tb {l : Launch} {K : Ks} {A : Nat → Prop} {ad bad : Nat → Nat} {td : Int32} {n : Nat} {M : Nat → Nat → Int32} {w : va_W} (hE : DkE K ad bad td n M w) {o : Nat} {g : Nat → Int64} (hlt : l.stackTraces = false) {x : Int32} (hix : ixBad n x) : Met l yL_paid wsL_paid (kR 5 1 6) (kPr K A [.ref (ad 0), .int x, .ref o] (w ++ [(o, oJ K g)])) (kQi K A (fun r w1 => r = 1 ∧ ∃ w2 : va_W, w1 = w2 ++ [(o, oJ K g)] ∧ DkE K ad bad td n M w2)) 1 6 A := by
  obtain ⟨rm, k, idx, hDk⟩ := hE
  refine kentH (cc := cL_paid) (maxL := 4) (ret := some .int) (hh := [(0, 9, 12, 13)]) (by decide) rfl (Nat.le_of_ble_eq_true rfl) ?_
  intro p e s m args below meth c ls hx hb hr hts hown hlocks hml hxt hG hP hD hS hl
  have hl : lv_has ls 4 [(0, .ref (ad 0)), (1, .int x), (2, .ref o)] := hl
  refine lv_aload_n hx hb dL_paid_0 rfl (lv_at hl 2 rfl) ?_
  refine lv_iconst (v := 0) hx hb dL_paid_1 (by decide) ?_
  refine lv_aload_n hx hb dL_paid_2 rfl (lv_at hl 0 rfl) ?_
  refine lv_iload_n hx hb dL_paid_3 rfl (lv_at hl 1 rfl) ?_
  refine kf_t (W2 := [(o, oJ K g)])  (vx_runV (As := [.int x]) (rest := [.int 0, .ref o]) ⟨hx, hb, hml, hown, hts⟩ (c_X1_paid_t hDk hlt hix) (cwV 1 hts gL_paid_X1_paid rfl rfl rfl (by decide +kernel) ⟨(Nat.le_of_ble_eq_true rfl), (Nat.le_of_ble_eq_true rfl)⟩) (lpv (q0 := 0) hG hP hD hS hDk.x rfl) rfl rfl hl.1 rfl (lv_room (Nat.le_of_ble_eq_true rfl)) dL_paid_4 ⟨(Nat.le_of_ble_eq_true rfl), (Nat.le_of_ble_eq_true rfl)⟩) hS hP hD (fun ce q9 w H locs hp hP hD hS hce hcv hcl => ?_)
  refine vx_catch (own := RL) (name := IOB) (E := IOB) hown [] ⟨0, 9, 12, 13⟩ [] (hxt.trans rfl) (fun z hz => absurd hz (by simp)) rfl (by decide) (hts (.classLink RL 13 IOB) (by decide +kernel)) (va_Nw.use rfl hG.2.2.2.2.2.1) hce hcv hcl ?_
  refine lv_astore_n (lv' := [(3, .ref q9), (0, .ref (ad 0)), (1, .int x), (2, .ref o)]) hx hb dL_paid_12 rfl hl (by decide) rfl (fun ls hl => ?_)
  refine lv_iconst (v := 1) hx hb dL_paid_13 (by decide) ?_
  exact kr_i hx hb hr hlocks hP hD hS (Nat.le_of_ble_eq_true rfl) (Nat.le_of_ble_eq_true rfl) (⟨rfl, w, rfl, ⟨_, _, _, hp⟩⟩) dL_paid_14
set_option maxHeartbeats 4000000 in
set_option maxRecDepth 100000 in
theorem h_paid {l : Launch} {K : Ks} {A : Nat → Prop} {ad bad : Nat → Nat} {td : Int32} {n : Nat} {M : Nat → Nat → Int32} {w : va_W} (hE : DkE K ad bad td n M w) {o : Nat} {g : Nat → Int64} {i : Nat} (hi : i < n) : Met l yL_paid wsL_paid (kR 5 0 0) (kPr K A [.ref (ad 0), .int (nI i), .ref o] (w ++ [(o, oJ K g)])) (kQi K A (fun r w1 => r = 0 ∧ ∃ (w2 : va_W) (g1 : Nat → Int64), w1 = w2 ++ [(o, oJ K g1)] ∧ g1 0 = ((M 8 i)).toInt64 ∧ DkE K ad bad td n M w2)) 0 0 A := by
  obtain ⟨rm, k, idx, hDk⟩ := hE
  refine kentH (cc := cL_paid) (maxL := 4) (ret := some .int) (hh := [(0, 9, 12, 13)]) (by decide) rfl (Nat.le_of_ble_eq_true rfl) ?_
  intro p e s m args below meth c ls hx hb hr hts hown hlocks hml hxt hG hP hD hS hl
  have hl : lv_has ls 4 [(0, .ref (ad 0)), (1, .int (nI i)), (2, .ref o)] := hl
  refine lv_aload_n hx hb dL_paid_0 rfl (lv_at hl 2 rfl) ?_
  refine lv_iconst (v := 0) hx hb dL_paid_1 (by decide) ?_
  refine lv_aload_n hx hb dL_paid_2 rfl (lv_at hl 0 rfl) ?_
  refine lv_iload_n hx hb dL_paid_3 rfl (lv_at hl 1 rfl) ?_
  refine kf_i (W2 := [(o, oJ K g)])  (va_runV (As := [.int (nI i)]) (rest := [.int 0, .ref o]) ⟨hx, hb, hml, hown, hts⟩ (c_X1_paid hDk hi) (cwV 1 hts gL_paid_X1_paid rfl rfl rfl (by decide +kernel) ⟨(Nat.le_of_ble_eq_true rfl), (Nat.le_of_ble_eq_true rfl)⟩) (lpv (q0 := 0) hG hP hD hS hDk.x rfl) rfl rfl hl.1 rfl (lv_room (Nat.le_of_ble_eq_true rfl)) dL_paid_4 ⟨(Nat.le_of_ble_eq_true rfl), (Nat.le_of_ble_eq_true rfl)⟩) hS hP hD (fun r w H locs hp hP hD hS => ?_)
  obtain ⟨hp1, hDk⟩ := hp
  rw [hp1]
  refine lv_i2l (v := ((M 8 i) : Int32).toInt64) hx hb dL_paid_7 rfl ?_
  refine kjast hx hb hG hP hD hS dL_paid_8 (fun g1 H locs hg hP hD hS => ?_)
  refine lv_goto (tgt := 15) hx hb dL_paid_9 (by decide) ?_
  refine lv_iconst (v := 0) hx hb dL_paid_15 (by decide) ?_
  exact kr_i hx hb hr hlocks hP hD hS (Nat.le_of_ble_eq_true rfl) (Nat.le_of_ble_eq_true rfl) (⟨rfl, w, g1, rfl, hg, _, _, _, hDk⟩) dL_paid_16
set_option maxHeartbeats 4000000 in
set_option maxRecDepth 100000 in
theorem h_heldBack_tb {l : Launch} {K : Ks} {A : Nat → Prop} {ad bad : Nat → Nat} {td : Int32} {n : Nat} {M : Nat → Nat → Int32} {w : va_W} (hE : DkE K ad bad td n M w) {o : Nat} {g : Nat → Int64} (hlt : l.stackTraces = false) {x : Int32} (hix : ixBad n x) : Met l yL_heldBack wsL_heldBack (kR 5 1 6) (kPr K A [.ref (ad 0), .int x, .ref o] (w ++ [(o, oJ K g)])) (kQi K A (fun r w1 => r = 1 ∧ ∃ w2 : va_W, w1 = w2 ++ [(o, oJ K g)] ∧ DkE K ad bad td n M w2)) 1 6 A := by
  obtain ⟨rm, k, idx, hDk⟩ := hE
  refine kentH (cc := cL_heldBack) (maxL := 4) (ret := some .int) (hh := [(0, 9, 12, 13)]) (by decide) rfl (Nat.le_of_ble_eq_true rfl) ?_
  intro p e s m args below meth c ls hx hb hr hts hown hlocks hml hxt hG hP hD hS hl
  have hl : lv_has ls 4 [(0, .ref (ad 0)), (1, .int x), (2, .ref o)] := hl
  refine lv_aload_n hx hb dL_heldBack_0 rfl (lv_at hl 2 rfl) ?_
  refine lv_iconst (v := 0) hx hb dL_heldBack_1 (by decide) ?_
  refine lv_aload_n hx hb dL_heldBack_2 rfl (lv_at hl 0 rfl) ?_
  refine lv_iload_n hx hb dL_heldBack_3 rfl (lv_at hl 1 rfl) ?_
  refine kf_t (W2 := [(o, oJ K g)])  (vx_runV (As := [.int x]) (rest := [.int 0, .ref o]) ⟨hx, hb, hml, hown, hts⟩ (c_X1_heldBack_t hDk hlt hix) (cwV 1 hts gL_heldBack_X1_heldBack rfl rfl rfl (by decide +kernel) ⟨(Nat.le_of_ble_eq_true rfl), (Nat.le_of_ble_eq_true rfl)⟩) (lpv (q0 := 0) hG hP hD hS hDk.x rfl) rfl rfl hl.1 rfl (lv_room (Nat.le_of_ble_eq_true rfl)) dL_heldBack_4 ⟨(Nat.le_of_ble_eq_true rfl), (Nat.le_of_ble_eq_true rfl)⟩) hS hP hD (fun ce q9 w H locs hp hP hD hS hce hcv hcl => ?_)
  refine vx_catch (own := RL) (name := IOB) (E := IOB) hown [] ⟨0, 9, 12, 13⟩ [] (hxt.trans rfl) (fun z hz => absurd hz (by simp)) rfl (by decide) (hts (.classLink RL 13 IOB) (by decide +kernel)) (va_Nw.use rfl hG.2.2.2.2.2.1) hce hcv hcl ?_
  refine lv_astore_n (lv' := [(3, .ref q9), (0, .ref (ad 0)), (1, .int x), (2, .ref o)]) hx hb dL_heldBack_12 rfl hl (by decide) rfl (fun ls hl => ?_)
  refine lv_iconst (v := 1) hx hb dL_heldBack_13 (by decide) ?_
  exact kr_i hx hb hr hlocks hP hD hS (Nat.le_of_ble_eq_true rfl) (Nat.le_of_ble_eq_true rfl) (⟨rfl, w, rfl, ⟨_, _, _, hp⟩⟩) dL_heldBack_14
set_option maxHeartbeats 4000000 in
set_option maxRecDepth 100000 in
theorem h_heldBack {l : Launch} {K : Ks} {A : Nat → Prop} {ad bad : Nat → Nat} {td : Int32} {n : Nat} {M : Nat → Nat → Int32} {w : va_W} (hE : DkE K ad bad td n M w) {o : Nat} {g : Nat → Int64} {i : Nat} (hi : i < n) : Met l yL_heldBack wsL_heldBack (kR 5 0 0) (kPr K A [.ref (ad 0), .int (nI i), .ref o] (w ++ [(o, oJ K g)])) (kQi K A (fun r w1 => r = 0 ∧ ∃ (w2 : va_W) (g1 : Nat → Int64), w1 = w2 ++ [(o, oJ K g1)] ∧ g1 0 = ((M 9 i)).toInt64 ∧ DkE K ad bad td n M w2)) 0 0 A := by
  obtain ⟨rm, k, idx, hDk⟩ := hE
  refine kentH (cc := cL_heldBack) (maxL := 4) (ret := some .int) (hh := [(0, 9, 12, 13)]) (by decide) rfl (Nat.le_of_ble_eq_true rfl) ?_
  intro p e s m args below meth c ls hx hb hr hts hown hlocks hml hxt hG hP hD hS hl
  have hl : lv_has ls 4 [(0, .ref (ad 0)), (1, .int (nI i)), (2, .ref o)] := hl
  refine lv_aload_n hx hb dL_heldBack_0 rfl (lv_at hl 2 rfl) ?_
  refine lv_iconst (v := 0) hx hb dL_heldBack_1 (by decide) ?_
  refine lv_aload_n hx hb dL_heldBack_2 rfl (lv_at hl 0 rfl) ?_
  refine lv_iload_n hx hb dL_heldBack_3 rfl (lv_at hl 1 rfl) ?_
  refine kf_i (W2 := [(o, oJ K g)])  (va_runV (As := [.int (nI i)]) (rest := [.int 0, .ref o]) ⟨hx, hb, hml, hown, hts⟩ (c_X1_heldBack hDk hi) (cwV 1 hts gL_heldBack_X1_heldBack rfl rfl rfl (by decide +kernel) ⟨(Nat.le_of_ble_eq_true rfl), (Nat.le_of_ble_eq_true rfl)⟩) (lpv (q0 := 0) hG hP hD hS hDk.x rfl) rfl rfl hl.1 rfl (lv_room (Nat.le_of_ble_eq_true rfl)) dL_heldBack_4 ⟨(Nat.le_of_ble_eq_true rfl), (Nat.le_of_ble_eq_true rfl)⟩) hS hP hD (fun r w H locs hp hP hD hS => ?_)
  obtain ⟨hp1, hDk⟩ := hp
  rw [hp1]
  refine lv_i2l (v := ((M 9 i) : Int32).toInt64) hx hb dL_heldBack_7 rfl ?_
  refine kjast hx hb hG hP hD hS dL_heldBack_8 (fun g1 H locs hg hP hD hS => ?_)
  refine lv_goto (tgt := 15) hx hb dL_heldBack_9 (by decide) ?_
  refine lv_iconst (v := 0) hx hb dL_heldBack_15 (by decide) ?_
  exact kr_i hx hb hr hlocks hP hD hS (Nat.le_of_ble_eq_true rfl) (Nat.le_of_ble_eq_true rfl) (⟨rfl, w, g1, rfl, hg, _, _, _, hDk⟩) dL_heldBack_16
set_option maxHeartbeats 4000000 in
set_option maxRecDepth 100000 in
theorem h_approve_tb {l : Launch} {K : Ks} {A : Nat → Prop} {ad bad : Nat → Nat} {td : Int32} {n : Nat} {M : Nat → Nat → Int32} {w : va_W} (hE : DkE K ad bad td n M w) {o : Nat} {g : Nat → Int64} (hlt : l.stackTraces = false) {x : Int32} (hix : ixBad n x) : Met l yL_approve wsL_approve (kR 5 1 6) (kPr K A [.ref (ad 0), .int x, .ref o] (w ++ [(o, oJ K g)])) (kQi K A (fun r w1 => r = 1 ∧ ∃ w2 : va_W, w1 = w2 ++ [(o, oJ K g)] ∧ DkE K ad bad td n M w2)) 1 6 A := by
  obtain ⟨rm, k, idx, hDk⟩ := hE
  refine kentH (cc := cL_approve) (maxL := 4) (ret := some .int) (hh := [(0, 16, 19, 13), (0, 16, 22, 25)]) (by decide) rfl (Nat.le_of_ble_eq_true rfl) ?_
  intro p e s m args below meth c ls hx hb hr hts hown hlocks hml hxt hG hP hD hS hl
  have hl : lv_has ls 4 [(0, .ref (ad 0)), (1, .int x), (2, .ref o)] := hl
  refine lv_aload_n hx hb dL_approve_0 rfl (lv_at hl 2 rfl) ?_
  refine lv_iconst (v := 0) hx hb dL_approve_1 (by decide) ?_
  refine lv_aload_n hx hb dL_approve_2 rfl (lv_at hl 0 rfl) ?_
  refine lv_iload_n hx hb dL_approve_3 rfl (lv_at hl 1 rfl) ?_
  refine kf_t (W2 := [(o, oJ K g)])  (vx_runV (As := [.int x]) (rest := [.int 0, .ref o]) ⟨hx, hb, hml, hown, hts⟩ (c_X1_approve_tb hDk hlt hix) (cwV 1 hts gL_approve_X1_approve rfl rfl rfl (by decide +kernel) ⟨(Nat.le_of_ble_eq_true rfl), (Nat.le_of_ble_eq_true rfl)⟩) (lpv (q0 := 0) hG hP hD hS hDk.x rfl) rfl rfl hl.1 rfl (lv_room (Nat.le_of_ble_eq_true rfl)) dL_approve_4 ⟨(Nat.le_of_ble_eq_true rfl), (Nat.le_of_ble_eq_true rfl)⟩) hS hP hD (fun ce q9 w H locs hp hP hD hS hce hcv hcl => ?_)
  refine vx_catch (own := RL) (name := IOB) (E := IOB) hown [] ⟨0, 16, 19, 13⟩ [⟨0, 16, 22, 25⟩] (hxt.trans rfl) (fun z hz => absurd hz (by simp)) rfl (by decide) (hts (.classLink RL 13 IOB) (by decide +kernel)) (va_Nw.use rfl hG.2.2.2.2.2.1) hce hcv hcl ?_
  refine lv_astore_n (lv' := [(3, .ref q9), (0, .ref (ad 0)), (1, .int x), (2, .ref o)]) hx hb dL_approve_19 rfl hl (by decide) rfl (fun ls hl => ?_)
  refine lv_iconst (v := 1) hx hb dL_approve_20 (by decide) ?_
  exact kr_i hx hb hr hlocks hP hD hS (Nat.le_of_ble_eq_true rfl) (Nat.le_of_ble_eq_true rfl) (⟨rfl, w, rfl, ⟨_, _, _, hp⟩⟩) dL_approve_21
set_option maxHeartbeats 4000000 in
set_option maxRecDepth 100000 in
theorem h_approve_tp {l : Launch} {K : Ks} {A : Nat → Prop} {ad bad : Nat → Nat} {td : Int32} {n : Nat} {M : Nat → Nat → Int32} {w : va_W} (hE : DkE K ad bad td n M w) {o : Nat} {g : Nat → Int64} (hlt : l.stackTraces = false) {i : Nat} (hi : i < n) (hst : ¬ (M 6 i = 0 ∨ M 6 i = 2)) : Met l yL_approve wsL_approve (kR 5 1 6) (kPr K A [.ref (ad 0), .int (nI i), .ref o] (w ++ [(o, oJ K g)])) (kQi K A (fun r w1 => r = 2 ∧ ∃ w2 : va_W, w1 = w2 ++ [(o, oJ K g)] ∧ DkE K ad bad td n M w2)) 1 6 A := by
  obtain ⟨rm, k, idx, hDk⟩ := hE
  refine kentH (cc := cL_approve) (maxL := 4) (ret := some .int) (hh := [(0, 16, 19, 13), (0, 16, 22, 25)]) (by decide) rfl (Nat.le_of_ble_eq_true rfl) ?_
  intro p e s m args below meth c ls hx hb hr hts hown hlocks hml hxt hG hP hD hS hl
  have hl : lv_has ls 4 [(0, .ref (ad 0)), (1, .int (nI i)), (2, .ref o)] := hl
  refine lv_aload_n hx hb dL_approve_0 rfl (lv_at hl 2 rfl) ?_
  refine lv_iconst (v := 0) hx hb dL_approve_1 (by decide) ?_
  refine lv_aload_n hx hb dL_approve_2 rfl (lv_at hl 0 rfl) ?_
  refine lv_iload_n hx hb dL_approve_3 rfl (lv_at hl 1 rfl) ?_
  refine kf_t (W2 := [(o, oJ K g)])  (vx_runV (As := [.int (nI i)]) (rest := [.int 0, .ref o]) ⟨hx, hb, hml, hown, hts⟩ (c_X1_approve_tp hDk hlt hi hst) (cwV 1 hts gL_approve_X1_approve rfl rfl rfl (by decide +kernel) ⟨(Nat.le_of_ble_eq_true rfl), (Nat.le_of_ble_eq_true rfl)⟩) (lpv (q0 := 0) hG hP hD hS hDk.x rfl) rfl rfl hl.1 rfl (lv_room (Nat.le_of_ble_eq_true rfl)) dL_approve_4 ⟨(Nat.le_of_ble_eq_true rfl), (Nat.le_of_ble_eq_true rfl)⟩) hS hP hD (fun ce q9 w H locs hp hP hD hS hce hcv hcl => ?_)
  refine vx_catch (own := RL) (name := ISE) (E := ISE) hown [⟨0, 16, 19, 13⟩] ⟨0, 16, 22, 25⟩ [] (hxt.trans rfl) (fun z hz => by rw [List.mem_singleton.mp hz]; exact Or.inr ⟨by decide, IOB, hts (.classLink RL 13 IOB) (by decide +kernel), hG.2.2.2.2.2.2.2.1.2.2.2.2.2.1⟩) rfl (by decide) (hts (.classLink RL 25 ISE) (by decide +kernel)) (va_Nw.use rfl hG.2.2.2.2.2.2.2.1.1) hce hcv hcl ?_
  refine lv_astore_n (lv' := [(3, .ref q9), (0, .ref (ad 0)), (1, .int (nI i)), (2, .ref o)]) hx hb dL_approve_22 rfl hl (by decide) rfl (fun ls hl => ?_)
  refine lv_iconst (v := 2) hx hb dL_approve_23 (by decide) ?_
  exact kr_i hx hb hr hlocks hP hD hS (Nat.le_of_ble_eq_true rfl) (Nat.le_of_ble_eq_true rfl) (⟨rfl, w, rfl, ⟨_, _, _, hp⟩⟩) dL_approve_24
set_option maxHeartbeats 4000000 in
set_option maxRecDepth 100000 in
theorem h_approve_p {l : Launch} {K : Ks} {A : Nat → Prop} {ad bad : Nat → Nat} {td : Int32} {n : Nat} {M : Nat → Nat → Int32} {w : va_W} (hE : DkE K ad bad td n M w) {o : Nat} {g : Nat → Int64} {i : Nat} (hi : i < n) (hm : okP M i) (hst : M 6 i = 0 ∨ M 6 i = 2) (hdue : M 5 i ≤ td) : Met l yL_approve wsL_approve (kR 5 0 0) (kPr K A [.ref (ad 0), .int (nI i), .ref o] (w ++ [(o, oJ K g)])) (kQi K A (fun r w1 => r = 0 ∧ ∃ (w2 : va_W) (g1 : Nat → Int64), w1 = w2 ++ [(o, oJ K g1)] ∧ g1 0 = 1 ∧ DkE K ad bad td n (payM M i (M 4 i) 4) w2)) 0 0 A := by
  obtain ⟨rm, k, idx, hDk⟩ := hE
  refine kentH (cc := cL_approve) (maxL := 4) (ret := some .int) (hh := [(0, 16, 19, 13), (0, 16, 22, 25)]) (by decide) rfl (Nat.le_of_ble_eq_true rfl) ?_
  intro p e s m args below meth c ls hx hb hr hts hown hlocks hml hxt hG hP hD hS hl
  have hl : lv_has ls 4 [(0, .ref (ad 0)), (1, .int (nI i)), (2, .ref o)] := hl
  refine lv_aload_n hx hb dL_approve_0 rfl (lv_at hl 2 rfl) ?_
  refine lv_iconst (v := 0) hx hb dL_approve_1 (by decide) ?_
  refine lv_aload_n hx hb dL_approve_2 rfl (lv_at hl 0 rfl) ?_
  refine lv_iload_n hx hb dL_approve_3 rfl (lv_at hl 1 rfl) ?_
  refine kf_i (W2 := [(o, oJ K g)])  (va_runV (As := [.int (nI i)]) (rest := [.int 0, .ref o]) ⟨hx, hb, hml, hown, hts⟩ (c_X1_approve_p hDk hi hm hst hdue) (cwV 1 hts gL_approve_X1_approve rfl rfl rfl (by decide +kernel) ⟨(Nat.le_of_ble_eq_true rfl), (Nat.le_of_ble_eq_true rfl)⟩) (lpv (q0 := 0) hG hP hD hS hDk.x rfl) rfl rfl hl.1 rfl (lv_room (Nat.le_of_ble_eq_true rfl)) dL_approve_4 ⟨(Nat.le_of_ble_eq_true rfl), (Nat.le_of_ble_eq_true rfl)⟩) hS hP hD (fun r w H locs hp hP hD hS => ?_)
  obtain ⟨hp1, hDk⟩ := hp
  rw [hp1]
  refine lv_if_eq (tgt := 14) hx hb dL_approve_7 (by decide) (fun h7 => False.elim (absurd h7 (by decide))) (fun h7 => ?_)
  refine lv_lconst (v := 1) hx hb dL_approve_10 (by decide) ?_
  refine lv_goto (tgt := 15) hx hb dL_approve_11 (by decide) ?_
  refine kjast hx hb hG hP hD hS dL_approve_15 (fun g1 H locs hg hP hD hS => ?_)
  refine lv_goto (tgt := 25) hx hb dL_approve_16 (by decide) ?_
  refine lv_iconst (v := 0) hx hb dL_approve_25 (by decide) ?_
  exact kr_i hx hb hr hlocks hP hD hS (Nat.le_of_ble_eq_true rfl) (Nat.le_of_ble_eq_true rfl) (⟨rfl, w, g1, rfl, hg, _, _, _, hDk⟩) dL_approve_26
set_option maxHeartbeats 4000000 in
set_option maxRecDepth 100000 in
theorem h_approve_a {l : Launch} {K : Ks} {A : Nat → Prop} {ad bad : Nat → Nat} {td : Int32} {n : Nat} {M : Nat → Nat → Int32} {w : va_W} (hE : DkE K ad bad td n M w) {o : Nat} {g : Nat → Int64} {i : Nat} (hi : i < n) (hst : M 6 i = 0 ∨ M 6 i = 2) (hdue : ¬ M 5 i ≤ td) : Met l yL_approve wsL_approve (kR 5 0 0) (kPr K A [.ref (ad 0), .int (nI i), .ref o] (w ++ [(o, oJ K g)])) (kQi K A (fun r w1 => r = 0 ∧ ∃ (w2 : va_W) (g1 : Nat → Int64), w1 = w2 ++ [(o, oJ K g1)] ∧ g1 0 = 0 ∧ DkE K ad bad td n (up2 M 6 i 1) w2)) 0 0 A := by
  obtain ⟨rm, k, idx, hDk⟩ := hE
  refine kentH (cc := cL_approve) (maxL := 4) (ret := some .int) (hh := [(0, 16, 19, 13), (0, 16, 22, 25)]) (by decide) rfl (Nat.le_of_ble_eq_true rfl) ?_
  intro p e s m args below meth c ls hx hb hr hts hown hlocks hml hxt hG hP hD hS hl
  have hl : lv_has ls 4 [(0, .ref (ad 0)), (1, .int (nI i)), (2, .ref o)] := hl
  refine lv_aload_n hx hb dL_approve_0 rfl (lv_at hl 2 rfl) ?_
  refine lv_iconst (v := 0) hx hb dL_approve_1 (by decide) ?_
  refine lv_aload_n hx hb dL_approve_2 rfl (lv_at hl 0 rfl) ?_
  refine lv_iload_n hx hb dL_approve_3 rfl (lv_at hl 1 rfl) ?_
  refine kf_i (W2 := [(o, oJ K g)])  (va_runV (As := [.int (nI i)]) (rest := [.int 0, .ref o]) ⟨hx, hb, hml, hown, hts⟩ (c_X1_approve_a hDk hi hst hdue) (cwV 1 hts gL_approve_X1_approve rfl rfl rfl (by decide +kernel) ⟨(Nat.le_of_ble_eq_true rfl), (Nat.le_of_ble_eq_true rfl)⟩) (lpv (q0 := 0) hG hP hD hS hDk.x rfl) rfl rfl hl.1 rfl (lv_room (Nat.le_of_ble_eq_true rfl)) dL_approve_4 ⟨(Nat.le_of_ble_eq_true rfl), (Nat.le_of_ble_eq_true rfl)⟩) hS hP hD (fun r w H locs hp hP hD hS => ?_)
  obtain ⟨hp1, hDk⟩ := hp
  rw [hp1]
  refine lv_if_eq (tgt := 14) hx hb dL_approve_7 (by decide) (fun h7 => ?_) (fun h7 => False.elim (absurd rfl h7))
  refine lv_lconst (v := 0) hx hb dL_approve_14 (by decide) ?_
  refine kjast hx hb hG hP hD hS dL_approve_15 (fun g1 H locs hg hP hD hS => ?_)
  refine lv_goto (tgt := 25) hx hb dL_approve_16 (by decide) ?_
  refine lv_iconst (v := 0) hx hb dL_approve_25 (by decide) ?_
  exact kr_i hx hb hr hlocks hP hD hS (Nat.le_of_ble_eq_true rfl) (Nat.le_of_ble_eq_true rfl) (⟨rfl, w, g1, rfl, hg, _, _, _, hDk⟩) dL_approve_26
set_option maxHeartbeats 4000000 in
set_option maxRecDepth 100000 in
theorem h_dispute_tb {l : Launch} {K : Ks} {A : Nat → Prop} {ad bad : Nat → Nat} {td : Int32} {n : Nat} {M : Nat → Nat → Int32} {w : va_W} (hE : DkE K ad bad td n M w) {o : Nat} (hlt : l.stackTraces = false) {x : Int32} (hix : ixBad n x) : Met l yL_dispute wsL_dispute (kR 5 1 6) (kPr K A [.ref (ad 0), .int x] (w)) (kQi K A (fun r w1 => r = 1 ∧ DkE K ad bad td n M w1)) 1 6 A := by
  obtain ⟨rm, k, idx, hDk⟩ := hE
  refine kentH (cc := cL_dispute) (maxL := 3) (ret := some .int) (hh := [(0, 5, 8, 13), (0, 5, 11, 25)]) (by decide) rfl (Nat.le_of_ble_eq_true rfl) ?_
  intro p e s m args below meth c ls hx hb hr hts hown hlocks hml hxt hG hP hD hS hl
  have hl : lv_has ls 3 [(0, .ref (ad 0)), (1, .int x)] := hl
  refine lv_aload_n hx hb dL_dispute_0 rfl (lv_at hl 0 rfl) ?_
  refine lv_iload_n hx hb dL_dispute_1 rfl (lv_at hl 1 rfl) ?_
  refine kc_t (vx_runV (As := [.int x]) (rest := []) ⟨hx, hb, hml, hown, hts⟩ (c_X1_dispute_tb hDk hlt hix) (cwV 1 hts gL_dispute_X1_dispute rfl rfl rfl (by decide +kernel) ⟨(Nat.le_of_ble_eq_true rfl), (Nat.le_of_ble_eq_true rfl)⟩) (kpv (q0 := 0) hG hP hD hS hDk.x rfl) rfl rfl hl.1 rfl (lv_room (Nat.le_of_ble_eq_true rfl)) dL_dispute_2 ⟨(Nat.le_of_ble_eq_true rfl), (Nat.le_of_ble_eq_true rfl)⟩) hS (fun ce q9 w H locs hp hP hD hS hce hcv hcl => ?_)
  refine vx_catch (own := RL) (name := IOB) (E := IOB) hown [] ⟨0, 5, 8, 13⟩ [⟨0, 5, 11, 25⟩] (hxt.trans rfl) (fun z hz => absurd hz (by simp)) rfl (by decide) (hts (.classLink RL 13 IOB) (by decide +kernel)) (va_Nw.use rfl hG.2.2.2.2.2.1) hce hcv hcl ?_
  refine lv_astore_n (lv' := [(2, .ref q9), (0, .ref (ad 0)), (1, .int x)]) hx hb dL_dispute_8 rfl hl (by decide) rfl (fun ls hl => ?_)
  refine lv_iconst (v := 1) hx hb dL_dispute_9 (by decide) ?_
  exact kr_i hx hb hr hlocks hP hD hS (Nat.le_of_ble_eq_true rfl) (Nat.le_of_ble_eq_true rfl) (⟨rfl, ⟨_, _, _, hp⟩⟩) dL_dispute_10
set_option maxHeartbeats 4000000 in
set_option maxRecDepth 100000 in
theorem h_dispute_tp {l : Launch} {K : Ks} {A : Nat → Prop} {ad bad : Nat → Nat} {td : Int32} {n : Nat} {M : Nat → Nat → Int32} {w : va_W} (hE : DkE K ad bad td n M w) {o : Nat} (hlt : l.stackTraces = false) {i : Nat} (hi : i < n) (hst : ¬ (M 6 i = 0 ∨ M 6 i = 1)) : Met l yL_dispute wsL_dispute (kR 5 1 6) (kPr K A [.ref (ad 0), .int (nI i)] (w)) (kQi K A (fun r w1 => r = 2 ∧ DkE K ad bad td n M w1)) 1 6 A := by
  obtain ⟨rm, k, idx, hDk⟩ := hE
  refine kentH (cc := cL_dispute) (maxL := 3) (ret := some .int) (hh := [(0, 5, 8, 13), (0, 5, 11, 25)]) (by decide) rfl (Nat.le_of_ble_eq_true rfl) ?_
  intro p e s m args below meth c ls hx hb hr hts hown hlocks hml hxt hG hP hD hS hl
  have hl : lv_has ls 3 [(0, .ref (ad 0)), (1, .int (nI i))] := hl
  refine lv_aload_n hx hb dL_dispute_0 rfl (lv_at hl 0 rfl) ?_
  refine lv_iload_n hx hb dL_dispute_1 rfl (lv_at hl 1 rfl) ?_
  refine kc_t (vx_runV (As := [.int (nI i)]) (rest := []) ⟨hx, hb, hml, hown, hts⟩ (c_X1_dispute_tp hDk hlt hi hst) (cwV 1 hts gL_dispute_X1_dispute rfl rfl rfl (by decide +kernel) ⟨(Nat.le_of_ble_eq_true rfl), (Nat.le_of_ble_eq_true rfl)⟩) (kpv (q0 := 0) hG hP hD hS hDk.x rfl) rfl rfl hl.1 rfl (lv_room (Nat.le_of_ble_eq_true rfl)) dL_dispute_2 ⟨(Nat.le_of_ble_eq_true rfl), (Nat.le_of_ble_eq_true rfl)⟩) hS (fun ce q9 w H locs hp hP hD hS hce hcv hcl => ?_)
  refine vx_catch (own := RL) (name := ISE) (E := ISE) hown [⟨0, 5, 8, 13⟩] ⟨0, 5, 11, 25⟩ [] (hxt.trans rfl) (fun z hz => by rw [List.mem_singleton.mp hz]; exact Or.inr ⟨by decide, IOB, hts (.classLink RL 13 IOB) (by decide +kernel), hG.2.2.2.2.2.2.2.1.2.2.2.2.2.1⟩) rfl (by decide) (hts (.classLink RL 25 ISE) (by decide +kernel)) (va_Nw.use rfl hG.2.2.2.2.2.2.2.1.1) hce hcv hcl ?_
  refine lv_astore_n (lv' := [(2, .ref q9), (0, .ref (ad 0)), (1, .int (nI i))]) hx hb dL_dispute_11 rfl hl (by decide) rfl (fun ls hl => ?_)
  refine lv_iconst (v := 2) hx hb dL_dispute_12 (by decide) ?_
  exact kr_i hx hb hr hlocks hP hD hS (Nat.le_of_ble_eq_true rfl) (Nat.le_of_ble_eq_true rfl) (⟨rfl, ⟨_, _, _, hp⟩⟩) dL_dispute_13
set_option maxHeartbeats 4000000 in
set_option maxRecDepth 100000 in
theorem h_dispute {l : Launch} {K : Ks} {A : Nat → Prop} {ad bad : Nat → Nat} {td : Int32} {n : Nat} {M : Nat → Nat → Int32} {w : va_W} (hE : DkE K ad bad td n M w) {o : Nat} {i : Nat} (hi : i < n) (hst : M 6 i = 0 ∨ M 6 i = 1) : Met l yL_dispute wsL_dispute (kR 5 0 0) (kPr K A [.ref (ad 0), .int (nI i)] (w)) (kQi K A (fun r w1 => r = 0 ∧ DkE K ad bad td n (up2 (up2 M 6 i 2) 7 i (-1)) w1)) 0 0 A := by
  obtain ⟨rm, k, idx, hDk⟩ := hE
  refine kentH (cc := cL_dispute) (maxL := 3) (ret := some .int) (hh := [(0, 5, 8, 13), (0, 5, 11, 25)]) (by decide) rfl (Nat.le_of_ble_eq_true rfl) ?_
  intro p e s m args below meth c ls hx hb hr hts hown hlocks hml hxt hG hP hD hS hl
  have hl : lv_has ls 3 [(0, .ref (ad 0)), (1, .int (nI i))] := hl
  refine lv_aload_n hx hb dL_dispute_0 rfl (lv_at hl 0 rfl) ?_
  refine lv_iload_n hx hb dL_dispute_1 rfl (lv_at hl 1 rfl) ?_
  refine kc_v (va_runV (As := [.int (nI i)]) (rest := []) ⟨hx, hb, hml, hown, hts⟩ (c_X1_dispute hDk hi hst) (cwV 1 hts gL_dispute_X1_dispute rfl rfl rfl (by decide +kernel) ⟨(Nat.le_of_ble_eq_true rfl), (Nat.le_of_ble_eq_true rfl)⟩) (kpv (q0 := 0) hG hP hD hS hDk.x rfl) rfl rfl hl.1 rfl (lv_room (Nat.le_of_ble_eq_true rfl)) dL_dispute_2 ⟨(Nat.le_of_ble_eq_true rfl), (Nat.le_of_ble_eq_true rfl)⟩) hS (fun w H locs hp hP hD hS => ?_)
  have hDk := hp
  refine lv_goto (tgt := 14) hx hb dL_dispute_5 (by decide) ?_
  refine lv_iconst (v := 0) hx hb dL_dispute_14 (by decide) ?_
  exact kr_i hx hb hr hlocks hP hD hS (Nat.le_of_ble_eq_true rfl) (Nat.le_of_ble_eq_true rfl) (⟨rfl, _, _, _, hDk⟩) dL_dispute_15
set_option maxHeartbeats 4000000 in
set_option maxRecDepth 100000 in
theorem h_note_tb {l : Launch} {K : Ks} {A : Nat → Prop} {ad bad : Nat → Nat} {td : Int32} {n : Nat} {M : Nat → Nat → Int32} {w : va_W} (hE : DkE K ad bad td n M w) {o : Nat} {g : Nat → Int64} (hlt : l.stackTraces = false) {x : Int32} (hix : ixBad n x) {y : Int32} : Met l yL_note wsL_note (kR 5 1 6) (kPr K A [.ref (ad 0), .int x, .int y, .ref o] (w ++ [(o, oJ K g)])) (kQi K A (fun r w1 => r = 1 ∧ ∃ w2 : va_W, w1 = w2 ++ [(o, oJ K g)] ∧ DkE K ad bad td n M w2)) 1 6 A := by
  obtain ⟨rm, k, idx, hDk⟩ := hE
  refine kentH (cc := cL_note) (maxL := 5) (ret := some .int) (hh := [(0, 10, 13, 13), (0, 10, 17, 15)]) (by decide) rfl (Nat.le_of_ble_eq_true rfl) ?_
  intro p e s m args below meth c ls hx hb hr hts hown hlocks hml hxt hG hP hD hS hl
  have hl : lv_has ls 5 [(0, .ref (ad 0)), (1, .int x), (2, .int y), (3, .ref o)] := hl
  refine lv_aload_n hx hb dL_note_0 rfl (lv_at hl 3 rfl) ?_
  refine lv_iconst (v := 0) hx hb dL_note_1 (by decide) ?_
  refine lv_aload_n hx hb dL_note_2 rfl (lv_at hl 0 rfl) ?_
  refine lv_iload_n hx hb dL_note_3 rfl (lv_at hl 1 rfl) ?_
  refine lv_iload_n hx hb dL_note_4 rfl (lv_at hl 2 rfl) ?_
  refine kf_t (W2 := [(o, oJ K g)])  (vx_runV (As := [.int x, .int y]) (rest := [.int 0, .ref o]) ⟨hx, hb, hml, hown, hts⟩ (c_X1_note_tb hDk hlt hix) (cwV 2 hts gL_note_X1_note rfl rfl rfl (by decide +kernel) ⟨(Nat.le_of_ble_eq_true rfl), (Nat.le_of_ble_eq_true rfl)⟩) (lpv (q0 := 0) hG hP hD hS hDk.x rfl) rfl rfl hl.1 rfl (lv_room (Nat.le_of_ble_eq_true rfl)) dL_note_5 ⟨(Nat.le_of_ble_eq_true rfl), (Nat.le_of_ble_eq_true rfl)⟩) hS hP hD (fun ce q9 w H locs hp hP hD hS hce hcv hcl => ?_)
  refine vx_catch (own := RL) (name := IOB) (E := IOB) hown [] ⟨0, 10, 13, 13⟩ [⟨0, 10, 17, 15⟩] (hxt.trans rfl) (fun z hz => absurd hz (by simp)) rfl (by decide) (hts (.classLink RL 13 IOB) (by decide +kernel)) (va_Nw.use rfl hG.2.2.2.2.2.1) hce hcv hcl ?_
  refine lv_astore (lv' := [(4, .ref q9), (0, .ref (ad 0)), (1, .int x), (2, .int y), (3, .ref o)]) hx hb dL_note_13 hl (by decide) rfl (fun ls hl => ?_)
  refine lv_iconst (v := 1) hx hb dL_note_15 (by decide) ?_
  exact kr_i hx hb hr hlocks hP hD hS (Nat.le_of_ble_eq_true rfl) (Nat.le_of_ble_eq_true rfl) (⟨rfl, w, rfl, ⟨_, _, _, hp⟩⟩) dL_note_16
set_option maxHeartbeats 4000000 in
set_option maxRecDepth 100000 in
theorem h_note_tr {l : Launch} {K : Ks} {A : Nat → Prop} {ad bad : Nat → Nat} {td : Int32} {n : Nat} {M : Nat → Nat → Int32} {w : va_W} (hE : DkE K ad bad td n M w) {o : Nat} {g : Nat → Int64} (hlt : l.stackTraces = false) {i : Nat} (hi : i < n) {y : Int32} (hy : ¬ inR 1 (M 4 i - M 10 i) y) : Met l yL_note wsL_note (kR 5 1 6) (kPr K A [.ref (ad 0), .int (nI i), .int y, .ref o] (w ++ [(o, oJ K g)])) (kQi K A (fun r w1 => r = 2 ∧ ∃ w2 : va_W, w1 = w2 ++ [(o, oJ K g)] ∧ DkE K ad bad td n M w2)) 1 6 A := by
  obtain ⟨rm, k, idx, hDk⟩ := hE
  refine kentH (cc := cL_note) (maxL := 5) (ret := some .int) (hh := [(0, 10, 13, 13), (0, 10, 17, 15)]) (by decide) rfl (Nat.le_of_ble_eq_true rfl) ?_
  intro p e s m args below meth c ls hx hb hr hts hown hlocks hml hxt hG hP hD hS hl
  have hl : lv_has ls 5 [(0, .ref (ad 0)), (1, .int (nI i)), (2, .int y), (3, .ref o)] := hl
  refine lv_aload_n hx hb dL_note_0 rfl (lv_at hl 3 rfl) ?_
  refine lv_iconst (v := 0) hx hb dL_note_1 (by decide) ?_
  refine lv_aload_n hx hb dL_note_2 rfl (lv_at hl 0 rfl) ?_
  refine lv_iload_n hx hb dL_note_3 rfl (lv_at hl 1 rfl) ?_
  refine lv_iload_n hx hb dL_note_4 rfl (lv_at hl 2 rfl) ?_
  refine kf_t (W2 := [(o, oJ K g)])  (vx_runV (As := [.int (nI i), .int y]) (rest := [.int 0, .ref o]) ⟨hx, hb, hml, hown, hts⟩ (c_X1_note_tr hDk hlt hi hy) (cwV 2 hts gL_note_X1_note rfl rfl rfl (by decide +kernel) ⟨(Nat.le_of_ble_eq_true rfl), (Nat.le_of_ble_eq_true rfl)⟩) (lpv (q0 := 0) hG hP hD hS hDk.x rfl) rfl rfl hl.1 rfl (lv_room (Nat.le_of_ble_eq_true rfl)) dL_note_5 ⟨(Nat.le_of_ble_eq_true rfl), (Nat.le_of_ble_eq_true rfl)⟩) hS hP hD (fun ce q9 w H locs hp hP hD hS hce hcv hcl => ?_)
  refine vx_catch (own := RL) (name := IAE) (E := IAE) hown [⟨0, 10, 13, 13⟩] ⟨0, 10, 17, 15⟩ [] (hxt.trans rfl) (fun z hz => by rw [List.mem_singleton.mp hz]; exact Or.inr ⟨by decide, IOB, hts (.classLink RL 13 IOB) (by decide +kernel), hG.2.2.2.2.2.2.2.1.2.2.2.2.1⟩) rfl (by decide) (hts (.classLink RL 15 IAE) (by decide +kernel)) (va_Nw.use rfl hG.2.2.2.2.2.2.1) hce hcv hcl ?_
  refine lv_astore (lv' := [(4, .ref q9), (0, .ref (ad 0)), (1, .int (nI i)), (2, .int y), (3, .ref o)]) hx hb dL_note_17 hl (by decide) rfl (fun ls hl => ?_)
  refine lv_iconst (v := 2) hx hb dL_note_19 (by decide) ?_
  exact kr_i hx hb hr hlocks hP hD hS (Nat.le_of_ble_eq_true rfl) (Nat.le_of_ble_eq_true rfl) (⟨rfl, w, rfl, ⟨_, _, _, hp⟩⟩) dL_note_20
set_option maxHeartbeats 4000000 in
set_option maxRecDepth 100000 in
theorem h_note_p {l : Launch} {K : Ks} {A : Nat → Prop} {ad bad : Nat → Nat} {td : Int32} {n : Nat} {M : Nat → Nat → Int32} {w : va_W} (hE : DkE K ad bad td n M w) {o : Nat} {g : Nat → Int64} {i : Nat} (hi : i < n) (hm : okP M i) {y : Int32} (ham : inR 1 1000000 (M 4 i)) (hy : inR 1 (M 4 i - M 10 i) y) (hst : M 6 i = 3 ∨ M 6 i = 4) : Met l yL_note wsL_note (kR 5 0 0) (kPr K A [.ref (ad 0), .int (nI i), .int y, .ref o] (w ++ [(o, oJ K g)])) (kQi K A (fun r w1 => r = 0 ∧ ∃ (w2 : va_W) (g1 : Nat → Int64), w1 = w2 ++ [(o, oJ K g1)] ∧ g1 0 = ((moreS M i y)).toInt64 ∧ DkE K ad bad td n (noteM M i y) w2)) 0 0 A := by
  obtain ⟨rm, k, idx, hDk⟩ := hE
  refine kentH (cc := cL_note) (maxL := 5) (ret := some .int) (hh := [(0, 10, 13, 13), (0, 10, 17, 15)]) (by decide) rfl (Nat.le_of_ble_eq_true rfl) ?_
  intro p e s m args below meth c ls hx hb hr hts hown hlocks hml hxt hG hP hD hS hl
  have hl : lv_has ls 5 [(0, .ref (ad 0)), (1, .int (nI i)), (2, .int y), (3, .ref o)] := hl
  refine lv_aload_n hx hb dL_note_0 rfl (lv_at hl 3 rfl) ?_
  refine lv_iconst (v := 0) hx hb dL_note_1 (by decide) ?_
  refine lv_aload_n hx hb dL_note_2 rfl (lv_at hl 0 rfl) ?_
  refine lv_iload_n hx hb dL_note_3 rfl (lv_at hl 1 rfl) ?_
  refine lv_iload_n hx hb dL_note_4 rfl (lv_at hl 2 rfl) ?_
  refine kf_i (W2 := [(o, oJ K g)])  (va_runV (As := [.int (nI i), .int y]) (rest := [.int 0, .ref o]) ⟨hx, hb, hml, hown, hts⟩ (c_X1_note_p hDk hi hm ham hy hst) (cwV 2 hts gL_note_X1_note rfl rfl rfl (by decide +kernel) ⟨(Nat.le_of_ble_eq_true rfl), (Nat.le_of_ble_eq_true rfl)⟩) (lpv (q0 := 0) hG hP hD hS hDk.x rfl) rfl rfl hl.1 rfl (lv_room (Nat.le_of_ble_eq_true rfl)) dL_note_5 ⟨(Nat.le_of_ble_eq_true rfl), (Nat.le_of_ble_eq_true rfl)⟩) hS hP hD (fun r w H locs hp hP hD hS => ?_)
  obtain ⟨hp1, hDk⟩ := hp
  rw [hp1]
  refine lv_i2l (v := ((moreS M i y) : Int32).toInt64) hx hb dL_note_8 rfl ?_
  refine kjast hx hb hG hP hD hS dL_note_9 (fun g1 H locs hg hP hD hS => ?_)
  refine lv_goto (tgt := 21) hx hb dL_note_10 (by decide) ?_
  refine lv_iconst (v := 0) hx hb dL_note_21 (by decide) ?_
  exact kr_i hx hb hr hlocks hP hD hS (Nat.le_of_ble_eq_true rfl) (Nat.le_of_ble_eq_true rfl) (⟨rfl, w, g1, rfl, hg, _, _, _, hDk⟩) dL_note_22
set_option maxHeartbeats 4000000 in
set_option maxRecDepth 100000 in
theorem h_note_u {l : Launch} {K : Ks} {A : Nat → Prop} {ad bad : Nat → Nat} {td : Int32} {n : Nat} {M : Nat → Nat → Int32} {w : va_W} (hE : DkE K ad bad td n M w) {o : Nat} {g : Nat → Int64} {i : Nat} (hi : i < n) {y : Int32} (hy : inR 1 (M 4 i - M 10 i) y) (hst : ¬ (M 6 i = 3 ∨ M 6 i = 4)) : Met l yL_note wsL_note (kR 5 0 0) (kPr K A [.ref (ad 0), .int (nI i), .int y, .ref o] (w ++ [(o, oJ K g)])) (kQi K A (fun r w1 => r = 0 ∧ ∃ (w2 : va_W) (g1 : Nat → Int64), w1 = w2 ++ [(o, oJ K g1)] ∧ g1 0 = ((M 4 i - y)).toInt64 ∧ DkE K ad bad td n (up2 M 4 i (M 4 i - y)) w2)) 0 0 A := by
  obtain ⟨rm, k, idx, hDk⟩ := hE
  refine kentH (cc := cL_note) (maxL := 5) (ret := some .int) (hh := [(0, 10, 13, 13), (0, 10, 17, 15)]) (by decide) rfl (Nat.le_of_ble_eq_true rfl) ?_
  intro p e s m args below meth c ls hx hb hr hts hown hlocks hml hxt hG hP hD hS hl
  have hl : lv_has ls 5 [(0, .ref (ad 0)), (1, .int (nI i)), (2, .int y), (3, .ref o)] := hl
  refine lv_aload_n hx hb dL_note_0 rfl (lv_at hl 3 rfl) ?_
  refine lv_iconst (v := 0) hx hb dL_note_1 (by decide) ?_
  refine lv_aload_n hx hb dL_note_2 rfl (lv_at hl 0 rfl) ?_
  refine lv_iload_n hx hb dL_note_3 rfl (lv_at hl 1 rfl) ?_
  refine lv_iload_n hx hb dL_note_4 rfl (lv_at hl 2 rfl) ?_
  refine kf_i (W2 := [(o, oJ K g)])  (va_runV (As := [.int (nI i), .int y]) (rest := [.int 0, .ref o]) ⟨hx, hb, hml, hown, hts⟩ (c_X1_note_u hDk hi hy hst) (cwV 2 hts gL_note_X1_note rfl rfl rfl (by decide +kernel) ⟨(Nat.le_of_ble_eq_true rfl), (Nat.le_of_ble_eq_true rfl)⟩) (lpv (q0 := 0) hG hP hD hS hDk.x rfl) rfl rfl hl.1 rfl (lv_room (Nat.le_of_ble_eq_true rfl)) dL_note_5 ⟨(Nat.le_of_ble_eq_true rfl), (Nat.le_of_ble_eq_true rfl)⟩) hS hP hD (fun r w H locs hp hP hD hS => ?_)
  obtain ⟨hp1, hDk⟩ := hp
  rw [hp1]
  refine lv_i2l (v := ((M 4 i - y) : Int32).toInt64) hx hb dL_note_8 rfl ?_
  refine kjast hx hb hG hP hD hS dL_note_9 (fun g1 H locs hg hP hD hS => ?_)
  refine lv_goto (tgt := 21) hx hb dL_note_10 (by decide) ?_
  refine lv_iconst (v := 0) hx hb dL_note_21 (by decide) ?_
  exact kr_i hx hb hr hlocks hP hD hS (Nat.le_of_ble_eq_true rfl) (Nat.le_of_ble_eq_true rfl) (⟨rfl, w, g1, rfl, hg, _, _, _, hDk⟩) dL_note_22
set_option maxHeartbeats 4000000 in
set_option maxRecDepth 100000 in
theorem h_offer_tb {l : Launch} {K : Ks} {A : Nat → Prop} {ad bad : Nat → Nat} {td : Int32} {n : Nat} {M : Nat → Nat → Int32} {w : va_W} (hE : DkE K ad bad td n M w) {o : Nat} {g : Nat → Int64} (hlt : l.stackTraces = false) {x : Int32} (hix : ixBad n x) {y : Int32} : Met l yL_offer wsL_offer (kR 5 1 6) (kPr K A [.ref (ad 0), .int x, .int y, .ref o] (w ++ [(o, oJ K g)])) (kQi K A (fun r w1 => r = 1 ∧ ∃ w2 : va_W, w1 = w2 ++ [(o, oJ K g)] ∧ DkE K ad bad td n M w2)) 1 6 A := by
  obtain ⟨rm, k, idx, hDk⟩ := hE
  refine kentH (cc := cL_offer) (maxL := 5) (ret := some .int) (hh := [(0, 10, 13, 13), (0, 10, 17, 15), (0, 10, 21, 25)]) (by decide) rfl (Nat.le_of_ble_eq_true rfl) ?_
  intro p e s m args below meth c ls hx hb hr hts hown hlocks hml hxt hG hP hD hS hl
  have hl : lv_has ls 5 [(0, .ref (ad 0)), (1, .int x), (2, .int y), (3, .ref o)] := hl
  refine lv_aload_n hx hb dL_offer_0 rfl (lv_at hl 3 rfl) ?_
  refine lv_iconst (v := 0) hx hb dL_offer_1 (by decide) ?_
  refine lv_aload_n hx hb dL_offer_2 rfl (lv_at hl 0 rfl) ?_
  refine lv_iload_n hx hb dL_offer_3 rfl (lv_at hl 1 rfl) ?_
  refine lv_iload_n hx hb dL_offer_4 rfl (lv_at hl 2 rfl) ?_
  refine kf_t (W2 := [(o, oJ K g)])  (vx_runV (As := [.int x, .int y]) (rest := [.int 0, .ref o]) ⟨hx, hb, hml, hown, hts⟩ (c_X1_offer_tb hDk hlt hix) (cwV 2 hts gL_offer_X1_offer rfl rfl rfl (by decide +kernel) ⟨(Nat.le_of_ble_eq_true rfl), (Nat.le_of_ble_eq_true rfl)⟩) (lpv (q0 := 0) hG hP hD hS hDk.x rfl) rfl rfl hl.1 rfl (lv_room (Nat.le_of_ble_eq_true rfl)) dL_offer_5 ⟨(Nat.le_of_ble_eq_true rfl), (Nat.le_of_ble_eq_true rfl)⟩) hS hP hD (fun ce q9 w H locs hp hP hD hS hce hcv hcl => ?_)
  refine vx_catch (own := RL) (name := IOB) (E := IOB) hown [] ⟨0, 10, 13, 13⟩ [⟨0, 10, 17, 15⟩, ⟨0, 10, 21, 25⟩] (hxt.trans rfl) (fun z hz => absurd hz (by simp)) rfl (by decide) (hts (.classLink RL 13 IOB) (by decide +kernel)) (va_Nw.use rfl hG.2.2.2.2.2.1) hce hcv hcl ?_
  refine lv_astore (lv' := [(4, .ref q9), (0, .ref (ad 0)), (1, .int x), (2, .int y), (3, .ref o)]) hx hb dL_offer_13 hl (by decide) rfl (fun ls hl => ?_)
  refine lv_iconst (v := 1) hx hb dL_offer_15 (by decide) ?_
  exact kr_i hx hb hr hlocks hP hD hS (Nat.le_of_ble_eq_true rfl) (Nat.le_of_ble_eq_true rfl) (⟨rfl, w, rfl, ⟨_, _, _, hp⟩⟩) dL_offer_16
set_option maxHeartbeats 4000000 in
set_option maxRecDepth 100000 in
theorem h_offer_tr {l : Launch} {K : Ks} {A : Nat → Prop} {ad bad : Nat → Nat} {td : Int32} {n : Nat} {M : Nat → Nat → Int32} {w : va_W} (hE : DkE K ad bad td n M w) {o : Nat} {g : Nat → Int64} (hlt : l.stackTraces = false) {i : Nat} (hi : i < n) {y : Int32} (hy : ¬ inR 0 5000 y) : Met l yL_offer wsL_offer (kR 5 1 6) (kPr K A [.ref (ad 0), .int (nI i), .int y, .ref o] (w ++ [(o, oJ K g)])) (kQi K A (fun r w1 => r = 2 ∧ ∃ w2 : va_W, w1 = w2 ++ [(o, oJ K g)] ∧ DkE K ad bad td n M w2)) 1 6 A := by
  obtain ⟨rm, k, idx, hDk⟩ := hE
  refine kentH (cc := cL_offer) (maxL := 5) (ret := some .int) (hh := [(0, 10, 13, 13), (0, 10, 17, 15), (0, 10, 21, 25)]) (by decide) rfl (Nat.le_of_ble_eq_true rfl) ?_
  intro p e s m args below meth c ls hx hb hr hts hown hlocks hml hxt hG hP hD hS hl
  have hl : lv_has ls 5 [(0, .ref (ad 0)), (1, .int (nI i)), (2, .int y), (3, .ref o)] := hl
  refine lv_aload_n hx hb dL_offer_0 rfl (lv_at hl 3 rfl) ?_
  refine lv_iconst (v := 0) hx hb dL_offer_1 (by decide) ?_
  refine lv_aload_n hx hb dL_offer_2 rfl (lv_at hl 0 rfl) ?_
  refine lv_iload_n hx hb dL_offer_3 rfl (lv_at hl 1 rfl) ?_
  refine lv_iload_n hx hb dL_offer_4 rfl (lv_at hl 2 rfl) ?_
  refine kf_t (W2 := [(o, oJ K g)])  (vx_runV (As := [.int (nI i), .int y]) (rest := [.int 0, .ref o]) ⟨hx, hb, hml, hown, hts⟩ (c_X1_offer_tr hDk hlt hi hy) (cwV 2 hts gL_offer_X1_offer rfl rfl rfl (by decide +kernel) ⟨(Nat.le_of_ble_eq_true rfl), (Nat.le_of_ble_eq_true rfl)⟩) (lpv (q0 := 0) hG hP hD hS hDk.x rfl) rfl rfl hl.1 rfl (lv_room (Nat.le_of_ble_eq_true rfl)) dL_offer_5 ⟨(Nat.le_of_ble_eq_true rfl), (Nat.le_of_ble_eq_true rfl)⟩) hS hP hD (fun ce q9 w H locs hp hP hD hS hce hcv hcl => ?_)
  refine vx_catch (own := RL) (name := IAE) (E := IAE) hown [⟨0, 10, 13, 13⟩] ⟨0, 10, 17, 15⟩ [⟨0, 10, 21, 25⟩] (hxt.trans rfl) (fun z hz => by rw [List.mem_singleton.mp hz]; exact Or.inr ⟨by decide, IOB, hts (.classLink RL 13 IOB) (by decide +kernel), hG.2.2.2.2.2.2.2.1.2.2.2.2.1⟩) rfl (by decide) (hts (.classLink RL 15 IAE) (by decide +kernel)) (va_Nw.use rfl hG.2.2.2.2.2.2.1) hce hcv hcl ?_
  refine lv_astore (lv' := [(4, .ref q9), (0, .ref (ad 0)), (1, .int (nI i)), (2, .int y), (3, .ref o)]) hx hb dL_offer_17 hl (by decide) rfl (fun ls hl => ?_)
  refine lv_iconst (v := 2) hx hb dL_offer_19 (by decide) ?_
  exact kr_i hx hb hr hlocks hP hD hS (Nat.le_of_ble_eq_true rfl) (Nat.le_of_ble_eq_true rfl) (⟨rfl, w, rfl, ⟨_, _, _, hp⟩⟩) dL_offer_20
set_option maxHeartbeats 4000000 in
set_option maxRecDepth 100000 in
theorem h_offer_tp {l : Launch} {K : Ks} {A : Nat → Prop} {ad bad : Nat → Nat} {td : Int32} {n : Nat} {M : Nat → Nat → Int32} {w : va_W} (hE : DkE K ad bad td n M w) {o : Nat} {g : Nat → Int64} (hlt : l.stackTraces = false) {i : Nat} (hi : i < n) {y : Int32} (hy : inR 0 5000 y) (hst : ¬ (M 6 i = 1 ∧ ¬ M 5 i ≤ td)) : Met l yL_offer wsL_offer (kR 5 1 6) (kPr K A [.ref (ad 0), .int (nI i), .int y, .ref o] (w ++ [(o, oJ K g)])) (kQi K A (fun r w1 => r = 3 ∧ ∃ w2 : va_W, w1 = w2 ++ [(o, oJ K g)] ∧ DkE K ad bad td n M w2)) 1 6 A := by
  obtain ⟨rm, k, idx, hDk⟩ := hE
  refine kentH (cc := cL_offer) (maxL := 5) (ret := some .int) (hh := [(0, 10, 13, 13), (0, 10, 17, 15), (0, 10, 21, 25)]) (by decide) rfl (Nat.le_of_ble_eq_true rfl) ?_
  intro p e s m args below meth c ls hx hb hr hts hown hlocks hml hxt hG hP hD hS hl
  have hl : lv_has ls 5 [(0, .ref (ad 0)), (1, .int (nI i)), (2, .int y), (3, .ref o)] := hl
  refine lv_aload_n hx hb dL_offer_0 rfl (lv_at hl 3 rfl) ?_
  refine lv_iconst (v := 0) hx hb dL_offer_1 (by decide) ?_
  refine lv_aload_n hx hb dL_offer_2 rfl (lv_at hl 0 rfl) ?_
  refine lv_iload_n hx hb dL_offer_3 rfl (lv_at hl 1 rfl) ?_
  refine lv_iload_n hx hb dL_offer_4 rfl (lv_at hl 2 rfl) ?_
  refine kf_t (W2 := [(o, oJ K g)])  (vx_runV (As := [.int (nI i), .int y]) (rest := [.int 0, .ref o]) ⟨hx, hb, hml, hown, hts⟩ (c_X1_offer_tp hDk hlt hi hy hst) (cwV 2 hts gL_offer_X1_offer rfl rfl rfl (by decide +kernel) ⟨(Nat.le_of_ble_eq_true rfl), (Nat.le_of_ble_eq_true rfl)⟩) (lpv (q0 := 0) hG hP hD hS hDk.x rfl) rfl rfl hl.1 rfl (lv_room (Nat.le_of_ble_eq_true rfl)) dL_offer_5 ⟨(Nat.le_of_ble_eq_true rfl), (Nat.le_of_ble_eq_true rfl)⟩) hS hP hD (fun ce q9 w H locs hp hP hD hS hce hcv hcl => ?_)
  have hpass : ∀ z ∈ ([⟨0, 10, 13, 13⟩, ⟨0, 10, 17, 15⟩] : List ExceptionTableEntry), covers z 5 = false ∨ (z.catchType ≠ 0 ∧ ∃ nm : String, (Cond.classLink RL z.catchType nm).before args s = true ∧ va_Nc ISE nm s) := by
    intro z hz
    rcases List.mem_cons.mp hz with h9 | h9
    · rw [h9]; exact Or.inr ⟨by decide, IOB, hts (.classLink RL 13 IOB) (by decide +kernel), hG.2.2.2.2.2.2.2.1.2.2.2.2.2.1⟩
    · rw [List.mem_singleton.mp h9]; exact Or.inr ⟨by decide, IAE, hts (.classLink RL 15 IAE) (by decide +kernel), hG.2.2.2.2.2.2.2.1.2.2.2.2.2.2⟩
  refine vx_catch (own := RL) (name := ISE) (E := ISE) hown [⟨0, 10, 13, 13⟩, ⟨0, 10, 17, 15⟩] ⟨0, 10, 21, 25⟩ [] (hxt.trans rfl) hpass rfl (by decide) (hts (.classLink RL 25 ISE) (by decide +kernel)) (va_Nw.use rfl hG.2.2.2.2.2.2.2.1.1) hce hcv hcl ?_
  refine lv_astore (lv' := [(4, .ref q9), (0, .ref (ad 0)), (1, .int (nI i)), (2, .int y), (3, .ref o)]) hx hb dL_offer_21 hl (by decide) rfl (fun ls hl => ?_)
  refine lv_iconst (v := 3) hx hb dL_offer_23 (by decide) ?_
  exact kr_i hx hb hr hlocks hP hD hS (Nat.le_of_ble_eq_true rfl) (Nat.le_of_ble_eq_true rfl) (⟨rfl, w, rfl, ⟨_, _, _, hp⟩⟩) dL_offer_24
set_option maxHeartbeats 4000000 in
set_option maxRecDepth 100000 in
theorem h_offer {l : Launch} {K : Ks} {A : Nat → Prop} {ad bad : Nat → Nat} {td : Int32} {n : Nat} {M : Nat → Nat → Int32} {w : va_W} (hE : DkE K ad bad td n M w) {o : Nat} {g : Nat → Int64} {i : Nat} (hi : i < n) {y : Int32} (hy : inR 0 5000 y) (hst : M 6 i = 1 ∧ ¬ M 5 i ≤ td) : Met l yL_offer wsL_offer (kR 5 0 0) (kPr K A [.ref (ad 0), .int (nI i), .int y, .ref o] (w ++ [(o, oJ K g)])) (kQi K A (fun r w1 => r = 0 ∧ ∃ (w2 : va_W) (g1 : Nat → Int64), w1 = w2 ++ [(o, oJ K g1)] ∧ g1 0 = ((price td (up2 M 7 i y) i)).toInt64 ∧ DkE K ad bad td n (up2 M 7 i y) w2)) 0 0 A := by
  obtain ⟨rm, k, idx, hDk⟩ := hE
  refine kentH (cc := cL_offer) (maxL := 5) (ret := some .int) (hh := [(0, 10, 13, 13), (0, 10, 17, 15), (0, 10, 21, 25)]) (by decide) rfl (Nat.le_of_ble_eq_true rfl) ?_
  intro p e s m args below meth c ls hx hb hr hts hown hlocks hml hxt hG hP hD hS hl
  have hl : lv_has ls 5 [(0, .ref (ad 0)), (1, .int (nI i)), (2, .int y), (3, .ref o)] := hl
  refine lv_aload_n hx hb dL_offer_0 rfl (lv_at hl 3 rfl) ?_
  refine lv_iconst (v := 0) hx hb dL_offer_1 (by decide) ?_
  refine lv_aload_n hx hb dL_offer_2 rfl (lv_at hl 0 rfl) ?_
  refine lv_iload_n hx hb dL_offer_3 rfl (lv_at hl 1 rfl) ?_
  refine lv_iload_n hx hb dL_offer_4 rfl (lv_at hl 2 rfl) ?_
  refine kf_i (W2 := [(o, oJ K g)])  (va_runV (As := [.int (nI i), .int y]) (rest := [.int 0, .ref o]) ⟨hx, hb, hml, hown, hts⟩ (c_X1_offer hDk hi hy hst) (cwV 2 hts gL_offer_X1_offer rfl rfl rfl (by decide +kernel) ⟨(Nat.le_of_ble_eq_true rfl), (Nat.le_of_ble_eq_true rfl)⟩) (lpv (q0 := 0) hG hP hD hS hDk.x rfl) rfl rfl hl.1 rfl (lv_room (Nat.le_of_ble_eq_true rfl)) dL_offer_5 ⟨(Nat.le_of_ble_eq_true rfl), (Nat.le_of_ble_eq_true rfl)⟩) hS hP hD (fun r w H locs hp hP hD hS => ?_)
  obtain ⟨hp1, hDk⟩ := hp
  rw [hp1]
  refine lv_i2l (v := ((price td (up2 M 7 i y) i) : Int32).toInt64) hx hb dL_offer_8 rfl ?_
  refine kjast hx hb hG hP hD hS dL_offer_9 (fun g1 H locs hg hP hD hS => ?_)
  refine lv_goto (tgt := 25) hx hb dL_offer_10 (by decide) ?_
  refine lv_iconst (v := 0) hx hb dL_offer_25 (by decide) ?_
  exact kr_i hx hb hr hlocks hP hD hS (Nat.le_of_ble_eq_true rfl) (Nat.le_of_ble_eq_true rfl) (⟨rfl, w, g1, rfl, hg, _, _, _, hDk⟩) dL_offer_26
set_option maxHeartbeats 4000000 in
set_option maxRecDepth 100000 in
theorem h_takeBack_tb {l : Launch} {K : Ks} {A : Nat → Prop} {ad bad : Nat → Nat} {td : Int32} {n : Nat} {M : Nat → Nat → Int32} {w : va_W} (hE : DkE K ad bad td n M w) {o : Nat} {g : Nat → Int64} (hlt : l.stackTraces = false) {x : Int32} (hix : ixBad n x) : Met l yL_takeBack wsL_takeBack (kR 5 1 6) (kPr K A [.ref (ad 0), .int x, .ref o] (w ++ [(o, oJ K g)])) (kQi K A (fun r w1 => r = 1 ∧ ∃ w2 : va_W, w1 = w2 ++ [(o, oJ K g)] ∧ DkE K ad bad td n M w2)) 1 6 A := by
  obtain ⟨rm, k, idx, hDk⟩ := hE
  refine kentH (cc := cL_takeBack) (maxL := 4) (ret := some .int) (hh := [(0, 9, 12, 13), (0, 9, 15, 25)]) (by decide) rfl (Nat.le_of_ble_eq_true rfl) ?_
  intro p e s m args below meth c ls hx hb hr hts hown hlocks hml hxt hG hP hD hS hl
  have hl : lv_has ls 4 [(0, .ref (ad 0)), (1, .int x), (2, .ref o)] := hl
  refine lv_aload_n hx hb dL_takeBack_0 rfl (lv_at hl 2 rfl) ?_
  refine lv_iconst (v := 0) hx hb dL_takeBack_1 (by decide) ?_
  refine lv_aload_n hx hb dL_takeBack_2 rfl (lv_at hl 0 rfl) ?_
  refine lv_iload_n hx hb dL_takeBack_3 rfl (lv_at hl 1 rfl) ?_
  refine kf_t (W2 := [(o, oJ K g)])  (vx_runV (As := [.int x]) (rest := [.int 0, .ref o]) ⟨hx, hb, hml, hown, hts⟩ (c_X1_takeBack_tb hDk hlt hix) (cwV 1 hts gL_takeBack_X1_takeBack rfl rfl rfl (by decide +kernel) ⟨(Nat.le_of_ble_eq_true rfl), (Nat.le_of_ble_eq_true rfl)⟩) (lpv (q0 := 0) hG hP hD hS hDk.x rfl) rfl rfl hl.1 rfl (lv_room (Nat.le_of_ble_eq_true rfl)) dL_takeBack_4 ⟨(Nat.le_of_ble_eq_true rfl), (Nat.le_of_ble_eq_true rfl)⟩) hS hP hD (fun ce q9 w H locs hp hP hD hS hce hcv hcl => ?_)
  refine vx_catch (own := RL) (name := IOB) (E := IOB) hown [] ⟨0, 9, 12, 13⟩ [⟨0, 9, 15, 25⟩] (hxt.trans rfl) (fun z hz => absurd hz (by simp)) rfl (by decide) (hts (.classLink RL 13 IOB) (by decide +kernel)) (va_Nw.use rfl hG.2.2.2.2.2.1) hce hcv hcl ?_
  refine lv_astore_n (lv' := [(3, .ref q9), (0, .ref (ad 0)), (1, .int x), (2, .ref o)]) hx hb dL_takeBack_12 rfl hl (by decide) rfl (fun ls hl => ?_)
  refine lv_iconst (v := 1) hx hb dL_takeBack_13 (by decide) ?_
  exact kr_i hx hb hr hlocks hP hD hS (Nat.le_of_ble_eq_true rfl) (Nat.le_of_ble_eq_true rfl) (⟨rfl, w, rfl, ⟨_, _, _, hp⟩⟩) dL_takeBack_14
set_option maxHeartbeats 4000000 in
set_option maxRecDepth 100000 in
theorem h_takeBack_tp {l : Launch} {K : Ks} {A : Nat → Prop} {ad bad : Nat → Nat} {td : Int32} {n : Nat} {M : Nat → Nat → Int32} {w : va_W} (hE : DkE K ad bad td n M w) {o : Nat} {g : Nat → Int64} (hlt : l.stackTraces = false) {i : Nat} (hi : i < n) (hst : ¬ (¬ M 7 i = -1 ∧ ¬ (M 6 i = 3 ∨ M 6 i = 4))) : Met l yL_takeBack wsL_takeBack (kR 5 1 6) (kPr K A [.ref (ad 0), .int (nI i), .ref o] (w ++ [(o, oJ K g)])) (kQi K A (fun r w1 => r = 2 ∧ ∃ w2 : va_W, w1 = w2 ++ [(o, oJ K g)] ∧ DkE K ad bad td n M w2)) 1 6 A := by
  obtain ⟨rm, k, idx, hDk⟩ := hE
  refine kentH (cc := cL_takeBack) (maxL := 4) (ret := some .int) (hh := [(0, 9, 12, 13), (0, 9, 15, 25)]) (by decide) rfl (Nat.le_of_ble_eq_true rfl) ?_
  intro p e s m args below meth c ls hx hb hr hts hown hlocks hml hxt hG hP hD hS hl
  have hl : lv_has ls 4 [(0, .ref (ad 0)), (1, .int (nI i)), (2, .ref o)] := hl
  refine lv_aload_n hx hb dL_takeBack_0 rfl (lv_at hl 2 rfl) ?_
  refine lv_iconst (v := 0) hx hb dL_takeBack_1 (by decide) ?_
  refine lv_aload_n hx hb dL_takeBack_2 rfl (lv_at hl 0 rfl) ?_
  refine lv_iload_n hx hb dL_takeBack_3 rfl (lv_at hl 1 rfl) ?_
  refine kf_t (W2 := [(o, oJ K g)])  (vx_runV (As := [.int (nI i)]) (rest := [.int 0, .ref o]) ⟨hx, hb, hml, hown, hts⟩ (c_X1_takeBack_tp hDk hlt hi hst) (cwV 1 hts gL_takeBack_X1_takeBack rfl rfl rfl (by decide +kernel) ⟨(Nat.le_of_ble_eq_true rfl), (Nat.le_of_ble_eq_true rfl)⟩) (lpv (q0 := 0) hG hP hD hS hDk.x rfl) rfl rfl hl.1 rfl (lv_room (Nat.le_of_ble_eq_true rfl)) dL_takeBack_4 ⟨(Nat.le_of_ble_eq_true rfl), (Nat.le_of_ble_eq_true rfl)⟩) hS hP hD (fun ce q9 w H locs hp hP hD hS hce hcv hcl => ?_)
  refine vx_catch (own := RL) (name := ISE) (E := ISE) hown [⟨0, 9, 12, 13⟩] ⟨0, 9, 15, 25⟩ [] (hxt.trans rfl) (fun z hz => by rw [List.mem_singleton.mp hz]; exact Or.inr ⟨by decide, IOB, hts (.classLink RL 13 IOB) (by decide +kernel), hG.2.2.2.2.2.2.2.1.2.2.2.2.2.1⟩) rfl (by decide) (hts (.classLink RL 25 ISE) (by decide +kernel)) (va_Nw.use rfl hG.2.2.2.2.2.2.2.1.1) hce hcv hcl ?_
  refine lv_astore_n (lv' := [(3, .ref q9), (0, .ref (ad 0)), (1, .int (nI i)), (2, .ref o)]) hx hb dL_takeBack_15 rfl hl (by decide) rfl (fun ls hl => ?_)
  refine lv_iconst (v := 2) hx hb dL_takeBack_16 (by decide) ?_
  exact kr_i hx hb hr hlocks hP hD hS (Nat.le_of_ble_eq_true rfl) (Nat.le_of_ble_eq_true rfl) (⟨rfl, w, rfl, ⟨_, _, _, hp⟩⟩) dL_takeBack_17
set_option maxHeartbeats 4000000 in
set_option maxRecDepth 100000 in
theorem h_takeBack {l : Launch} {K : Ks} {A : Nat → Prop} {ad bad : Nat → Nat} {td : Int32} {n : Nat} {M : Nat → Nat → Int32} {w : va_W} (hE : DkE K ad bad td n M w) {o : Nat} {g : Nat → Int64} {i : Nat} (hi : i < n) (hst : ¬ M 7 i = -1 ∧ ¬ (M 6 i = 3 ∨ M 6 i = 4)) : Met l yL_takeBack wsL_takeBack (kR 5 0 0) (kPr K A [.ref (ad 0), .int (nI i), .ref o] (w ++ [(o, oJ K g)])) (kQi K A (fun r w1 => r = 0 ∧ ∃ (w2 : va_W) (g1 : Nat → Int64), w1 = w2 ++ [(o, oJ K g1)] ∧ g1 0 = ((M 7 i)).toInt64 ∧ DkE K ad bad td n (up2 M 7 i (-1)) w2)) 0 0 A := by
  obtain ⟨rm, k, idx, hDk⟩ := hE
  refine kentH (cc := cL_takeBack) (maxL := 4) (ret := some .int) (hh := [(0, 9, 12, 13), (0, 9, 15, 25)]) (by decide) rfl (Nat.le_of_ble_eq_true rfl) ?_
  intro p e s m args below meth c ls hx hb hr hts hown hlocks hml hxt hG hP hD hS hl
  have hl : lv_has ls 4 [(0, .ref (ad 0)), (1, .int (nI i)), (2, .ref o)] := hl
  refine lv_aload_n hx hb dL_takeBack_0 rfl (lv_at hl 2 rfl) ?_
  refine lv_iconst (v := 0) hx hb dL_takeBack_1 (by decide) ?_
  refine lv_aload_n hx hb dL_takeBack_2 rfl (lv_at hl 0 rfl) ?_
  refine lv_iload_n hx hb dL_takeBack_3 rfl (lv_at hl 1 rfl) ?_
  refine kf_i (W2 := [(o, oJ K g)])  (va_runV (As := [.int (nI i)]) (rest := [.int 0, .ref o]) ⟨hx, hb, hml, hown, hts⟩ (c_X1_takeBack hDk hi hst) (cwV 1 hts gL_takeBack_X1_takeBack rfl rfl rfl (by decide +kernel) ⟨(Nat.le_of_ble_eq_true rfl), (Nat.le_of_ble_eq_true rfl)⟩) (lpv (q0 := 0) hG hP hD hS hDk.x rfl) rfl rfl hl.1 rfl (lv_room (Nat.le_of_ble_eq_true rfl)) dL_takeBack_4 ⟨(Nat.le_of_ble_eq_true rfl), (Nat.le_of_ble_eq_true rfl)⟩) hS hP hD (fun r w H locs hp hP hD hS => ?_)
  obtain ⟨hp1, hDk⟩ := hp
  rw [hp1]
  refine lv_i2l (v := ((M 7 i) : Int32).toInt64) hx hb dL_takeBack_7 rfl ?_
  refine kjast hx hb hG hP hD hS dL_takeBack_8 (fun g1 H locs hg hP hD hS => ?_)
  refine lv_goto (tgt := 18) hx hb dL_takeBack_9 (by decide) ?_
  refine lv_iconst (v := 0) hx hb dL_takeBack_18 (by decide) ?_
  exact kr_i hx hb hr hlocks hP hD hS (Nat.le_of_ble_eq_true rfl) (Nat.le_of_ble_eq_true rfl) (⟨rfl, w, g1, rfl, hg, _, _, _, hDk⟩) dL_takeBack_19
set_option maxHeartbeats 4000000 in
set_option maxRecDepth 100000 in
theorem h_plan_tb {l : Launch} {K : Ks} {A : Nat → Prop} {ad bad : Nat → Nat} {td : Int32} {n : Nat} {M : Nat → Nat → Int32} {w : va_W} (hE : DkE K ad bad td n M w) {o : Nat} {g : Nat → Int64} (hlt : l.stackTraces = false) {x : Int32} (hx4 : ixBad 4 x) : Met l yL_plan wsL_plan (kR 9 1 6) (kPr K A [.ref (ad 0), .int x, .ref o] (w ++ [(o, oJ K g)])) (kQi K A (fun r w1 => r = 1 ∧ ∃ w2 : va_W, w1 = w2 ++ [(o, oJ K g)] ∧ DkE K ad bad td n M w2)) 1 6 A := by
  obtain ⟨rm, k, idx, hDk⟩ := hE
  refine kentH (cc := cL_plan) (maxL := 4) (ret := some .int) (hh := [(0, 9, 12, 13)]) (by decide) rfl (Nat.le_of_ble_eq_true rfl) ?_
  intro p e s m args below meth c ls hx hb hr hts hown hlocks hml hxt hG hP hD hS hl
  have hl : lv_has ls 4 [(0, .ref (ad 0)), (1, .int x), (2, .ref o)] := hl
  refine lv_aload_n hx hb dL_plan_0 rfl (lv_at hl 2 rfl) ?_
  refine lv_iconst (v := 0) hx hb dL_plan_1 (by decide) ?_
  refine lv_aload_n hx hb dL_plan_2 rfl (lv_at hl 0 rfl) ?_
  refine lv_iload_n hx hb dL_plan_3 rfl (lv_at hl 1 rfl) ?_
  refine kf_t (W2 := [(o, oJ K g)])  (vx_runV (As := [.int x]) (rest := [.int 0, .ref o]) ⟨hx, hb, hml, hown, hts⟩ (c_X1_plan_tb hDk hlt hx4) (cwV 1 hts gL_plan_X1_plan rfl rfl rfl (by decide +kernel) ⟨(Nat.le_of_ble_eq_true rfl), (Nat.le_of_ble_eq_true rfl)⟩) (lpv (q0 := 0) hG hP hD hS hDk.x rfl) rfl rfl hl.1 rfl (lv_room (Nat.le_of_ble_eq_true rfl)) dL_plan_4 ⟨(Nat.le_of_ble_eq_true rfl), (Nat.le_of_ble_eq_true rfl)⟩) hS hP hD (fun ce q9 w H locs hp hP hD hS hce hcv hcl => ?_)
  refine vx_catch (own := RL) (name := IOB) (E := IOB) hown [] ⟨0, 9, 12, 13⟩ [] (hxt.trans rfl) (fun z hz => absurd hz (by simp)) rfl (by decide) (hts (.classLink RL 13 IOB) (by decide +kernel)) (va_Nw.use rfl hG.2.2.2.2.2.1) hce hcv hcl ?_
  refine lv_astore_n (lv' := [(3, .ref q9), (0, .ref (ad 0)), (1, .int x), (2, .ref o)]) hx hb dL_plan_12 rfl hl (by decide) rfl (fun ls hl => ?_)
  refine lv_iconst (v := 1) hx hb dL_plan_13 (by decide) ?_
  exact kr_i hx hb hr hlocks hP hD hS (Nat.le_of_ble_eq_true rfl) (Nat.le_of_ble_eq_true rfl) (⟨rfl, w, rfl, ⟨_, _, _, hp⟩⟩) dL_plan_14
set_option maxHeartbeats 4000000 in
set_option maxRecDepth 100000 in
theorem h_plan {l : Launch} {K : Ks} {A : Nat → Prop} {ad bad : Nat → Nat} {td : Int32} {n : Nat} {M : Nat → Nat → Int32} {w : va_W} (hE : DkE K ad bad td n M w) {o : Nat} {g : Nat → Int64} {b : Nat} (hx4 : b < 4) (hok : ∀ j, j < n → okP M j) : Met l yL_plan wsL_plan (kR 9 30 1800) (kPr K A [.ref (ad 0), .int (nI b), .ref o] (w ++ [(o, oJ K g)])) (kQi K A (fun r w1 => r = 0 ∧ ∃ (w2 : va_W) (g1 : Nat → Int64), w1 = w2 ++ [(o, oJ K g1)] ∧ g1 0 = ((acC td n M b)).toInt64 ∧ DkE K ad bad td n M w2)) 30 1800 A := by
  obtain ⟨rm, k, idx, hDk⟩ := hE
  refine kentH (cc := cL_plan) (maxL := 4) (ret := some .int) (hh := [(0, 9, 12, 13)]) (by decide) rfl (Nat.le_of_ble_eq_true rfl) ?_
  intro p e s m args below meth c ls hx hb hr hts hown hlocks hml hxt hG hP hD hS hl
  have hl : lv_has ls 4 [(0, .ref (ad 0)), (1, .int (nI b)), (2, .ref o)] := hl
  refine lv_aload_n hx hb dL_plan_0 rfl (lv_at hl 2 rfl) ?_
  refine lv_iconst (v := 0) hx hb dL_plan_1 (by decide) ?_
  refine lv_aload_n hx hb dL_plan_2 rfl (lv_at hl 0 rfl) ?_
  refine lv_iload_n hx hb dL_plan_3 rfl (lv_at hl 1 rfl) ?_
  refine kf_i (W2 := [(o, oJ K g)])  (va_runV (As := [.int (nI b)]) (rest := [.int 0, .ref o]) ⟨hx, hb, hml, hown, hts⟩ (c_X1_plan hDk hx4 hok) (cwV 1 hts gL_plan_X1_plan rfl rfl rfl (by decide +kernel) ⟨(Nat.le_of_ble_eq_true rfl), (Nat.le_of_ble_eq_true rfl)⟩) (lpv (q0 := 0) hG hP hD hS hDk.x rfl) rfl rfl hl.1 rfl (lv_room (Nat.le_of_ble_eq_true rfl)) dL_plan_4 ⟨(Nat.le_of_ble_eq_true rfl), (Nat.le_of_ble_eq_true rfl)⟩) hS hP hD (fun r w H locs hp hP hD hS => ?_)
  obtain ⟨hp1, hDk⟩ := hp
  rw [hp1]
  refine lv_i2l (v := ((acC td n M b) : Int32).toInt64) hx hb dL_plan_7 rfl ?_
  refine kjast hx hb hG hP hD hS dL_plan_8 (fun g1 H locs hg hP hD hS => ?_)
  refine lv_goto (tgt := 15) hx hb dL_plan_9 (by decide) ?_
  refine lv_iconst (v := 0) hx hb dL_plan_15 (by decide) ?_
  exact kr_i hx hb hr hlocks hP hD hS (Nat.le_of_ble_eq_true rfl) (Nat.le_of_ble_eq_true rfl) (⟨rfl, w, g1, rfl, hg, hDk⟩) dL_plan_16
set_option maxHeartbeats 4000000 in
set_option maxRecDepth 100000 in
theorem h_clear_tb {l : Launch} {K : Ks} {A : Nat → Prop} {ad bad : Nat → Nat} {td : Int32} {n : Nat} {M : Nat → Nat → Int32} {w : va_W} (hE : DkE K ad bad td n M w) {o : Nat} {g : Nat → Int64} (hlt : l.stackTraces = false) {x : Int32} (hx4 : ixBad 4 x) : Met l yL_clear wsL_clear (kR 9 1 6) (kPr K A [.ref (ad 0), .int x, .ref o] (w ++ [(o, oJ K g)])) (kQi K A (fun r w1 => r = 1 ∧ ∃ w2 : va_W, w1 = w2 ++ [(o, oJ K g)] ∧ DkE K ad bad td n M w2)) 1 6 A := by
  obtain ⟨rm, k, idx, hDk⟩ := hE
  refine kentH (cc := cL_clear) (maxL := 4) (ret := some .int) (hh := [(0, 9, 12, 13)]) (by decide) rfl (Nat.le_of_ble_eq_true rfl) ?_
  intro p e s m args below meth c ls hx hb hr hts hown hlocks hml hxt hG hP hD hS hl
  have hl : lv_has ls 4 [(0, .ref (ad 0)), (1, .int x), (2, .ref o)] := hl
  refine lv_aload_n hx hb dL_clear_0 rfl (lv_at hl 2 rfl) ?_
  refine lv_iconst (v := 0) hx hb dL_clear_1 (by decide) ?_
  refine lv_aload_n hx hb dL_clear_2 rfl (lv_at hl 0 rfl) ?_
  refine lv_iload_n hx hb dL_clear_3 rfl (lv_at hl 1 rfl) ?_
  refine kf_t (W2 := [(o, oJ K g)])  (vx_runV (As := [.int x]) (rest := [.int 0, .ref o]) ⟨hx, hb, hml, hown, hts⟩ (c_X1_clear_tb hDk hlt hx4) (cwV 1 hts gL_clear_X1_clear rfl rfl rfl (by decide +kernel) ⟨(Nat.le_of_ble_eq_true rfl), (Nat.le_of_ble_eq_true rfl)⟩) (lpv (q0 := 0) hG hP hD hS hDk.x rfl) rfl rfl hl.1 rfl (lv_room (Nat.le_of_ble_eq_true rfl)) dL_clear_4 ⟨(Nat.le_of_ble_eq_true rfl), (Nat.le_of_ble_eq_true rfl)⟩) hS hP hD (fun ce q9 w H locs hp hP hD hS hce hcv hcl => ?_)
  refine vx_catch (own := RL) (name := IOB) (E := IOB) hown [] ⟨0, 9, 12, 13⟩ [] (hxt.trans rfl) (fun z hz => absurd hz (by simp)) rfl (by decide) (hts (.classLink RL 13 IOB) (by decide +kernel)) (va_Nw.use rfl hG.2.2.2.2.2.1) hce hcv hcl ?_
  refine lv_astore_n (lv' := [(3, .ref q9), (0, .ref (ad 0)), (1, .int x), (2, .ref o)]) hx hb dL_clear_12 rfl hl (by decide) rfl (fun ls hl => ?_)
  refine lv_iconst (v := 1) hx hb dL_clear_13 (by decide) ?_
  exact kr_i hx hb hr hlocks hP hD hS (Nat.le_of_ble_eq_true rfl) (Nat.le_of_ble_eq_true rfl) (⟨rfl, w, rfl, ⟨_, _, _, hp⟩⟩) dL_clear_14
set_option maxHeartbeats 4000000 in
set_option maxRecDepth 100000 in
theorem h_clear {l : Launch} {K : Ks} {A : Nat → Prop} {ad bad : Nat → Nat} {td : Int32} {n : Nat} {M : Nat → Nat → Int32} {w : va_W} (hE : DkE K ad bad td n M w) {o : Nat} {g : Nat → Int64} {b : Nat} (hx4 : b < 4) (hok : ∀ j, j < n → okP M j) : Met l yL_clear wsL_clear (kR 9 30 1800) (kPr K A [.ref (ad 0), .int (nI b), .ref o] (w ++ [(o, oJ K g)])) (kQi K A (fun r w1 => r = 0 ∧ ∃ (w2 : va_W) (g1 : Nat → Int64), w1 = w2 ++ [(o, oJ K g1)] ∧ g1 0 = (((clS td M (ix (gaL td M b n)) (acC td n M b) (gaL td M b n).length).2)).toInt64 ∧ DkE K ad bad td n ((clS td M (ix (gaL td M b n)) (acC td n M b) (gaL td M b n).length).1) w2)) 30 1800 A := by
  obtain ⟨rm, k, idx, hDk⟩ := hE
  refine kentH (cc := cL_clear) (maxL := 4) (ret := some .int) (hh := [(0, 9, 12, 13)]) (by decide) rfl (Nat.le_of_ble_eq_true rfl) ?_
  intro p e s m args below meth c ls hx hb hr hts hown hlocks hml hxt hG hP hD hS hl
  have hl : lv_has ls 4 [(0, .ref (ad 0)), (1, .int (nI b)), (2, .ref o)] := hl
  refine lv_aload_n hx hb dL_clear_0 rfl (lv_at hl 2 rfl) ?_
  refine lv_iconst (v := 0) hx hb dL_clear_1 (by decide) ?_
  refine lv_aload_n hx hb dL_clear_2 rfl (lv_at hl 0 rfl) ?_
  refine lv_iload_n hx hb dL_clear_3 rfl (lv_at hl 1 rfl) ?_
  refine kf_i (W2 := [(o, oJ K g)])  (va_runV (As := [.int (nI b)]) (rest := [.int 0, .ref o]) ⟨hx, hb, hml, hown, hts⟩ (c_X1_clear hDk hx4 hok) (cwV 1 hts gL_clear_X1_clear rfl rfl rfl (by decide +kernel) ⟨(Nat.le_of_ble_eq_true rfl), (Nat.le_of_ble_eq_true rfl)⟩) (lpv (q0 := 0) hG hP hD hS hDk.x rfl) rfl rfl hl.1 rfl (lv_room (Nat.le_of_ble_eq_true rfl)) dL_clear_4 ⟨(Nat.le_of_ble_eq_true rfl), (Nat.le_of_ble_eq_true rfl)⟩) hS hP hD (fun r w H locs hp hP hD hS => ?_)
  obtain ⟨hp1, hDk⟩ := hp
  rw [hp1]
  refine lv_i2l (v := (((clS td M (ix (gaL td M b n)) (acC td n M b) (gaL td M b n).length).2) : Int32).toInt64) hx hb dL_clear_7 rfl ?_
  refine kjast hx hb hG hP hD hS dL_clear_8 (fun g1 H locs hg hP hD hS => ?_)
  refine lv_goto (tgt := 15) hx hb dL_clear_9 (by decide) ?_
  refine lv_iconst (v := 0) hx hb dL_clear_15 (by decide) ?_
  exact kr_i hx hb hr hlocks hP hD hS (Nat.le_of_ble_eq_true rfl) (Nat.le_of_ble_eq_true rfl) (⟨rfl, w, g1, rfl, hg, hDk⟩) dL_clear_16
set_option maxHeartbeats 4000000 in
set_option maxRecDepth 100000 in
theorem h_most_tb {l : Launch} {K : Ks} {A : Nat → Prop} {ad bad : Nat → Nat} {td : Int32} {n : Nat} {M : Nat → Nat → Int32} {w : va_W} (hE : DkE K ad bad td n M w) {o : Nat} {g : Nat → Int64} (hlt : l.stackTraces = false) {x : Int32} (hx4 : ixBad 4 x) : Met l yL_most wsL_most (kR 18 1 6) (kPr K A [.ref (ad 0), .int x, .ref o] (w ++ [(o, oJ K g)])) (kQi K A (fun r w1 => r = 1 ∧ ∃ w2 : va_W, w1 = w2 ++ [(o, oJ K g)] ∧ DkE K ad bad td n M w2)) 1 6 A := by
  obtain ⟨rm, k, idx, hDk⟩ := hE
  refine kentH (cc := cL_most) (maxL := 4) (ret := some .int) (hh := [(0, 9, 12, 13), (0, 9, 15, 25)]) (by decide) rfl (Nat.le_of_ble_eq_true rfl) ?_
  intro p e s m args below meth c ls hx hb hr hts hown hlocks hml hxt hG hP hD hS hl
  have hl : lv_has ls 4 [(0, .ref (ad 0)), (1, .int x), (2, .ref o)] := hl
  refine lv_aload_n hx hb dL_most_0 rfl (lv_at hl 2 rfl) ?_
  refine lv_iconst (v := 0) hx hb dL_most_1 (by decide) ?_
  refine lv_aload_n hx hb dL_most_2 rfl (lv_at hl 0 rfl) ?_
  refine lv_iload_n hx hb dL_most_3 rfl (lv_at hl 1 rfl) ?_
  refine kf_t (W2 := [(o, oJ K g)])  (vx_runV (As := [.int x]) (rest := [.int 0, .ref o]) ⟨hx, hb, hml, hown, hts⟩ (c_X1_most_tb hDk hlt hx4) (cwV 1 hts gL_most_X1_most rfl rfl rfl (by decide +kernel) ⟨(Nat.le_of_ble_eq_true rfl), (Nat.le_of_ble_eq_true rfl)⟩) (lpv (q0 := 0) hG hP hD hS hDk.x rfl) rfl rfl hl.1 rfl (lv_room (Nat.le_of_ble_eq_true rfl)) dL_most_4 ⟨(Nat.le_of_ble_eq_true rfl), (Nat.le_of_ble_eq_true rfl)⟩) hS hP hD (fun ce q9 w H locs hp hP hD hS hce hcv hcl => ?_)
  refine vx_catch (own := RL) (name := IOB) (E := IOB) hown [] ⟨0, 9, 12, 13⟩ [⟨0, 9, 15, 25⟩] (hxt.trans rfl) (fun z hz => absurd hz (by simp)) rfl (by decide) (hts (.classLink RL 13 IOB) (by decide +kernel)) (va_Nw.use rfl hG.2.2.2.2.2.1) hce hcv hcl ?_
  refine lv_astore_n (lv' := [(3, .ref q9), (0, .ref (ad 0)), (1, .int x), (2, .ref o)]) hx hb dL_most_12 rfl hl (by decide) rfl (fun ls hl => ?_)
  refine lv_iconst (v := 1) hx hb dL_most_13 (by decide) ?_
  exact kr_i hx hb hr hlocks hP hD hS (Nat.le_of_ble_eq_true rfl) (Nat.le_of_ble_eq_true rfl) (⟨rfl, w, rfl, ⟨_, _, _, hp⟩⟩) dL_most_14
set_option maxHeartbeats 4000000 in
set_option maxRecDepth 100000 in
theorem h_most_tp {l : Launch} {K : Ks} {A : Nat → Prop} {ad bad : Nat → Nat} {td : Int32} {n : Nat} {M : Nat → Nat → Int32} {w : va_W} (hE : DkE K ad bad td n M w) {o : Nat} {g : Nat → Int64} (hlt : l.stackTraces = false) {b : Nat} (hx4 : b < 4) (hk12 : 12 < (gaL td M b n).length) : Met l yL_most wsL_most (kR 18 31 1806) (kPr K A [.ref (ad 0), .int (nI b), .ref o] (w ++ [(o, oJ K g)])) (kQi K A (fun r w1 => r = 2 ∧ ∃ w2 : va_W, w1 = w2 ++ [(o, oJ K g)] ∧ DkE K ad bad td n M w2)) 31 1806 A := by
  obtain ⟨rm, k, idx, hDk⟩ := hE
  refine kentH (cc := cL_most) (maxL := 4) (ret := some .int) (hh := [(0, 9, 12, 13), (0, 9, 15, 25)]) (by decide) rfl (Nat.le_of_ble_eq_true rfl) ?_
  intro p e s m args below meth c ls hx hb hr hts hown hlocks hml hxt hG hP hD hS hl
  have hl : lv_has ls 4 [(0, .ref (ad 0)), (1, .int (nI b)), (2, .ref o)] := hl
  refine lv_aload_n hx hb dL_most_0 rfl (lv_at hl 2 rfl) ?_
  refine lv_iconst (v := 0) hx hb dL_most_1 (by decide) ?_
  refine lv_aload_n hx hb dL_most_2 rfl (lv_at hl 0 rfl) ?_
  refine lv_iload_n hx hb dL_most_3 rfl (lv_at hl 1 rfl) ?_
  refine kf_t (W2 := [(o, oJ K g)])  (vx_runV (As := [.int (nI b)]) (rest := [.int 0, .ref o]) ⟨hx, hb, hml, hown, hts⟩ (c_X1_most_tp hDk hlt hx4 hk12) (cwV 1 hts gL_most_X1_most rfl rfl rfl (by decide +kernel) ⟨(Nat.le_of_ble_eq_true rfl), (Nat.le_of_ble_eq_true rfl)⟩) (lpv (q0 := 0) hG hP hD hS hDk.x rfl) rfl rfl hl.1 rfl (lv_room (Nat.le_of_ble_eq_true rfl)) dL_most_4 ⟨(Nat.le_of_ble_eq_true rfl), (Nat.le_of_ble_eq_true rfl)⟩) hS hP hD (fun ce q9 w H locs hp hP hD hS hce hcv hcl => ?_)
  refine vx_catch (own := RL) (name := ISE) (E := ISE) hown [⟨0, 9, 12, 13⟩] ⟨0, 9, 15, 25⟩ [] (hxt.trans rfl) (fun z hz => by rw [List.mem_singleton.mp hz]; exact Or.inr ⟨by decide, IOB, hts (.classLink RL 13 IOB) (by decide +kernel), hG.2.2.2.2.2.2.2.1.2.2.2.2.2.1⟩) rfl (by decide) (hts (.classLink RL 25 ISE) (by decide +kernel)) (va_Nw.use rfl hG.2.2.2.2.2.2.2.1.1) hce hcv hcl ?_
  refine lv_astore_n (lv' := [(3, .ref q9), (0, .ref (ad 0)), (1, .int (nI b)), (2, .ref o)]) hx hb dL_most_15 rfl hl (by decide) rfl (fun ls hl => ?_)
  refine lv_iconst (v := 2) hx hb dL_most_16 (by decide) ?_
  exact kr_i hx hb hr hlocks hP hD hS (Nat.le_of_ble_eq_true rfl) (Nat.le_of_ble_eq_true rfl) (⟨rfl, w, rfl, hp⟩) dL_most_17
set_option maxHeartbeats 4000000 in
set_option maxRecDepth 100000 in
theorem h_most {l : Launch} {K : Ks} {A : Nat → Prop} {ad bad : Nat → Nat} {td : Int32} {n : Nat} {M : Nat → Nat → Int32} {w : va_W} (hE : DkE K ad bad td n M w) {o : Nat} {g : Nat → Int64} {b : Nat} (hx4 : b < 4) (hk12 : (gaL td M b n).length ≤ 12) (hok : ∀ j, j < n → okP M j) : Met l yL_most wsL_most (kR 18 30 1800) (kPr K A [.ref (ad 0), .int (nI b), .ref o] (w ++ [(o, oJ K g)])) (kQi K A (fun r w1 => r = 0 ∧ ∃ (w2 : va_W) (g1 : Nat → Int64) (rm : Nat → Int32), w1 = w2 ++ [(o, oJ K g1)] ∧ g1 0 = (bfS td M (ix (gaL td M b n)) (gaL td M b n).length 0 (mrm td n M b rm 8) (M 11 b) (toS td M (ix (gaL td M b n)) (gaL td M b n).length)).toInt64 ∧ DkE K ad bad td n M w2)) 30 1800 A := by
  obtain ⟨rm, k, idx, hDk⟩ := hE
  refine kentH (cc := cL_most) (maxL := 4) (ret := some .int) (hh := [(0, 9, 12, 13), (0, 9, 15, 25)]) (by decide) rfl (Nat.le_of_ble_eq_true rfl) ?_
  intro p e s m args below meth c ls hx hb hr hts hown hlocks hml hxt hG hP hD hS hl
  have hl : lv_has ls 4 [(0, .ref (ad 0)), (1, .int (nI b)), (2, .ref o)] := hl
  refine lv_aload_n hx hb dL_most_0 rfl (lv_at hl 2 rfl) ?_
  refine lv_iconst (v := 0) hx hb dL_most_1 (by decide) ?_
  refine lv_aload_n hx hb dL_most_2 rfl (lv_at hl 0 rfl) ?_
  refine lv_iload_n hx hb dL_most_3 rfl (lv_at hl 1 rfl) ?_
  refine kf_i (W2 := [(o, oJ K g)])  (va_runV (As := [.int (nI b)]) (rest := [.int 0, .ref o]) ⟨hx, hb, hml, hown, hts⟩ (c_X1_most hDk hx4 hk12 hok) (cwV 1 hts gL_most_X1_most rfl rfl rfl (by decide +kernel) ⟨(Nat.le_of_ble_eq_true rfl), (Nat.le_of_ble_eq_true rfl)⟩) (lpv (q0 := 0) hG hP hD hS hDk.x rfl) rfl rfl hl.1 rfl (lv_room (Nat.le_of_ble_eq_true rfl)) dL_most_4 ⟨(Nat.le_of_ble_eq_true rfl), (Nat.le_of_ble_eq_true rfl)⟩) hS hP hD (fun r w H locs hp hP hD hS => ?_)
  obtain ⟨hp1, hDk⟩ := hp
  rw [hp1]
  refine lv_i2l (v := ((bfS td M (ix (gaL td M b n)) (gaL td M b n).length 0 (mrm td n M b rm 8) (M 11 b) (toS td M (ix (gaL td M b n)) (gaL td M b n).length)) : Int32).toInt64) hx hb dL_most_7 rfl ?_
  refine kjast hx hb hG hP hD hS dL_most_8 (fun g1 H locs hg hP hD hS => ?_)
  refine lv_goto (tgt := 18) hx hb dL_most_9 (by decide) ?_
  refine lv_iconst (v := 0) hx hb dL_most_18 (by decide) ?_
  exact kr_i hx hb hr hlocks hP hD hS (Nat.le_of_ble_eq_true rfl) (Nat.le_of_ble_eq_true rfl) (⟨rfl, w, g1, rm, rfl, hg, hDk⟩) dL_most_19
set_option maxHeartbeats 4000000 in
set_option maxRecDepth 100000 in
theorem h_left_tb {l : Launch} {K : Ks} {A : Nat → Prop} {ad bad : Nat → Nat} {td : Int32} {n : Nat} {M : Nat → Nat → Int32} {w : va_W} (hE : DkE K ad bad td n M w) {o : Nat} {g : Nat → Int64} (hlt : l.stackTraces = false) {x y : Int32} (hx4 : ixBad 4 x) : Met l yL_left wsL_left (kR 5 1 6) (kPr K A [.ref (ad 0), .int x, .int y, .ref o] (w ++ [(o, oJ K g)])) (kQi K A (fun r w1 => r = 1 ∧ ∃ w2 : va_W, w1 = w2 ++ [(o, oJ K g)] ∧ DkE K ad bad td n M w2)) 1 6 A := by
  obtain ⟨rm, k, idx, hDk⟩ := hE
  refine kentH (cc := cL_left) (maxL := 5) (ret := some .int) (hh := [(0, 10, 13, 13)]) (by decide) rfl (Nat.le_of_ble_eq_true rfl) ?_
  intro p e s m args below meth c ls hx hb hr hts hown hlocks hml hxt hG hP hD hS hl
  have hl : lv_has ls 5 [(0, .ref (ad 0)), (1, .int x), (2, .int y), (3, .ref o)] := hl
  refine lv_aload_n hx hb dL_left_0 rfl (lv_at hl 3 rfl) ?_
  refine lv_iconst (v := 0) hx hb dL_left_1 (by decide) ?_
  refine lv_aload_n hx hb dL_left_2 rfl (lv_at hl 0 rfl) ?_
  refine lv_iload_n hx hb dL_left_3 rfl (lv_at hl 1 rfl) ?_
  refine lv_iload_n hx hb dL_left_4 rfl (lv_at hl 2 rfl) ?_
  refine kf_t (W2 := [(o, oJ K g)])  (vx_runV (As := [.int x, .int y]) (rest := [.int 0, .ref o]) ⟨hx, hb, hml, hown, hts⟩ (c_X1_left_tb hDk hlt hx4) (cwV 2 hts gL_left_X1_left rfl rfl rfl (by decide +kernel) ⟨(Nat.le_of_ble_eq_true rfl), (Nat.le_of_ble_eq_true rfl)⟩) (lpv (q0 := 0) hG hP hD hS hDk.x rfl) rfl rfl hl.1 rfl (lv_room (Nat.le_of_ble_eq_true rfl)) dL_left_5 ⟨(Nat.le_of_ble_eq_true rfl), (Nat.le_of_ble_eq_true rfl)⟩) hS hP hD (fun ce q9 w H locs hp hP hD hS hce hcv hcl => ?_)
  refine vx_catch (own := RL) (name := IOB) (E := IOB) hown [] ⟨0, 10, 13, 13⟩ [] (hxt.trans rfl) (fun z hz => absurd hz (by simp)) rfl (by decide) (hts (.classLink RL 13 IOB) (by decide +kernel)) (va_Nw.use rfl hG.2.2.2.2.2.1) hce hcv hcl ?_
  refine lv_astore (lv' := [(4, .ref q9), (0, .ref (ad 0)), (1, .int x), (2, .int y), (3, .ref o)]) hx hb dL_left_13 hl (by decide) rfl (fun ls hl => ?_)
  refine lv_iconst (v := 1) hx hb dL_left_15 (by decide) ?_
  exact kr_i hx hb hr hlocks hP hD hS (Nat.le_of_ble_eq_true rfl) (Nat.le_of_ble_eq_true rfl) (⟨rfl, w, rfl, ⟨_, _, _, hp⟩⟩) dL_left_16
set_option maxHeartbeats 4000000 in
set_option maxRecDepth 100000 in
theorem h_left_ts {l : Launch} {K : Ks} {A : Nat → Prop} {ad bad : Nat → Nat} {td : Int32} {n : Nat} {M : Nat → Nat → Int32} {w : va_W} (hE : DkE K ad bad td n M w) {o : Nat} {g : Nat → Int64} (hlt : l.stackTraces = false) {b : Nat} {y : Int32} (hx4 : b < 4) (hx8 : ixBad 8 y) : Met l yL_left wsL_left (kR 5 1 6) (kPr K A [.ref (ad 0), .int (nI b), .int y, .ref o] (w ++ [(o, oJ K g)])) (kQi K A (fun r w1 => r = 1 ∧ ∃ w2 : va_W, w1 = w2 ++ [(o, oJ K g)] ∧ DkE K ad bad td n M w2)) 1 6 A := by
  obtain ⟨rm, k, idx, hDk⟩ := hE
  refine kentH (cc := cL_left) (maxL := 5) (ret := some .int) (hh := [(0, 10, 13, 13)]) (by decide) rfl (Nat.le_of_ble_eq_true rfl) ?_
  intro p e s m args below meth c ls hx hb hr hts hown hlocks hml hxt hG hP hD hS hl
  have hl : lv_has ls 5 [(0, .ref (ad 0)), (1, .int (nI b)), (2, .int y), (3, .ref o)] := hl
  refine lv_aload_n hx hb dL_left_0 rfl (lv_at hl 3 rfl) ?_
  refine lv_iconst (v := 0) hx hb dL_left_1 (by decide) ?_
  refine lv_aload_n hx hb dL_left_2 rfl (lv_at hl 0 rfl) ?_
  refine lv_iload_n hx hb dL_left_3 rfl (lv_at hl 1 rfl) ?_
  refine lv_iload_n hx hb dL_left_4 rfl (lv_at hl 2 rfl) ?_
  refine kf_t (W2 := [(o, oJ K g)])  (vx_runV (As := [.int (nI b), .int y]) (rest := [.int 0, .ref o]) ⟨hx, hb, hml, hown, hts⟩ (c_X1_left_ts hDk hlt hx4 hx8) (cwV 2 hts gL_left_X1_left rfl rfl rfl (by decide +kernel) ⟨(Nat.le_of_ble_eq_true rfl), (Nat.le_of_ble_eq_true rfl)⟩) (lpv (q0 := 0) hG hP hD hS hDk.x rfl) rfl rfl hl.1 rfl (lv_room (Nat.le_of_ble_eq_true rfl)) dL_left_5 ⟨(Nat.le_of_ble_eq_true rfl), (Nat.le_of_ble_eq_true rfl)⟩) hS hP hD (fun ce q9 w H locs hp hP hD hS hce hcv hcl => ?_)
  refine vx_catch (own := RL) (name := IOB) (E := IOB) hown [] ⟨0, 10, 13, 13⟩ [] (hxt.trans rfl) (fun z hz => absurd hz (by simp)) rfl (by decide) (hts (.classLink RL 13 IOB) (by decide +kernel)) (va_Nw.use rfl hG.2.2.2.2.2.1) hce hcv hcl ?_
  refine lv_astore (lv' := [(4, .ref q9), (0, .ref (ad 0)), (1, .int (nI b)), (2, .int y), (3, .ref o)]) hx hb dL_left_13 hl (by decide) rfl (fun ls hl => ?_)
  refine lv_iconst (v := 1) hx hb dL_left_15 (by decide) ?_
  exact kr_i hx hb hr hlocks hP hD hS (Nat.le_of_ble_eq_true rfl) (Nat.le_of_ble_eq_true rfl) (⟨rfl, w, rfl, ⟨_, _, _, hp⟩⟩) dL_left_16
set_option maxHeartbeats 4000000 in
set_option maxRecDepth 100000 in
theorem h_left {l : Launch} {K : Ks} {A : Nat → Prop} {ad bad : Nat → Nat} {td : Int32} {n : Nat} {M : Nat → Nat → Int32} {w : va_W} (hE : DkE K ad bad td n M w) {o : Nat} {g : Nat → Int64} {b u : Nat} (hx4 : b < 4) (hx8 : u < 8) : Met l yL_left wsL_left (kR 5 0 0) (kPr K A [.ref (ad 0), .int (nI b), .int (nI u), .ref o] (w ++ [(o, oJ K g)])) (kQi K A (fun r w1 => r = 0 ∧ ∃ (w2 : va_W) (g1 : Nat → Int64), w1 = w2 ++ [(o, oJ K g1)] ∧ g1 0 = ((loM td M b u n)).toInt64 ∧ DkE K ad bad td n M w2)) 0 0 A := by
  obtain ⟨rm, k, idx, hDk⟩ := hE
  refine kentH (cc := cL_left) (maxL := 5) (ret := some .int) (hh := [(0, 10, 13, 13)]) (by decide) rfl (Nat.le_of_ble_eq_true rfl) ?_
  intro p e s m args below meth c ls hx hb hr hts hown hlocks hml hxt hG hP hD hS hl
  have hl : lv_has ls 5 [(0, .ref (ad 0)), (1, .int (nI b)), (2, .int (nI u)), (3, .ref o)] := hl
  refine lv_aload_n hx hb dL_left_0 rfl (lv_at hl 3 rfl) ?_
  refine lv_iconst (v := 0) hx hb dL_left_1 (by decide) ?_
  refine lv_aload_n hx hb dL_left_2 rfl (lv_at hl 0 rfl) ?_
  refine lv_iload_n hx hb dL_left_3 rfl (lv_at hl 1 rfl) ?_
  refine lv_iload_n hx hb dL_left_4 rfl (lv_at hl 2 rfl) ?_
  refine kf_i (W2 := [(o, oJ K g)])  (va_runV (As := [.int (nI b), .int (nI u)]) (rest := [.int 0, .ref o]) ⟨hx, hb, hml, hown, hts⟩ (c_X1_left hDk hx4 hx8) (cwV 2 hts gL_left_X1_left rfl rfl rfl (by decide +kernel) ⟨(Nat.le_of_ble_eq_true rfl), (Nat.le_of_ble_eq_true rfl)⟩) (lpv (q0 := 0) hG hP hD hS hDk.x rfl) rfl rfl hl.1 rfl (lv_room (Nat.le_of_ble_eq_true rfl)) dL_left_5 ⟨(Nat.le_of_ble_eq_true rfl), (Nat.le_of_ble_eq_true rfl)⟩) hS hP hD (fun r w H locs hp hP hD hS => ?_)
  obtain ⟨hp1, hDk⟩ := hp
  rw [hp1]
  refine lv_i2l (v := ((loM td M b u n) : Int32).toInt64) hx hb dL_left_8 rfl ?_
  refine kjast hx hb hG hP hD hS dL_left_9 (fun g1 H locs hg hP hD hS => ?_)
  refine lv_goto (tgt := 17) hx hb dL_left_10 (by decide) ?_
  refine lv_iconst (v := 0) hx hb dL_left_17 (by decide) ?_
  exact kr_i hx hb hr hlocks hP hD hS (Nat.le_of_ble_eq_true rfl) (Nat.le_of_ble_eq_true rfl) (⟨rfl, w, g1, rfl, hg, _, _, _, hDk⟩) dL_left_18
set_option maxHeartbeats 4000000 in
set_option maxRecDepth 100000 in
theorem h_claim_tb {l : Launch} {K : Ks} {A : Nat → Prop} {ad bad : Nat → Nat} {td : Int32} {n : Nat} {M : Nat → Nat → Int32} {w : va_W} (hE : DkE K ad bad td n M w) {o : Nat} {g : Nat → Int64} (hlt : l.stackTraces = false) {x y : Int32} (hx4 : ixBad 4 x) : Met l yL_claim wsL_claim (kR 5 1 6) (kPr K A [.ref (ad 0), .int x, .int y, .ref o] (w ++ [(o, oJ K g)])) (kQi K A (fun r w1 => r = 1 ∧ ∃ w2 : va_W, w1 = w2 ++ [(o, oJ K g)] ∧ DkE K ad bad td n M w2)) 1 6 A := by
  obtain ⟨rm, k, idx, hDk⟩ := hE
  refine kentH (cc := cL_claim) (maxL := 5) (ret := some .int) (hh := [(0, 10, 13, 13)]) (by decide) rfl (Nat.le_of_ble_eq_true rfl) ?_
  intro p e s m args below meth c ls hx hb hr hts hown hlocks hml hxt hG hP hD hS hl
  have hl : lv_has ls 5 [(0, .ref (ad 0)), (1, .int x), (2, .int y), (3, .ref o)] := hl
  refine lv_aload_n hx hb dL_claim_0 rfl (lv_at hl 3 rfl) ?_
  refine lv_iconst (v := 0) hx hb dL_claim_1 (by decide) ?_
  refine lv_aload_n hx hb dL_claim_2 rfl (lv_at hl 0 rfl) ?_
  refine lv_iload_n hx hb dL_claim_3 rfl (lv_at hl 1 rfl) ?_
  refine lv_iload_n hx hb dL_claim_4 rfl (lv_at hl 2 rfl) ?_
  refine kf_t (W2 := [(o, oJ K g)])  (vx_runV (As := [.int x, .int y]) (rest := [.int 0, .ref o]) ⟨hx, hb, hml, hown, hts⟩ (c_X1_claim_tb hDk hlt hx4) (cwV 2 hts gL_claim_X1_claim rfl rfl rfl (by decide +kernel) ⟨(Nat.le_of_ble_eq_true rfl), (Nat.le_of_ble_eq_true rfl)⟩) (lpv (q0 := 0) hG hP hD hS hDk.x rfl) rfl rfl hl.1 rfl (lv_room (Nat.le_of_ble_eq_true rfl)) dL_claim_5 ⟨(Nat.le_of_ble_eq_true rfl), (Nat.le_of_ble_eq_true rfl)⟩) hS hP hD (fun ce q9 w H locs hp hP hD hS hce hcv hcl => ?_)
  refine vx_catch (own := RL) (name := IOB) (E := IOB) hown [] ⟨0, 10, 13, 13⟩ [] (hxt.trans rfl) (fun z hz => absurd hz (by simp)) rfl (by decide) (hts (.classLink RL 13 IOB) (by decide +kernel)) (va_Nw.use rfl hG.2.2.2.2.2.1) hce hcv hcl ?_
  refine lv_astore (lv' := [(4, .ref q9), (0, .ref (ad 0)), (1, .int x), (2, .int y), (3, .ref o)]) hx hb dL_claim_13 hl (by decide) rfl (fun ls hl => ?_)
  refine lv_iconst (v := 1) hx hb dL_claim_15 (by decide) ?_
  exact kr_i hx hb hr hlocks hP hD hS (Nat.le_of_ble_eq_true rfl) (Nat.le_of_ble_eq_true rfl) (⟨rfl, w, rfl, ⟨_, _, _, hp⟩⟩) dL_claim_16
set_option maxHeartbeats 4000000 in
set_option maxRecDepth 100000 in
theorem h_claim_ts {l : Launch} {K : Ks} {A : Nat → Prop} {ad bad : Nat → Nat} {td : Int32} {n : Nat} {M : Nat → Nat → Int32} {w : va_W} (hE : DkE K ad bad td n M w) {o : Nat} {g : Nat → Int64} (hlt : l.stackTraces = false) {b : Nat} {y : Int32} (hx4 : b < 4) (hx8 : ixBad 8 y) : Met l yL_claim wsL_claim (kR 5 1 6) (kPr K A [.ref (ad 0), .int (nI b), .int y, .ref o] (w ++ [(o, oJ K g)])) (kQi K A (fun r w1 => r = 1 ∧ ∃ w2 : va_W, w1 = w2 ++ [(o, oJ K g)] ∧ DkE K ad bad td n M w2)) 1 6 A := by
  obtain ⟨rm, k, idx, hDk⟩ := hE
  refine kentH (cc := cL_claim) (maxL := 5) (ret := some .int) (hh := [(0, 10, 13, 13)]) (by decide) rfl (Nat.le_of_ble_eq_true rfl) ?_
  intro p e s m args below meth c ls hx hb hr hts hown hlocks hml hxt hG hP hD hS hl
  have hl : lv_has ls 5 [(0, .ref (ad 0)), (1, .int (nI b)), (2, .int y), (3, .ref o)] := hl
  refine lv_aload_n hx hb dL_claim_0 rfl (lv_at hl 3 rfl) ?_
  refine lv_iconst (v := 0) hx hb dL_claim_1 (by decide) ?_
  refine lv_aload_n hx hb dL_claim_2 rfl (lv_at hl 0 rfl) ?_
  refine lv_iload_n hx hb dL_claim_3 rfl (lv_at hl 1 rfl) ?_
  refine lv_iload_n hx hb dL_claim_4 rfl (lv_at hl 2 rfl) ?_
  refine kf_t (W2 := [(o, oJ K g)])  (vx_runV (As := [.int (nI b), .int y]) (rest := [.int 0, .ref o]) ⟨hx, hb, hml, hown, hts⟩ (c_X1_claim_ts hDk hlt hx4 hx8) (cwV 2 hts gL_claim_X1_claim rfl rfl rfl (by decide +kernel) ⟨(Nat.le_of_ble_eq_true rfl), (Nat.le_of_ble_eq_true rfl)⟩) (lpv (q0 := 0) hG hP hD hS hDk.x rfl) rfl rfl hl.1 rfl (lv_room (Nat.le_of_ble_eq_true rfl)) dL_claim_5 ⟨(Nat.le_of_ble_eq_true rfl), (Nat.le_of_ble_eq_true rfl)⟩) hS hP hD (fun ce q9 w H locs hp hP hD hS hce hcv hcl => ?_)
  refine vx_catch (own := RL) (name := IOB) (E := IOB) hown [] ⟨0, 10, 13, 13⟩ [] (hxt.trans rfl) (fun z hz => absurd hz (by simp)) rfl (by decide) (hts (.classLink RL 13 IOB) (by decide +kernel)) (va_Nw.use rfl hG.2.2.2.2.2.1) hce hcv hcl ?_
  refine lv_astore (lv' := [(4, .ref q9), (0, .ref (ad 0)), (1, .int (nI b)), (2, .int y), (3, .ref o)]) hx hb dL_claim_13 hl (by decide) rfl (fun ls hl => ?_)
  refine lv_iconst (v := 1) hx hb dL_claim_15 (by decide) ?_
  exact kr_i hx hb hr hlocks hP hD hS (Nat.le_of_ble_eq_true rfl) (Nat.le_of_ble_eq_true rfl) (⟨rfl, w, rfl, ⟨_, _, _, hp⟩⟩) dL_claim_16
set_option maxHeartbeats 4000000 in
set_option maxRecDepth 100000 in
theorem h_claim {l : Launch} {K : Ks} {A : Nat → Prop} {ad bad : Nat → Nat} {td : Int32} {n : Nat} {M : Nat → Nat → Int32} {w : va_W} (hE : DkE K ad bad td n M w) {o : Nat} {g : Nat → Int64} {b u : Nat} (hx4 : b < 4) (hx8 : u < 8) : Met l yL_claim wsL_claim (kR 5 0 0) (kPr K A [.ref (ad 0), .int (nI b), .int (nI u), .ref o] (w ++ [(o, oJ K g)])) (kQi K A (fun r w1 => r = 0 ∧ ∃ (w2 : va_W) (g1 : Nat → Int64), w1 = w2 ++ [(o, oJ K g1)] ∧ g1 0 = ((M 13 (8 * b + u))).toInt64 ∧ DkE K ad bad td n M w2)) 0 0 A := by
  obtain ⟨rm, k, idx, hDk⟩ := hE
  refine kentH (cc := cL_claim) (maxL := 5) (ret := some .int) (hh := [(0, 10, 13, 13)]) (by decide) rfl (Nat.le_of_ble_eq_true rfl) ?_
  intro p e s m args below meth c ls hx hb hr hts hown hlocks hml hxt hG hP hD hS hl
  have hl : lv_has ls 5 [(0, .ref (ad 0)), (1, .int (nI b)), (2, .int (nI u)), (3, .ref o)] := hl
  refine lv_aload_n hx hb dL_claim_0 rfl (lv_at hl 3 rfl) ?_
  refine lv_iconst (v := 0) hx hb dL_claim_1 (by decide) ?_
  refine lv_aload_n hx hb dL_claim_2 rfl (lv_at hl 0 rfl) ?_
  refine lv_iload_n hx hb dL_claim_3 rfl (lv_at hl 1 rfl) ?_
  refine lv_iload_n hx hb dL_claim_4 rfl (lv_at hl 2 rfl) ?_
  refine kf_i (W2 := [(o, oJ K g)])  (va_runV (As := [.int (nI b), .int (nI u)]) (rest := [.int 0, .ref o]) ⟨hx, hb, hml, hown, hts⟩ (c_X1_claim hDk hx4 hx8) (cwV 2 hts gL_claim_X1_claim rfl rfl rfl (by decide +kernel) ⟨(Nat.le_of_ble_eq_true rfl), (Nat.le_of_ble_eq_true rfl)⟩) (lpv (q0 := 0) hG hP hD hS hDk.x rfl) rfl rfl hl.1 rfl (lv_room (Nat.le_of_ble_eq_true rfl)) dL_claim_5 ⟨(Nat.le_of_ble_eq_true rfl), (Nat.le_of_ble_eq_true rfl)⟩) hS hP hD (fun r w H locs hp hP hD hS => ?_)
  obtain ⟨hp1, hDk⟩ := hp
  rw [hp1]
  refine lv_i2l (v := ((M 13 (8 * b + u)) : Int32).toInt64) hx hb dL_claim_8 rfl ?_
  refine kjast hx hb hG hP hD hS dL_claim_9 (fun g1 H locs hg hP hD hS => ?_)
  refine lv_goto (tgt := 17) hx hb dL_claim_10 (by decide) ?_
  refine lv_iconst (v := 0) hx hb dL_claim_17 (by decide) ?_
  exact kr_i hx hb hr hlocks hP hD hS (Nat.le_of_ble_eq_true rfl) (Nat.le_of_ble_eq_true rfl) (⟨rfl, w, g1, rfl, hg, _, _, _, hDk⟩) dL_claim_18
set_option maxHeartbeats 4000000 in
set_option maxRecDepth 100000 in
theorem h_averageDiscount_tb {l : Launch} {K : Ks} {A : Nat → Prop} {ad bad : Nat → Nat} {td : Int32} {n : Nat} {M : Nat → Nat → Int32} {w : va_W} (hE : DkE K ad bad td n M w) {o : Nat} {g : Nat → UInt64} (hlt : l.stackTraces = false) {x : Int32} (hx4 : ixBad 4 x) : Met l yL_averageDiscount wsL_averageDiscount (kR 5 1 6) (kPr K A [.ref (ad 0), .int x, .ref o] (w ++ [(o, oD K g)])) (kQi K A (fun r w1 => r = 1 ∧ ∃ w2 : va_W, w1 = w2 ++ [(o, oD K g)] ∧ DkE K ad bad td n M w2)) 1 6 A := by
  obtain ⟨rm, k, idx, hDk⟩ := hE
  refine kentH (cc := cL_averageDiscount) (maxL := 4) (ret := some .int) (hh := [(0, 9, 12, 13), (0, 9, 15, 25)]) (by decide) rfl (Nat.le_of_ble_eq_true rfl) ?_
  intro p e s m args below meth c ls hx hb hr hts hown hlocks hml hxt hG hP hD hS hl
  have hl : lv_has ls 4 [(0, .ref (ad 0)), (1, .int x), (2, .ref o)] := hl
  refine lv_aload_n hx hb dL_averageDiscount_0 rfl (lv_at hl 2 rfl) ?_
  refine lv_iconst (v := 0) hx hb dL_averageDiscount_1 (by decide) ?_
  refine lv_aload_n hx hb dL_averageDiscount_2 rfl (lv_at hl 0 rfl) ?_
  refine lv_iload_n hx hb dL_averageDiscount_3 rfl (lv_at hl 1 rfl) ?_
  refine kf_t (W2 := [(o, oD K g)])  (vx_runV (As := [.int x]) (rest := [.int 0, .ref o]) ⟨hx, hb, hml, hown, hts⟩ (c_X1_averageDiscount_tb hDk hlt hx4) (cwV 1 hts gL_averageDiscount_X1_averageDiscount rfl rfl rfl (by decide +kernel) ⟨(Nat.le_of_ble_eq_true rfl), (Nat.le_of_ble_eq_true rfl)⟩) (lpv (q0 := 0) hG hP hD hS hDk.x rfl) rfl rfl hl.1 rfl (lv_room (Nat.le_of_ble_eq_true rfl)) dL_averageDiscount_4 ⟨(Nat.le_of_ble_eq_true rfl), (Nat.le_of_ble_eq_true rfl)⟩) hS hP hD (fun ce q9 w H locs hp hP hD hS hce hcv hcl => ?_)
  refine vx_catch (own := RL) (name := IOB) (E := IOB) hown [] ⟨0, 9, 12, 13⟩ [⟨0, 9, 15, 25⟩] (hxt.trans rfl) (fun z hz => absurd hz (by simp)) rfl (by decide) (hts (.classLink RL 13 IOB) (by decide +kernel)) (va_Nw.use rfl hG.2.2.2.2.2.1) hce hcv hcl ?_
  refine lv_astore_n (lv' := [(3, .ref q9), (0, .ref (ad 0)), (1, .int x), (2, .ref o)]) hx hb dL_averageDiscount_12 rfl hl (by decide) rfl (fun ls hl => ?_)
  refine lv_iconst (v := 1) hx hb dL_averageDiscount_13 (by decide) ?_
  exact kr_i hx hb hr hlocks hP hD hS (Nat.le_of_ble_eq_true rfl) (Nat.le_of_ble_eq_true rfl) (⟨rfl, w, rfl, ⟨_, _, _, hp⟩⟩) dL_averageDiscount_14
set_option maxHeartbeats 4000000 in
set_option maxRecDepth 100000 in
theorem h_averageDiscount_tp {l : Launch} {K : Ks} {A : Nat → Prop} {ad bad : Nat → Nat} {td : Int32} {n : Nat} {M : Nat → Nat → Int32} {w : va_W} (hE : DkE K ad bad td n M w) {o : Nat} {g : Nat → UInt64} (hlt : l.stackTraces = false) {b : Nat} (hx4 : b < 4) (hz : adA M b n = 0) : Met l yL_averageDiscount wsL_averageDiscount (kR 5 1 6) (kPr K A [.ref (ad 0), .int (nI b), .ref o] (w ++ [(o, oD K g)])) (kQi K A (fun r w1 => r = 2 ∧ ∃ w2 : va_W, w1 = w2 ++ [(o, oD K g)] ∧ DkE K ad bad td n M w2)) 1 6 A := by
  obtain ⟨rm, k, idx, hDk⟩ := hE
  refine kentH (cc := cL_averageDiscount) (maxL := 4) (ret := some .int) (hh := [(0, 9, 12, 13), (0, 9, 15, 25)]) (by decide) rfl (Nat.le_of_ble_eq_true rfl) ?_
  intro p e s m args below meth c ls hx hb hr hts hown hlocks hml hxt hG hP hD hS hl
  have hl : lv_has ls 4 [(0, .ref (ad 0)), (1, .int (nI b)), (2, .ref o)] := hl
  refine lv_aload_n hx hb dL_averageDiscount_0 rfl (lv_at hl 2 rfl) ?_
  refine lv_iconst (v := 0) hx hb dL_averageDiscount_1 (by decide) ?_
  refine lv_aload_n hx hb dL_averageDiscount_2 rfl (lv_at hl 0 rfl) ?_
  refine lv_iload_n hx hb dL_averageDiscount_3 rfl (lv_at hl 1 rfl) ?_
  refine kf_t (W2 := [(o, oD K g)])  (vx_runV (As := [.int (nI b)]) (rest := [.int 0, .ref o]) ⟨hx, hb, hml, hown, hts⟩ (c_X1_averageDiscount_tp hDk hlt hx4 hz) (cwV 1 hts gL_averageDiscount_X1_averageDiscount rfl rfl rfl (by decide +kernel) ⟨(Nat.le_of_ble_eq_true rfl), (Nat.le_of_ble_eq_true rfl)⟩) (lpv (q0 := 0) hG hP hD hS hDk.x rfl) rfl rfl hl.1 rfl (lv_room (Nat.le_of_ble_eq_true rfl)) dL_averageDiscount_4 ⟨(Nat.le_of_ble_eq_true rfl), (Nat.le_of_ble_eq_true rfl)⟩) hS hP hD (fun ce q9 w H locs hp hP hD hS hce hcv hcl => ?_)
  refine vx_catch (own := RL) (name := ISE) (E := ISE) hown [⟨0, 9, 12, 13⟩] ⟨0, 9, 15, 25⟩ [] (hxt.trans rfl) (fun z hz => by rw [List.mem_singleton.mp hz]; exact Or.inr ⟨by decide, IOB, hts (.classLink RL 13 IOB) (by decide +kernel), hG.2.2.2.2.2.2.2.1.2.2.2.2.2.1⟩) rfl (by decide) (hts (.classLink RL 25 ISE) (by decide +kernel)) (va_Nw.use rfl hG.2.2.2.2.2.2.2.1.1) hce hcv hcl ?_
  refine lv_astore_n (lv' := [(3, .ref q9), (0, .ref (ad 0)), (1, .int (nI b)), (2, .ref o)]) hx hb dL_averageDiscount_15 rfl hl (by decide) rfl (fun ls hl => ?_)
  refine lv_iconst (v := 2) hx hb dL_averageDiscount_16 (by decide) ?_
  exact kr_i hx hb hr hlocks hP hD hS (Nat.le_of_ble_eq_true rfl) (Nat.le_of_ble_eq_true rfl) (⟨rfl, w, rfl, ⟨_, _, _, hp⟩⟩) dL_averageDiscount_17
set_option maxHeartbeats 4000000 in
set_option maxRecDepth 100000 in
theorem h_averageDiscount {l : Launch} {K : Ks} {A : Nat → Prop} {ad bad : Nat → Nat} {td : Int32} {n : Nat} {M : Nat → Nat → Int32} {w : va_W} (hE : DkE K ad bad td n M w) {o : Nat} {g : Nat → UInt64} {b : Nat} (hx4 : b < 4) (hz : ¬ adA M b n = 0) : Met l yL_averageDiscount wsL_averageDiscount (kR 5 0 0) (kPr K A [.ref (ad 0), .int (nI b), .ref o] (w ++ [(o, oD K g)])) (kQi K A (fun r w1 => r = 0 ∧ ∃ (w2 : va_W) (g1 : Nat → UInt64), w1 = w2 ++ [(o, oD K g1)] ∧ g1 0 = FP.f2d (FP.fdiv (FP.i2f (adS M b n)) (FP.i2f (adA M b n))) ∧ DkE K ad bad td n M w2)) 0 0 A := by
  obtain ⟨rm, k, idx, hDk⟩ := hE
  refine kentH (cc := cL_averageDiscount) (maxL := 4) (ret := some .int) (hh := [(0, 9, 12, 13), (0, 9, 15, 25)]) (by decide) rfl (Nat.le_of_ble_eq_true rfl) ?_
  intro p e s m args below meth c ls hx hb hr hts hown hlocks hml hxt hG hP hD hS hl
  have hl : lv_has ls 4 [(0, .ref (ad 0)), (1, .int (nI b)), (2, .ref o)] := hl
  refine lv_aload_n hx hb dL_averageDiscount_0 rfl (lv_at hl 2 rfl) ?_
  refine lv_iconst (v := 0) hx hb dL_averageDiscount_1 (by decide) ?_
  refine lv_aload_n hx hb dL_averageDiscount_2 rfl (lv_at hl 0 rfl) ?_
  refine lv_iload_n hx hb dL_averageDiscount_3 rfl (lv_at hl 1 rfl) ?_
  refine kf_f (W2 := [(o, oD K g)])  (va_runV (As := [.int (nI b)]) (rest := [.int 0, .ref o]) ⟨hx, hb, hml, hown, hts⟩ (c_X1_averageDiscount hDk hx4 hz) (cwV 1 hts gL_averageDiscount_X1_averageDiscount rfl rfl rfl (by decide +kernel) ⟨(Nat.le_of_ble_eq_true rfl), (Nat.le_of_ble_eq_true rfl)⟩) (lpv (q0 := 0) hG hP hD hS hDk.x rfl) rfl rfl hl.1 rfl (lv_room (Nat.le_of_ble_eq_true rfl)) dL_averageDiscount_4 ⟨(Nat.le_of_ble_eq_true rfl), (Nat.le_of_ble_eq_true rfl)⟩) hS hP hD (fun r w H locs hp hP hD hS => ?_)
  obtain ⟨hp1, hDk⟩ := hp
  rw [hp1]
  refine lv_f2d hx hb dL_averageDiscount_7 (fd64 hz) ?_
  refine kdast hx hb hG hP hD hS dL_averageDiscount_8 (fun g1 H locs hg hP hD hS => ?_)
  refine lv_goto (tgt := 18) hx hb dL_averageDiscount_9 (by decide) ?_
  refine lv_iconst (v := 0) hx hb dL_averageDiscount_18 (by decide) ?_
  exact kr_i hx hb hr hlocks hP hD hS (Nat.le_of_ble_eq_true rfl) (Nat.le_of_ble_eq_true rfl) (⟨rfl, w, g1, rfl, hg, _, _, _, hDk⟩) dL_averageDiscount_19
set_option maxHeartbeats 4000000 in
set_option maxRecDepth 100000 in
theorem h_pass_tr {l : Launch} {K : Ks} {A : Nat → Prop} {ad bad : Nat → Nat} {td : Int32} {n : Nat} {M : Nat → Nat → Int32} {w : va_W} (hE : DkE K ad bad td n M w) {o : Nat} {g : Nat → Int64} (hlt : l.stackTraces = false) {y : Int32} (hy : ¬ inR 1 400 y) : Met l yL_pass wsL_pass (kR 6 1 6) (kPr K A [.ref (ad 0), .int y, .ref o] (w ++ [(o, oJ K g)])) (kQi K A (fun r w1 => r = 1 ∧ ∃ w2 : va_W, w1 = w2 ++ [(o, oJ K g)] ∧ DkE K ad bad td n M w2)) 1 6 A := by
  obtain ⟨rm, k, idx, hDk⟩ := hE
  refine kentH (cc := cL_pass) (maxL := 4) (ret := some .int) (hh := [(0, 9, 12, 15)]) (by decide) rfl (Nat.le_of_ble_eq_true rfl) ?_
  intro p e s m args below meth c ls hx hb hr hts hown hlocks hml hxt hG hP hD hS hl
  have hl : lv_has ls 4 [(0, .ref (ad 0)), (1, .int y), (2, .ref o)] := hl
  refine lv_aload_n hx hb dL_pass_0 rfl (lv_at hl 2 rfl) ?_
  refine lv_iconst (v := 0) hx hb dL_pass_1 (by decide) ?_
  refine lv_aload_n hx hb dL_pass_2 rfl (lv_at hl 0 rfl) ?_
  refine lv_iload_n hx hb dL_pass_3 rfl (lv_at hl 1 rfl) ?_
  refine kf_t (W2 := [(o, oJ K g)])  (vx_runV (As := [.int y]) (rest := [.int 0, .ref o]) ⟨hx, hb, hml, hown, hts⟩ (c_X1_pass_tr hDk hlt hy) (cwV 1 hts gL_pass_X1_pass rfl rfl rfl (by decide +kernel) ⟨(Nat.le_of_ble_eq_true rfl), (Nat.le_of_ble_eq_true rfl)⟩) (lpv (q0 := 0) hG hP hD hS hDk.x rfl) rfl rfl hl.1 rfl (lv_room (Nat.le_of_ble_eq_true rfl)) dL_pass_4 ⟨(Nat.le_of_ble_eq_true rfl), (Nat.le_of_ble_eq_true rfl)⟩) hS hP hD (fun ce q9 w H locs hp hP hD hS hce hcv hcl => ?_)
  refine vx_catch (own := RL) (name := IAE) (E := IAE) hown [] ⟨0, 9, 12, 15⟩ [] (hxt.trans rfl) (fun z hz => absurd hz (by simp)) rfl (by decide) (hts (.classLink RL 15 IAE) (by decide +kernel)) (va_Nw.use rfl hG.2.2.2.2.2.2.1) hce hcv hcl ?_
  refine lv_astore_n (lv' := [(3, .ref q9), (0, .ref (ad 0)), (1, .int y), (2, .ref o)]) hx hb dL_pass_12 rfl hl (by decide) rfl (fun ls hl => ?_)
  refine lv_iconst (v := 1) hx hb dL_pass_13 (by decide) ?_
  exact kr_i hx hb hr hlocks hP hD hS (Nat.le_of_ble_eq_true rfl) (Nat.le_of_ble_eq_true rfl) (⟨rfl, w, rfl, ⟨_, _, _, hp⟩⟩) dL_pass_14
set_option maxHeartbeats 4000000 in
set_option maxRecDepth 100000 in
theorem h_pass {l : Launch} {K : Ks} {A : Nat → Prop} {ad bad : Nat → Nat} {td : Int32} {n : Nat} {M : Nat → Nat → Int32} {w : va_W} (hE : DkE K ad bad td n M w) {o : Nat} {g : Nat → Int64} {D : Nat} (hD4 : D ≤ 400) (hy : inR 1 400 (nI D)) (hok : ∀ j, j < n → okP M j) : Met l yL_pass wsL_pass (kR 6 0 0) (kPr K A [.ref (ad 0), .int (nI D), .ref o] (w ++ [(o, oJ K g)])) (kQi K A (fun r w1 => r = 0 ∧ ∃ (w2 : va_W) (g1 : Nat → Int64), w1 = w2 ++ [(o, oJ K g1)] ∧ g1 0 = ((nI (psC td n M D))).toInt64 ∧ DkE K ad bad (td + nI D) n (psM td n M D) w2)) 0 0 A := by
  obtain ⟨rm, k, idx, hDk⟩ := hE
  refine kentH (cc := cL_pass) (maxL := 4) (ret := some .int) (hh := [(0, 9, 12, 15)]) (by decide) rfl (Nat.le_of_ble_eq_true rfl) ?_
  intro p e s m args below meth c ls hx hb hr hts hown hlocks hml hxt hG hP hD hS hl
  have hl : lv_has ls 4 [(0, .ref (ad 0)), (1, .int (nI D)), (2, .ref o)] := hl
  refine lv_aload_n hx hb dL_pass_0 rfl (lv_at hl 2 rfl) ?_
  refine lv_iconst (v := 0) hx hb dL_pass_1 (by decide) ?_
  refine lv_aload_n hx hb dL_pass_2 rfl (lv_at hl 0 rfl) ?_
  refine lv_iload_n hx hb dL_pass_3 rfl (lv_at hl 1 rfl) ?_
  refine kf_i (W2 := [(o, oJ K g)])  (va_runV (As := [.int (nI D)]) (rest := [.int 0, .ref o]) ⟨hx, hb, hml, hown, hts⟩ (c_X1_pass hDk hD4 hy hok) (cwV 1 hts gL_pass_X1_pass rfl rfl rfl (by decide +kernel) ⟨(Nat.le_of_ble_eq_true rfl), (Nat.le_of_ble_eq_true rfl)⟩) (lpv (q0 := 0) hG hP hD hS hDk.x rfl) rfl rfl hl.1 rfl (lv_room (Nat.le_of_ble_eq_true rfl)) dL_pass_4 ⟨(Nat.le_of_ble_eq_true rfl), (Nat.le_of_ble_eq_true rfl)⟩) hS hP hD (fun r w H locs hp hP hD hS => ?_)
  obtain ⟨hp1, hDk⟩ := hp
  rw [hp1]
  refine lv_i2l (v := ((nI (psC td n M D)) : Int32).toInt64) hx hb dL_pass_7 rfl ?_
  refine kjast hx hb hG hP hD hS dL_pass_8 (fun g1 H locs hg hP hD hS => ?_)
  refine lv_goto (tgt := 15) hx hb dL_pass_9 (by decide) ?_
  refine lv_iconst (v := 0) hx hb dL_pass_15 (by decide) ?_
  exact kr_i hx hb hr hlocks hP hD hS (Nat.le_of_ble_eq_true rfl) (Nat.le_of_ble_eq_true rfl) (⟨rfl, w, g1, rfl, hg, _, _, _, hDk⟩) dL_pass_16
