/-! The law's helpers: one call of the class each -/
/-- the desk, wherever its bills lie and whatever its work space holds -/
def DE (K : Ks) (ad : Nat → Nat) (td : Int32) (n : Nat) (M : Nat → Nat → Int32) (w : va_W) : Prop := ∃ (bad : Nat → Nat) (rm : Nat → Int32) (k : Nat) (idx : Nat → Nat), Dk K ad bad td n M rm k idx w
set_option maxHeartbeats 4000000 in
set_option maxRecDepth 100000 in
theorem h_dis_tb {l : Launch} {K : Ks} {A : Nat → Prop} {ad : Nat → Nat} {td : Int32} {n : Nat} {M : Nat → Nat → Int32} {w : va_W} (hE : DE K ad td n M w) (hlt : l.stackTraces = false) {x : Int32} (hix : ixBad n x) : vx_Met l yL_disputes wsL_disputes (kR 5 1 6) (kPr K A [.ref (ad 0), .int x] (w)) kNo (kX K A IOB (fun w1 => DE K ad td n M w1)) 1 6 A := by
  obtain ⟨bad, rm, k, idx, hDk⟩ := hE
  refine kentT (cc := cL_disputes) (maxL := 2) (ret := (some .int)) (by decide) rfl (Nat.le_of_ble_eq_true rfl) ?_
  intro p e s m args below meth c ls hx hb hr hts hown hlocks hml hxt hG hP hD hS hl
  have hl : lv_has ls 2 [(0, .ref (ad 0)), (1, .int x)] := hl
  refine lv_aload_n hx hb dL_disputes_0 rfl (lv_at hl 0 rfl) ?_
  refine lv_iload_n hx hb dL_disputes_1 rfl (lv_at hl 1 rfl) ?_
  refine kc_t (vx_runV (As := [.int x]) (rest := []) ⟨hx, hb, hml, hown, hts⟩ (c_X1_dispute_tb hDk hlt hix) (cwV 1 hts gL_disputes_X1_dispute rfl rfl rfl (by decide +kernel) ⟨(Nat.le_of_ble_eq_true rfl), (Nat.le_of_ble_eq_true rfl)⟩) (kpv (q0 := 0) hG hP hD hS hDk.x rfl) rfl rfl hl.1 rfl (lv_room (Nat.le_of_ble_eq_true rfl)) dL_disputes_2 ⟨(Nat.le_of_ble_eq_true rfl), (Nat.le_of_ble_eq_true rfl)⟩) hS (fun ce q9 w H locs hp hP hD hS hce hcv hcl => ?_)
  exact kr_t hxt hlocks hP hD hS hce hcv hcl (Nat.le_of_ble_eq_true rfl) (Nat.le_of_ble_eq_true rfl) ⟨_, _, _, _, hp⟩
set_option maxHeartbeats 4000000 in
set_option maxRecDepth 100000 in
theorem h_dis_tp {l : Launch} {K : Ks} {A : Nat → Prop} {ad : Nat → Nat} {td : Int32} {n : Nat} {M : Nat → Nat → Int32} {w : va_W} (hE : DE K ad td n M w) (hlt : l.stackTraces = false) {i : Nat} (hi : i < n) (hst : ¬ (M 6 i = 0 ∨ M 6 i = 1)) : vx_Met l yL_disputes wsL_disputes (kR 5 1 6) (kPr K A [.ref (ad 0), .int (nI i)] (w)) kNo (kX K A ISE (fun w1 => DE K ad td n M w1)) 1 6 A := by
  obtain ⟨bad, rm, k, idx, hDk⟩ := hE
  refine kentT (cc := cL_disputes) (maxL := 2) (ret := (some .int)) (by decide) rfl (Nat.le_of_ble_eq_true rfl) ?_
  intro p e s m args below meth c ls hx hb hr hts hown hlocks hml hxt hG hP hD hS hl
  have hl : lv_has ls 2 [(0, .ref (ad 0)), (1, .int (nI i))] := hl
  refine lv_aload_n hx hb dL_disputes_0 rfl (lv_at hl 0 rfl) ?_
  refine lv_iload_n hx hb dL_disputes_1 rfl (lv_at hl 1 rfl) ?_
  refine kc_t (vx_runV (As := [.int (nI i)]) (rest := []) ⟨hx, hb, hml, hown, hts⟩ (c_X1_dispute_tp hDk hlt hi hst) (cwV 1 hts gL_disputes_X1_dispute rfl rfl rfl (by decide +kernel) ⟨(Nat.le_of_ble_eq_true rfl), (Nat.le_of_ble_eq_true rfl)⟩) (kpv (q0 := 0) hG hP hD hS hDk.x rfl) rfl rfl hl.1 rfl (lv_room (Nat.le_of_ble_eq_true rfl)) dL_disputes_2 ⟨(Nat.le_of_ble_eq_true rfl), (Nat.le_of_ble_eq_true rfl)⟩) hS (fun ce q9 w H locs hp hP hD hS hce hcv hcl => ?_)
  exact kr_t hxt hlocks hP hD hS hce hcv hcl (Nat.le_of_ble_eq_true rfl) (Nat.le_of_ble_eq_true rfl) ⟨_, _, _, _, hp⟩
set_option maxHeartbeats 4000000 in
set_option maxRecDepth 100000 in
theorem h_dis {l : Launch} {K : Ks} {A : Nat → Prop} {ad : Nat → Nat} {td : Int32} {n : Nat} {M : Nat → Nat → Int32} {w : va_W} (hE : DE K ad td n M w) {i : Nat} (hi : i < n) (hst : M 6 i = 0 ∨ M 6 i = 1) : Met l yL_disputes wsL_disputes (kR 5 0 0) (kPr K A [.ref (ad 0), .int (nI i)] (w)) (kQi K A (fun r w1 => r = 0 ∧ DE K ad td n (up2 (up2 M 6 i 2) 7 i (-1)) w1)) 0 0 A := by
  obtain ⟨bad, rm, k, idx, hDk⟩ := hE
  refine kent (cc := cL_disputes) (maxL := 2) (ret := (some .int)) (by decide) rfl (Nat.le_of_ble_eq_true rfl) ?_
  intro p e s m args below meth c ls hx hb hr hts hown hlocks hml hini hG hP hD hS hl
  have hl : lv_has ls 2 [(0, .ref (ad 0)), (1, .int (nI i))] := hl
  refine lv_aload_n hx hb dL_disputes_0 rfl (lv_at hl 0 rfl) ?_
  refine lv_iload_n hx hb dL_disputes_1 rfl (lv_at hl 1 rfl) ?_
  refine kc_v (va_runV (As := [.int (nI i)]) (rest := []) ⟨hx, hb, hml, hown, hts⟩ (c_X1_dispute hDk hi hst) (cwV 1 hts gL_disputes_X1_dispute rfl rfl rfl (by decide +kernel) ⟨(Nat.le_of_ble_eq_true rfl), (Nat.le_of_ble_eq_true rfl)⟩) (kpv (q0 := 0) hG hP hD hS hDk.x rfl) rfl rfl hl.1 rfl (lv_room (Nat.le_of_ble_eq_true rfl)) dL_disputes_2 ⟨(Nat.le_of_ble_eq_true rfl), (Nat.le_of_ble_eq_true rfl)⟩) hS (fun w H locs hDk hP hD hS => ?_)
  refine lv_iconst (v := 0) hx hb dL_disputes_5 (by decide) ?_
  exact kr_i hx hb hr hlocks hP hD hS (Nat.le_of_ble_eq_true rfl) (Nat.le_of_ble_eq_true rfl) ⟨rfl, _, _, _, _, hDk⟩ dL_disputes_6
set_option maxHeartbeats 4000000 in
set_option maxRecDepth 100000 in
theorem h_setBudget_tb {l : Launch} {K : Ks} {A : Nat → Prop} {ad : Nat → Nat} {td : Int32} {n : Nat} {M : Nat → Nat → Int32} {w : va_W} (hE : DE K ad td n M w) (hlt : l.stackTraces = false) {x : Int32} (hx4 : ixBad 4 x) {y : Int32} {c3 : Int32} {c4 : Int32} : Met l yL_does wsL_does (kR 6 1 6) (kPr K A [.ref (ad 0), .int 0, .int x, .int y, .int c3, .int c4] w) (kQi K A (fun r w1 => r = (-30) ∧ DE K ad td n M w1)) 1 6 A := by
  obtain ⟨bad, rm, k, idx, hDk⟩ := hE
  refine kentH (cc := cL_does) (maxL := 7) (ret := some .int) (hh := [(0, 129, 130, 49), (0, 129, 135, 51), (0, 129, 140, 53)]) (by decide) rfl (Nat.le_of_ble_eq_true rfl) ?_
  intro p e s m args below meth c ls hx hb hr hts hown hlocks hml hxt hG hP hD hS hl
  have hl : lv_has ls 7 [(0, .ref (ad 0)), (1, .int 0), (2, .int x), (3, .int y), (4, .int c3), (5, .int c4)] := hl
  refine lv_iload_n hx hb dL_does_0 rfl (lv_at hl 1 rfl) ?_
  refine lv_if_ne (tgt := 13) hx hb dL_does_1 (by decide) (fun h1 => False.elim (absurd (by decide) h1)) (fun h1 => ?_)
  refine lv_aload_n hx hb dL_does_4 rfl (lv_at hl 0 rfl) ?_
  refine lv_iload_n hx hb dL_does_5 rfl (lv_at hl 2 rfl) ?_
  refine lv_iload_n hx hb dL_does_6 rfl (lv_at hl 3 rfl) ?_
  refine kc_t (vx_runV (As := [.int x, .int y]) (rest := []) ⟨hx, hb, hml, hown, hts⟩ (c_X1_setBudget_tb hDk hlt hx4) (cwV 2 hts gL_does_X1_setBudget rfl rfl rfl (by decide +kernel) ⟨(Nat.le_of_ble_eq_true rfl), (Nat.le_of_ble_eq_true rfl)⟩) (kpv (q0 := 0) hG hP hD hS hDk.x rfl) rfl rfl hl.1 rfl (lv_room (Nat.le_of_ble_eq_true rfl)) dL_does_7 ⟨(Nat.le_of_ble_eq_true rfl), (Nat.le_of_ble_eq_true rfl)⟩) hS (fun ce q9 w H locs hp hP hD hS hce hcv hcl => ?_)
  refine vx_catch (own := RL) (name := IOB) (E := IOB) hown [] ⟨0, 129, 130, 49⟩ [⟨0, 129, 135, 51⟩, ⟨0, 129, 140, 53⟩] (hxt.trans rfl) (fun z hz => absurd hz (by simp)) rfl (by decide) (hts (.classLink RL 49 IOB) (by decide +kernel)) (va_Nw.use rfl hG.2.2.2.2.2.1) hce hcv hcl ?_
  refine lv_astore (lv' := [(6, .ref q9), (0, .ref (ad 0)), (1, .int 0), (2, .int x), (3, .int y), (4, .int c3), (5, .int c4)]) hx hb dL_does_130 hl (by decide) rfl (fun ls hl => ?_)
  refine lv_bipush (v := (-30)) hx hb dL_does_132 (by decide) ?_
  exact kr_i hx hb hr hlocks hP hD hS (Nat.le_of_ble_eq_true rfl) (Nat.le_of_ble_eq_true rfl) (⟨rfl, ⟨_, _, _, _, hp⟩⟩) dL_does_134
set_option maxHeartbeats 4000000 in
set_option maxRecDepth 100000 in
theorem h_setBudget_tr {l : Launch} {K : Ks} {A : Nat → Prop} {ad : Nat → Nat} {td : Int32} {n : Nat} {M : Nat → Nat → Int32} {w : va_W} (hE : DE K ad td n M w) (hlt : l.stackTraces = false) {b : Nat} (hx4 : b < 4) {y : Int32} (hy : ¬ inR 0 100000000 y) {c3 : Int32} {c4 : Int32} : Met l yL_does wsL_does (kR 6 1 6) (kPr K A [.ref (ad 0), .int 0, .int (nI b), .int y, .int c3, .int c4] w) (kQi K A (fun r w1 => r = (-20) ∧ DE K ad td n M w1)) 1 6 A := by
  obtain ⟨bad, rm, k, idx, hDk⟩ := hE
  refine kentH (cc := cL_does) (maxL := 7) (ret := some .int) (hh := [(0, 129, 130, 49), (0, 129, 135, 51), (0, 129, 140, 53)]) (by decide) rfl (Nat.le_of_ble_eq_true rfl) ?_
  intro p e s m args below meth c ls hx hb hr hts hown hlocks hml hxt hG hP hD hS hl
  have hl : lv_has ls 7 [(0, .ref (ad 0)), (1, .int 0), (2, .int (nI b)), (3, .int y), (4, .int c3), (5, .int c4)] := hl
  refine lv_iload_n hx hb dL_does_0 rfl (lv_at hl 1 rfl) ?_
  refine lv_if_ne (tgt := 13) hx hb dL_does_1 (by decide) (fun h1 => False.elim (absurd (by decide) h1)) (fun h1 => ?_)
  refine lv_aload_n hx hb dL_does_4 rfl (lv_at hl 0 rfl) ?_
  refine lv_iload_n hx hb dL_does_5 rfl (lv_at hl 2 rfl) ?_
  refine lv_iload_n hx hb dL_does_6 rfl (lv_at hl 3 rfl) ?_
  refine kc_t (vx_runV (As := [.int (nI b), .int y]) (rest := []) ⟨hx, hb, hml, hown, hts⟩ (c_X1_setBudget_tr hDk hlt hx4 hy) (cwV 2 hts gL_does_X1_setBudget rfl rfl rfl (by decide +kernel) ⟨(Nat.le_of_ble_eq_true rfl), (Nat.le_of_ble_eq_true rfl)⟩) (kpv (q0 := 0) hG hP hD hS hDk.x rfl) rfl rfl hl.1 rfl (lv_room (Nat.le_of_ble_eq_true rfl)) dL_does_7 ⟨(Nat.le_of_ble_eq_true rfl), (Nat.le_of_ble_eq_true rfl)⟩) hS (fun ce q9 w H locs hp hP hD hS hce hcv hcl => ?_)
  refine vx_catch (own := RL) (name := IAE) (E := IAE) hown [⟨0, 129, 130, 49⟩] ⟨0, 129, 135, 51⟩ [⟨0, 129, 140, 53⟩] (hxt.trans rfl) (fun z hz => by rw [List.mem_singleton.mp hz]; exact Or.inr ⟨by decide, IOB, hts (.classLink RL 49 IOB) (by decide +kernel), hG.2.2.2.2.2.2.2.1.2.2.2.2.1⟩) rfl (by decide) (hts (.classLink RL 51 IAE) (by decide +kernel)) (va_Nw.use rfl hG.2.2.2.2.2.2.1) hce hcv hcl ?_
  refine lv_astore (lv' := [(6, .ref q9), (0, .ref (ad 0)), (1, .int 0), (2, .int (nI b)), (3, .int y), (4, .int c3), (5, .int c4)]) hx hb dL_does_135 hl (by decide) rfl (fun ls hl => ?_)
  refine lv_bipush (v := (-20)) hx hb dL_does_137 (by decide) ?_
  exact kr_i hx hb hr hlocks hP hD hS (Nat.le_of_ble_eq_true rfl) (Nat.le_of_ble_eq_true rfl) (⟨rfl, ⟨_, _, _, _, hp⟩⟩) dL_does_139
set_option maxHeartbeats 4000000 in
set_option maxRecDepth 100000 in
theorem h_setBudget {l : Launch} {K : Ks} {A : Nat → Prop} {ad : Nat → Nat} {td : Int32} {n : Nat} {M : Nat → Nat → Int32} {w : va_W} (hE : DE K ad td n M w) {b : Nat} (hx4 : b < 4) {y : Int32} (hy : inR 0 100000000 y) {c3 : Int32} {c4 : Int32} : Met l yL_does wsL_does (kR 6 0 0) (kPr K A [.ref (ad 0), .int 0, .int (nI b), .int y, .int c3, .int c4] w) (kQi K A (fun r w1 => r = M 11 b ∧ DE K ad td n (up2 M 11 b y) w1)) 0 0 A := by
  obtain ⟨bad, rm, k, idx, hDk⟩ := hE
  refine kentH (cc := cL_does) (maxL := 7) (ret := some .int) (hh := [(0, 129, 130, 49), (0, 129, 135, 51), (0, 129, 140, 53)]) (by decide) rfl (Nat.le_of_ble_eq_true rfl) ?_
  intro p e s m args below meth c ls hx hb hr hts hown hlocks hml hxt hG hP hD hS hl
  have hl : lv_has ls 7 [(0, .ref (ad 0)), (1, .int 0), (2, .int (nI b)), (3, .int y), (4, .int c3), (5, .int c4)] := hl
  refine lv_iload_n hx hb dL_does_0 rfl (lv_at hl 1 rfl) ?_
  refine lv_if_ne (tgt := 13) hx hb dL_does_1 (by decide) (fun h1 => False.elim (absurd (by decide) h1)) (fun h1 => ?_)
  refine lv_aload_n hx hb dL_does_4 rfl (lv_at hl 0 rfl) ?_
  refine lv_iload_n hx hb dL_does_5 rfl (lv_at hl 2 rfl) ?_
  refine lv_iload_n hx hb dL_does_6 rfl (lv_at hl 3 rfl) ?_
  refine kc_i (va_runV (As := [.int (nI b), .int y]) (rest := []) ⟨hx, hb, hml, hown, hts⟩ (c_X1_setBudget hDk hx4 hy) (cwV 2 hts gL_does_X1_setBudget rfl rfl rfl (by decide +kernel) ⟨(Nat.le_of_ble_eq_true rfl), (Nat.le_of_ble_eq_true rfl)⟩) (kpv (q0 := 0) hG hP hD hS hDk.x rfl) rfl rfl hl.1 rfl (lv_room (Nat.le_of_ble_eq_true rfl)) dL_does_7 ⟨(Nat.le_of_ble_eq_true rfl), (Nat.le_of_ble_eq_true rfl)⟩) hS (fun r w H locs hp hP hD hS => ?_)
  obtain ⟨hp1, hDk⟩ := hp
  refine lv_goto (tgt := 129) hx hb dL_does_10 (by decide) ?_
  exact kr_i hx hb hr hlocks hP hD hS (Nat.le_of_ble_eq_true rfl) (Nat.le_of_ble_eq_true rfl) (⟨hp1, _, _, _, _, hDk⟩) dL_does_129
set_option maxHeartbeats 4000000 in
set_option maxRecDepth 100000 in
theorem h_setLimit_tb {l : Launch} {K : Ks} {A : Nat → Prop} {ad : Nat → Nat} {td : Int32} {n : Nat} {M : Nat → Nat → Int32} {w : va_W} (hE : DE K ad td n M w) (hlt : l.stackTraces = false) {x y z : Int32} (hx4 : ixBad 4 x) {c4 : Int32} : Met l yL_does wsL_does (kR 6 1 6) (kPr K A [.ref (ad 0), .int 1, .int x, .int y, .int z, .int c4] w) (kQi K A (fun r w1 => r = (-30) ∧ DE K ad td n M w1)) 1 6 A := by
  obtain ⟨bad, rm, k, idx, hDk⟩ := hE
  refine kentH (cc := cL_does) (maxL := 7) (ret := some .int) (hh := [(0, 129, 130, 49), (0, 129, 135, 51), (0, 129, 140, 53)]) (by decide) rfl (Nat.le_of_ble_eq_true rfl) ?_
  intro p e s m args below meth c ls hx hb hr hts hown hlocks hml hxt hG hP hD hS hl
  have hl : lv_has ls 7 [(0, .ref (ad 0)), (1, .int 1), (2, .int x), (3, .int y), (4, .int z), (5, .int c4)] := hl
  refine lv_iload_n hx hb dL_does_0 rfl (lv_at hl 1 rfl) ?_
  refine lv_if_ne (tgt := 13) hx hb dL_does_1 (by decide) (fun h1 => ?_) (fun h1 => False.elim (absurd h1 (by decide)))
  refine lv_iload_n hx hb dL_does_13 rfl (lv_at hl 1 rfl) ?_
  refine lv_iconst (v := 1) hx hb dL_does_14 (by decide) ?_
  refine lv_icmp_ne (tgt := 29) hx hb dL_does_15 (by decide) (fun h15 => False.elim (absurd (by decide) h15)) (fun h15 => ?_)
  refine lv_aload_n hx hb dL_does_18 rfl (lv_at hl 0 rfl) ?_
  refine lv_iload_n hx hb dL_does_19 rfl (lv_at hl 2 rfl) ?_
  refine lv_iload_n hx hb dL_does_20 rfl (lv_at hl 3 rfl) ?_
  refine lv_iload hx hb dL_does_21 (lv_at hl 4 rfl) ?_
  refine kc_t (vx_runV (As := [.int x, .int y, .int z]) (rest := []) ⟨hx, hb, hml, hown, hts⟩ (c_X1_setLimit_tb hDk hlt hx4) (cwV 3 hts gL_does_X1_setLimit rfl rfl rfl (by decide +kernel) ⟨(Nat.le_of_ble_eq_true rfl), (Nat.le_of_ble_eq_true rfl)⟩) (kpv (q0 := 0) hG hP hD hS hDk.x rfl) rfl rfl hl.1 rfl (lv_room (Nat.le_of_ble_eq_true rfl)) dL_does_23 ⟨(Nat.le_of_ble_eq_true rfl), (Nat.le_of_ble_eq_true rfl)⟩) hS (fun ce q9 w H locs hp hP hD hS hce hcv hcl => ?_)
  refine vx_catch (own := RL) (name := IOB) (E := IOB) hown [] ⟨0, 129, 130, 49⟩ [⟨0, 129, 135, 51⟩, ⟨0, 129, 140, 53⟩] (hxt.trans rfl) (fun z hz => absurd hz (by simp)) rfl (by decide) (hts (.classLink RL 49 IOB) (by decide +kernel)) (va_Nw.use rfl hG.2.2.2.2.2.1) hce hcv hcl ?_
  refine lv_astore (lv' := [(6, .ref q9), (0, .ref (ad 0)), (1, .int 1), (2, .int x), (3, .int y), (4, .int z), (5, .int c4)]) hx hb dL_does_130 hl (by decide) rfl (fun ls hl => ?_)
  refine lv_bipush (v := (-30)) hx hb dL_does_132 (by decide) ?_
  exact kr_i hx hb hr hlocks hP hD hS (Nat.le_of_ble_eq_true rfl) (Nat.le_of_ble_eq_true rfl) (⟨rfl, ⟨_, _, _, _, hp⟩⟩) dL_does_134
set_option maxHeartbeats 4000000 in
set_option maxRecDepth 100000 in
theorem h_setLimit_tr {l : Launch} {K : Ks} {A : Nat → Prop} {ad : Nat → Nat} {td : Int32} {n : Nat} {M : Nat → Nat → Int32} {w : va_W} (hE : DE K ad td n M w) (hlt : l.stackTraces = false) {b u : Nat} (hx4 : b < 4) (hx8 : u < 8) {z : Int32} (hy : ¬ inR 0 100000000 z) {c4 : Int32} : Met l yL_does wsL_does (kR 6 1 6) (kPr K A [.ref (ad 0), .int 1, .int (nI b), .int (nI u), .int z, .int c4] w) (kQi K A (fun r w1 => r = (-20) ∧ DE K ad td n M w1)) 1 6 A := by
  obtain ⟨bad, rm, k, idx, hDk⟩ := hE
  refine kentH (cc := cL_does) (maxL := 7) (ret := some .int) (hh := [(0, 129, 130, 49), (0, 129, 135, 51), (0, 129, 140, 53)]) (by decide) rfl (Nat.le_of_ble_eq_true rfl) ?_
  intro p e s m args below meth c ls hx hb hr hts hown hlocks hml hxt hG hP hD hS hl
  have hl : lv_has ls 7 [(0, .ref (ad 0)), (1, .int 1), (2, .int (nI b)), (3, .int (nI u)), (4, .int z), (5, .int c4)] := hl
  refine lv_iload_n hx hb dL_does_0 rfl (lv_at hl 1 rfl) ?_
  refine lv_if_ne (tgt := 13) hx hb dL_does_1 (by decide) (fun h1 => ?_) (fun h1 => False.elim (absurd h1 (by decide)))
  refine lv_iload_n hx hb dL_does_13 rfl (lv_at hl 1 rfl) ?_
  refine lv_iconst (v := 1) hx hb dL_does_14 (by decide) ?_
  refine lv_icmp_ne (tgt := 29) hx hb dL_does_15 (by decide) (fun h15 => False.elim (absurd (by decide) h15)) (fun h15 => ?_)
  refine lv_aload_n hx hb dL_does_18 rfl (lv_at hl 0 rfl) ?_
  refine lv_iload_n hx hb dL_does_19 rfl (lv_at hl 2 rfl) ?_
  refine lv_iload_n hx hb dL_does_20 rfl (lv_at hl 3 rfl) ?_
  refine lv_iload hx hb dL_does_21 (lv_at hl 4 rfl) ?_
  refine kc_t (vx_runV (As := [.int (nI b), .int (nI u), .int z]) (rest := []) ⟨hx, hb, hml, hown, hts⟩ (c_X1_setLimit_tr hDk hlt hx4 hx8 hy) (cwV 3 hts gL_does_X1_setLimit rfl rfl rfl (by decide +kernel) ⟨(Nat.le_of_ble_eq_true rfl), (Nat.le_of_ble_eq_true rfl)⟩) (kpv (q0 := 0) hG hP hD hS hDk.x rfl) rfl rfl hl.1 rfl (lv_room (Nat.le_of_ble_eq_true rfl)) dL_does_23 ⟨(Nat.le_of_ble_eq_true rfl), (Nat.le_of_ble_eq_true rfl)⟩) hS (fun ce q9 w H locs hp hP hD hS hce hcv hcl => ?_)
  refine vx_catch (own := RL) (name := IAE) (E := IAE) hown [⟨0, 129, 130, 49⟩] ⟨0, 129, 135, 51⟩ [⟨0, 129, 140, 53⟩] (hxt.trans rfl) (fun z hz => by rw [List.mem_singleton.mp hz]; exact Or.inr ⟨by decide, IOB, hts (.classLink RL 49 IOB) (by decide +kernel), hG.2.2.2.2.2.2.2.1.2.2.2.2.1⟩) rfl (by decide) (hts (.classLink RL 51 IAE) (by decide +kernel)) (va_Nw.use rfl hG.2.2.2.2.2.2.1) hce hcv hcl ?_
  refine lv_astore (lv' := [(6, .ref q9), (0, .ref (ad 0)), (1, .int 1), (2, .int (nI b)), (3, .int (nI u)), (4, .int z), (5, .int c4)]) hx hb dL_does_135 hl (by decide) rfl (fun ls hl => ?_)
  refine lv_bipush (v := (-20)) hx hb dL_does_137 (by decide) ?_
  exact kr_i hx hb hr hlocks hP hD hS (Nat.le_of_ble_eq_true rfl) (Nat.le_of_ble_eq_true rfl) (⟨rfl, ⟨_, _, _, _, hp⟩⟩) dL_does_139
set_option maxHeartbeats 4000000 in
set_option maxRecDepth 100000 in
theorem h_setLimit {l : Launch} {K : Ks} {A : Nat → Prop} {ad : Nat → Nat} {td : Int32} {n : Nat} {M : Nat → Nat → Int32} {w : va_W} (hE : DE K ad td n M w) {b u : Nat} (hx4 : b < 4) (hx8 : u < 8) {z : Int32} (hy : inR 0 100000000 z) {c4 : Int32} : Met l yL_does wsL_does (kR 6 0 0) (kPr K A [.ref (ad 0), .int 1, .int (nI b), .int (nI u), .int z, .int c4] w) (kQi K A (fun r w1 => r = M 12 (8 * b + u) ∧ DE K ad td n (up2 M 12 (8 * b + u) z) w1)) 0 0 A := by
  obtain ⟨bad, rm, k, idx, hDk⟩ := hE
  refine kentH (cc := cL_does) (maxL := 7) (ret := some .int) (hh := [(0, 129, 130, 49), (0, 129, 135, 51), (0, 129, 140, 53)]) (by decide) rfl (Nat.le_of_ble_eq_true rfl) ?_
  intro p e s m args below meth c ls hx hb hr hts hown hlocks hml hxt hG hP hD hS hl
  have hl : lv_has ls 7 [(0, .ref (ad 0)), (1, .int 1), (2, .int (nI b)), (3, .int (nI u)), (4, .int z), (5, .int c4)] := hl
  refine lv_iload_n hx hb dL_does_0 rfl (lv_at hl 1 rfl) ?_
  refine lv_if_ne (tgt := 13) hx hb dL_does_1 (by decide) (fun h1 => ?_) (fun h1 => False.elim (absurd h1 (by decide)))
  refine lv_iload_n hx hb dL_does_13 rfl (lv_at hl 1 rfl) ?_
  refine lv_iconst (v := 1) hx hb dL_does_14 (by decide) ?_
  refine lv_icmp_ne (tgt := 29) hx hb dL_does_15 (by decide) (fun h15 => False.elim (absurd (by decide) h15)) (fun h15 => ?_)
  refine lv_aload_n hx hb dL_does_18 rfl (lv_at hl 0 rfl) ?_
  refine lv_iload_n hx hb dL_does_19 rfl (lv_at hl 2 rfl) ?_
  refine lv_iload_n hx hb dL_does_20 rfl (lv_at hl 3 rfl) ?_
  refine lv_iload hx hb dL_does_21 (lv_at hl 4 rfl) ?_
  refine kc_i (va_runV (As := [.int (nI b), .int (nI u), .int z]) (rest := []) ⟨hx, hb, hml, hown, hts⟩ (c_X1_setLimit hDk hx4 hx8 hy) (cwV 3 hts gL_does_X1_setLimit rfl rfl rfl (by decide +kernel) ⟨(Nat.le_of_ble_eq_true rfl), (Nat.le_of_ble_eq_true rfl)⟩) (kpv (q0 := 0) hG hP hD hS hDk.x rfl) rfl rfl hl.1 rfl (lv_room (Nat.le_of_ble_eq_true rfl)) dL_does_23 ⟨(Nat.le_of_ble_eq_true rfl), (Nat.le_of_ble_eq_true rfl)⟩) hS (fun r w H locs hp hP hD hS => ?_)
  obtain ⟨hp1, hDk⟩ := hp
  refine lv_goto (tgt := 129) hx hb dL_does_26 (by decide) ?_
  exact kr_i hx hb hr hlocks hP hD hS (Nat.le_of_ble_eq_true rfl) (Nat.le_of_ble_eq_true rfl) (⟨hp1, _, _, _, _, hDk⟩) dL_does_129
set_option maxHeartbeats 4000000 in
set_option maxRecDepth 100000 in
theorem h_bill_tb {l : Launch} {K : Ks} {A : Nat → Prop} {ad : Nat → Nat} {td : Int32} {n : Nat} {M : Nat → Nat → Int32} {w : va_W} (hE : DE K ad td n M w) (hlt : l.stackTraces = false) {x y ct dd : Int32} (hx4 : ixBad 4 x) : Met l yL_does wsL_does (kR 8 1 6) (kPr K A [.ref (ad 0), .int 2, .int x, .int y, .int ct, .int dd] w) (kQi K A (fun r w1 => r = (-30) ∧ DE K ad td n M w1)) 1 6 A := by
  obtain ⟨bad, rm, k, idx, hDk⟩ := hE
  refine kentH (cc := cL_does) (maxL := 7) (ret := some .int) (hh := [(0, 129, 130, 49), (0, 129, 135, 51), (0, 129, 140, 53)]) (by decide) rfl (Nat.le_of_ble_eq_true rfl) ?_
  intro p e s m args below meth c ls hx hb hr hts hown hlocks hml hxt hG hP hD hS hl
  have hl : lv_has ls 7 [(0, .ref (ad 0)), (1, .int 2), (2, .int x), (3, .int y), (4, .int ct), (5, .int dd)] := hl
  refine lv_iload_n hx hb dL_does_0 rfl (lv_at hl 1 rfl) ?_
  refine lv_if_ne (tgt := 13) hx hb dL_does_1 (by decide) (fun h1 => ?_) (fun h1 => False.elim (absurd h1 (by decide)))
  refine lv_iload_n hx hb dL_does_13 rfl (lv_at hl 1 rfl) ?_
  refine lv_iconst (v := 1) hx hb dL_does_14 (by decide) ?_
  refine lv_icmp_ne (tgt := 29) hx hb dL_does_15 (by decide) (fun h15 => ?_) (fun h15 => False.elim (absurd h15 (by decide)))
  refine lv_iload_n hx hb dL_does_29 rfl (lv_at hl 1 rfl) ?_
  refine lv_iconst (v := 2) hx hb dL_does_30 (by decide) ?_
  refine lv_icmp_ne (tgt := 47) hx hb dL_does_31 (by decide) (fun h31 => False.elim (absurd (by decide) h31)) (fun h31 => ?_)
  refine lv_aload_n hx hb dL_does_34 rfl (lv_at hl 0 rfl) ?_
  refine lv_iload_n hx hb dL_does_35 rfl (lv_at hl 2 rfl) ?_
  refine lv_iload_n hx hb dL_does_36 rfl (lv_at hl 3 rfl) ?_
  refine lv_iload hx hb dL_does_37 (lv_at hl 4 rfl) ?_
  refine lv_iload hx hb dL_does_39 (lv_at hl 5 rfl) ?_
  refine kc_t (vx_runV (As := [.int x, .int y, .int ct, .int dd]) (rest := []) ⟨hx, hb, hml, hown, hts⟩ (c_X1_bill_tb hDk hlt hx4) (cwV 4 hts gL_does_X1_bill rfl rfl rfl (by decide +kernel) ⟨(Nat.le_of_ble_eq_true rfl), (Nat.le_of_ble_eq_true rfl)⟩) (kpv (q0 := 0) hG hP hD hS hDk.x rfl) rfl rfl hl.1 rfl (lv_room (Nat.le_of_ble_eq_true rfl)) dL_does_41 ⟨(Nat.le_of_ble_eq_true rfl), (Nat.le_of_ble_eq_true rfl)⟩) hS (fun ce q9 w H locs hp hP hD hS hce hcv hcl => ?_)
  refine vx_catch (own := RL) (name := IOB) (E := IOB) hown [] ⟨0, 129, 130, 49⟩ [⟨0, 129, 135, 51⟩, ⟨0, 129, 140, 53⟩] (hxt.trans rfl) (fun z hz => absurd hz (by simp)) rfl (by decide) (hts (.classLink RL 49 IOB) (by decide +kernel)) (va_Nw.use rfl hG.2.2.2.2.2.1) hce hcv hcl ?_
  refine lv_astore (lv' := [(6, .ref q9), (0, .ref (ad 0)), (1, .int 2), (2, .int x), (3, .int y), (4, .int ct), (5, .int dd)]) hx hb dL_does_130 hl (by decide) rfl (fun ls hl => ?_)
  refine lv_bipush (v := (-30)) hx hb dL_does_132 (by decide) ?_
  exact kr_i hx hb hr hlocks hP hD hS (Nat.le_of_ble_eq_true rfl) (Nat.le_of_ble_eq_true rfl) (⟨rfl, ⟨_, _, _, _, hp⟩⟩) dL_does_134
set_option maxHeartbeats 4000000 in
set_option maxRecDepth 100000 in
theorem h_bill_ts {l : Launch} {K : Ks} {A : Nat → Prop} {ad : Nat → Nat} {td : Int32} {n : Nat} {M : Nat → Nat → Int32} {w : va_W} (hE : DE K ad td n M w) (hlt : l.stackTraces = false) {b : Nat} {y : Int32} (hx4 : b < 4) (hx8 : ixBad 8 y) {ct dd : Int32} : Met l yL_does wsL_does (kR 8 1 6) (kPr K A [.ref (ad 0), .int 2, .int (nI b), .int y, .int ct, .int dd] w) (kQi K A (fun r w1 => r = (-30) ∧ DE K ad td n M w1)) 1 6 A := by
  obtain ⟨bad, rm, k, idx, hDk⟩ := hE
  refine kentH (cc := cL_does) (maxL := 7) (ret := some .int) (hh := [(0, 129, 130, 49), (0, 129, 135, 51), (0, 129, 140, 53)]) (by decide) rfl (Nat.le_of_ble_eq_true rfl) ?_
  intro p e s m args below meth c ls hx hb hr hts hown hlocks hml hxt hG hP hD hS hl
  have hl : lv_has ls 7 [(0, .ref (ad 0)), (1, .int 2), (2, .int (nI b)), (3, .int y), (4, .int ct), (5, .int dd)] := hl
  refine lv_iload_n hx hb dL_does_0 rfl (lv_at hl 1 rfl) ?_
  refine lv_if_ne (tgt := 13) hx hb dL_does_1 (by decide) (fun h1 => ?_) (fun h1 => False.elim (absurd h1 (by decide)))
  refine lv_iload_n hx hb dL_does_13 rfl (lv_at hl 1 rfl) ?_
  refine lv_iconst (v := 1) hx hb dL_does_14 (by decide) ?_
  refine lv_icmp_ne (tgt := 29) hx hb dL_does_15 (by decide) (fun h15 => ?_) (fun h15 => False.elim (absurd h15 (by decide)))
  refine lv_iload_n hx hb dL_does_29 rfl (lv_at hl 1 rfl) ?_
  refine lv_iconst (v := 2) hx hb dL_does_30 (by decide) ?_
  refine lv_icmp_ne (tgt := 47) hx hb dL_does_31 (by decide) (fun h31 => False.elim (absurd (by decide) h31)) (fun h31 => ?_)
  refine lv_aload_n hx hb dL_does_34 rfl (lv_at hl 0 rfl) ?_
  refine lv_iload_n hx hb dL_does_35 rfl (lv_at hl 2 rfl) ?_
  refine lv_iload_n hx hb dL_does_36 rfl (lv_at hl 3 rfl) ?_
  refine lv_iload hx hb dL_does_37 (lv_at hl 4 rfl) ?_
  refine lv_iload hx hb dL_does_39 (lv_at hl 5 rfl) ?_
  refine kc_t (vx_runV (As := [.int (nI b), .int y, .int ct, .int dd]) (rest := []) ⟨hx, hb, hml, hown, hts⟩ (c_X1_bill_ts hDk hlt hx4 hx8) (cwV 4 hts gL_does_X1_bill rfl rfl rfl (by decide +kernel) ⟨(Nat.le_of_ble_eq_true rfl), (Nat.le_of_ble_eq_true rfl)⟩) (kpv (q0 := 0) hG hP hD hS hDk.x rfl) rfl rfl hl.1 rfl (lv_room (Nat.le_of_ble_eq_true rfl)) dL_does_41 ⟨(Nat.le_of_ble_eq_true rfl), (Nat.le_of_ble_eq_true rfl)⟩) hS (fun ce q9 w H locs hp hP hD hS hce hcv hcl => ?_)
  refine vx_catch (own := RL) (name := IOB) (E := IOB) hown [] ⟨0, 129, 130, 49⟩ [⟨0, 129, 135, 51⟩, ⟨0, 129, 140, 53⟩] (hxt.trans rfl) (fun z hz => absurd hz (by simp)) rfl (by decide) (hts (.classLink RL 49 IOB) (by decide +kernel)) (va_Nw.use rfl hG.2.2.2.2.2.1) hce hcv hcl ?_
  refine lv_astore (lv' := [(6, .ref q9), (0, .ref (ad 0)), (1, .int 2), (2, .int (nI b)), (3, .int y), (4, .int ct), (5, .int dd)]) hx hb dL_does_130 hl (by decide) rfl (fun ls hl => ?_)
  refine lv_bipush (v := (-30)) hx hb dL_does_132 (by decide) ?_
  exact kr_i hx hb hr hlocks hP hD hS (Nat.le_of_ble_eq_true rfl) (Nat.le_of_ble_eq_true rfl) (⟨rfl, ⟨_, _, _, _, hp⟩⟩) dL_does_134
set_option maxHeartbeats 4000000 in
set_option maxRecDepth 100000 in
theorem h_bill_tc {l : Launch} {K : Ks} {A : Nat → Prop} {ad : Nat → Nat} {td : Int32} {n : Nat} {M : Nat → Nat → Int32} {w : va_W} (hE : DE K ad td n M w) (hlt : l.stackTraces = false) {b u : Nat} (hx4 : b < 4) (hx8 : u < 8) {ct dd : Int32} (hc : ¬ inR 1 1000000 ct) : Met l yL_does wsL_does (kR 8 1 6) (kPr K A [.ref (ad 0), .int 2, .int (nI b), .int (nI u), .int ct, .int dd] w) (kQi K A (fun r w1 => r = (-20) ∧ DE K ad td n M w1)) 1 6 A := by
  obtain ⟨bad, rm, k, idx, hDk⟩ := hE
  refine kentH (cc := cL_does) (maxL := 7) (ret := some .int) (hh := [(0, 129, 130, 49), (0, 129, 135, 51), (0, 129, 140, 53)]) (by decide) rfl (Nat.le_of_ble_eq_true rfl) ?_
  intro p e s m args below meth c ls hx hb hr hts hown hlocks hml hxt hG hP hD hS hl
  have hl : lv_has ls 7 [(0, .ref (ad 0)), (1, .int 2), (2, .int (nI b)), (3, .int (nI u)), (4, .int ct), (5, .int dd)] := hl
  refine lv_iload_n hx hb dL_does_0 rfl (lv_at hl 1 rfl) ?_
  refine lv_if_ne (tgt := 13) hx hb dL_does_1 (by decide) (fun h1 => ?_) (fun h1 => False.elim (absurd h1 (by decide)))
  refine lv_iload_n hx hb dL_does_13 rfl (lv_at hl 1 rfl) ?_
  refine lv_iconst (v := 1) hx hb dL_does_14 (by decide) ?_
  refine lv_icmp_ne (tgt := 29) hx hb dL_does_15 (by decide) (fun h15 => ?_) (fun h15 => False.elim (absurd h15 (by decide)))
  refine lv_iload_n hx hb dL_does_29 rfl (lv_at hl 1 rfl) ?_
  refine lv_iconst (v := 2) hx hb dL_does_30 (by decide) ?_
  refine lv_icmp_ne (tgt := 47) hx hb dL_does_31 (by decide) (fun h31 => False.elim (absurd (by decide) h31)) (fun h31 => ?_)
  refine lv_aload_n hx hb dL_does_34 rfl (lv_at hl 0 rfl) ?_
  refine lv_iload_n hx hb dL_does_35 rfl (lv_at hl 2 rfl) ?_
  refine lv_iload_n hx hb dL_does_36 rfl (lv_at hl 3 rfl) ?_
  refine lv_iload hx hb dL_does_37 (lv_at hl 4 rfl) ?_
  refine lv_iload hx hb dL_does_39 (lv_at hl 5 rfl) ?_
  refine kc_t (vx_runV (As := [.int (nI b), .int (nI u), .int ct, .int dd]) (rest := []) ⟨hx, hb, hml, hown, hts⟩ (c_X1_bill_tc hDk hlt hx4 hx8 hc) (cwV 4 hts gL_does_X1_bill rfl rfl rfl (by decide +kernel) ⟨(Nat.le_of_ble_eq_true rfl), (Nat.le_of_ble_eq_true rfl)⟩) (kpv (q0 := 0) hG hP hD hS hDk.x rfl) rfl rfl hl.1 rfl (lv_room (Nat.le_of_ble_eq_true rfl)) dL_does_41 ⟨(Nat.le_of_ble_eq_true rfl), (Nat.le_of_ble_eq_true rfl)⟩) hS (fun ce q9 w H locs hp hP hD hS hce hcv hcl => ?_)
  refine vx_catch (own := RL) (name := IAE) (E := IAE) hown [⟨0, 129, 130, 49⟩] ⟨0, 129, 135, 51⟩ [⟨0, 129, 140, 53⟩] (hxt.trans rfl) (fun z hz => by rw [List.mem_singleton.mp hz]; exact Or.inr ⟨by decide, IOB, hts (.classLink RL 49 IOB) (by decide +kernel), hG.2.2.2.2.2.2.2.1.2.2.2.2.1⟩) rfl (by decide) (hts (.classLink RL 51 IAE) (by decide +kernel)) (va_Nw.use rfl hG.2.2.2.2.2.2.1) hce hcv hcl ?_
  refine lv_astore (lv' := [(6, .ref q9), (0, .ref (ad 0)), (1, .int 2), (2, .int (nI b)), (3, .int (nI u)), (4, .int ct), (5, .int dd)]) hx hb dL_does_135 hl (by decide) rfl (fun ls hl => ?_)
  refine lv_bipush (v := (-20)) hx hb dL_does_137 (by decide) ?_
  exact kr_i hx hb hr hlocks hP hD hS (Nat.le_of_ble_eq_true rfl) (Nat.le_of_ble_eq_true rfl) (⟨rfl, ⟨_, _, _, _, hp⟩⟩) dL_does_139
set_option maxHeartbeats 4000000 in
set_option maxRecDepth 100000 in
theorem h_bill_td {l : Launch} {K : Ks} {A : Nat → Prop} {ad : Nat → Nat} {td : Int32} {n : Nat} {M : Nat → Nat → Int32} {w : va_W} (hE : DE K ad td n M w) (hlt : l.stackTraces = false) {b u : Nat} (hx4 : b < 4) (hx8 : u < 8) {ct dd : Int32} (hc : inR 1 1000000 ct) (hd : ¬ inR 1 360 dd) : Met l yL_does wsL_does (kR 8 1 6) (kPr K A [.ref (ad 0), .int 2, .int (nI b), .int (nI u), .int ct, .int dd] w) (kQi K A (fun r w1 => r = (-20) ∧ DE K ad td n M w1)) 1 6 A := by
  obtain ⟨bad, rm, k, idx, hDk⟩ := hE
  refine kentH (cc := cL_does) (maxL := 7) (ret := some .int) (hh := [(0, 129, 130, 49), (0, 129, 135, 51), (0, 129, 140, 53)]) (by decide) rfl (Nat.le_of_ble_eq_true rfl) ?_
  intro p e s m args below meth c ls hx hb hr hts hown hlocks hml hxt hG hP hD hS hl
  have hl : lv_has ls 7 [(0, .ref (ad 0)), (1, .int 2), (2, .int (nI b)), (3, .int (nI u)), (4, .int ct), (5, .int dd)] := hl
  refine lv_iload_n hx hb dL_does_0 rfl (lv_at hl 1 rfl) ?_
  refine lv_if_ne (tgt := 13) hx hb dL_does_1 (by decide) (fun h1 => ?_) (fun h1 => False.elim (absurd h1 (by decide)))
  refine lv_iload_n hx hb dL_does_13 rfl (lv_at hl 1 rfl) ?_
  refine lv_iconst (v := 1) hx hb dL_does_14 (by decide) ?_
  refine lv_icmp_ne (tgt := 29) hx hb dL_does_15 (by decide) (fun h15 => ?_) (fun h15 => False.elim (absurd h15 (by decide)))
  refine lv_iload_n hx hb dL_does_29 rfl (lv_at hl 1 rfl) ?_
  refine lv_iconst (v := 2) hx hb dL_does_30 (by decide) ?_
  refine lv_icmp_ne (tgt := 47) hx hb dL_does_31 (by decide) (fun h31 => False.elim (absurd (by decide) h31)) (fun h31 => ?_)
  refine lv_aload_n hx hb dL_does_34 rfl (lv_at hl 0 rfl) ?_
  refine lv_iload_n hx hb dL_does_35 rfl (lv_at hl 2 rfl) ?_
  refine lv_iload_n hx hb dL_does_36 rfl (lv_at hl 3 rfl) ?_
  refine lv_iload hx hb dL_does_37 (lv_at hl 4 rfl) ?_
  refine lv_iload hx hb dL_does_39 (lv_at hl 5 rfl) ?_
  refine kc_t (vx_runV (As := [.int (nI b), .int (nI u), .int ct, .int dd]) (rest := []) ⟨hx, hb, hml, hown, hts⟩ (c_X1_bill_td hDk hlt hx4 hx8 hc hd) (cwV 4 hts gL_does_X1_bill rfl rfl rfl (by decide +kernel) ⟨(Nat.le_of_ble_eq_true rfl), (Nat.le_of_ble_eq_true rfl)⟩) (kpv (q0 := 0) hG hP hD hS hDk.x rfl) rfl rfl hl.1 rfl (lv_room (Nat.le_of_ble_eq_true rfl)) dL_does_41 ⟨(Nat.le_of_ble_eq_true rfl), (Nat.le_of_ble_eq_true rfl)⟩) hS (fun ce q9 w H locs hp hP hD hS hce hcv hcl => ?_)
  refine vx_catch (own := RL) (name := IAE) (E := IAE) hown [⟨0, 129, 130, 49⟩] ⟨0, 129, 135, 51⟩ [⟨0, 129, 140, 53⟩] (hxt.trans rfl) (fun z hz => by rw [List.mem_singleton.mp hz]; exact Or.inr ⟨by decide, IOB, hts (.classLink RL 49 IOB) (by decide +kernel), hG.2.2.2.2.2.2.2.1.2.2.2.2.1⟩) rfl (by decide) (hts (.classLink RL 51 IAE) (by decide +kernel)) (va_Nw.use rfl hG.2.2.2.2.2.2.1) hce hcv hcl ?_
  refine lv_astore (lv' := [(6, .ref q9), (0, .ref (ad 0)), (1, .int 2), (2, .int (nI b)), (3, .int (nI u)), (4, .int ct), (5, .int dd)]) hx hb dL_does_135 hl (by decide) rfl (fun ls hl => ?_)
  refine lv_bipush (v := (-20)) hx hb dL_does_137 (by decide) ?_
  exact kr_i hx hb hr hlocks hP hD hS (Nat.le_of_ble_eq_true rfl) (Nat.le_of_ble_eq_true rfl) (⟨rfl, ⟨_, _, _, _, hp⟩⟩) dL_does_139
set_option maxHeartbeats 4000000 in
set_option maxRecDepth 100000 in
theorem h_bill_tp {l : Launch} {K : Ks} {A : Nat → Prop} {ad : Nat → Nat} {td : Int32} {n : Nat} {M : Nat → Nat → Int32} {w : va_W} (hE : DE K ad td n M w) (hlt : l.stackTraces = false) {b u : Nat} (hx4 : b < 4) (hx8 : u < 8) {ct dd : Int32} (hc : inR 1 1000000 ct) (hd : inR 1 360 dd) (h30 : n = 30) : Met l yL_does wsL_does (kR 8 1 6) (kPr K A [.ref (ad 0), .int 2, .int (nI b), .int (nI u), .int ct, .int dd] w) (kQi K A (fun r w1 => r = (-10) ∧ DE K ad td n M w1)) 1 6 A := by
  obtain ⟨bad, rm, k, idx, hDk⟩ := hE
  refine kentH (cc := cL_does) (maxL := 7) (ret := some .int) (hh := [(0, 129, 130, 49), (0, 129, 135, 51), (0, 129, 140, 53)]) (by decide) rfl (Nat.le_of_ble_eq_true rfl) ?_
  intro p e s m args below meth c ls hx hb hr hts hown hlocks hml hxt hG hP hD hS hl
  have hl : lv_has ls 7 [(0, .ref (ad 0)), (1, .int 2), (2, .int (nI b)), (3, .int (nI u)), (4, .int ct), (5, .int dd)] := hl
  refine lv_iload_n hx hb dL_does_0 rfl (lv_at hl 1 rfl) ?_
  refine lv_if_ne (tgt := 13) hx hb dL_does_1 (by decide) (fun h1 => ?_) (fun h1 => False.elim (absurd h1 (by decide)))
  refine lv_iload_n hx hb dL_does_13 rfl (lv_at hl 1 rfl) ?_
  refine lv_iconst (v := 1) hx hb dL_does_14 (by decide) ?_
  refine lv_icmp_ne (tgt := 29) hx hb dL_does_15 (by decide) (fun h15 => ?_) (fun h15 => False.elim (absurd h15 (by decide)))
  refine lv_iload_n hx hb dL_does_29 rfl (lv_at hl 1 rfl) ?_
  refine lv_iconst (v := 2) hx hb dL_does_30 (by decide) ?_
  refine lv_icmp_ne (tgt := 47) hx hb dL_does_31 (by decide) (fun h31 => False.elim (absurd (by decide) h31)) (fun h31 => ?_)
  refine lv_aload_n hx hb dL_does_34 rfl (lv_at hl 0 rfl) ?_
  refine lv_iload_n hx hb dL_does_35 rfl (lv_at hl 2 rfl) ?_
  refine lv_iload_n hx hb dL_does_36 rfl (lv_at hl 3 rfl) ?_
  refine lv_iload hx hb dL_does_37 (lv_at hl 4 rfl) ?_
  refine lv_iload hx hb dL_does_39 (lv_at hl 5 rfl) ?_
  refine kc_t (vx_runV (As := [.int (nI b), .int (nI u), .int ct, .int dd]) (rest := []) ⟨hx, hb, hml, hown, hts⟩ (c_X1_bill_tp hDk hlt hx4 hx8 hc hd h30) (cwV 4 hts gL_does_X1_bill rfl rfl rfl (by decide +kernel) ⟨(Nat.le_of_ble_eq_true rfl), (Nat.le_of_ble_eq_true rfl)⟩) (kpv (q0 := 0) hG hP hD hS hDk.x rfl) rfl rfl hl.1 rfl (lv_room (Nat.le_of_ble_eq_true rfl)) dL_does_41 ⟨(Nat.le_of_ble_eq_true rfl), (Nat.le_of_ble_eq_true rfl)⟩) hS (fun ce q9 w H locs hp hP hD hS hce hcv hcl => ?_)
  have hpass : ∀ z ∈ ([⟨0, 129, 130, 49⟩, ⟨0, 129, 135, 51⟩] : List ExceptionTableEntry), covers z 41 = false ∨ (z.catchType ≠ 0 ∧ ∃ nm : String, (Cond.classLink RL z.catchType nm).before args s = true ∧ va_Nc ISE nm s) := by
    intro z hz
    rcases List.mem_cons.mp hz with h9 | h9
    · rw [h9]; exact Or.inr ⟨by decide, IOB, hts (.classLink RL 49 IOB) (by decide +kernel), hG.2.2.2.2.2.2.2.1.2.2.2.2.2.1⟩
    · rw [List.mem_singleton.mp h9]; exact Or.inr ⟨by decide, IAE, hts (.classLink RL 51 IAE) (by decide +kernel), hG.2.2.2.2.2.2.2.1.2.2.2.2.2.2⟩
  refine vx_catch (own := RL) (name := ISE) (E := ISE) hown [⟨0, 129, 130, 49⟩, ⟨0, 129, 135, 51⟩] ⟨0, 129, 140, 53⟩ [] (hxt.trans rfl) hpass rfl (by decide) (hts (.classLink RL 53 ISE) (by decide +kernel)) (va_Nw.use rfl hG.2.2.2.2.2.2.2.1.1) hce hcv hcl ?_
  refine lv_astore (lv' := [(6, .ref q9), (0, .ref (ad 0)), (1, .int 2), (2, .int (nI b)), (3, .int (nI u)), (4, .int ct), (5, .int dd)]) hx hb dL_does_140 hl (by decide) rfl (fun ls hl => ?_)
  refine lv_bipush (v := (-10)) hx hb dL_does_142 (by decide) ?_
  exact kr_i hx hb hr hlocks hP hD hS (Nat.le_of_ble_eq_true rfl) (Nat.le_of_ble_eq_true rfl) (⟨rfl, ⟨_, _, _, _, hp⟩⟩) dL_does_144
set_option maxHeartbeats 4000000 in
set_option maxRecDepth 100000 in
theorem h_bill {l : Launch} {K : Ks} {A : Nat → Prop} {ad : Nat → Nat} {td : Int32} {n : Nat} {M : Nat → Nat → Int32} {w : va_W} (hE : DE K ad td n M w) {b u : Nat} (hx4 : b < 4) (hx8 : u < 8) {ct dd : Int32} (hc : inR 1 1000000 ct) (hd : inR 1 360 dd) (h30 : n < 30) (hz6 : M 6 n = 0) (hz8 : M 8 n = 0) (hz9 : M 9 n = 0) (hz10 : M 10 n = 0) : Met l yL_does wsL_does (kR 8 2 70) (kPr K A [.ref (ad 0), .int 2, .int (nI b), .int (nI u), .int ct, .int dd] w) (kQi K A (fun r w1 => r = nI n ∧ DE K ad td (n + 1) (billM td n M b u ct dd) w1)) 2 70 A := by
  obtain ⟨bad, rm, k, idx, hDk⟩ := hE
  refine kentH (cc := cL_does) (maxL := 7) (ret := some .int) (hh := [(0, 129, 130, 49), (0, 129, 135, 51), (0, 129, 140, 53)]) (by decide) rfl (Nat.le_of_ble_eq_true rfl) ?_
  intro p e s m args below meth c ls hx hb hr hts hown hlocks hml hxt hG hP hD hS hl
  have hl : lv_has ls 7 [(0, .ref (ad 0)), (1, .int 2), (2, .int (nI b)), (3, .int (nI u)), (4, .int ct), (5, .int dd)] := hl
  refine lv_iload_n hx hb dL_does_0 rfl (lv_at hl 1 rfl) ?_
  refine lv_if_ne (tgt := 13) hx hb dL_does_1 (by decide) (fun h1 => ?_) (fun h1 => False.elim (absurd h1 (by decide)))
  refine lv_iload_n hx hb dL_does_13 rfl (lv_at hl 1 rfl) ?_
  refine lv_iconst (v := 1) hx hb dL_does_14 (by decide) ?_
  refine lv_icmp_ne (tgt := 29) hx hb dL_does_15 (by decide) (fun h15 => ?_) (fun h15 => False.elim (absurd h15 (by decide)))
  refine lv_iload_n hx hb dL_does_29 rfl (lv_at hl 1 rfl) ?_
  refine lv_iconst (v := 2) hx hb dL_does_30 (by decide) ?_
  refine lv_icmp_ne (tgt := 47) hx hb dL_does_31 (by decide) (fun h31 => False.elim (absurd (by decide) h31)) (fun h31 => ?_)
  refine lv_aload_n hx hb dL_does_34 rfl (lv_at hl 0 rfl) ?_
  refine lv_iload_n hx hb dL_does_35 rfl (lv_at hl 2 rfl) ?_
  refine lv_iload_n hx hb dL_does_36 rfl (lv_at hl 3 rfl) ?_
  refine lv_iload hx hb dL_does_37 (lv_at hl 4 rfl) ?_
  refine lv_iload hx hb dL_does_39 (lv_at hl 5 rfl) ?_
  refine kc_i (va_runV (As := [.int (nI b), .int (nI u), .int ct, .int dd]) (rest := []) ⟨hx, hb, hml, hown, hts⟩ (c_X1_bill hDk hx4 hx8 hc hd h30 hz6 hz8 hz9 hz10) (cwV 4 hts gL_does_X1_bill rfl rfl rfl (by decide +kernel) ⟨(Nat.le_of_ble_eq_true rfl), (Nat.le_of_ble_eq_true rfl)⟩) (kpv (q0 := 0) hG hP hD hS hDk.x rfl) rfl rfl hl.1 rfl (lv_room (Nat.le_of_ble_eq_true rfl)) dL_does_41 ⟨(Nat.le_of_ble_eq_true rfl), (Nat.le_of_ble_eq_true rfl)⟩) hS (fun r w H locs hp hP hD hS => ?_)
  obtain ⟨hp1, bad1, hDk⟩ := hp
  refine lv_goto (tgt := 129) hx hb dL_does_44 (by decide) ?_
  exact kr_i hx hb hr hlocks hP hD hS (Nat.le_of_ble_eq_true rfl) (Nat.le_of_ble_eq_true rfl) (⟨hp1, _, _, _, _, hDk⟩) dL_does_129
set_option maxHeartbeats 4000000 in
set_option maxRecDepth 100000 in
theorem h_approve_tb {l : Launch} {K : Ks} {A : Nat → Prop} {ad : Nat → Nat} {td : Int32} {n : Nat} {M : Nat → Nat → Int32} {w : va_W} (hE : DE K ad td n M w) (hlt : l.stackTraces = false) {x : Int32} (hix : ixBad n x) {c2 : Int32} {c3 : Int32} {c4 : Int32} : Met l yL_does wsL_does (kR 6 1 6) (kPr K A [.ref (ad 0), .int 3, .int x, .int c2, .int c3, .int c4] w) (kQi K A (fun r w1 => r = (-30) ∧ DE K ad td n M w1)) 1 6 A := by
  obtain ⟨bad, rm, k, idx, hDk⟩ := hE
  refine kentH (cc := cL_does) (maxL := 7) (ret := some .int) (hh := [(0, 129, 130, 49), (0, 129, 135, 51), (0, 129, 140, 53)]) (by decide) rfl (Nat.le_of_ble_eq_true rfl) ?_
  intro p e s m args below meth c ls hx hb hr hts hown hlocks hml hxt hG hP hD hS hl
  have hl : lv_has ls 7 [(0, .ref (ad 0)), (1, .int 3), (2, .int x), (3, .int c2), (4, .int c3), (5, .int c4)] := hl
  refine lv_iload_n hx hb dL_does_0 rfl (lv_at hl 1 rfl) ?_
  refine lv_if_ne (tgt := 13) hx hb dL_does_1 (by decide) (fun h1 => ?_) (fun h1 => False.elim (absurd h1 (by decide)))
  refine lv_iload_n hx hb dL_does_13 rfl (lv_at hl 1 rfl) ?_
  refine lv_iconst (v := 1) hx hb dL_does_14 (by decide) ?_
  refine lv_icmp_ne (tgt := 29) hx hb dL_does_15 (by decide) (fun h15 => ?_) (fun h15 => False.elim (absurd h15 (by decide)))
  refine lv_iload_n hx hb dL_does_29 rfl (lv_at hl 1 rfl) ?_
  refine lv_iconst (v := 2) hx hb dL_does_30 (by decide) ?_
  refine lv_icmp_ne (tgt := 47) hx hb dL_does_31 (by decide) (fun h31 => ?_) (fun h31 => False.elim (absurd h31 (by decide)))
  refine lv_iload_n hx hb dL_does_47 rfl (lv_at hl 1 rfl) ?_
  refine lv_iconst (v := 3) hx hb dL_does_48 (by decide) ?_
  refine lv_icmp_ne (tgt := 68) hx hb dL_does_49 (by decide) (fun h49 => False.elim (absurd (by decide) h49)) (fun h49 => ?_)
  refine lv_aload_n hx hb dL_does_52 rfl (lv_at hl 0 rfl) ?_
  refine lv_iload_n hx hb dL_does_53 rfl (lv_at hl 2 rfl) ?_
  refine kc_t (vx_runV (As := [.int x]) (rest := []) ⟨hx, hb, hml, hown, hts⟩ (c_X1_approve_tb hDk hlt hix) (cwV 1 hts gL_does_X1_approve rfl rfl rfl (by decide +kernel) ⟨(Nat.le_of_ble_eq_true rfl), (Nat.le_of_ble_eq_true rfl)⟩) (kpv (q0 := 0) hG hP hD hS hDk.x rfl) rfl rfl hl.1 rfl (lv_room (Nat.le_of_ble_eq_true rfl)) dL_does_54 ⟨(Nat.le_of_ble_eq_true rfl), (Nat.le_of_ble_eq_true rfl)⟩) hS (fun ce q9 w H locs hp hP hD hS hce hcv hcl => ?_)
  refine vx_catch (own := RL) (name := IOB) (E := IOB) hown [] ⟨0, 129, 130, 49⟩ [⟨0, 129, 135, 51⟩, ⟨0, 129, 140, 53⟩] (hxt.trans rfl) (fun z hz => absurd hz (by simp)) rfl (by decide) (hts (.classLink RL 49 IOB) (by decide +kernel)) (va_Nw.use rfl hG.2.2.2.2.2.1) hce hcv hcl ?_
  refine lv_astore (lv' := [(6, .ref q9), (0, .ref (ad 0)), (1, .int 3), (2, .int x), (3, .int c2), (4, .int c3), (5, .int c4)]) hx hb dL_does_130 hl (by decide) rfl (fun ls hl => ?_)
  refine lv_bipush (v := (-30)) hx hb dL_does_132 (by decide) ?_
  exact kr_i hx hb hr hlocks hP hD hS (Nat.le_of_ble_eq_true rfl) (Nat.le_of_ble_eq_true rfl) (⟨rfl, ⟨_, _, _, _, hp⟩⟩) dL_does_134
set_option maxHeartbeats 4000000 in
set_option maxRecDepth 100000 in
theorem h_approve_tp {l : Launch} {K : Ks} {A : Nat → Prop} {ad : Nat → Nat} {td : Int32} {n : Nat} {M : Nat → Nat → Int32} {w : va_W} (hE : DE K ad td n M w) (hlt : l.stackTraces = false) {i : Nat} (hi : i < n) (hst : ¬ (M 6 i = 0 ∨ M 6 i = 2)) {c2 : Int32} {c3 : Int32} {c4 : Int32} : Met l yL_does wsL_does (kR 6 1 6) (kPr K A [.ref (ad 0), .int 3, .int (nI i), .int c2, .int c3, .int c4] w) (kQi K A (fun r w1 => r = (-10) ∧ DE K ad td n M w1)) 1 6 A := by
  obtain ⟨bad, rm, k, idx, hDk⟩ := hE
  refine kentH (cc := cL_does) (maxL := 7) (ret := some .int) (hh := [(0, 129, 130, 49), (0, 129, 135, 51), (0, 129, 140, 53)]) (by decide) rfl (Nat.le_of_ble_eq_true rfl) ?_
  intro p e s m args below meth c ls hx hb hr hts hown hlocks hml hxt hG hP hD hS hl
  have hl : lv_has ls 7 [(0, .ref (ad 0)), (1, .int 3), (2, .int (nI i)), (3, .int c2), (4, .int c3), (5, .int c4)] := hl
  refine lv_iload_n hx hb dL_does_0 rfl (lv_at hl 1 rfl) ?_
  refine lv_if_ne (tgt := 13) hx hb dL_does_1 (by decide) (fun h1 => ?_) (fun h1 => False.elim (absurd h1 (by decide)))
  refine lv_iload_n hx hb dL_does_13 rfl (lv_at hl 1 rfl) ?_
  refine lv_iconst (v := 1) hx hb dL_does_14 (by decide) ?_
  refine lv_icmp_ne (tgt := 29) hx hb dL_does_15 (by decide) (fun h15 => ?_) (fun h15 => False.elim (absurd h15 (by decide)))
  refine lv_iload_n hx hb dL_does_29 rfl (lv_at hl 1 rfl) ?_
  refine lv_iconst (v := 2) hx hb dL_does_30 (by decide) ?_
  refine lv_icmp_ne (tgt := 47) hx hb dL_does_31 (by decide) (fun h31 => ?_) (fun h31 => False.elim (absurd h31 (by decide)))
  refine lv_iload_n hx hb dL_does_47 rfl (lv_at hl 1 rfl) ?_
  refine lv_iconst (v := 3) hx hb dL_does_48 (by decide) ?_
  refine lv_icmp_ne (tgt := 68) hx hb dL_does_49 (by decide) (fun h49 => False.elim (absurd (by decide) h49)) (fun h49 => ?_)
  refine lv_aload_n hx hb dL_does_52 rfl (lv_at hl 0 rfl) ?_
  refine lv_iload_n hx hb dL_does_53 rfl (lv_at hl 2 rfl) ?_
  refine kc_t (vx_runV (As := [.int (nI i)]) (rest := []) ⟨hx, hb, hml, hown, hts⟩ (c_X1_approve_tp hDk hlt hi hst) (cwV 1 hts gL_does_X1_approve rfl rfl rfl (by decide +kernel) ⟨(Nat.le_of_ble_eq_true rfl), (Nat.le_of_ble_eq_true rfl)⟩) (kpv (q0 := 0) hG hP hD hS hDk.x rfl) rfl rfl hl.1 rfl (lv_room (Nat.le_of_ble_eq_true rfl)) dL_does_54 ⟨(Nat.le_of_ble_eq_true rfl), (Nat.le_of_ble_eq_true rfl)⟩) hS (fun ce q9 w H locs hp hP hD hS hce hcv hcl => ?_)
  have hpass : ∀ z ∈ ([⟨0, 129, 130, 49⟩, ⟨0, 129, 135, 51⟩] : List ExceptionTableEntry), covers z 54 = false ∨ (z.catchType ≠ 0 ∧ ∃ nm : String, (Cond.classLink RL z.catchType nm).before args s = true ∧ va_Nc ISE nm s) := by
    intro z hz
    rcases List.mem_cons.mp hz with h9 | h9
    · rw [h9]; exact Or.inr ⟨by decide, IOB, hts (.classLink RL 49 IOB) (by decide +kernel), hG.2.2.2.2.2.2.2.1.2.2.2.2.2.1⟩
    · rw [List.mem_singleton.mp h9]; exact Or.inr ⟨by decide, IAE, hts (.classLink RL 51 IAE) (by decide +kernel), hG.2.2.2.2.2.2.2.1.2.2.2.2.2.2⟩
  refine vx_catch (own := RL) (name := ISE) (E := ISE) hown [⟨0, 129, 130, 49⟩, ⟨0, 129, 135, 51⟩] ⟨0, 129, 140, 53⟩ [] (hxt.trans rfl) hpass rfl (by decide) (hts (.classLink RL 53 ISE) (by decide +kernel)) (va_Nw.use rfl hG.2.2.2.2.2.2.2.1.1) hce hcv hcl ?_
  refine lv_astore (lv' := [(6, .ref q9), (0, .ref (ad 0)), (1, .int 3), (2, .int (nI i)), (3, .int c2), (4, .int c3), (5, .int c4)]) hx hb dL_does_140 hl (by decide) rfl (fun ls hl => ?_)
  refine lv_bipush (v := (-10)) hx hb dL_does_142 (by decide) ?_
  exact kr_i hx hb hr hlocks hP hD hS (Nat.le_of_ble_eq_true rfl) (Nat.le_of_ble_eq_true rfl) (⟨rfl, ⟨_, _, _, _, hp⟩⟩) dL_does_144
set_option maxHeartbeats 4000000 in
set_option maxRecDepth 100000 in
theorem h_approve_p {l : Launch} {K : Ks} {A : Nat → Prop} {ad : Nat → Nat} {td : Int32} {n : Nat} {M : Nat → Nat → Int32} {w : va_W} (hE : DE K ad td n M w) {i : Nat} (hi : i < n) (hm : okP M i) (hst : M 6 i = 0 ∨ M 6 i = 2) (hdue : M 5 i ≤ td) {c2 : Int32} {c3 : Int32} {c4 : Int32} : Met l yL_does wsL_does (kR 6 0 0) (kPr K A [.ref (ad 0), .int 3, .int (nI i), .int c2, .int c3, .int c4] w) (kQi K A (fun r w1 => r = 1 ∧ DE K ad td n (payM M i (M 4 i) 4) w1)) 0 0 A := by
  obtain ⟨bad, rm, k, idx, hDk⟩ := hE
  refine kentH (cc := cL_does) (maxL := 7) (ret := some .int) (hh := [(0, 129, 130, 49), (0, 129, 135, 51), (0, 129, 140, 53)]) (by decide) rfl (Nat.le_of_ble_eq_true rfl) ?_
  intro p e s m args below meth c ls hx hb hr hts hown hlocks hml hxt hG hP hD hS hl
  have hl : lv_has ls 7 [(0, .ref (ad 0)), (1, .int 3), (2, .int (nI i)), (3, .int c2), (4, .int c3), (5, .int c4)] := hl
  refine lv_iload_n hx hb dL_does_0 rfl (lv_at hl 1 rfl) ?_
  refine lv_if_ne (tgt := 13) hx hb dL_does_1 (by decide) (fun h1 => ?_) (fun h1 => False.elim (absurd h1 (by decide)))
  refine lv_iload_n hx hb dL_does_13 rfl (lv_at hl 1 rfl) ?_
  refine lv_iconst (v := 1) hx hb dL_does_14 (by decide) ?_
  refine lv_icmp_ne (tgt := 29) hx hb dL_does_15 (by decide) (fun h15 => ?_) (fun h15 => False.elim (absurd h15 (by decide)))
  refine lv_iload_n hx hb dL_does_29 rfl (lv_at hl 1 rfl) ?_
  refine lv_iconst (v := 2) hx hb dL_does_30 (by decide) ?_
  refine lv_icmp_ne (tgt := 47) hx hb dL_does_31 (by decide) (fun h31 => ?_) (fun h31 => False.elim (absurd h31 (by decide)))
  refine lv_iload_n hx hb dL_does_47 rfl (lv_at hl 1 rfl) ?_
  refine lv_iconst (v := 3) hx hb dL_does_48 (by decide) ?_
  refine lv_icmp_ne (tgt := 68) hx hb dL_does_49 (by decide) (fun h49 => False.elim (absurd (by decide) h49)) (fun h49 => ?_)
  refine lv_aload_n hx hb dL_does_52 rfl (lv_at hl 0 rfl) ?_
  refine lv_iload_n hx hb dL_does_53 rfl (lv_at hl 2 rfl) ?_
  refine kc_i (va_runV (As := [.int (nI i)]) (rest := []) ⟨hx, hb, hml, hown, hts⟩ (c_X1_approve_p hDk hi hm hst hdue) (cwV 1 hts gL_does_X1_approve rfl rfl rfl (by decide +kernel) ⟨(Nat.le_of_ble_eq_true rfl), (Nat.le_of_ble_eq_true rfl)⟩) (kpv (q0 := 0) hG hP hD hS hDk.x rfl) rfl rfl hl.1 rfl (lv_room (Nat.le_of_ble_eq_true rfl)) dL_does_54 ⟨(Nat.le_of_ble_eq_true rfl), (Nat.le_of_ble_eq_true rfl)⟩) hS (fun r w H locs hp hP hD hS => ?_)
  obtain ⟨hp1, hDk⟩ := hp
  rw [hp1]
  refine lv_if_eq (tgt := 64) hx hb dL_does_57 (by decide) (fun h57 => False.elim (absurd h57 (by decide))) (fun h57 => ?_)
  refine lv_iconst (v := 1) hx hb dL_does_60 (by decide) ?_
  refine lv_goto (tgt := 129) hx hb dL_does_61 (by decide) ?_
  exact kr_i hx hb hr hlocks hP hD hS (Nat.le_of_ble_eq_true rfl) (Nat.le_of_ble_eq_true rfl) (⟨rfl, _, _, _, _, hDk⟩) dL_does_129
set_option maxHeartbeats 4000000 in
set_option maxRecDepth 100000 in
theorem h_approve_a {l : Launch} {K : Ks} {A : Nat → Prop} {ad : Nat → Nat} {td : Int32} {n : Nat} {M : Nat → Nat → Int32} {w : va_W} (hE : DE K ad td n M w) {i : Nat} (hi : i < n) (hst : M 6 i = 0 ∨ M 6 i = 2) (hdue : ¬ M 5 i ≤ td) {c2 : Int32} {c3 : Int32} {c4 : Int32} : Met l yL_does wsL_does (kR 6 0 0) (kPr K A [.ref (ad 0), .int 3, .int (nI i), .int c2, .int c3, .int c4] w) (kQi K A (fun r w1 => r = 0 ∧ DE K ad td n (up2 M 6 i 1) w1)) 0 0 A := by
  obtain ⟨bad, rm, k, idx, hDk⟩ := hE
  refine kentH (cc := cL_does) (maxL := 7) (ret := some .int) (hh := [(0, 129, 130, 49), (0, 129, 135, 51), (0, 129, 140, 53)]) (by decide) rfl (Nat.le_of_ble_eq_true rfl) ?_
  intro p e s m args below meth c ls hx hb hr hts hown hlocks hml hxt hG hP hD hS hl
  have hl : lv_has ls 7 [(0, .ref (ad 0)), (1, .int 3), (2, .int (nI i)), (3, .int c2), (4, .int c3), (5, .int c4)] := hl
  refine lv_iload_n hx hb dL_does_0 rfl (lv_at hl 1 rfl) ?_
  refine lv_if_ne (tgt := 13) hx hb dL_does_1 (by decide) (fun h1 => ?_) (fun h1 => False.elim (absurd h1 (by decide)))
  refine lv_iload_n hx hb dL_does_13 rfl (lv_at hl 1 rfl) ?_
  refine lv_iconst (v := 1) hx hb dL_does_14 (by decide) ?_
  refine lv_icmp_ne (tgt := 29) hx hb dL_does_15 (by decide) (fun h15 => ?_) (fun h15 => False.elim (absurd h15 (by decide)))
  refine lv_iload_n hx hb dL_does_29 rfl (lv_at hl 1 rfl) ?_
  refine lv_iconst (v := 2) hx hb dL_does_30 (by decide) ?_
  refine lv_icmp_ne (tgt := 47) hx hb dL_does_31 (by decide) (fun h31 => ?_) (fun h31 => False.elim (absurd h31 (by decide)))
  refine lv_iload_n hx hb dL_does_47 rfl (lv_at hl 1 rfl) ?_
  refine lv_iconst (v := 3) hx hb dL_does_48 (by decide) ?_
  refine lv_icmp_ne (tgt := 68) hx hb dL_does_49 (by decide) (fun h49 => False.elim (absurd (by decide) h49)) (fun h49 => ?_)
  refine lv_aload_n hx hb dL_does_52 rfl (lv_at hl 0 rfl) ?_
  refine lv_iload_n hx hb dL_does_53 rfl (lv_at hl 2 rfl) ?_
  refine kc_i (va_runV (As := [.int (nI i)]) (rest := []) ⟨hx, hb, hml, hown, hts⟩ (c_X1_approve_a hDk hi hst hdue) (cwV 1 hts gL_does_X1_approve rfl rfl rfl (by decide +kernel) ⟨(Nat.le_of_ble_eq_true rfl), (Nat.le_of_ble_eq_true rfl)⟩) (kpv (q0 := 0) hG hP hD hS hDk.x rfl) rfl rfl hl.1 rfl (lv_room (Nat.le_of_ble_eq_true rfl)) dL_does_54 ⟨(Nat.le_of_ble_eq_true rfl), (Nat.le_of_ble_eq_true rfl)⟩) hS (fun r w H locs hp hP hD hS => ?_)
  obtain ⟨hp1, hDk⟩ := hp
  rw [hp1]
  refine lv_if_eq (tgt := 64) hx hb dL_does_57 (by decide) (fun h57 => ?_) (fun h57 => False.elim (absurd (by decide) h57))
  refine lv_iconst (v := 0) hx hb dL_does_64 (by decide) ?_
  refine lv_goto (tgt := 129) hx hb dL_does_65 (by decide) ?_
  exact kr_i hx hb hr hlocks hP hD hS (Nat.le_of_ble_eq_true rfl) (Nat.le_of_ble_eq_true rfl) (⟨rfl, _, _, _, _, hDk⟩) dL_does_129
set_option maxHeartbeats 4000000 in
set_option maxRecDepth 100000 in
theorem h_dispute_tb {l : Launch} {K : Ks} {A : Nat → Prop} {ad : Nat → Nat} {td : Int32} {n : Nat} {M : Nat → Nat → Int32} {w : va_W} (hE : DE K ad td n M w) (hlt : l.stackTraces = false) {x : Int32} (hix : ixBad n x) {c2 : Int32} {c3 : Int32} {c4 : Int32} : Met l yL_does wsL_does (kR 6 1 6) (kPr K A [.ref (ad 0), .int 4, .int x, .int c2, .int c3, .int c4] w) (kQi K A (fun r w1 => r = (-30) ∧ DE K ad td n M w1)) 1 6 A := by
  obtain ⟨bad, rm, k, idx, hDk⟩ := hE
  refine kentH (cc := cL_does) (maxL := 7) (ret := some .int) (hh := [(0, 129, 130, 49), (0, 129, 135, 51), (0, 129, 140, 53)]) (by decide) rfl (Nat.le_of_ble_eq_true rfl) ?_
  intro p e s m args below meth c ls hx hb hr hts hown hlocks hml hxt hG hP hD hS hl
  have hl : lv_has ls 7 [(0, .ref (ad 0)), (1, .int 4), (2, .int x), (3, .int c2), (4, .int c3), (5, .int c4)] := hl
  refine lv_iload_n hx hb dL_does_0 rfl (lv_at hl 1 rfl) ?_
  refine lv_if_ne (tgt := 13) hx hb dL_does_1 (by decide) (fun h1 => ?_) (fun h1 => False.elim (absurd h1 (by decide)))
  refine lv_iload_n hx hb dL_does_13 rfl (lv_at hl 1 rfl) ?_
  refine lv_iconst (v := 1) hx hb dL_does_14 (by decide) ?_
  refine lv_icmp_ne (tgt := 29) hx hb dL_does_15 (by decide) (fun h15 => ?_) (fun h15 => False.elim (absurd h15 (by decide)))
  refine lv_iload_n hx hb dL_does_29 rfl (lv_at hl 1 rfl) ?_
  refine lv_iconst (v := 2) hx hb dL_does_30 (by decide) ?_
  refine lv_icmp_ne (tgt := 47) hx hb dL_does_31 (by decide) (fun h31 => ?_) (fun h31 => False.elim (absurd h31 (by decide)))
  refine lv_iload_n hx hb dL_does_47 rfl (lv_at hl 1 rfl) ?_
  refine lv_iconst (v := 3) hx hb dL_does_48 (by decide) ?_
  refine lv_icmp_ne (tgt := 68) hx hb dL_does_49 (by decide) (fun h49 => ?_) (fun h49 => False.elim (absurd h49 (by decide)))
  refine lv_iload_n hx hb dL_does_68 rfl (lv_at hl 1 rfl) ?_
  refine lv_iconst (v := 4) hx hb dL_does_69 (by decide) ?_
  refine lv_icmp_ne (tgt := 81) hx hb dL_does_70 (by decide) (fun h70 => False.elim (absurd (by decide) h70)) (fun h70 => ?_)
  refine lv_aload_n hx hb dL_does_73 rfl (lv_at hl 0 rfl) ?_
  refine lv_iload_n hx hb dL_does_74 rfl (lv_at hl 2 rfl) ?_
  refine kc_t (vx_runS (As := [.ref (ad 0), .int x]) (rest := []) ⟨hx, hb, hml, hown, hts⟩ (h_dis_tb ⟨_, _, _, _, hDk⟩ hlt hix) (va_cwS 2 hts gL_does_L_disputes rfl rfl rfl (by decide +kernel) ⟨(Nat.le_of_ble_eq_true rfl), (Nat.le_of_ble_eq_true rfl)⟩) (kps hG hP hD hS) rfl rfl hl.1 rfl (lv_room (Nat.le_of_ble_eq_true rfl)) dL_does_75 ⟨(Nat.le_of_ble_eq_true rfl), (Nat.le_of_ble_eq_true rfl)⟩) hS (fun ce q9 w H locs hp hP hD hS hce hcv hcl => ?_)
  refine vx_catch (own := RL) (name := IOB) (E := IOB) hown [] ⟨0, 129, 130, 49⟩ [⟨0, 129, 135, 51⟩, ⟨0, 129, 140, 53⟩] (hxt.trans rfl) (fun z hz => absurd hz (by simp)) rfl (by decide) (hts (.classLink RL 49 IOB) (by decide +kernel)) (va_Nw.use rfl hG.2.2.2.2.2.1) hce hcv hcl ?_
  refine lv_astore (lv' := [(6, .ref q9), (0, .ref (ad 0)), (1, .int 4), (2, .int x), (3, .int c2), (4, .int c3), (5, .int c4)]) hx hb dL_does_130 hl (by decide) rfl (fun ls hl => ?_)
  refine lv_bipush (v := (-30)) hx hb dL_does_132 (by decide) ?_
  exact kr_i hx hb hr hlocks hP hD hS (Nat.le_of_ble_eq_true rfl) (Nat.le_of_ble_eq_true rfl) (⟨rfl, hp⟩) dL_does_134
set_option maxHeartbeats 4000000 in
set_option maxRecDepth 100000 in
theorem h_dispute_tp {l : Launch} {K : Ks} {A : Nat → Prop} {ad : Nat → Nat} {td : Int32} {n : Nat} {M : Nat → Nat → Int32} {w : va_W} (hE : DE K ad td n M w) (hlt : l.stackTraces = false) {i : Nat} (hi : i < n) (hst : ¬ (M 6 i = 0 ∨ M 6 i = 1)) {c2 : Int32} {c3 : Int32} {c4 : Int32} : Met l yL_does wsL_does (kR 6 1 6) (kPr K A [.ref (ad 0), .int 4, .int (nI i), .int c2, .int c3, .int c4] w) (kQi K A (fun r w1 => r = (-10) ∧ DE K ad td n M w1)) 1 6 A := by
  obtain ⟨bad, rm, k, idx, hDk⟩ := hE
  refine kentH (cc := cL_does) (maxL := 7) (ret := some .int) (hh := [(0, 129, 130, 49), (0, 129, 135, 51), (0, 129, 140, 53)]) (by decide) rfl (Nat.le_of_ble_eq_true rfl) ?_
  intro p e s m args below meth c ls hx hb hr hts hown hlocks hml hxt hG hP hD hS hl
  have hl : lv_has ls 7 [(0, .ref (ad 0)), (1, .int 4), (2, .int (nI i)), (3, .int c2), (4, .int c3), (5, .int c4)] := hl
  refine lv_iload_n hx hb dL_does_0 rfl (lv_at hl 1 rfl) ?_
  refine lv_if_ne (tgt := 13) hx hb dL_does_1 (by decide) (fun h1 => ?_) (fun h1 => False.elim (absurd h1 (by decide)))
  refine lv_iload_n hx hb dL_does_13 rfl (lv_at hl 1 rfl) ?_
  refine lv_iconst (v := 1) hx hb dL_does_14 (by decide) ?_
  refine lv_icmp_ne (tgt := 29) hx hb dL_does_15 (by decide) (fun h15 => ?_) (fun h15 => False.elim (absurd h15 (by decide)))
  refine lv_iload_n hx hb dL_does_29 rfl (lv_at hl 1 rfl) ?_
  refine lv_iconst (v := 2) hx hb dL_does_30 (by decide) ?_
  refine lv_icmp_ne (tgt := 47) hx hb dL_does_31 (by decide) (fun h31 => ?_) (fun h31 => False.elim (absurd h31 (by decide)))
  refine lv_iload_n hx hb dL_does_47 rfl (lv_at hl 1 rfl) ?_
  refine lv_iconst (v := 3) hx hb dL_does_48 (by decide) ?_
  refine lv_icmp_ne (tgt := 68) hx hb dL_does_49 (by decide) (fun h49 => ?_) (fun h49 => False.elim (absurd h49 (by decide)))
  refine lv_iload_n hx hb dL_does_68 rfl (lv_at hl 1 rfl) ?_
  refine lv_iconst (v := 4) hx hb dL_does_69 (by decide) ?_
  refine lv_icmp_ne (tgt := 81) hx hb dL_does_70 (by decide) (fun h70 => False.elim (absurd (by decide) h70)) (fun h70 => ?_)
  refine lv_aload_n hx hb dL_does_73 rfl (lv_at hl 0 rfl) ?_
  refine lv_iload_n hx hb dL_does_74 rfl (lv_at hl 2 rfl) ?_
  refine kc_t (vx_runS (As := [.ref (ad 0), .int (nI i)]) (rest := []) ⟨hx, hb, hml, hown, hts⟩ (h_dis_tp ⟨_, _, _, _, hDk⟩ hlt hi hst) (va_cwS 2 hts gL_does_L_disputes rfl rfl rfl (by decide +kernel) ⟨(Nat.le_of_ble_eq_true rfl), (Nat.le_of_ble_eq_true rfl)⟩) (kps hG hP hD hS) rfl rfl hl.1 rfl (lv_room (Nat.le_of_ble_eq_true rfl)) dL_does_75 ⟨(Nat.le_of_ble_eq_true rfl), (Nat.le_of_ble_eq_true rfl)⟩) hS (fun ce q9 w H locs hp hP hD hS hce hcv hcl => ?_)
  have hpass : ∀ z ∈ ([⟨0, 129, 130, 49⟩, ⟨0, 129, 135, 51⟩] : List ExceptionTableEntry), covers z 75 = false ∨ (z.catchType ≠ 0 ∧ ∃ nm : String, (Cond.classLink RL z.catchType nm).before args s = true ∧ va_Nc ISE nm s) := by
    intro z hz
    rcases List.mem_cons.mp hz with h9 | h9
    · rw [h9]; exact Or.inr ⟨by decide, IOB, hts (.classLink RL 49 IOB) (by decide +kernel), hG.2.2.2.2.2.2.2.1.2.2.2.2.2.1⟩
    · rw [List.mem_singleton.mp h9]; exact Or.inr ⟨by decide, IAE, hts (.classLink RL 51 IAE) (by decide +kernel), hG.2.2.2.2.2.2.2.1.2.2.2.2.2.2⟩
  refine vx_catch (own := RL) (name := ISE) (E := ISE) hown [⟨0, 129, 130, 49⟩, ⟨0, 129, 135, 51⟩] ⟨0, 129, 140, 53⟩ [] (hxt.trans rfl) hpass rfl (by decide) (hts (.classLink RL 53 ISE) (by decide +kernel)) (va_Nw.use rfl hG.2.2.2.2.2.2.2.1.1) hce hcv hcl ?_
  refine lv_astore (lv' := [(6, .ref q9), (0, .ref (ad 0)), (1, .int 4), (2, .int (nI i)), (3, .int c2), (4, .int c3), (5, .int c4)]) hx hb dL_does_140 hl (by decide) rfl (fun ls hl => ?_)
  refine lv_bipush (v := (-10)) hx hb dL_does_142 (by decide) ?_
  exact kr_i hx hb hr hlocks hP hD hS (Nat.le_of_ble_eq_true rfl) (Nat.le_of_ble_eq_true rfl) (⟨rfl, hp⟩) dL_does_144
set_option maxHeartbeats 4000000 in
set_option maxRecDepth 100000 in
theorem h_dispute {l : Launch} {K : Ks} {A : Nat → Prop} {ad : Nat → Nat} {td : Int32} {n : Nat} {M : Nat → Nat → Int32} {w : va_W} (hE : DE K ad td n M w) {i : Nat} (hi : i < n) (hst : M 6 i = 0 ∨ M 6 i = 1) {c2 : Int32} {c3 : Int32} {c4 : Int32} : Met l yL_does wsL_does (kR 6 0 0) (kPr K A [.ref (ad 0), .int 4, .int (nI i), .int c2, .int c3, .int c4] w) (kQi K A (fun r w1 => r = 0 ∧ DE K ad td n (up2 (up2 M 6 i 2) 7 i (-1)) w1)) 0 0 A := by
  obtain ⟨bad, rm, k, idx, hDk⟩ := hE
  refine kentH (cc := cL_does) (maxL := 7) (ret := some .int) (hh := [(0, 129, 130, 49), (0, 129, 135, 51), (0, 129, 140, 53)]) (by decide) rfl (Nat.le_of_ble_eq_true rfl) ?_
  intro p e s m args below meth c ls hx hb hr hts hown hlocks hml hxt hG hP hD hS hl
  have hl : lv_has ls 7 [(0, .ref (ad 0)), (1, .int 4), (2, .int (nI i)), (3, .int c2), (4, .int c3), (5, .int c4)] := hl
  refine lv_iload_n hx hb dL_does_0 rfl (lv_at hl 1 rfl) ?_
  refine lv_if_ne (tgt := 13) hx hb dL_does_1 (by decide) (fun h1 => ?_) (fun h1 => False.elim (absurd h1 (by decide)))
  refine lv_iload_n hx hb dL_does_13 rfl (lv_at hl 1 rfl) ?_
  refine lv_iconst (v := 1) hx hb dL_does_14 (by decide) ?_
  refine lv_icmp_ne (tgt := 29) hx hb dL_does_15 (by decide) (fun h15 => ?_) (fun h15 => False.elim (absurd h15 (by decide)))
  refine lv_iload_n hx hb dL_does_29 rfl (lv_at hl 1 rfl) ?_
  refine lv_iconst (v := 2) hx hb dL_does_30 (by decide) ?_
  refine lv_icmp_ne (tgt := 47) hx hb dL_does_31 (by decide) (fun h31 => ?_) (fun h31 => False.elim (absurd h31 (by decide)))
  refine lv_iload_n hx hb dL_does_47 rfl (lv_at hl 1 rfl) ?_
  refine lv_iconst (v := 3) hx hb dL_does_48 (by decide) ?_
  refine lv_icmp_ne (tgt := 68) hx hb dL_does_49 (by decide) (fun h49 => ?_) (fun h49 => False.elim (absurd h49 (by decide)))
  refine lv_iload_n hx hb dL_does_68 rfl (lv_at hl 1 rfl) ?_
  refine lv_iconst (v := 4) hx hb dL_does_69 (by decide) ?_
  refine lv_icmp_ne (tgt := 81) hx hb dL_does_70 (by decide) (fun h70 => False.elim (absurd (by decide) h70)) (fun h70 => ?_)
  refine lv_aload_n hx hb dL_does_73 rfl (lv_at hl 0 rfl) ?_
  refine lv_iload_n hx hb dL_does_74 rfl (lv_at hl 2 rfl) ?_
  refine kc_i (va_runS (As := [.ref (ad 0), .int (nI i)]) (rest := []) ⟨hx, hb, hml, hown, hts⟩ (h_dis ⟨_, _, _, _, hDk⟩ hi hst) (va_cwS 2 hts gL_does_L_disputes rfl rfl rfl (by decide +kernel) ⟨(Nat.le_of_ble_eq_true rfl), (Nat.le_of_ble_eq_true rfl)⟩) (kps hG hP hD hS) rfl rfl hl.1 rfl (lv_room (Nat.le_of_ble_eq_true rfl)) dL_does_75 ⟨(Nat.le_of_ble_eq_true rfl), (Nat.le_of_ble_eq_true rfl)⟩) hS (fun r w H locs hp hP hD hS => ?_)
  obtain ⟨hp1, hE1⟩ := hp
  refine lv_goto (tgt := 129) hx hb dL_does_78 (by decide) ?_
  exact kr_i hx hb hr hlocks hP hD hS (Nat.le_of_ble_eq_true rfl) (Nat.le_of_ble_eq_true rfl) (⟨hp1, hE1⟩) dL_does_129
set_option maxHeartbeats 4000000 in
set_option maxRecDepth 100000 in
theorem h_note_tb {l : Launch} {K : Ks} {A : Nat → Prop} {ad : Nat → Nat} {td : Int32} {n : Nat} {M : Nat → Nat → Int32} {w : va_W} (hE : DE K ad td n M w) (hlt : l.stackTraces = false) {x : Int32} (hix : ixBad n x) {y : Int32} {c3 : Int32} {c4 : Int32} : Met l yL_does wsL_does (kR 6 1 6) (kPr K A [.ref (ad 0), .int 5, .int x, .int y, .int c3, .int c4] w) (kQi K A (fun r w1 => r = (-30) ∧ DE K ad td n M w1)) 1 6 A := by
  obtain ⟨bad, rm, k, idx, hDk⟩ := hE
  refine kentH (cc := cL_does) (maxL := 7) (ret := some .int) (hh := [(0, 129, 130, 49), (0, 129, 135, 51), (0, 129, 140, 53)]) (by decide) rfl (Nat.le_of_ble_eq_true rfl) ?_
  intro p e s m args below meth c ls hx hb hr hts hown hlocks hml hxt hG hP hD hS hl
  have hl : lv_has ls 7 [(0, .ref (ad 0)), (1, .int 5), (2, .int x), (3, .int y), (4, .int c3), (5, .int c4)] := hl
  refine lv_iload_n hx hb dL_does_0 rfl (lv_at hl 1 rfl) ?_
  refine lv_if_ne (tgt := 13) hx hb dL_does_1 (by decide) (fun h1 => ?_) (fun h1 => False.elim (absurd h1 (by decide)))
  refine lv_iload_n hx hb dL_does_13 rfl (lv_at hl 1 rfl) ?_
  refine lv_iconst (v := 1) hx hb dL_does_14 (by decide) ?_
  refine lv_icmp_ne (tgt := 29) hx hb dL_does_15 (by decide) (fun h15 => ?_) (fun h15 => False.elim (absurd h15 (by decide)))
  refine lv_iload_n hx hb dL_does_29 rfl (lv_at hl 1 rfl) ?_
  refine lv_iconst (v := 2) hx hb dL_does_30 (by decide) ?_
  refine lv_icmp_ne (tgt := 47) hx hb dL_does_31 (by decide) (fun h31 => ?_) (fun h31 => False.elim (absurd h31 (by decide)))
  refine lv_iload_n hx hb dL_does_47 rfl (lv_at hl 1 rfl) ?_
  refine lv_iconst (v := 3) hx hb dL_does_48 (by decide) ?_
  refine lv_icmp_ne (tgt := 68) hx hb dL_does_49 (by decide) (fun h49 => ?_) (fun h49 => False.elim (absurd h49 (by decide)))
  refine lv_iload_n hx hb dL_does_68 rfl (lv_at hl 1 rfl) ?_
  refine lv_iconst (v := 4) hx hb dL_does_69 (by decide) ?_
  refine lv_icmp_ne (tgt := 81) hx hb dL_does_70 (by decide) (fun h70 => ?_) (fun h70 => False.elim (absurd h70 (by decide)))
  refine lv_iload_n hx hb dL_does_81 rfl (lv_at hl 1 rfl) ?_
  refine lv_iconst (v := 5) hx hb dL_does_82 (by decide) ?_
  refine lv_icmp_ne (tgt := 95) hx hb dL_does_83 (by decide) (fun h83 => False.elim (absurd (by decide) h83)) (fun h83 => ?_)
  refine lv_aload_n hx hb dL_does_86 rfl (lv_at hl 0 rfl) ?_
  refine lv_iload_n hx hb dL_does_87 rfl (lv_at hl 2 rfl) ?_
  refine lv_iload_n hx hb dL_does_88 rfl (lv_at hl 3 rfl) ?_
  refine kc_t (vx_runV (As := [.int x, .int y]) (rest := []) ⟨hx, hb, hml, hown, hts⟩ (c_X1_note_tb hDk hlt hix) (cwV 2 hts gL_does_X1_note rfl rfl rfl (by decide +kernel) ⟨(Nat.le_of_ble_eq_true rfl), (Nat.le_of_ble_eq_true rfl)⟩) (kpv (q0 := 0) hG hP hD hS hDk.x rfl) rfl rfl hl.1 rfl (lv_room (Nat.le_of_ble_eq_true rfl)) dL_does_89 ⟨(Nat.le_of_ble_eq_true rfl), (Nat.le_of_ble_eq_true rfl)⟩) hS (fun ce q9 w H locs hp hP hD hS hce hcv hcl => ?_)
  refine vx_catch (own := RL) (name := IOB) (E := IOB) hown [] ⟨0, 129, 130, 49⟩ [⟨0, 129, 135, 51⟩, ⟨0, 129, 140, 53⟩] (hxt.trans rfl) (fun z hz => absurd hz (by simp)) rfl (by decide) (hts (.classLink RL 49 IOB) (by decide +kernel)) (va_Nw.use rfl hG.2.2.2.2.2.1) hce hcv hcl ?_
  refine lv_astore (lv' := [(6, .ref q9), (0, .ref (ad 0)), (1, .int 5), (2, .int x), (3, .int y), (4, .int c3), (5, .int c4)]) hx hb dL_does_130 hl (by decide) rfl (fun ls hl => ?_)
  refine lv_bipush (v := (-30)) hx hb dL_does_132 (by decide) ?_
  exact kr_i hx hb hr hlocks hP hD hS (Nat.le_of_ble_eq_true rfl) (Nat.le_of_ble_eq_true rfl) (⟨rfl, ⟨_, _, _, _, hp⟩⟩) dL_does_134
set_option maxHeartbeats 4000000 in
set_option maxRecDepth 100000 in
theorem h_note_tr {l : Launch} {K : Ks} {A : Nat → Prop} {ad : Nat → Nat} {td : Int32} {n : Nat} {M : Nat → Nat → Int32} {w : va_W} (hE : DE K ad td n M w) (hlt : l.stackTraces = false) {i : Nat} (hi : i < n) {y : Int32} (hy : ¬ inR 1 (M 4 i - M 10 i) y) {c3 : Int32} {c4 : Int32} : Met l yL_does wsL_does (kR 6 1 6) (kPr K A [.ref (ad 0), .int 5, .int (nI i), .int y, .int c3, .int c4] w) (kQi K A (fun r w1 => r = (-20) ∧ DE K ad td n M w1)) 1 6 A := by
  obtain ⟨bad, rm, k, idx, hDk⟩ := hE
  refine kentH (cc := cL_does) (maxL := 7) (ret := some .int) (hh := [(0, 129, 130, 49), (0, 129, 135, 51), (0, 129, 140, 53)]) (by decide) rfl (Nat.le_of_ble_eq_true rfl) ?_
  intro p e s m args below meth c ls hx hb hr hts hown hlocks hml hxt hG hP hD hS hl
  have hl : lv_has ls 7 [(0, .ref (ad 0)), (1, .int 5), (2, .int (nI i)), (3, .int y), (4, .int c3), (5, .int c4)] := hl
  refine lv_iload_n hx hb dL_does_0 rfl (lv_at hl 1 rfl) ?_
  refine lv_if_ne (tgt := 13) hx hb dL_does_1 (by decide) (fun h1 => ?_) (fun h1 => False.elim (absurd h1 (by decide)))
  refine lv_iload_n hx hb dL_does_13 rfl (lv_at hl 1 rfl) ?_
  refine lv_iconst (v := 1) hx hb dL_does_14 (by decide) ?_
  refine lv_icmp_ne (tgt := 29) hx hb dL_does_15 (by decide) (fun h15 => ?_) (fun h15 => False.elim (absurd h15 (by decide)))
  refine lv_iload_n hx hb dL_does_29 rfl (lv_at hl 1 rfl) ?_
  refine lv_iconst (v := 2) hx hb dL_does_30 (by decide) ?_
  refine lv_icmp_ne (tgt := 47) hx hb dL_does_31 (by decide) (fun h31 => ?_) (fun h31 => False.elim (absurd h31 (by decide)))
  refine lv_iload_n hx hb dL_does_47 rfl (lv_at hl 1 rfl) ?_
  refine lv_iconst (v := 3) hx hb dL_does_48 (by decide) ?_
  refine lv_icmp_ne (tgt := 68) hx hb dL_does_49 (by decide) (fun h49 => ?_) (fun h49 => False.elim (absurd h49 (by decide)))
  refine lv_iload_n hx hb dL_does_68 rfl (lv_at hl 1 rfl) ?_
  refine lv_iconst (v := 4) hx hb dL_does_69 (by decide) ?_
  refine lv_icmp_ne (tgt := 81) hx hb dL_does_70 (by decide) (fun h70 => ?_) (fun h70 => False.elim (absurd h70 (by decide)))
  refine lv_iload_n hx hb dL_does_81 rfl (lv_at hl 1 rfl) ?_
  refine lv_iconst (v := 5) hx hb dL_does_82 (by decide) ?_
  refine lv_icmp_ne (tgt := 95) hx hb dL_does_83 (by decide) (fun h83 => False.elim (absurd (by decide) h83)) (fun h83 => ?_)
  refine lv_aload_n hx hb dL_does_86 rfl (lv_at hl 0 rfl) ?_
  refine lv_iload_n hx hb dL_does_87 rfl (lv_at hl 2 rfl) ?_
  refine lv_iload_n hx hb dL_does_88 rfl (lv_at hl 3 rfl) ?_
  refine kc_t (vx_runV (As := [.int (nI i), .int y]) (rest := []) ⟨hx, hb, hml, hown, hts⟩ (c_X1_note_tr hDk hlt hi hy) (cwV 2 hts gL_does_X1_note rfl rfl rfl (by decide +kernel) ⟨(Nat.le_of_ble_eq_true rfl), (Nat.le_of_ble_eq_true rfl)⟩) (kpv (q0 := 0) hG hP hD hS hDk.x rfl) rfl rfl hl.1 rfl (lv_room (Nat.le_of_ble_eq_true rfl)) dL_does_89 ⟨(Nat.le_of_ble_eq_true rfl), (Nat.le_of_ble_eq_true rfl)⟩) hS (fun ce q9 w H locs hp hP hD hS hce hcv hcl => ?_)
  refine vx_catch (own := RL) (name := IAE) (E := IAE) hown [⟨0, 129, 130, 49⟩] ⟨0, 129, 135, 51⟩ [⟨0, 129, 140, 53⟩] (hxt.trans rfl) (fun z hz => by rw [List.mem_singleton.mp hz]; exact Or.inr ⟨by decide, IOB, hts (.classLink RL 49 IOB) (by decide +kernel), hG.2.2.2.2.2.2.2.1.2.2.2.2.1⟩) rfl (by decide) (hts (.classLink RL 51 IAE) (by decide +kernel)) (va_Nw.use rfl hG.2.2.2.2.2.2.1) hce hcv hcl ?_
  refine lv_astore (lv' := [(6, .ref q9), (0, .ref (ad 0)), (1, .int 5), (2, .int (nI i)), (3, .int y), (4, .int c3), (5, .int c4)]) hx hb dL_does_135 hl (by decide) rfl (fun ls hl => ?_)
  refine lv_bipush (v := (-20)) hx hb dL_does_137 (by decide) ?_
  exact kr_i hx hb hr hlocks hP hD hS (Nat.le_of_ble_eq_true rfl) (Nat.le_of_ble_eq_true rfl) (⟨rfl, ⟨_, _, _, _, hp⟩⟩) dL_does_139
set_option maxHeartbeats 4000000 in
set_option maxRecDepth 100000 in
theorem h_note_p {l : Launch} {K : Ks} {A : Nat → Prop} {ad : Nat → Nat} {td : Int32} {n : Nat} {M : Nat → Nat → Int32} {w : va_W} (hE : DE K ad td n M w) {i : Nat} (hi : i < n) (hm : okP M i) {y : Int32} (ham : inR 1 1000000 (M 4 i)) (hy : inR 1 (M 4 i - M 10 i) y) (hst : M 6 i = 3 ∨ M 6 i = 4) {c3 : Int32} {c4 : Int32} : Met l yL_does wsL_does (kR 6 0 0) (kPr K A [.ref (ad 0), .int 5, .int (nI i), .int y, .int c3, .int c4] w) (kQi K A (fun r w1 => r = moreS M i y ∧ DE K ad td n (noteM M i y) w1)) 0 0 A := by
  obtain ⟨bad, rm, k, idx, hDk⟩ := hE
  refine kentH (cc := cL_does) (maxL := 7) (ret := some .int) (hh := [(0, 129, 130, 49), (0, 129, 135, 51), (0, 129, 140, 53)]) (by decide) rfl (Nat.le_of_ble_eq_true rfl) ?_
  intro p e s m args below meth c ls hx hb hr hts hown hlocks hml hxt hG hP hD hS hl
  have hl : lv_has ls 7 [(0, .ref (ad 0)), (1, .int 5), (2, .int (nI i)), (3, .int y), (4, .int c3), (5, .int c4)] := hl
  refine lv_iload_n hx hb dL_does_0 rfl (lv_at hl 1 rfl) ?_
  refine lv_if_ne (tgt := 13) hx hb dL_does_1 (by decide) (fun h1 => ?_) (fun h1 => False.elim (absurd h1 (by decide)))
  refine lv_iload_n hx hb dL_does_13 rfl (lv_at hl 1 rfl) ?_
  refine lv_iconst (v := 1) hx hb dL_does_14 (by decide) ?_
  refine lv_icmp_ne (tgt := 29) hx hb dL_does_15 (by decide) (fun h15 => ?_) (fun h15 => False.elim (absurd h15 (by decide)))
  refine lv_iload_n hx hb dL_does_29 rfl (lv_at hl 1 rfl) ?_
  refine lv_iconst (v := 2) hx hb dL_does_30 (by decide) ?_
  refine lv_icmp_ne (tgt := 47) hx hb dL_does_31 (by decide) (fun h31 => ?_) (fun h31 => False.elim (absurd h31 (by decide)))
  refine lv_iload_n hx hb dL_does_47 rfl (lv_at hl 1 rfl) ?_
  refine lv_iconst (v := 3) hx hb dL_does_48 (by decide) ?_
  refine lv_icmp_ne (tgt := 68) hx hb dL_does_49 (by decide) (fun h49 => ?_) (fun h49 => False.elim (absurd h49 (by decide)))
  refine lv_iload_n hx hb dL_does_68 rfl (lv_at hl 1 rfl) ?_
  refine lv_iconst (v := 4) hx hb dL_does_69 (by decide) ?_
  refine lv_icmp_ne (tgt := 81) hx hb dL_does_70 (by decide) (fun h70 => ?_) (fun h70 => False.elim (absurd h70 (by decide)))
  refine lv_iload_n hx hb dL_does_81 rfl (lv_at hl 1 rfl) ?_
  refine lv_iconst (v := 5) hx hb dL_does_82 (by decide) ?_
  refine lv_icmp_ne (tgt := 95) hx hb dL_does_83 (by decide) (fun h83 => False.elim (absurd (by decide) h83)) (fun h83 => ?_)
  refine lv_aload_n hx hb dL_does_86 rfl (lv_at hl 0 rfl) ?_
  refine lv_iload_n hx hb dL_does_87 rfl (lv_at hl 2 rfl) ?_
  refine lv_iload_n hx hb dL_does_88 rfl (lv_at hl 3 rfl) ?_
  refine kc_i (va_runV (As := [.int (nI i), .int y]) (rest := []) ⟨hx, hb, hml, hown, hts⟩ (c_X1_note_p hDk hi hm ham hy hst) (cwV 2 hts gL_does_X1_note rfl rfl rfl (by decide +kernel) ⟨(Nat.le_of_ble_eq_true rfl), (Nat.le_of_ble_eq_true rfl)⟩) (kpv (q0 := 0) hG hP hD hS hDk.x rfl) rfl rfl hl.1 rfl (lv_room (Nat.le_of_ble_eq_true rfl)) dL_does_89 ⟨(Nat.le_of_ble_eq_true rfl), (Nat.le_of_ble_eq_true rfl)⟩) hS (fun r w H locs hp hP hD hS => ?_)
  obtain ⟨hp1, hDk⟩ := hp
  refine lv_goto (tgt := 129) hx hb dL_does_92 (by decide) ?_
  exact kr_i hx hb hr hlocks hP hD hS (Nat.le_of_ble_eq_true rfl) (Nat.le_of_ble_eq_true rfl) (⟨hp1, _, _, _, _, hDk⟩) dL_does_129
set_option maxHeartbeats 4000000 in
set_option maxRecDepth 100000 in
theorem h_note_u {l : Launch} {K : Ks} {A : Nat → Prop} {ad : Nat → Nat} {td : Int32} {n : Nat} {M : Nat → Nat → Int32} {w : va_W} (hE : DE K ad td n M w) {i : Nat} (hi : i < n) {y : Int32} (hy : inR 1 (M 4 i - M 10 i) y) (hst : ¬ (M 6 i = 3 ∨ M 6 i = 4)) {c3 : Int32} {c4 : Int32} : Met l yL_does wsL_does (kR 6 0 0) (kPr K A [.ref (ad 0), .int 5, .int (nI i), .int y, .int c3, .int c4] w) (kQi K A (fun r w1 => r = M 4 i - y ∧ DE K ad td n (up2 M 4 i (M 4 i - y)) w1)) 0 0 A := by
  obtain ⟨bad, rm, k, idx, hDk⟩ := hE
  refine kentH (cc := cL_does) (maxL := 7) (ret := some .int) (hh := [(0, 129, 130, 49), (0, 129, 135, 51), (0, 129, 140, 53)]) (by decide) rfl (Nat.le_of_ble_eq_true rfl) ?_
  intro p e s m args below meth c ls hx hb hr hts hown hlocks hml hxt hG hP hD hS hl
  have hl : lv_has ls 7 [(0, .ref (ad 0)), (1, .int 5), (2, .int (nI i)), (3, .int y), (4, .int c3), (5, .int c4)] := hl
  refine lv_iload_n hx hb dL_does_0 rfl (lv_at hl 1 rfl) ?_
  refine lv_if_ne (tgt := 13) hx hb dL_does_1 (by decide) (fun h1 => ?_) (fun h1 => False.elim (absurd h1 (by decide)))
  refine lv_iload_n hx hb dL_does_13 rfl (lv_at hl 1 rfl) ?_
  refine lv_iconst (v := 1) hx hb dL_does_14 (by decide) ?_
  refine lv_icmp_ne (tgt := 29) hx hb dL_does_15 (by decide) (fun h15 => ?_) (fun h15 => False.elim (absurd h15 (by decide)))
  refine lv_iload_n hx hb dL_does_29 rfl (lv_at hl 1 rfl) ?_
  refine lv_iconst (v := 2) hx hb dL_does_30 (by decide) ?_
  refine lv_icmp_ne (tgt := 47) hx hb dL_does_31 (by decide) (fun h31 => ?_) (fun h31 => False.elim (absurd h31 (by decide)))
  refine lv_iload_n hx hb dL_does_47 rfl (lv_at hl 1 rfl) ?_
  refine lv_iconst (v := 3) hx hb dL_does_48 (by decide) ?_
  refine lv_icmp_ne (tgt := 68) hx hb dL_does_49 (by decide) (fun h49 => ?_) (fun h49 => False.elim (absurd h49 (by decide)))
  refine lv_iload_n hx hb dL_does_68 rfl (lv_at hl 1 rfl) ?_
  refine lv_iconst (v := 4) hx hb dL_does_69 (by decide) ?_
  refine lv_icmp_ne (tgt := 81) hx hb dL_does_70 (by decide) (fun h70 => ?_) (fun h70 => False.elim (absurd h70 (by decide)))
  refine lv_iload_n hx hb dL_does_81 rfl (lv_at hl 1 rfl) ?_
  refine lv_iconst (v := 5) hx hb dL_does_82 (by decide) ?_
  refine lv_icmp_ne (tgt := 95) hx hb dL_does_83 (by decide) (fun h83 => False.elim (absurd (by decide) h83)) (fun h83 => ?_)
  refine lv_aload_n hx hb dL_does_86 rfl (lv_at hl 0 rfl) ?_
  refine lv_iload_n hx hb dL_does_87 rfl (lv_at hl 2 rfl) ?_
  refine lv_iload_n hx hb dL_does_88 rfl (lv_at hl 3 rfl) ?_
  refine kc_i (va_runV (As := [.int (nI i), .int y]) (rest := []) ⟨hx, hb, hml, hown, hts⟩ (c_X1_note_u hDk hi hy hst) (cwV 2 hts gL_does_X1_note rfl rfl rfl (by decide +kernel) ⟨(Nat.le_of_ble_eq_true rfl), (Nat.le_of_ble_eq_true rfl)⟩) (kpv (q0 := 0) hG hP hD hS hDk.x rfl) rfl rfl hl.1 rfl (lv_room (Nat.le_of_ble_eq_true rfl)) dL_does_89 ⟨(Nat.le_of_ble_eq_true rfl), (Nat.le_of_ble_eq_true rfl)⟩) hS (fun r w H locs hp hP hD hS => ?_)
  obtain ⟨hp1, hDk⟩ := hp
  refine lv_goto (tgt := 129) hx hb dL_does_92 (by decide) ?_
  exact kr_i hx hb hr hlocks hP hD hS (Nat.le_of_ble_eq_true rfl) (Nat.le_of_ble_eq_true rfl) (⟨hp1, _, _, _, _, hDk⟩) dL_does_129
set_option maxHeartbeats 4000000 in
set_option maxRecDepth 100000 in
theorem h_offer_tb {l : Launch} {K : Ks} {A : Nat → Prop} {ad : Nat → Nat} {td : Int32} {n : Nat} {M : Nat → Nat → Int32} {w : va_W} (hE : DE K ad td n M w) (hlt : l.stackTraces = false) {x : Int32} (hix : ixBad n x) {y : Int32} {c3 : Int32} {c4 : Int32} : Met l yL_does wsL_does (kR 6 1 6) (kPr K A [.ref (ad 0), .int 6, .int x, .int y, .int c3, .int c4] w) (kQi K A (fun r w1 => r = (-30) ∧ DE K ad td n M w1)) 1 6 A := by
  obtain ⟨bad, rm, k, idx, hDk⟩ := hE
  refine kentH (cc := cL_does) (maxL := 7) (ret := some .int) (hh := [(0, 129, 130, 49), (0, 129, 135, 51), (0, 129, 140, 53)]) (by decide) rfl (Nat.le_of_ble_eq_true rfl) ?_
  intro p e s m args below meth c ls hx hb hr hts hown hlocks hml hxt hG hP hD hS hl
  have hl : lv_has ls 7 [(0, .ref (ad 0)), (1, .int 6), (2, .int x), (3, .int y), (4, .int c3), (5, .int c4)] := hl
  refine lv_iload_n hx hb dL_does_0 rfl (lv_at hl 1 rfl) ?_
  refine lv_if_ne (tgt := 13) hx hb dL_does_1 (by decide) (fun h1 => ?_) (fun h1 => False.elim (absurd h1 (by decide)))
  refine lv_iload_n hx hb dL_does_13 rfl (lv_at hl 1 rfl) ?_
  refine lv_iconst (v := 1) hx hb dL_does_14 (by decide) ?_
  refine lv_icmp_ne (tgt := 29) hx hb dL_does_15 (by decide) (fun h15 => ?_) (fun h15 => False.elim (absurd h15 (by decide)))
  refine lv_iload_n hx hb dL_does_29 rfl (lv_at hl 1 rfl) ?_
  refine lv_iconst (v := 2) hx hb dL_does_30 (by decide) ?_
  refine lv_icmp_ne (tgt := 47) hx hb dL_does_31 (by decide) (fun h31 => ?_) (fun h31 => False.elim (absurd h31 (by decide)))
  refine lv_iload_n hx hb dL_does_47 rfl (lv_at hl 1 rfl) ?_
  refine lv_iconst (v := 3) hx hb dL_does_48 (by decide) ?_
  refine lv_icmp_ne (tgt := 68) hx hb dL_does_49 (by decide) (fun h49 => ?_) (fun h49 => False.elim (absurd h49 (by decide)))
  refine lv_iload_n hx hb dL_does_68 rfl (lv_at hl 1 rfl) ?_
  refine lv_iconst (v := 4) hx hb dL_does_69 (by decide) ?_
  refine lv_icmp_ne (tgt := 81) hx hb dL_does_70 (by decide) (fun h70 => ?_) (fun h70 => False.elim (absurd h70 (by decide)))
  refine lv_iload_n hx hb dL_does_81 rfl (lv_at hl 1 rfl) ?_
  refine lv_iconst (v := 5) hx hb dL_does_82 (by decide) ?_
  refine lv_icmp_ne (tgt := 95) hx hb dL_does_83 (by decide) (fun h83 => ?_) (fun h83 => False.elim (absurd h83 (by decide)))
  refine lv_iload_n hx hb dL_does_95 rfl (lv_at hl 1 rfl) ?_
  refine lv_bipush (v := 6) hx hb dL_does_96 (by decide) ?_
  refine lv_icmp_ne (tgt := 110) hx hb dL_does_98 (by decide) (fun h98 => False.elim (absurd (by decide) h98)) (fun h98 => ?_)
  refine lv_aload_n hx hb dL_does_101 rfl (lv_at hl 0 rfl) ?_
  refine lv_iload_n hx hb dL_does_102 rfl (lv_at hl 2 rfl) ?_
  refine lv_iload_n hx hb dL_does_103 rfl (lv_at hl 3 rfl) ?_
  refine kc_t (vx_runV (As := [.int x, .int y]) (rest := []) ⟨hx, hb, hml, hown, hts⟩ (c_X1_offer_tb hDk hlt hix) (cwV 2 hts gL_does_X1_offer rfl rfl rfl (by decide +kernel) ⟨(Nat.le_of_ble_eq_true rfl), (Nat.le_of_ble_eq_true rfl)⟩) (kpv (q0 := 0) hG hP hD hS hDk.x rfl) rfl rfl hl.1 rfl (lv_room (Nat.le_of_ble_eq_true rfl)) dL_does_104 ⟨(Nat.le_of_ble_eq_true rfl), (Nat.le_of_ble_eq_true rfl)⟩) hS (fun ce q9 w H locs hp hP hD hS hce hcv hcl => ?_)
  refine vx_catch (own := RL) (name := IOB) (E := IOB) hown [] ⟨0, 129, 130, 49⟩ [⟨0, 129, 135, 51⟩, ⟨0, 129, 140, 53⟩] (hxt.trans rfl) (fun z hz => absurd hz (by simp)) rfl (by decide) (hts (.classLink RL 49 IOB) (by decide +kernel)) (va_Nw.use rfl hG.2.2.2.2.2.1) hce hcv hcl ?_
  refine lv_astore (lv' := [(6, .ref q9), (0, .ref (ad 0)), (1, .int 6), (2, .int x), (3, .int y), (4, .int c3), (5, .int c4)]) hx hb dL_does_130 hl (by decide) rfl (fun ls hl => ?_)
  refine lv_bipush (v := (-30)) hx hb dL_does_132 (by decide) ?_
  exact kr_i hx hb hr hlocks hP hD hS (Nat.le_of_ble_eq_true rfl) (Nat.le_of_ble_eq_true rfl) (⟨rfl, ⟨_, _, _, _, hp⟩⟩) dL_does_134
set_option maxHeartbeats 4000000 in
set_option maxRecDepth 100000 in
theorem h_offer_tr {l : Launch} {K : Ks} {A : Nat → Prop} {ad : Nat → Nat} {td : Int32} {n : Nat} {M : Nat → Nat → Int32} {w : va_W} (hE : DE K ad td n M w) (hlt : l.stackTraces = false) {i : Nat} (hi : i < n) {y : Int32} (hy : ¬ inR 0 5000 y) {c3 : Int32} {c4 : Int32} : Met l yL_does wsL_does (kR 6 1 6) (kPr K A [.ref (ad 0), .int 6, .int (nI i), .int y, .int c3, .int c4] w) (kQi K A (fun r w1 => r = (-20) ∧ DE K ad td n M w1)) 1 6 A := by
  obtain ⟨bad, rm, k, idx, hDk⟩ := hE
  refine kentH (cc := cL_does) (maxL := 7) (ret := some .int) (hh := [(0, 129, 130, 49), (0, 129, 135, 51), (0, 129, 140, 53)]) (by decide) rfl (Nat.le_of_ble_eq_true rfl) ?_
  intro p e s m args below meth c ls hx hb hr hts hown hlocks hml hxt hG hP hD hS hl
  have hl : lv_has ls 7 [(0, .ref (ad 0)), (1, .int 6), (2, .int (nI i)), (3, .int y), (4, .int c3), (5, .int c4)] := hl
  refine lv_iload_n hx hb dL_does_0 rfl (lv_at hl 1 rfl) ?_
  refine lv_if_ne (tgt := 13) hx hb dL_does_1 (by decide) (fun h1 => ?_) (fun h1 => False.elim (absurd h1 (by decide)))
  refine lv_iload_n hx hb dL_does_13 rfl (lv_at hl 1 rfl) ?_
  refine lv_iconst (v := 1) hx hb dL_does_14 (by decide) ?_
  refine lv_icmp_ne (tgt := 29) hx hb dL_does_15 (by decide) (fun h15 => ?_) (fun h15 => False.elim (absurd h15 (by decide)))
  refine lv_iload_n hx hb dL_does_29 rfl (lv_at hl 1 rfl) ?_
  refine lv_iconst (v := 2) hx hb dL_does_30 (by decide) ?_
  refine lv_icmp_ne (tgt := 47) hx hb dL_does_31 (by decide) (fun h31 => ?_) (fun h31 => False.elim (absurd h31 (by decide)))
  refine lv_iload_n hx hb dL_does_47 rfl (lv_at hl 1 rfl) ?_
  refine lv_iconst (v := 3) hx hb dL_does_48 (by decide) ?_
  refine lv_icmp_ne (tgt := 68) hx hb dL_does_49 (by decide) (fun h49 => ?_) (fun h49 => False.elim (absurd h49 (by decide)))
  refine lv_iload_n hx hb dL_does_68 rfl (lv_at hl 1 rfl) ?_
  refine lv_iconst (v := 4) hx hb dL_does_69 (by decide) ?_
  refine lv_icmp_ne (tgt := 81) hx hb dL_does_70 (by decide) (fun h70 => ?_) (fun h70 => False.elim (absurd h70 (by decide)))
  refine lv_iload_n hx hb dL_does_81 rfl (lv_at hl 1 rfl) ?_
  refine lv_iconst (v := 5) hx hb dL_does_82 (by decide) ?_
  refine lv_icmp_ne (tgt := 95) hx hb dL_does_83 (by decide) (fun h83 => ?_) (fun h83 => False.elim (absurd h83 (by decide)))
  refine lv_iload_n hx hb dL_does_95 rfl (lv_at hl 1 rfl) ?_
  refine lv_bipush (v := 6) hx hb dL_does_96 (by decide) ?_
  refine lv_icmp_ne (tgt := 110) hx hb dL_does_98 (by decide) (fun h98 => False.elim (absurd (by decide) h98)) (fun h98 => ?_)
  refine lv_aload_n hx hb dL_does_101 rfl (lv_at hl 0 rfl) ?_
  refine lv_iload_n hx hb dL_does_102 rfl (lv_at hl 2 rfl) ?_
  refine lv_iload_n hx hb dL_does_103 rfl (lv_at hl 3 rfl) ?_
  refine kc_t (vx_runV (As := [.int (nI i), .int y]) (rest := []) ⟨hx, hb, hml, hown, hts⟩ (c_X1_offer_tr hDk hlt hi hy) (cwV 2 hts gL_does_X1_offer rfl rfl rfl (by decide +kernel) ⟨(Nat.le_of_ble_eq_true rfl), (Nat.le_of_ble_eq_true rfl)⟩) (kpv (q0 := 0) hG hP hD hS hDk.x rfl) rfl rfl hl.1 rfl (lv_room (Nat.le_of_ble_eq_true rfl)) dL_does_104 ⟨(Nat.le_of_ble_eq_true rfl), (Nat.le_of_ble_eq_true rfl)⟩) hS (fun ce q9 w H locs hp hP hD hS hce hcv hcl => ?_)
  refine vx_catch (own := RL) (name := IAE) (E := IAE) hown [⟨0, 129, 130, 49⟩] ⟨0, 129, 135, 51⟩ [⟨0, 129, 140, 53⟩] (hxt.trans rfl) (fun z hz => by rw [List.mem_singleton.mp hz]; exact Or.inr ⟨by decide, IOB, hts (.classLink RL 49 IOB) (by decide +kernel), hG.2.2.2.2.2.2.2.1.2.2.2.2.1⟩) rfl (by decide) (hts (.classLink RL 51 IAE) (by decide +kernel)) (va_Nw.use rfl hG.2.2.2.2.2.2.1) hce hcv hcl ?_
  refine lv_astore (lv' := [(6, .ref q9), (0, .ref (ad 0)), (1, .int 6), (2, .int (nI i)), (3, .int y), (4, .int c3), (5, .int c4)]) hx hb dL_does_135 hl (by decide) rfl (fun ls hl => ?_)
  refine lv_bipush (v := (-20)) hx hb dL_does_137 (by decide) ?_
  exact kr_i hx hb hr hlocks hP hD hS (Nat.le_of_ble_eq_true rfl) (Nat.le_of_ble_eq_true rfl) (⟨rfl, ⟨_, _, _, _, hp⟩⟩) dL_does_139
set_option maxHeartbeats 4000000 in
set_option maxRecDepth 100000 in
theorem h_offer_tp {l : Launch} {K : Ks} {A : Nat → Prop} {ad : Nat → Nat} {td : Int32} {n : Nat} {M : Nat → Nat → Int32} {w : va_W} (hE : DE K ad td n M w) (hlt : l.stackTraces = false) {i : Nat} (hi : i < n) {y : Int32} (hy : inR 0 5000 y) (hst : ¬ (M 6 i = 1 ∧ ¬ M 5 i ≤ td)) {c3 : Int32} {c4 : Int32} : Met l yL_does wsL_does (kR 6 1 6) (kPr K A [.ref (ad 0), .int 6, .int (nI i), .int y, .int c3, .int c4] w) (kQi K A (fun r w1 => r = (-10) ∧ DE K ad td n M w1)) 1 6 A := by
  obtain ⟨bad, rm, k, idx, hDk⟩ := hE
  refine kentH (cc := cL_does) (maxL := 7) (ret := some .int) (hh := [(0, 129, 130, 49), (0, 129, 135, 51), (0, 129, 140, 53)]) (by decide) rfl (Nat.le_of_ble_eq_true rfl) ?_
  intro p e s m args below meth c ls hx hb hr hts hown hlocks hml hxt hG hP hD hS hl
  have hl : lv_has ls 7 [(0, .ref (ad 0)), (1, .int 6), (2, .int (nI i)), (3, .int y), (4, .int c3), (5, .int c4)] := hl
  refine lv_iload_n hx hb dL_does_0 rfl (lv_at hl 1 rfl) ?_
  refine lv_if_ne (tgt := 13) hx hb dL_does_1 (by decide) (fun h1 => ?_) (fun h1 => False.elim (absurd h1 (by decide)))
  refine lv_iload_n hx hb dL_does_13 rfl (lv_at hl 1 rfl) ?_
  refine lv_iconst (v := 1) hx hb dL_does_14 (by decide) ?_
  refine lv_icmp_ne (tgt := 29) hx hb dL_does_15 (by decide) (fun h15 => ?_) (fun h15 => False.elim (absurd h15 (by decide)))
  refine lv_iload_n hx hb dL_does_29 rfl (lv_at hl 1 rfl) ?_
  refine lv_iconst (v := 2) hx hb dL_does_30 (by decide) ?_
  refine lv_icmp_ne (tgt := 47) hx hb dL_does_31 (by decide) (fun h31 => ?_) (fun h31 => False.elim (absurd h31 (by decide)))
  refine lv_iload_n hx hb dL_does_47 rfl (lv_at hl 1 rfl) ?_
  refine lv_iconst (v := 3) hx hb dL_does_48 (by decide) ?_
  refine lv_icmp_ne (tgt := 68) hx hb dL_does_49 (by decide) (fun h49 => ?_) (fun h49 => False.elim (absurd h49 (by decide)))
  refine lv_iload_n hx hb dL_does_68 rfl (lv_at hl 1 rfl) ?_
  refine lv_iconst (v := 4) hx hb dL_does_69 (by decide) ?_
  refine lv_icmp_ne (tgt := 81) hx hb dL_does_70 (by decide) (fun h70 => ?_) (fun h70 => False.elim (absurd h70 (by decide)))
  refine lv_iload_n hx hb dL_does_81 rfl (lv_at hl 1 rfl) ?_
  refine lv_iconst (v := 5) hx hb dL_does_82 (by decide) ?_
  refine lv_icmp_ne (tgt := 95) hx hb dL_does_83 (by decide) (fun h83 => ?_) (fun h83 => False.elim (absurd h83 (by decide)))
  refine lv_iload_n hx hb dL_does_95 rfl (lv_at hl 1 rfl) ?_
  refine lv_bipush (v := 6) hx hb dL_does_96 (by decide) ?_
  refine lv_icmp_ne (tgt := 110) hx hb dL_does_98 (by decide) (fun h98 => False.elim (absurd (by decide) h98)) (fun h98 => ?_)
  refine lv_aload_n hx hb dL_does_101 rfl (lv_at hl 0 rfl) ?_
  refine lv_iload_n hx hb dL_does_102 rfl (lv_at hl 2 rfl) ?_
  refine lv_iload_n hx hb dL_does_103 rfl (lv_at hl 3 rfl) ?_
  refine kc_t (vx_runV (As := [.int (nI i), .int y]) (rest := []) ⟨hx, hb, hml, hown, hts⟩ (c_X1_offer_tp hDk hlt hi hy hst) (cwV 2 hts gL_does_X1_offer rfl rfl rfl (by decide +kernel) ⟨(Nat.le_of_ble_eq_true rfl), (Nat.le_of_ble_eq_true rfl)⟩) (kpv (q0 := 0) hG hP hD hS hDk.x rfl) rfl rfl hl.1 rfl (lv_room (Nat.le_of_ble_eq_true rfl)) dL_does_104 ⟨(Nat.le_of_ble_eq_true rfl), (Nat.le_of_ble_eq_true rfl)⟩) hS (fun ce q9 w H locs hp hP hD hS hce hcv hcl => ?_)
  have hpass : ∀ z ∈ ([⟨0, 129, 130, 49⟩, ⟨0, 129, 135, 51⟩] : List ExceptionTableEntry), covers z 104 = false ∨ (z.catchType ≠ 0 ∧ ∃ nm : String, (Cond.classLink RL z.catchType nm).before args s = true ∧ va_Nc ISE nm s) := by
    intro z hz
    rcases List.mem_cons.mp hz with h9 | h9
    · rw [h9]; exact Or.inr ⟨by decide, IOB, hts (.classLink RL 49 IOB) (by decide +kernel), hG.2.2.2.2.2.2.2.1.2.2.2.2.2.1⟩
    · rw [List.mem_singleton.mp h9]; exact Or.inr ⟨by decide, IAE, hts (.classLink RL 51 IAE) (by decide +kernel), hG.2.2.2.2.2.2.2.1.2.2.2.2.2.2⟩
  refine vx_catch (own := RL) (name := ISE) (E := ISE) hown [⟨0, 129, 130, 49⟩, ⟨0, 129, 135, 51⟩] ⟨0, 129, 140, 53⟩ [] (hxt.trans rfl) hpass rfl (by decide) (hts (.classLink RL 53 ISE) (by decide +kernel)) (va_Nw.use rfl hG.2.2.2.2.2.2.2.1.1) hce hcv hcl ?_
  refine lv_astore (lv' := [(6, .ref q9), (0, .ref (ad 0)), (1, .int 6), (2, .int (nI i)), (3, .int y), (4, .int c3), (5, .int c4)]) hx hb dL_does_140 hl (by decide) rfl (fun ls hl => ?_)
  refine lv_bipush (v := (-10)) hx hb dL_does_142 (by decide) ?_
  exact kr_i hx hb hr hlocks hP hD hS (Nat.le_of_ble_eq_true rfl) (Nat.le_of_ble_eq_true rfl) (⟨rfl, ⟨_, _, _, _, hp⟩⟩) dL_does_144
set_option maxHeartbeats 4000000 in
set_option maxRecDepth 100000 in
theorem h_offer {l : Launch} {K : Ks} {A : Nat → Prop} {ad : Nat → Nat} {td : Int32} {n : Nat} {M : Nat → Nat → Int32} {w : va_W} (hE : DE K ad td n M w) {i : Nat} (hi : i < n) {y : Int32} (hy : inR 0 5000 y) (hst : M 6 i = 1 ∧ ¬ M 5 i ≤ td) {c3 : Int32} {c4 : Int32} : Met l yL_does wsL_does (kR 6 0 0) (kPr K A [.ref (ad 0), .int 6, .int (nI i), .int y, .int c3, .int c4] w) (kQi K A (fun r w1 => r = price td (up2 M 7 i y) i ∧ DE K ad td n (up2 M 7 i y) w1)) 0 0 A := by
  obtain ⟨bad, rm, k, idx, hDk⟩ := hE
  refine kentH (cc := cL_does) (maxL := 7) (ret := some .int) (hh := [(0, 129, 130, 49), (0, 129, 135, 51), (0, 129, 140, 53)]) (by decide) rfl (Nat.le_of_ble_eq_true rfl) ?_
  intro p e s m args below meth c ls hx hb hr hts hown hlocks hml hxt hG hP hD hS hl
  have hl : lv_has ls 7 [(0, .ref (ad 0)), (1, .int 6), (2, .int (nI i)), (3, .int y), (4, .int c3), (5, .int c4)] := hl
  refine lv_iload_n hx hb dL_does_0 rfl (lv_at hl 1 rfl) ?_
  refine lv_if_ne (tgt := 13) hx hb dL_does_1 (by decide) (fun h1 => ?_) (fun h1 => False.elim (absurd h1 (by decide)))
  refine lv_iload_n hx hb dL_does_13 rfl (lv_at hl 1 rfl) ?_
  refine lv_iconst (v := 1) hx hb dL_does_14 (by decide) ?_
  refine lv_icmp_ne (tgt := 29) hx hb dL_does_15 (by decide) (fun h15 => ?_) (fun h15 => False.elim (absurd h15 (by decide)))
  refine lv_iload_n hx hb dL_does_29 rfl (lv_at hl 1 rfl) ?_
  refine lv_iconst (v := 2) hx hb dL_does_30 (by decide) ?_
  refine lv_icmp_ne (tgt := 47) hx hb dL_does_31 (by decide) (fun h31 => ?_) (fun h31 => False.elim (absurd h31 (by decide)))
  refine lv_iload_n hx hb dL_does_47 rfl (lv_at hl 1 rfl) ?_
  refine lv_iconst (v := 3) hx hb dL_does_48 (by decide) ?_
  refine lv_icmp_ne (tgt := 68) hx hb dL_does_49 (by decide) (fun h49 => ?_) (fun h49 => False.elim (absurd h49 (by decide)))
  refine lv_iload_n hx hb dL_does_68 rfl (lv_at hl 1 rfl) ?_
  refine lv_iconst (v := 4) hx hb dL_does_69 (by decide) ?_
  refine lv_icmp_ne (tgt := 81) hx hb dL_does_70 (by decide) (fun h70 => ?_) (fun h70 => False.elim (absurd h70 (by decide)))
  refine lv_iload_n hx hb dL_does_81 rfl (lv_at hl 1 rfl) ?_
  refine lv_iconst (v := 5) hx hb dL_does_82 (by decide) ?_
  refine lv_icmp_ne (tgt := 95) hx hb dL_does_83 (by decide) (fun h83 => ?_) (fun h83 => False.elim (absurd h83 (by decide)))
  refine lv_iload_n hx hb dL_does_95 rfl (lv_at hl 1 rfl) ?_
  refine lv_bipush (v := 6) hx hb dL_does_96 (by decide) ?_
  refine lv_icmp_ne (tgt := 110) hx hb dL_does_98 (by decide) (fun h98 => False.elim (absurd (by decide) h98)) (fun h98 => ?_)
  refine lv_aload_n hx hb dL_does_101 rfl (lv_at hl 0 rfl) ?_
  refine lv_iload_n hx hb dL_does_102 rfl (lv_at hl 2 rfl) ?_
  refine lv_iload_n hx hb dL_does_103 rfl (lv_at hl 3 rfl) ?_
  refine kc_i (va_runV (As := [.int (nI i), .int y]) (rest := []) ⟨hx, hb, hml, hown, hts⟩ (c_X1_offer hDk hi hy hst) (cwV 2 hts gL_does_X1_offer rfl rfl rfl (by decide +kernel) ⟨(Nat.le_of_ble_eq_true rfl), (Nat.le_of_ble_eq_true rfl)⟩) (kpv (q0 := 0) hG hP hD hS hDk.x rfl) rfl rfl hl.1 rfl (lv_room (Nat.le_of_ble_eq_true rfl)) dL_does_104 ⟨(Nat.le_of_ble_eq_true rfl), (Nat.le_of_ble_eq_true rfl)⟩) hS (fun r w H locs hp hP hD hS => ?_)
  obtain ⟨hp1, hDk⟩ := hp
  refine lv_goto (tgt := 129) hx hb dL_does_107 (by decide) ?_
  exact kr_i hx hb hr hlocks hP hD hS (Nat.le_of_ble_eq_true rfl) (Nat.le_of_ble_eq_true rfl) (⟨hp1, _, _, _, _, hDk⟩) dL_does_129
set_option maxHeartbeats 4000000 in
set_option maxRecDepth 100000 in
theorem h_takeBack_tb {l : Launch} {K : Ks} {A : Nat → Prop} {ad : Nat → Nat} {td : Int32} {n : Nat} {M : Nat → Nat → Int32} {w : va_W} (hE : DE K ad td n M w) (hlt : l.stackTraces = false) {x : Int32} (hix : ixBad n x) {c2 : Int32} {c3 : Int32} {c4 : Int32} : Met l yL_does wsL_does (kR 6 1 6) (kPr K A [.ref (ad 0), .int 7, .int x, .int c2, .int c3, .int c4] w) (kQi K A (fun r w1 => r = (-30) ∧ DE K ad td n M w1)) 1 6 A := by
  obtain ⟨bad, rm, k, idx, hDk⟩ := hE
  refine kentH (cc := cL_does) (maxL := 7) (ret := some .int) (hh := [(0, 129, 130, 49), (0, 129, 135, 51), (0, 129, 140, 53)]) (by decide) rfl (Nat.le_of_ble_eq_true rfl) ?_
  intro p e s m args below meth c ls hx hb hr hts hown hlocks hml hxt hG hP hD hS hl
  have hl : lv_has ls 7 [(0, .ref (ad 0)), (1, .int 7), (2, .int x), (3, .int c2), (4, .int c3), (5, .int c4)] := hl
  refine lv_iload_n hx hb dL_does_0 rfl (lv_at hl 1 rfl) ?_
  refine lv_if_ne (tgt := 13) hx hb dL_does_1 (by decide) (fun h1 => ?_) (fun h1 => False.elim (absurd h1 (by decide)))
  refine lv_iload_n hx hb dL_does_13 rfl (lv_at hl 1 rfl) ?_
  refine lv_iconst (v := 1) hx hb dL_does_14 (by decide) ?_
  refine lv_icmp_ne (tgt := 29) hx hb dL_does_15 (by decide) (fun h15 => ?_) (fun h15 => False.elim (absurd h15 (by decide)))
  refine lv_iload_n hx hb dL_does_29 rfl (lv_at hl 1 rfl) ?_
  refine lv_iconst (v := 2) hx hb dL_does_30 (by decide) ?_
  refine lv_icmp_ne (tgt := 47) hx hb dL_does_31 (by decide) (fun h31 => ?_) (fun h31 => False.elim (absurd h31 (by decide)))
  refine lv_iload_n hx hb dL_does_47 rfl (lv_at hl 1 rfl) ?_
  refine lv_iconst (v := 3) hx hb dL_does_48 (by decide) ?_
  refine lv_icmp_ne (tgt := 68) hx hb dL_does_49 (by decide) (fun h49 => ?_) (fun h49 => False.elim (absurd h49 (by decide)))
  refine lv_iload_n hx hb dL_does_68 rfl (lv_at hl 1 rfl) ?_
  refine lv_iconst (v := 4) hx hb dL_does_69 (by decide) ?_
  refine lv_icmp_ne (tgt := 81) hx hb dL_does_70 (by decide) (fun h70 => ?_) (fun h70 => False.elim (absurd h70 (by decide)))
  refine lv_iload_n hx hb dL_does_81 rfl (lv_at hl 1 rfl) ?_
  refine lv_iconst (v := 5) hx hb dL_does_82 (by decide) ?_
  refine lv_icmp_ne (tgt := 95) hx hb dL_does_83 (by decide) (fun h83 => ?_) (fun h83 => False.elim (absurd h83 (by decide)))
  refine lv_iload_n hx hb dL_does_95 rfl (lv_at hl 1 rfl) ?_
  refine lv_bipush (v := 6) hx hb dL_does_96 (by decide) ?_
  refine lv_icmp_ne (tgt := 110) hx hb dL_does_98 (by decide) (fun h98 => ?_) (fun h98 => False.elim (absurd h98 (by decide)))
  refine lv_iload_n hx hb dL_does_110 rfl (lv_at hl 1 rfl) ?_
  refine lv_bipush (v := 7) hx hb dL_does_111 (by decide) ?_
  refine lv_icmp_ne (tgt := 124) hx hb dL_does_113 (by decide) (fun h113 => False.elim (absurd (by decide) h113)) (fun h113 => ?_)
  refine lv_aload_n hx hb dL_does_116 rfl (lv_at hl 0 rfl) ?_
  refine lv_iload_n hx hb dL_does_117 rfl (lv_at hl 2 rfl) ?_
  refine kc_t (vx_runV (As := [.int x]) (rest := []) ⟨hx, hb, hml, hown, hts⟩ (c_X1_takeBack_tb hDk hlt hix) (cwV 1 hts gL_does_X1_takeBack rfl rfl rfl (by decide +kernel) ⟨(Nat.le_of_ble_eq_true rfl), (Nat.le_of_ble_eq_true rfl)⟩) (kpv (q0 := 0) hG hP hD hS hDk.x rfl) rfl rfl hl.1 rfl (lv_room (Nat.le_of_ble_eq_true rfl)) dL_does_118 ⟨(Nat.le_of_ble_eq_true rfl), (Nat.le_of_ble_eq_true rfl)⟩) hS (fun ce q9 w H locs hp hP hD hS hce hcv hcl => ?_)
  refine vx_catch (own := RL) (name := IOB) (E := IOB) hown [] ⟨0, 129, 130, 49⟩ [⟨0, 129, 135, 51⟩, ⟨0, 129, 140, 53⟩] (hxt.trans rfl) (fun z hz => absurd hz (by simp)) rfl (by decide) (hts (.classLink RL 49 IOB) (by decide +kernel)) (va_Nw.use rfl hG.2.2.2.2.2.1) hce hcv hcl ?_
  refine lv_astore (lv' := [(6, .ref q9), (0, .ref (ad 0)), (1, .int 7), (2, .int x), (3, .int c2), (4, .int c3), (5, .int c4)]) hx hb dL_does_130 hl (by decide) rfl (fun ls hl => ?_)
  refine lv_bipush (v := (-30)) hx hb dL_does_132 (by decide) ?_
  exact kr_i hx hb hr hlocks hP hD hS (Nat.le_of_ble_eq_true rfl) (Nat.le_of_ble_eq_true rfl) (⟨rfl, ⟨_, _, _, _, hp⟩⟩) dL_does_134
set_option maxHeartbeats 4000000 in
set_option maxRecDepth 100000 in
theorem h_takeBack_tp {l : Launch} {K : Ks} {A : Nat → Prop} {ad : Nat → Nat} {td : Int32} {n : Nat} {M : Nat → Nat → Int32} {w : va_W} (hE : DE K ad td n M w) (hlt : l.stackTraces = false) {i : Nat} (hi : i < n) (hst : ¬ (¬ M 7 i = -1 ∧ ¬ (M 6 i = 3 ∨ M 6 i = 4))) {c2 : Int32} {c3 : Int32} {c4 : Int32} : Met l yL_does wsL_does (kR 6 1 6) (kPr K A [.ref (ad 0), .int 7, .int (nI i), .int c2, .int c3, .int c4] w) (kQi K A (fun r w1 => r = (-10) ∧ DE K ad td n M w1)) 1 6 A := by
  obtain ⟨bad, rm, k, idx, hDk⟩ := hE
  refine kentH (cc := cL_does) (maxL := 7) (ret := some .int) (hh := [(0, 129, 130, 49), (0, 129, 135, 51), (0, 129, 140, 53)]) (by decide) rfl (Nat.le_of_ble_eq_true rfl) ?_
  intro p e s m args below meth c ls hx hb hr hts hown hlocks hml hxt hG hP hD hS hl
  have hl : lv_has ls 7 [(0, .ref (ad 0)), (1, .int 7), (2, .int (nI i)), (3, .int c2), (4, .int c3), (5, .int c4)] := hl
  refine lv_iload_n hx hb dL_does_0 rfl (lv_at hl 1 rfl) ?_
  refine lv_if_ne (tgt := 13) hx hb dL_does_1 (by decide) (fun h1 => ?_) (fun h1 => False.elim (absurd h1 (by decide)))
  refine lv_iload_n hx hb dL_does_13 rfl (lv_at hl 1 rfl) ?_
  refine lv_iconst (v := 1) hx hb dL_does_14 (by decide) ?_
  refine lv_icmp_ne (tgt := 29) hx hb dL_does_15 (by decide) (fun h15 => ?_) (fun h15 => False.elim (absurd h15 (by decide)))
  refine lv_iload_n hx hb dL_does_29 rfl (lv_at hl 1 rfl) ?_
  refine lv_iconst (v := 2) hx hb dL_does_30 (by decide) ?_
  refine lv_icmp_ne (tgt := 47) hx hb dL_does_31 (by decide) (fun h31 => ?_) (fun h31 => False.elim (absurd h31 (by decide)))
  refine lv_iload_n hx hb dL_does_47 rfl (lv_at hl 1 rfl) ?_
  refine lv_iconst (v := 3) hx hb dL_does_48 (by decide) ?_
  refine lv_icmp_ne (tgt := 68) hx hb dL_does_49 (by decide) (fun h49 => ?_) (fun h49 => False.elim (absurd h49 (by decide)))
  refine lv_iload_n hx hb dL_does_68 rfl (lv_at hl 1 rfl) ?_
  refine lv_iconst (v := 4) hx hb dL_does_69 (by decide) ?_
  refine lv_icmp_ne (tgt := 81) hx hb dL_does_70 (by decide) (fun h70 => ?_) (fun h70 => False.elim (absurd h70 (by decide)))
  refine lv_iload_n hx hb dL_does_81 rfl (lv_at hl 1 rfl) ?_
  refine lv_iconst (v := 5) hx hb dL_does_82 (by decide) ?_
  refine lv_icmp_ne (tgt := 95) hx hb dL_does_83 (by decide) (fun h83 => ?_) (fun h83 => False.elim (absurd h83 (by decide)))
  refine lv_iload_n hx hb dL_does_95 rfl (lv_at hl 1 rfl) ?_
  refine lv_bipush (v := 6) hx hb dL_does_96 (by decide) ?_
  refine lv_icmp_ne (tgt := 110) hx hb dL_does_98 (by decide) (fun h98 => ?_) (fun h98 => False.elim (absurd h98 (by decide)))
  refine lv_iload_n hx hb dL_does_110 rfl (lv_at hl 1 rfl) ?_
  refine lv_bipush (v := 7) hx hb dL_does_111 (by decide) ?_
  refine lv_icmp_ne (tgt := 124) hx hb dL_does_113 (by decide) (fun h113 => False.elim (absurd (by decide) h113)) (fun h113 => ?_)
  refine lv_aload_n hx hb dL_does_116 rfl (lv_at hl 0 rfl) ?_
  refine lv_iload_n hx hb dL_does_117 rfl (lv_at hl 2 rfl) ?_
  refine kc_t (vx_runV (As := [.int (nI i)]) (rest := []) ⟨hx, hb, hml, hown, hts⟩ (c_X1_takeBack_tp hDk hlt hi hst) (cwV 1 hts gL_does_X1_takeBack rfl rfl rfl (by decide +kernel) ⟨(Nat.le_of_ble_eq_true rfl), (Nat.le_of_ble_eq_true rfl)⟩) (kpv (q0 := 0) hG hP hD hS hDk.x rfl) rfl rfl hl.1 rfl (lv_room (Nat.le_of_ble_eq_true rfl)) dL_does_118 ⟨(Nat.le_of_ble_eq_true rfl), (Nat.le_of_ble_eq_true rfl)⟩) hS (fun ce q9 w H locs hp hP hD hS hce hcv hcl => ?_)
  have hpass : ∀ z ∈ ([⟨0, 129, 130, 49⟩, ⟨0, 129, 135, 51⟩] : List ExceptionTableEntry), covers z 118 = false ∨ (z.catchType ≠ 0 ∧ ∃ nm : String, (Cond.classLink RL z.catchType nm).before args s = true ∧ va_Nc ISE nm s) := by
    intro z hz
    rcases List.mem_cons.mp hz with h9 | h9
    · rw [h9]; exact Or.inr ⟨by decide, IOB, hts (.classLink RL 49 IOB) (by decide +kernel), hG.2.2.2.2.2.2.2.1.2.2.2.2.2.1⟩
    · rw [List.mem_singleton.mp h9]; exact Or.inr ⟨by decide, IAE, hts (.classLink RL 51 IAE) (by decide +kernel), hG.2.2.2.2.2.2.2.1.2.2.2.2.2.2⟩
  refine vx_catch (own := RL) (name := ISE) (E := ISE) hown [⟨0, 129, 130, 49⟩, ⟨0, 129, 135, 51⟩] ⟨0, 129, 140, 53⟩ [] (hxt.trans rfl) hpass rfl (by decide) (hts (.classLink RL 53 ISE) (by decide +kernel)) (va_Nw.use rfl hG.2.2.2.2.2.2.2.1.1) hce hcv hcl ?_
  refine lv_astore (lv' := [(6, .ref q9), (0, .ref (ad 0)), (1, .int 7), (2, .int (nI i)), (3, .int c2), (4, .int c3), (5, .int c4)]) hx hb dL_does_140 hl (by decide) rfl (fun ls hl => ?_)
  refine lv_bipush (v := (-10)) hx hb dL_does_142 (by decide) ?_
  exact kr_i hx hb hr hlocks hP hD hS (Nat.le_of_ble_eq_true rfl) (Nat.le_of_ble_eq_true rfl) (⟨rfl, ⟨_, _, _, _, hp⟩⟩) dL_does_144
set_option maxHeartbeats 4000000 in
set_option maxRecDepth 100000 in
theorem h_takeBack {l : Launch} {K : Ks} {A : Nat → Prop} {ad : Nat → Nat} {td : Int32} {n : Nat} {M : Nat → Nat → Int32} {w : va_W} (hE : DE K ad td n M w) {i : Nat} (hi : i < n) (hst : ¬ M 7 i = -1 ∧ ¬ (M 6 i = 3 ∨ M 6 i = 4)) {c2 : Int32} {c3 : Int32} {c4 : Int32} : Met l yL_does wsL_does (kR 6 0 0) (kPr K A [.ref (ad 0), .int 7, .int (nI i), .int c2, .int c3, .int c4] w) (kQi K A (fun r w1 => r = M 7 i ∧ DE K ad td n (up2 M 7 i (-1)) w1)) 0 0 A := by
  obtain ⟨bad, rm, k, idx, hDk⟩ := hE
  refine kentH (cc := cL_does) (maxL := 7) (ret := some .int) (hh := [(0, 129, 130, 49), (0, 129, 135, 51), (0, 129, 140, 53)]) (by decide) rfl (Nat.le_of_ble_eq_true rfl) ?_
  intro p e s m args below meth c ls hx hb hr hts hown hlocks hml hxt hG hP hD hS hl
  have hl : lv_has ls 7 [(0, .ref (ad 0)), (1, .int 7), (2, .int (nI i)), (3, .int c2), (4, .int c3), (5, .int c4)] := hl
  refine lv_iload_n hx hb dL_does_0 rfl (lv_at hl 1 rfl) ?_
  refine lv_if_ne (tgt := 13) hx hb dL_does_1 (by decide) (fun h1 => ?_) (fun h1 => False.elim (absurd h1 (by decide)))
  refine lv_iload_n hx hb dL_does_13 rfl (lv_at hl 1 rfl) ?_
  refine lv_iconst (v := 1) hx hb dL_does_14 (by decide) ?_
  refine lv_icmp_ne (tgt := 29) hx hb dL_does_15 (by decide) (fun h15 => ?_) (fun h15 => False.elim (absurd h15 (by decide)))
  refine lv_iload_n hx hb dL_does_29 rfl (lv_at hl 1 rfl) ?_
  refine lv_iconst (v := 2) hx hb dL_does_30 (by decide) ?_
  refine lv_icmp_ne (tgt := 47) hx hb dL_does_31 (by decide) (fun h31 => ?_) (fun h31 => False.elim (absurd h31 (by decide)))
  refine lv_iload_n hx hb dL_does_47 rfl (lv_at hl 1 rfl) ?_
  refine lv_iconst (v := 3) hx hb dL_does_48 (by decide) ?_
  refine lv_icmp_ne (tgt := 68) hx hb dL_does_49 (by decide) (fun h49 => ?_) (fun h49 => False.elim (absurd h49 (by decide)))
  refine lv_iload_n hx hb dL_does_68 rfl (lv_at hl 1 rfl) ?_
  refine lv_iconst (v := 4) hx hb dL_does_69 (by decide) ?_
  refine lv_icmp_ne (tgt := 81) hx hb dL_does_70 (by decide) (fun h70 => ?_) (fun h70 => False.elim (absurd h70 (by decide)))
  refine lv_iload_n hx hb dL_does_81 rfl (lv_at hl 1 rfl) ?_
  refine lv_iconst (v := 5) hx hb dL_does_82 (by decide) ?_
  refine lv_icmp_ne (tgt := 95) hx hb dL_does_83 (by decide) (fun h83 => ?_) (fun h83 => False.elim (absurd h83 (by decide)))
  refine lv_iload_n hx hb dL_does_95 rfl (lv_at hl 1 rfl) ?_
  refine lv_bipush (v := 6) hx hb dL_does_96 (by decide) ?_
  refine lv_icmp_ne (tgt := 110) hx hb dL_does_98 (by decide) (fun h98 => ?_) (fun h98 => False.elim (absurd h98 (by decide)))
  refine lv_iload_n hx hb dL_does_110 rfl (lv_at hl 1 rfl) ?_
  refine lv_bipush (v := 7) hx hb dL_does_111 (by decide) ?_
  refine lv_icmp_ne (tgt := 124) hx hb dL_does_113 (by decide) (fun h113 => False.elim (absurd (by decide) h113)) (fun h113 => ?_)
  refine lv_aload_n hx hb dL_does_116 rfl (lv_at hl 0 rfl) ?_
  refine lv_iload_n hx hb dL_does_117 rfl (lv_at hl 2 rfl) ?_
  refine kc_i (va_runV (As := [.int (nI i)]) (rest := []) ⟨hx, hb, hml, hown, hts⟩ (c_X1_takeBack hDk hi hst) (cwV 1 hts gL_does_X1_takeBack rfl rfl rfl (by decide +kernel) ⟨(Nat.le_of_ble_eq_true rfl), (Nat.le_of_ble_eq_true rfl)⟩) (kpv (q0 := 0) hG hP hD hS hDk.x rfl) rfl rfl hl.1 rfl (lv_room (Nat.le_of_ble_eq_true rfl)) dL_does_118 ⟨(Nat.le_of_ble_eq_true rfl), (Nat.le_of_ble_eq_true rfl)⟩) hS (fun r w H locs hp hP hD hS => ?_)
  obtain ⟨hp1, hDk⟩ := hp
  refine lv_goto (tgt := 129) hx hb dL_does_121 (by decide) ?_
  exact kr_i hx hb hr hlocks hP hD hS (Nat.le_of_ble_eq_true rfl) (Nat.le_of_ble_eq_true rfl) (⟨hp1, _, _, _, _, hDk⟩) dL_does_129
set_option maxHeartbeats 4000000 in
set_option maxRecDepth 100000 in
theorem h_pass_tr {l : Launch} {K : Ks} {A : Nat → Prop} {ad : Nat → Nat} {td : Int32} {n : Nat} {M : Nat → Nat → Int32} {w : va_W} (hE : DE K ad td n M w) (hlt : l.stackTraces = false) {y : Int32} (hy : ¬ inR 1 400 y) {c2 : Int32} {c3 : Int32} {c4 : Int32} : Met l yL_does wsL_does (kR 7 1 6) (kPr K A [.ref (ad 0), .int 8, .int y, .int c2, .int c3, .int c4] w) (kQi K A (fun r w1 => r = (-20) ∧ DE K ad td n M w1)) 1 6 A := by
  obtain ⟨bad, rm, k, idx, hDk⟩ := hE
  refine kentH (cc := cL_does) (maxL := 7) (ret := some .int) (hh := [(0, 129, 130, 49), (0, 129, 135, 51), (0, 129, 140, 53)]) (by decide) rfl (Nat.le_of_ble_eq_true rfl) ?_
  intro p e s m args below meth c ls hx hb hr hts hown hlocks hml hxt hG hP hD hS hl
  have hl : lv_has ls 7 [(0, .ref (ad 0)), (1, .int 8), (2, .int y), (3, .int c2), (4, .int c3), (5, .int c4)] := hl
  refine lv_iload_n hx hb dL_does_0 rfl (lv_at hl 1 rfl) ?_
  refine lv_if_ne (tgt := 13) hx hb dL_does_1 (by decide) (fun h1 => ?_) (fun h1 => False.elim (absurd h1 (by decide)))
  refine lv_iload_n hx hb dL_does_13 rfl (lv_at hl 1 rfl) ?_
  refine lv_iconst (v := 1) hx hb dL_does_14 (by decide) ?_
  refine lv_icmp_ne (tgt := 29) hx hb dL_does_15 (by decide) (fun h15 => ?_) (fun h15 => False.elim (absurd h15 (by decide)))
  refine lv_iload_n hx hb dL_does_29 rfl (lv_at hl 1 rfl) ?_
  refine lv_iconst (v := 2) hx hb dL_does_30 (by decide) ?_
  refine lv_icmp_ne (tgt := 47) hx hb dL_does_31 (by decide) (fun h31 => ?_) (fun h31 => False.elim (absurd h31 (by decide)))
  refine lv_iload_n hx hb dL_does_47 rfl (lv_at hl 1 rfl) ?_
  refine lv_iconst (v := 3) hx hb dL_does_48 (by decide) ?_
  refine lv_icmp_ne (tgt := 68) hx hb dL_does_49 (by decide) (fun h49 => ?_) (fun h49 => False.elim (absurd h49 (by decide)))
  refine lv_iload_n hx hb dL_does_68 rfl (lv_at hl 1 rfl) ?_
  refine lv_iconst (v := 4) hx hb dL_does_69 (by decide) ?_
  refine lv_icmp_ne (tgt := 81) hx hb dL_does_70 (by decide) (fun h70 => ?_) (fun h70 => False.elim (absurd h70 (by decide)))
  refine lv_iload_n hx hb dL_does_81 rfl (lv_at hl 1 rfl) ?_
  refine lv_iconst (v := 5) hx hb dL_does_82 (by decide) ?_
  refine lv_icmp_ne (tgt := 95) hx hb dL_does_83 (by decide) (fun h83 => ?_) (fun h83 => False.elim (absurd h83 (by decide)))
  refine lv_iload_n hx hb dL_does_95 rfl (lv_at hl 1 rfl) ?_
  refine lv_bipush (v := 6) hx hb dL_does_96 (by decide) ?_
  refine lv_icmp_ne (tgt := 110) hx hb dL_does_98 (by decide) (fun h98 => ?_) (fun h98 => False.elim (absurd h98 (by decide)))
  refine lv_iload_n hx hb dL_does_110 rfl (lv_at hl 1 rfl) ?_
  refine lv_bipush (v := 7) hx hb dL_does_111 (by decide) ?_
  refine lv_icmp_ne (tgt := 124) hx hb dL_does_113 (by decide) (fun h113 => ?_) (fun h113 => False.elim (absurd h113 (by decide)))
  refine lv_aload_n hx hb dL_does_124 rfl (lv_at hl 0 rfl) ?_
  refine lv_iload_n hx hb dL_does_125 rfl (lv_at hl 2 rfl) ?_
  refine kc_t (vx_runV (As := [.int y]) (rest := []) ⟨hx, hb, hml, hown, hts⟩ (c_X1_pass_tr hDk hlt hy) (cwV 1 hts gL_does_X1_pass rfl rfl rfl (by decide +kernel) ⟨(Nat.le_of_ble_eq_true rfl), (Nat.le_of_ble_eq_true rfl)⟩) (kpv (q0 := 0) hG hP hD hS hDk.x rfl) rfl rfl hl.1 rfl (lv_room (Nat.le_of_ble_eq_true rfl)) dL_does_126 ⟨(Nat.le_of_ble_eq_true rfl), (Nat.le_of_ble_eq_true rfl)⟩) hS (fun ce q9 w H locs hp hP hD hS hce hcv hcl => ?_)
  refine vx_catch (own := RL) (name := IAE) (E := IAE) hown [⟨0, 129, 130, 49⟩] ⟨0, 129, 135, 51⟩ [⟨0, 129, 140, 53⟩] (hxt.trans rfl) (fun z hz => by rw [List.mem_singleton.mp hz]; exact Or.inr ⟨by decide, IOB, hts (.classLink RL 49 IOB) (by decide +kernel), hG.2.2.2.2.2.2.2.1.2.2.2.2.1⟩) rfl (by decide) (hts (.classLink RL 51 IAE) (by decide +kernel)) (va_Nw.use rfl hG.2.2.2.2.2.2.1) hce hcv hcl ?_
  refine lv_astore (lv' := [(6, .ref q9), (0, .ref (ad 0)), (1, .int 8), (2, .int y), (3, .int c2), (4, .int c3), (5, .int c4)]) hx hb dL_does_135 hl (by decide) rfl (fun ls hl => ?_)
  refine lv_bipush (v := (-20)) hx hb dL_does_137 (by decide) ?_
  exact kr_i hx hb hr hlocks hP hD hS (Nat.le_of_ble_eq_true rfl) (Nat.le_of_ble_eq_true rfl) (⟨rfl, ⟨_, _, _, _, hp⟩⟩) dL_does_139
set_option maxHeartbeats 4000000 in
set_option maxRecDepth 100000 in
theorem h_pass {l : Launch} {K : Ks} {A : Nat → Prop} {ad : Nat → Nat} {td : Int32} {n : Nat} {M : Nat → Nat → Int32} {w : va_W} (hE : DE K ad td n M w) {D : Nat} (hD4 : D ≤ 400) (hy : inR 1 400 (nI D)) (hok : ∀ j, j < n → okP M j) {c2 : Int32} {c3 : Int32} {c4 : Int32} : Met l yL_does wsL_does (kR 7 0 0) (kPr K A [.ref (ad 0), .int 8, .int (nI D), .int c2, .int c3, .int c4] w) (kQi K A (fun r w1 => r = nI (psC td n M D) ∧ DE K ad (td + nI D) n (psM td n M D) w1)) 0 0 A := by
  obtain ⟨bad, rm, k, idx, hDk⟩ := hE
  refine kentH (cc := cL_does) (maxL := 7) (ret := some .int) (hh := [(0, 129, 130, 49), (0, 129, 135, 51), (0, 129, 140, 53)]) (by decide) rfl (Nat.le_of_ble_eq_true rfl) ?_
  intro p e s m args below meth c ls hx hb hr hts hown hlocks hml hxt hG hP hD hS hl
  have hl : lv_has ls 7 [(0, .ref (ad 0)), (1, .int 8), (2, .int (nI D)), (3, .int c2), (4, .int c3), (5, .int c4)] := hl
  refine lv_iload_n hx hb dL_does_0 rfl (lv_at hl 1 rfl) ?_
  refine lv_if_ne (tgt := 13) hx hb dL_does_1 (by decide) (fun h1 => ?_) (fun h1 => False.elim (absurd h1 (by decide)))
  refine lv_iload_n hx hb dL_does_13 rfl (lv_at hl 1 rfl) ?_
  refine lv_iconst (v := 1) hx hb dL_does_14 (by decide) ?_
  refine lv_icmp_ne (tgt := 29) hx hb dL_does_15 (by decide) (fun h15 => ?_) (fun h15 => False.elim (absurd h15 (by decide)))
  refine lv_iload_n hx hb dL_does_29 rfl (lv_at hl 1 rfl) ?_
  refine lv_iconst (v := 2) hx hb dL_does_30 (by decide) ?_
  refine lv_icmp_ne (tgt := 47) hx hb dL_does_31 (by decide) (fun h31 => ?_) (fun h31 => False.elim (absurd h31 (by decide)))
  refine lv_iload_n hx hb dL_does_47 rfl (lv_at hl 1 rfl) ?_
  refine lv_iconst (v := 3) hx hb dL_does_48 (by decide) ?_
  refine lv_icmp_ne (tgt := 68) hx hb dL_does_49 (by decide) (fun h49 => ?_) (fun h49 => False.elim (absurd h49 (by decide)))
  refine lv_iload_n hx hb dL_does_68 rfl (lv_at hl 1 rfl) ?_
  refine lv_iconst (v := 4) hx hb dL_does_69 (by decide) ?_
  refine lv_icmp_ne (tgt := 81) hx hb dL_does_70 (by decide) (fun h70 => ?_) (fun h70 => False.elim (absurd h70 (by decide)))
  refine lv_iload_n hx hb dL_does_81 rfl (lv_at hl 1 rfl) ?_
  refine lv_iconst (v := 5) hx hb dL_does_82 (by decide) ?_
  refine lv_icmp_ne (tgt := 95) hx hb dL_does_83 (by decide) (fun h83 => ?_) (fun h83 => False.elim (absurd h83 (by decide)))
  refine lv_iload_n hx hb dL_does_95 rfl (lv_at hl 1 rfl) ?_
  refine lv_bipush (v := 6) hx hb dL_does_96 (by decide) ?_
  refine lv_icmp_ne (tgt := 110) hx hb dL_does_98 (by decide) (fun h98 => ?_) (fun h98 => False.elim (absurd h98 (by decide)))
  refine lv_iload_n hx hb dL_does_110 rfl (lv_at hl 1 rfl) ?_
  refine lv_bipush (v := 7) hx hb dL_does_111 (by decide) ?_
  refine lv_icmp_ne (tgt := 124) hx hb dL_does_113 (by decide) (fun h113 => ?_) (fun h113 => False.elim (absurd h113 (by decide)))
  refine lv_aload_n hx hb dL_does_124 rfl (lv_at hl 0 rfl) ?_
  refine lv_iload_n hx hb dL_does_125 rfl (lv_at hl 2 rfl) ?_
  refine kc_i (va_runV (As := [.int (nI D)]) (rest := []) ⟨hx, hb, hml, hown, hts⟩ (c_X1_pass hDk hD4 hy hok) (cwV 1 hts gL_does_X1_pass rfl rfl rfl (by decide +kernel) ⟨(Nat.le_of_ble_eq_true rfl), (Nat.le_of_ble_eq_true rfl)⟩) (kpv (q0 := 0) hG hP hD hS hDk.x rfl) rfl rfl hl.1 rfl (lv_room (Nat.le_of_ble_eq_true rfl)) dL_does_126 ⟨(Nat.le_of_ble_eq_true rfl), (Nat.le_of_ble_eq_true rfl)⟩) hS (fun r w H locs hp hP hD hS => ?_)
  obtain ⟨hp1, hDk⟩ := hp
  exact kr_i hx hb hr hlocks hP hD hS (Nat.le_of_ble_eq_true rfl) (Nat.le_of_ble_eq_true rfl) (⟨hp1, _, _, _, _, hDk⟩) dL_does_129
set_option maxHeartbeats 4000000 in
set_option maxRecDepth 100000 in
theorem a_state_t {l : Launch} {K : Ks} {A : Nat → Prop} {ad : Nat → Nat} {td : Int32} {n : Nat} {M : Nat → Nat → Int32} {w : va_W} (hE : DE K ad td n M w) (hlt : l.stackTraces = false) {x : Int32} (hix : ixBad n x) {c2 : Int32} : Met l yL_asks wsL_asks (kR 6 1 6) (kPr K A [.ref (ad 0), .int 0, .int x, .int c2] w) (kQi K A (fun r w1 => r = (-2000000030) ∧ DE K ad td n M w1)) 1 6 A := by
  obtain ⟨bad, rm, k, idx, hDk⟩ := hE
  refine kentH (cc := cL_asks) (maxL := 5) (ret := some .int) (hh := [(0, 112, 113, 49), (0, 112, 118, 53)]) (by decide) rfl (Nat.le_of_ble_eq_true rfl) ?_
  intro p e s m args below meth c ls hx hb hr hts hown hlocks hml hxt hG hP hD hS hl
  have hl : lv_has ls 5 [(0, .ref (ad 0)), (1, .int 0), (2, .int x), (3, .int c2)] := hl
  refine lv_iload_n hx hb dL_asks_0 rfl (lv_at hl 1 rfl) ?_
  refine lv_if_ne (tgt := 12) hx hb dL_asks_1 (by decide) (fun h1 => False.elim (absurd (by decide) h1)) (fun h1 => ?_)
  refine lv_aload_n hx hb dL_asks_4 rfl (lv_at hl 0 rfl) ?_
  refine lv_iload_n hx hb dL_asks_5 rfl (lv_at hl 2 rfl) ?_
  refine kc_t (vx_runV (As := [.int x]) (rest := []) ⟨hx, hb, hml, hown, hts⟩ (c_X1_state_t hDk hlt hix) (cwV 1 hts gL_asks_X1_state rfl rfl rfl (by decide +kernel) ⟨(Nat.le_of_ble_eq_true rfl), (Nat.le_of_ble_eq_true rfl)⟩) (kpv (q0 := 0) hG hP hD hS hDk.x rfl) rfl rfl hl.1 rfl (lv_room (Nat.le_of_ble_eq_true rfl)) dL_asks_6 ⟨(Nat.le_of_ble_eq_true rfl), (Nat.le_of_ble_eq_true rfl)⟩) hS (fun ce q9 w H locs hp hP hD hS hce hcv hcl => ?_)
  refine vx_catch (own := RL) (name := IOB) (E := IOB) hown [] ⟨0, 112, 113, 49⟩ [⟨0, 112, 118, 53⟩] (hxt.trans rfl) (fun z hz => absurd hz (by simp)) rfl (by decide) (hts (.classLink RL 49 IOB) (by decide +kernel)) (va_Nw.use rfl hG.2.2.2.2.2.1) hce hcv hcl ?_
  refine lv_astore (lv' := [(4, .ref q9), (0, .ref (ad 0)), (1, .int 0), (2, .int x), (3, .int c2)]) hx hb dL_asks_113 hl (by decide) rfl (fun ls hl => ?_)
  refine lv_ldc (v := -2000000030) hx hb hown (hts (.constant RL 82 (-2000000030)) (by decide +kernel)) dL_asks_115 ?_
  exact kr_i hx hb hr hlocks hP hD hS (Nat.le_of_ble_eq_true rfl) (Nat.le_of_ble_eq_true rfl) (⟨rfl, ⟨_, _, _, _, hp⟩⟩) dL_asks_117
set_option maxHeartbeats 4000000 in
set_option maxRecDepth 100000 in
theorem a_amount_t {l : Launch} {K : Ks} {A : Nat → Prop} {ad : Nat → Nat} {td : Int32} {n : Nat} {M : Nat → Nat → Int32} {w : va_W} (hE : DE K ad td n M w) (hlt : l.stackTraces = false) {x : Int32} (hix : ixBad n x) {c2 : Int32} : Met l yL_asks wsL_asks (kR 6 1 6) (kPr K A [.ref (ad 0), .int 1, .int x, .int c2] w) (kQi K A (fun r w1 => r = (-2000000030) ∧ DE K ad td n M w1)) 1 6 A := by
  obtain ⟨bad, rm, k, idx, hDk⟩ := hE
  refine kentH (cc := cL_asks) (maxL := 5) (ret := some .int) (hh := [(0, 112, 113, 49), (0, 112, 118, 53)]) (by decide) rfl (Nat.le_of_ble_eq_true rfl) ?_
  intro p e s m args below meth c ls hx hb hr hts hown hlocks hml hxt hG hP hD hS hl
  have hl : lv_has ls 5 [(0, .ref (ad 0)), (1, .int 1), (2, .int x), (3, .int c2)] := hl
  refine lv_iload_n hx hb dL_asks_0 rfl (lv_at hl 1 rfl) ?_
  refine lv_if_ne (tgt := 12) hx hb dL_asks_1 (by decide) (fun h1 => ?_) (fun h1 => False.elim (absurd h1 (by decide)))
  refine lv_iload_n hx hb dL_asks_12 rfl (lv_at hl 1 rfl) ?_
  refine lv_iconst (v := 1) hx hb dL_asks_13 (by decide) ?_
  refine lv_icmp_ne (tgt := 25) hx hb dL_asks_14 (by decide) (fun h14 => False.elim (absurd (by decide) h14)) (fun h14 => ?_)
  refine lv_aload_n hx hb dL_asks_17 rfl (lv_at hl 0 rfl) ?_
  refine lv_iload_n hx hb dL_asks_18 rfl (lv_at hl 2 rfl) ?_
  refine kc_t (vx_runV (As := [.int x]) (rest := []) ⟨hx, hb, hml, hown, hts⟩ (c_X1_amount_t hDk hlt hix) (cwV 1 hts gL_asks_X1_amount rfl rfl rfl (by decide +kernel) ⟨(Nat.le_of_ble_eq_true rfl), (Nat.le_of_ble_eq_true rfl)⟩) (kpv (q0 := 0) hG hP hD hS hDk.x rfl) rfl rfl hl.1 rfl (lv_room (Nat.le_of_ble_eq_true rfl)) dL_asks_19 ⟨(Nat.le_of_ble_eq_true rfl), (Nat.le_of_ble_eq_true rfl)⟩) hS (fun ce q9 w H locs hp hP hD hS hce hcv hcl => ?_)
  refine vx_catch (own := RL) (name := IOB) (E := IOB) hown [] ⟨0, 112, 113, 49⟩ [⟨0, 112, 118, 53⟩] (hxt.trans rfl) (fun z hz => absurd hz (by simp)) rfl (by decide) (hts (.classLink RL 49 IOB) (by decide +kernel)) (va_Nw.use rfl hG.2.2.2.2.2.1) hce hcv hcl ?_
  refine lv_astore (lv' := [(4, .ref q9), (0, .ref (ad 0)), (1, .int 1), (2, .int x), (3, .int c2)]) hx hb dL_asks_113 hl (by decide) rfl (fun ls hl => ?_)
  refine lv_ldc (v := -2000000030) hx hb hown (hts (.constant RL 82 (-2000000030)) (by decide +kernel)) dL_asks_115 ?_
  exact kr_i hx hb hr hlocks hP hD hS (Nat.le_of_ble_eq_true rfl) (Nat.le_of_ble_eq_true rfl) (⟨rfl, ⟨_, _, _, _, hp⟩⟩) dL_asks_117
set_option maxHeartbeats 4000000 in
set_option maxRecDepth 100000 in
theorem a_paid_t {l : Launch} {K : Ks} {A : Nat → Prop} {ad : Nat → Nat} {td : Int32} {n : Nat} {M : Nat → Nat → Int32} {w : va_W} (hE : DE K ad td n M w) (hlt : l.stackTraces = false) {x : Int32} (hix : ixBad n x) {c2 : Int32} : Met l yL_asks wsL_asks (kR 6 1 6) (kPr K A [.ref (ad 0), .int 2, .int x, .int c2] w) (kQi K A (fun r w1 => r = (-2000000030) ∧ DE K ad td n M w1)) 1 6 A := by
  obtain ⟨bad, rm, k, idx, hDk⟩ := hE
  refine kentH (cc := cL_asks) (maxL := 5) (ret := some .int) (hh := [(0, 112, 113, 49), (0, 112, 118, 53)]) (by decide) rfl (Nat.le_of_ble_eq_true rfl) ?_
  intro p e s m args below meth c ls hx hb hr hts hown hlocks hml hxt hG hP hD hS hl
  have hl : lv_has ls 5 [(0, .ref (ad 0)), (1, .int 2), (2, .int x), (3, .int c2)] := hl
  refine lv_iload_n hx hb dL_asks_0 rfl (lv_at hl 1 rfl) ?_
  refine lv_if_ne (tgt := 12) hx hb dL_asks_1 (by decide) (fun h1 => ?_) (fun h1 => False.elim (absurd h1 (by decide)))
  refine lv_iload_n hx hb dL_asks_12 rfl (lv_at hl 1 rfl) ?_
  refine lv_iconst (v := 1) hx hb dL_asks_13 (by decide) ?_
  refine lv_icmp_ne (tgt := 25) hx hb dL_asks_14 (by decide) (fun h14 => ?_) (fun h14 => False.elim (absurd h14 (by decide)))
  refine lv_iload_n hx hb dL_asks_25 rfl (lv_at hl 1 rfl) ?_
  refine lv_iconst (v := 2) hx hb dL_asks_26 (by decide) ?_
  refine lv_icmp_ne (tgt := 38) hx hb dL_asks_27 (by decide) (fun h27 => False.elim (absurd (by decide) h27)) (fun h27 => ?_)
  refine lv_aload_n hx hb dL_asks_30 rfl (lv_at hl 0 rfl) ?_
  refine lv_iload_n hx hb dL_asks_31 rfl (lv_at hl 2 rfl) ?_
  refine kc_t (vx_runV (As := [.int x]) (rest := []) ⟨hx, hb, hml, hown, hts⟩ (c_X1_paid_t hDk hlt hix) (cwV 1 hts gL_asks_X1_paid rfl rfl rfl (by decide +kernel) ⟨(Nat.le_of_ble_eq_true rfl), (Nat.le_of_ble_eq_true rfl)⟩) (kpv (q0 := 0) hG hP hD hS hDk.x rfl) rfl rfl hl.1 rfl (lv_room (Nat.le_of_ble_eq_true rfl)) dL_asks_32 ⟨(Nat.le_of_ble_eq_true rfl), (Nat.le_of_ble_eq_true rfl)⟩) hS (fun ce q9 w H locs hp hP hD hS hce hcv hcl => ?_)
  refine vx_catch (own := RL) (name := IOB) (E := IOB) hown [] ⟨0, 112, 113, 49⟩ [⟨0, 112, 118, 53⟩] (hxt.trans rfl) (fun z hz => absurd hz (by simp)) rfl (by decide) (hts (.classLink RL 49 IOB) (by decide +kernel)) (va_Nw.use rfl hG.2.2.2.2.2.1) hce hcv hcl ?_
  refine lv_astore (lv' := [(4, .ref q9), (0, .ref (ad 0)), (1, .int 2), (2, .int x), (3, .int c2)]) hx hb dL_asks_113 hl (by decide) rfl (fun ls hl => ?_)
  refine lv_ldc (v := -2000000030) hx hb hown (hts (.constant RL 82 (-2000000030)) (by decide +kernel)) dL_asks_115 ?_
  exact kr_i hx hb hr hlocks hP hD hS (Nat.le_of_ble_eq_true rfl) (Nat.le_of_ble_eq_true rfl) (⟨rfl, ⟨_, _, _, _, hp⟩⟩) dL_asks_117
set_option maxHeartbeats 4000000 in
set_option maxRecDepth 100000 in
theorem a_heldBack_t {l : Launch} {K : Ks} {A : Nat → Prop} {ad : Nat → Nat} {td : Int32} {n : Nat} {M : Nat → Nat → Int32} {w : va_W} (hE : DE K ad td n M w) (hlt : l.stackTraces = false) {x : Int32} (hix : ixBad n x) {c2 : Int32} : Met l yL_asks wsL_asks (kR 6 1 6) (kPr K A [.ref (ad 0), .int 3, .int x, .int c2] w) (kQi K A (fun r w1 => r = (-2000000030) ∧ DE K ad td n M w1)) 1 6 A := by
  obtain ⟨bad, rm, k, idx, hDk⟩ := hE
  refine kentH (cc := cL_asks) (maxL := 5) (ret := some .int) (hh := [(0, 112, 113, 49), (0, 112, 118, 53)]) (by decide) rfl (Nat.le_of_ble_eq_true rfl) ?_
  intro p e s m args below meth c ls hx hb hr hts hown hlocks hml hxt hG hP hD hS hl
  have hl : lv_has ls 5 [(0, .ref (ad 0)), (1, .int 3), (2, .int x), (3, .int c2)] := hl
  refine lv_iload_n hx hb dL_asks_0 rfl (lv_at hl 1 rfl) ?_
  refine lv_if_ne (tgt := 12) hx hb dL_asks_1 (by decide) (fun h1 => ?_) (fun h1 => False.elim (absurd h1 (by decide)))
  refine lv_iload_n hx hb dL_asks_12 rfl (lv_at hl 1 rfl) ?_
  refine lv_iconst (v := 1) hx hb dL_asks_13 (by decide) ?_
  refine lv_icmp_ne (tgt := 25) hx hb dL_asks_14 (by decide) (fun h14 => ?_) (fun h14 => False.elim (absurd h14 (by decide)))
  refine lv_iload_n hx hb dL_asks_25 rfl (lv_at hl 1 rfl) ?_
  refine lv_iconst (v := 2) hx hb dL_asks_26 (by decide) ?_
  refine lv_icmp_ne (tgt := 38) hx hb dL_asks_27 (by decide) (fun h27 => ?_) (fun h27 => False.elim (absurd h27 (by decide)))
  refine lv_iload_n hx hb dL_asks_38 rfl (lv_at hl 1 rfl) ?_
  refine lv_iconst (v := 3) hx hb dL_asks_39 (by decide) ?_
  refine lv_icmp_ne (tgt := 51) hx hb dL_asks_40 (by decide) (fun h40 => False.elim (absurd (by decide) h40)) (fun h40 => ?_)
  refine lv_aload_n hx hb dL_asks_43 rfl (lv_at hl 0 rfl) ?_
  refine lv_iload_n hx hb dL_asks_44 rfl (lv_at hl 2 rfl) ?_
  refine kc_t (vx_runV (As := [.int x]) (rest := []) ⟨hx, hb, hml, hown, hts⟩ (c_X1_heldBack_t hDk hlt hix) (cwV 1 hts gL_asks_X1_heldBack rfl rfl rfl (by decide +kernel) ⟨(Nat.le_of_ble_eq_true rfl), (Nat.le_of_ble_eq_true rfl)⟩) (kpv (q0 := 0) hG hP hD hS hDk.x rfl) rfl rfl hl.1 rfl (lv_room (Nat.le_of_ble_eq_true rfl)) dL_asks_45 ⟨(Nat.le_of_ble_eq_true rfl), (Nat.le_of_ble_eq_true rfl)⟩) hS (fun ce q9 w H locs hp hP hD hS hce hcv hcl => ?_)
  refine vx_catch (own := RL) (name := IOB) (E := IOB) hown [] ⟨0, 112, 113, 49⟩ [⟨0, 112, 118, 53⟩] (hxt.trans rfl) (fun z hz => absurd hz (by simp)) rfl (by decide) (hts (.classLink RL 49 IOB) (by decide +kernel)) (va_Nw.use rfl hG.2.2.2.2.2.1) hce hcv hcl ?_
  refine lv_astore (lv' := [(4, .ref q9), (0, .ref (ad 0)), (1, .int 3), (2, .int x), (3, .int c2)]) hx hb dL_asks_113 hl (by decide) rfl (fun ls hl => ?_)
  refine lv_ldc (v := -2000000030) hx hb hown (hts (.constant RL 82 (-2000000030)) (by decide +kernel)) dL_asks_115 ?_
  exact kr_i hx hb hr hlocks hP hD hS (Nat.le_of_ble_eq_true rfl) (Nat.le_of_ble_eq_true rfl) (⟨rfl, ⟨_, _, _, _, hp⟩⟩) dL_asks_117
set_option maxHeartbeats 4000000 in
set_option maxRecDepth 100000 in
theorem a_plan_t {l : Launch} {K : Ks} {A : Nat → Prop} {ad : Nat → Nat} {td : Int32} {n : Nat} {M : Nat → Nat → Int32} {w : va_W} (hE : DE K ad td n M w) (hlt : l.stackTraces = false) {x : Int32} (hx4 : ixBad 4 x) {c2 : Int32} : Met l yL_asks wsL_asks (kR 9 1 6) (kPr K A [.ref (ad 0), .int 4, .int x, .int c2] w) (kQi K A (fun r w1 => r = (-2000000030) ∧ DE K ad td n M w1)) 1 6 A := by
  obtain ⟨bad, rm, k, idx, hDk⟩ := hE
  refine kentH (cc := cL_asks) (maxL := 5) (ret := some .int) (hh := [(0, 112, 113, 49), (0, 112, 118, 53)]) (by decide) rfl (Nat.le_of_ble_eq_true rfl) ?_
  intro p e s m args below meth c ls hx hb hr hts hown hlocks hml hxt hG hP hD hS hl
  have hl : lv_has ls 5 [(0, .ref (ad 0)), (1, .int 4), (2, .int x), (3, .int c2)] := hl
  refine lv_iload_n hx hb dL_asks_0 rfl (lv_at hl 1 rfl) ?_
  refine lv_if_ne (tgt := 12) hx hb dL_asks_1 (by decide) (fun h1 => ?_) (fun h1 => False.elim (absurd h1 (by decide)))
  refine lv_iload_n hx hb dL_asks_12 rfl (lv_at hl 1 rfl) ?_
  refine lv_iconst (v := 1) hx hb dL_asks_13 (by decide) ?_
  refine lv_icmp_ne (tgt := 25) hx hb dL_asks_14 (by decide) (fun h14 => ?_) (fun h14 => False.elim (absurd h14 (by decide)))
  refine lv_iload_n hx hb dL_asks_25 rfl (lv_at hl 1 rfl) ?_
  refine lv_iconst (v := 2) hx hb dL_asks_26 (by decide) ?_
  refine lv_icmp_ne (tgt := 38) hx hb dL_asks_27 (by decide) (fun h27 => ?_) (fun h27 => False.elim (absurd h27 (by decide)))
  refine lv_iload_n hx hb dL_asks_38 rfl (lv_at hl 1 rfl) ?_
  refine lv_iconst (v := 3) hx hb dL_asks_39 (by decide) ?_
  refine lv_icmp_ne (tgt := 51) hx hb dL_asks_40 (by decide) (fun h40 => ?_) (fun h40 => False.elim (absurd h40 (by decide)))
  refine lv_iload_n hx hb dL_asks_51 rfl (lv_at hl 1 rfl) ?_
  refine lv_iconst (v := 4) hx hb dL_asks_52 (by decide) ?_
  refine lv_icmp_ne (tgt := 64) hx hb dL_asks_53 (by decide) (fun h53 => False.elim (absurd (by decide) h53)) (fun h53 => ?_)
  refine lv_aload_n hx hb dL_asks_56 rfl (lv_at hl 0 rfl) ?_
  refine lv_iload_n hx hb dL_asks_57 rfl (lv_at hl 2 rfl) ?_
  refine kc_t (vx_runV (As := [.int x]) (rest := []) ⟨hx, hb, hml, hown, hts⟩ (c_X1_plan_tb hDk hlt hx4) (cwV 1 hts gL_asks_X1_plan rfl rfl rfl (by decide +kernel) ⟨(Nat.le_of_ble_eq_true rfl), (Nat.le_of_ble_eq_true rfl)⟩) (kpv (q0 := 0) hG hP hD hS hDk.x rfl) rfl rfl hl.1 rfl (lv_room (Nat.le_of_ble_eq_true rfl)) dL_asks_58 ⟨(Nat.le_of_ble_eq_true rfl), (Nat.le_of_ble_eq_true rfl)⟩) hS (fun ce q9 w H locs hp hP hD hS hce hcv hcl => ?_)
  refine vx_catch (own := RL) (name := IOB) (E := IOB) hown [] ⟨0, 112, 113, 49⟩ [⟨0, 112, 118, 53⟩] (hxt.trans rfl) (fun z hz => absurd hz (by simp)) rfl (by decide) (hts (.classLink RL 49 IOB) (by decide +kernel)) (va_Nw.use rfl hG.2.2.2.2.2.1) hce hcv hcl ?_
  refine lv_astore (lv' := [(4, .ref q9), (0, .ref (ad 0)), (1, .int 4), (2, .int x), (3, .int c2)]) hx hb dL_asks_113 hl (by decide) rfl (fun ls hl => ?_)
  refine lv_ldc (v := -2000000030) hx hb hown (hts (.constant RL 82 (-2000000030)) (by decide +kernel)) dL_asks_115 ?_
  exact kr_i hx hb hr hlocks hP hD hS (Nat.le_of_ble_eq_true rfl) (Nat.le_of_ble_eq_true rfl) (⟨rfl, ⟨_, _, _, _, hp⟩⟩) dL_asks_117
set_option maxHeartbeats 4000000 in
set_option maxRecDepth 100000 in
theorem a_clear_t {l : Launch} {K : Ks} {A : Nat → Prop} {ad : Nat → Nat} {td : Int32} {n : Nat} {M : Nat → Nat → Int32} {w : va_W} (hE : DE K ad td n M w) (hlt : l.stackTraces = false) {x : Int32} (hx4 : ixBad 4 x) {c2 : Int32} : Met l yL_asks wsL_asks (kR 9 1 6) (kPr K A [.ref (ad 0), .int 5, .int x, .int c2] w) (kQi K A (fun r w1 => r = (-2000000030) ∧ DE K ad td n M w1)) 1 6 A := by
  obtain ⟨bad, rm, k, idx, hDk⟩ := hE
  refine kentH (cc := cL_asks) (maxL := 5) (ret := some .int) (hh := [(0, 112, 113, 49), (0, 112, 118, 53)]) (by decide) rfl (Nat.le_of_ble_eq_true rfl) ?_
  intro p e s m args below meth c ls hx hb hr hts hown hlocks hml hxt hG hP hD hS hl
  have hl : lv_has ls 5 [(0, .ref (ad 0)), (1, .int 5), (2, .int x), (3, .int c2)] := hl
  refine lv_iload_n hx hb dL_asks_0 rfl (lv_at hl 1 rfl) ?_
  refine lv_if_ne (tgt := 12) hx hb dL_asks_1 (by decide) (fun h1 => ?_) (fun h1 => False.elim (absurd h1 (by decide)))
  refine lv_iload_n hx hb dL_asks_12 rfl (lv_at hl 1 rfl) ?_
  refine lv_iconst (v := 1) hx hb dL_asks_13 (by decide) ?_
  refine lv_icmp_ne (tgt := 25) hx hb dL_asks_14 (by decide) (fun h14 => ?_) (fun h14 => False.elim (absurd h14 (by decide)))
  refine lv_iload_n hx hb dL_asks_25 rfl (lv_at hl 1 rfl) ?_
  refine lv_iconst (v := 2) hx hb dL_asks_26 (by decide) ?_
  refine lv_icmp_ne (tgt := 38) hx hb dL_asks_27 (by decide) (fun h27 => ?_) (fun h27 => False.elim (absurd h27 (by decide)))
  refine lv_iload_n hx hb dL_asks_38 rfl (lv_at hl 1 rfl) ?_
  refine lv_iconst (v := 3) hx hb dL_asks_39 (by decide) ?_
  refine lv_icmp_ne (tgt := 51) hx hb dL_asks_40 (by decide) (fun h40 => ?_) (fun h40 => False.elim (absurd h40 (by decide)))
  refine lv_iload_n hx hb dL_asks_51 rfl (lv_at hl 1 rfl) ?_
  refine lv_iconst (v := 4) hx hb dL_asks_52 (by decide) ?_
  refine lv_icmp_ne (tgt := 64) hx hb dL_asks_53 (by decide) (fun h53 => ?_) (fun h53 => False.elim (absurd h53 (by decide)))
  refine lv_iload_n hx hb dL_asks_64 rfl (lv_at hl 1 rfl) ?_
  refine lv_iconst (v := 5) hx hb dL_asks_65 (by decide) ?_
  refine lv_icmp_ne (tgt := 77) hx hb dL_asks_66 (by decide) (fun h66 => False.elim (absurd (by decide) h66)) (fun h66 => ?_)
  refine lv_aload_n hx hb dL_asks_69 rfl (lv_at hl 0 rfl) ?_
  refine lv_iload_n hx hb dL_asks_70 rfl (lv_at hl 2 rfl) ?_
  refine kc_t (vx_runV (As := [.int x]) (rest := []) ⟨hx, hb, hml, hown, hts⟩ (c_X1_clear_tb hDk hlt hx4) (cwV 1 hts gL_asks_X1_clear rfl rfl rfl (by decide +kernel) ⟨(Nat.le_of_ble_eq_true rfl), (Nat.le_of_ble_eq_true rfl)⟩) (kpv (q0 := 0) hG hP hD hS hDk.x rfl) rfl rfl hl.1 rfl (lv_room (Nat.le_of_ble_eq_true rfl)) dL_asks_71 ⟨(Nat.le_of_ble_eq_true rfl), (Nat.le_of_ble_eq_true rfl)⟩) hS (fun ce q9 w H locs hp hP hD hS hce hcv hcl => ?_)
  refine vx_catch (own := RL) (name := IOB) (E := IOB) hown [] ⟨0, 112, 113, 49⟩ [⟨0, 112, 118, 53⟩] (hxt.trans rfl) (fun z hz => absurd hz (by simp)) rfl (by decide) (hts (.classLink RL 49 IOB) (by decide +kernel)) (va_Nw.use rfl hG.2.2.2.2.2.1) hce hcv hcl ?_
  refine lv_astore (lv' := [(4, .ref q9), (0, .ref (ad 0)), (1, .int 5), (2, .int x), (3, .int c2)]) hx hb dL_asks_113 hl (by decide) rfl (fun ls hl => ?_)
  refine lv_ldc (v := -2000000030) hx hb hown (hts (.constant RL 82 (-2000000030)) (by decide +kernel)) dL_asks_115 ?_
  exact kr_i hx hb hr hlocks hP hD hS (Nat.le_of_ble_eq_true rfl) (Nat.le_of_ble_eq_true rfl) (⟨rfl, ⟨_, _, _, _, hp⟩⟩) dL_asks_117
set_option maxHeartbeats 4000000 in
set_option maxRecDepth 100000 in
theorem a_most_t {l : Launch} {K : Ks} {A : Nat → Prop} {ad : Nat → Nat} {td : Int32} {n : Nat} {M : Nat → Nat → Int32} {w : va_W} (hE : DE K ad td n M w) (hlt : l.stackTraces = false) {x : Int32} (hx4 : ixBad 4 x) {c2 : Int32} : Met l yL_asks wsL_asks (kR 18 1 6) (kPr K A [.ref (ad 0), .int 6, .int x, .int c2] w) (kQi K A (fun r w1 => r = (-2000000030) ∧ DE K ad td n M w1)) 1 6 A := by
  obtain ⟨bad, rm, k, idx, hDk⟩ := hE
  refine kentH (cc := cL_asks) (maxL := 5) (ret := some .int) (hh := [(0, 112, 113, 49), (0, 112, 118, 53)]) (by decide) rfl (Nat.le_of_ble_eq_true rfl) ?_
  intro p e s m args below meth c ls hx hb hr hts hown hlocks hml hxt hG hP hD hS hl
  have hl : lv_has ls 5 [(0, .ref (ad 0)), (1, .int 6), (2, .int x), (3, .int c2)] := hl
  refine lv_iload_n hx hb dL_asks_0 rfl (lv_at hl 1 rfl) ?_
  refine lv_if_ne (tgt := 12) hx hb dL_asks_1 (by decide) (fun h1 => ?_) (fun h1 => False.elim (absurd h1 (by decide)))
  refine lv_iload_n hx hb dL_asks_12 rfl (lv_at hl 1 rfl) ?_
  refine lv_iconst (v := 1) hx hb dL_asks_13 (by decide) ?_
  refine lv_icmp_ne (tgt := 25) hx hb dL_asks_14 (by decide) (fun h14 => ?_) (fun h14 => False.elim (absurd h14 (by decide)))
  refine lv_iload_n hx hb dL_asks_25 rfl (lv_at hl 1 rfl) ?_
  refine lv_iconst (v := 2) hx hb dL_asks_26 (by decide) ?_
  refine lv_icmp_ne (tgt := 38) hx hb dL_asks_27 (by decide) (fun h27 => ?_) (fun h27 => False.elim (absurd h27 (by decide)))
  refine lv_iload_n hx hb dL_asks_38 rfl (lv_at hl 1 rfl) ?_
  refine lv_iconst (v := 3) hx hb dL_asks_39 (by decide) ?_
  refine lv_icmp_ne (tgt := 51) hx hb dL_asks_40 (by decide) (fun h40 => ?_) (fun h40 => False.elim (absurd h40 (by decide)))
  refine lv_iload_n hx hb dL_asks_51 rfl (lv_at hl 1 rfl) ?_
  refine lv_iconst (v := 4) hx hb dL_asks_52 (by decide) ?_
  refine lv_icmp_ne (tgt := 64) hx hb dL_asks_53 (by decide) (fun h53 => ?_) (fun h53 => False.elim (absurd h53 (by decide)))
  refine lv_iload_n hx hb dL_asks_64 rfl (lv_at hl 1 rfl) ?_
  refine lv_iconst (v := 5) hx hb dL_asks_65 (by decide) ?_
  refine lv_icmp_ne (tgt := 77) hx hb dL_asks_66 (by decide) (fun h66 => ?_) (fun h66 => False.elim (absurd h66 (by decide)))
  refine lv_iload_n hx hb dL_asks_77 rfl (lv_at hl 1 rfl) ?_
  refine lv_bipush (v := 6) hx hb dL_asks_78 (by decide) ?_
  refine lv_icmp_ne (tgt := 91) hx hb dL_asks_80 (by decide) (fun h80 => False.elim (absurd (by decide) h80)) (fun h80 => ?_)
  refine lv_aload_n hx hb dL_asks_83 rfl (lv_at hl 0 rfl) ?_
  refine lv_iload_n hx hb dL_asks_84 rfl (lv_at hl 2 rfl) ?_
  refine kc_t (vx_runV (As := [.int x]) (rest := []) ⟨hx, hb, hml, hown, hts⟩ (c_X1_most_tb hDk hlt hx4) (cwV 1 hts gL_asks_X1_most rfl rfl rfl (by decide +kernel) ⟨(Nat.le_of_ble_eq_true rfl), (Nat.le_of_ble_eq_true rfl)⟩) (kpv (q0 := 0) hG hP hD hS hDk.x rfl) rfl rfl hl.1 rfl (lv_room (Nat.le_of_ble_eq_true rfl)) dL_asks_85 ⟨(Nat.le_of_ble_eq_true rfl), (Nat.le_of_ble_eq_true rfl)⟩) hS (fun ce q9 w H locs hp hP hD hS hce hcv hcl => ?_)
  refine vx_catch (own := RL) (name := IOB) (E := IOB) hown [] ⟨0, 112, 113, 49⟩ [⟨0, 112, 118, 53⟩] (hxt.trans rfl) (fun z hz => absurd hz (by simp)) rfl (by decide) (hts (.classLink RL 49 IOB) (by decide +kernel)) (va_Nw.use rfl hG.2.2.2.2.2.1) hce hcv hcl ?_
  refine lv_astore (lv' := [(4, .ref q9), (0, .ref (ad 0)), (1, .int 6), (2, .int x), (3, .int c2)]) hx hb dL_asks_113 hl (by decide) rfl (fun ls hl => ?_)
  refine lv_ldc (v := -2000000030) hx hb hown (hts (.constant RL 82 (-2000000030)) (by decide +kernel)) dL_asks_115 ?_
  exact kr_i hx hb hr hlocks hP hD hS (Nat.le_of_ble_eq_true rfl) (Nat.le_of_ble_eq_true rfl) (⟨rfl, ⟨_, _, _, _, hp⟩⟩) dL_asks_117
set_option maxHeartbeats 4000000 in
set_option maxRecDepth 100000 in
theorem a_most_tp {l : Launch} {K : Ks} {A : Nat → Prop} {ad : Nat → Nat} {td : Int32} {n : Nat} {M : Nat → Nat → Int32} {w : va_W} (hE : DE K ad td n M w) (hlt : l.stackTraces = false) {b : Nat} (hx4 : b < 4) (hk12 : 12 < (gaL td M b n).length) {c2 : Int32} : Met l yL_asks wsL_asks (kR 18 31 1806) (kPr K A [.ref (ad 0), .int 6, .int (nI b), .int c2] w) (kQi K A (fun r w1 => r = (-2000000010) ∧ DE K ad td n M w1)) 31 1806 A := by
  obtain ⟨bad, rm, k, idx, hDk⟩ := hE
  refine kentH (cc := cL_asks) (maxL := 5) (ret := some .int) (hh := [(0, 112, 113, 49), (0, 112, 118, 53)]) (by decide) rfl (Nat.le_of_ble_eq_true rfl) ?_
  intro p e s m args below meth c ls hx hb hr hts hown hlocks hml hxt hG hP hD hS hl
  have hl : lv_has ls 5 [(0, .ref (ad 0)), (1, .int 6), (2, .int (nI b)), (3, .int c2)] := hl
  refine lv_iload_n hx hb dL_asks_0 rfl (lv_at hl 1 rfl) ?_
  refine lv_if_ne (tgt := 12) hx hb dL_asks_1 (by decide) (fun h1 => ?_) (fun h1 => False.elim (absurd h1 (by decide)))
  refine lv_iload_n hx hb dL_asks_12 rfl (lv_at hl 1 rfl) ?_
  refine lv_iconst (v := 1) hx hb dL_asks_13 (by decide) ?_
  refine lv_icmp_ne (tgt := 25) hx hb dL_asks_14 (by decide) (fun h14 => ?_) (fun h14 => False.elim (absurd h14 (by decide)))
  refine lv_iload_n hx hb dL_asks_25 rfl (lv_at hl 1 rfl) ?_
  refine lv_iconst (v := 2) hx hb dL_asks_26 (by decide) ?_
  refine lv_icmp_ne (tgt := 38) hx hb dL_asks_27 (by decide) (fun h27 => ?_) (fun h27 => False.elim (absurd h27 (by decide)))
  refine lv_iload_n hx hb dL_asks_38 rfl (lv_at hl 1 rfl) ?_
  refine lv_iconst (v := 3) hx hb dL_asks_39 (by decide) ?_
  refine lv_icmp_ne (tgt := 51) hx hb dL_asks_40 (by decide) (fun h40 => ?_) (fun h40 => False.elim (absurd h40 (by decide)))
  refine lv_iload_n hx hb dL_asks_51 rfl (lv_at hl 1 rfl) ?_
  refine lv_iconst (v := 4) hx hb dL_asks_52 (by decide) ?_
  refine lv_icmp_ne (tgt := 64) hx hb dL_asks_53 (by decide) (fun h53 => ?_) (fun h53 => False.elim (absurd h53 (by decide)))
  refine lv_iload_n hx hb dL_asks_64 rfl (lv_at hl 1 rfl) ?_
  refine lv_iconst (v := 5) hx hb dL_asks_65 (by decide) ?_
  refine lv_icmp_ne (tgt := 77) hx hb dL_asks_66 (by decide) (fun h66 => ?_) (fun h66 => False.elim (absurd h66 (by decide)))
  refine lv_iload_n hx hb dL_asks_77 rfl (lv_at hl 1 rfl) ?_
  refine lv_bipush (v := 6) hx hb dL_asks_78 (by decide) ?_
  refine lv_icmp_ne (tgt := 91) hx hb dL_asks_80 (by decide) (fun h80 => False.elim (absurd (by decide) h80)) (fun h80 => ?_)
  refine lv_aload_n hx hb dL_asks_83 rfl (lv_at hl 0 rfl) ?_
  refine lv_iload_n hx hb dL_asks_84 rfl (lv_at hl 2 rfl) ?_
  refine kc_t (vx_runV (As := [.int (nI b)]) (rest := []) ⟨hx, hb, hml, hown, hts⟩ (c_X1_most_tp hDk hlt hx4 hk12) (cwV 1 hts gL_asks_X1_most rfl rfl rfl (by decide +kernel) ⟨(Nat.le_of_ble_eq_true rfl), (Nat.le_of_ble_eq_true rfl)⟩) (kpv (q0 := 0) hG hP hD hS hDk.x rfl) rfl rfl hl.1 rfl (lv_room (Nat.le_of_ble_eq_true rfl)) dL_asks_85 ⟨(Nat.le_of_ble_eq_true rfl), (Nat.le_of_ble_eq_true rfl)⟩) hS (fun ce q9 w H locs hp hP hD hS hce hcv hcl => ?_)
  refine vx_catch (own := RL) (name := ISE) (E := ISE) hown [⟨0, 112, 113, 49⟩] ⟨0, 112, 118, 53⟩ [] (hxt.trans rfl) (fun z hz => by rw [List.mem_singleton.mp hz]; exact Or.inr ⟨by decide, IOB, hts (.classLink RL 49 IOB) (by decide +kernel), hG.2.2.2.2.2.2.2.1.2.2.2.2.2.1⟩) rfl (by decide) (hts (.classLink RL 53 ISE) (by decide +kernel)) (va_Nw.use rfl hG.2.2.2.2.2.2.2.1.1) hce hcv hcl ?_
  refine lv_astore (lv' := [(4, .ref q9), (0, .ref (ad 0)), (1, .int 6), (2, .int (nI b)), (3, .int c2)]) hx hb dL_asks_118 hl (by decide) rfl (fun ls hl => ?_)
  refine lv_ldc (v := -2000000010) hx hb hown (hts (.constant RL 83 (-2000000010)) (by decide +kernel)) dL_asks_120 ?_
  exact kr_i hx hb hr hlocks hP hD hS (Nat.le_of_ble_eq_true rfl) (Nat.le_of_ble_eq_true rfl) (⟨rfl, ⟨_, hp⟩⟩) dL_asks_122
set_option maxHeartbeats 4000000 in
set_option maxRecDepth 100000 in
theorem a_most {l : Launch} {K : Ks} {A : Nat → Prop} {ad : Nat → Nat} {td : Int32} {n : Nat} {M : Nat → Nat → Int32} {w : va_W} (hE : DE K ad td n M w) {b : Nat} (hx4 : b < 4) (hk12 : (gaL td M b n).length ≤ 12) (hok : ∀ j, j < n → okP M j) {c2 : Int32} : Met l yL_asks wsL_asks (kR 18 30 1800) (kPr K A [.ref (ad 0), .int 6, .int (nI b), .int c2] w) (kQi K A (fun r w1 => (∃ rm : Nat → Int32, r = bfS td M (ix (gaL td M b n)) (gaL td M b n).length 0 (mrm td n M b rm 8) (M 11 b) (toS td M (ix (gaL td M b n)) (gaL td M b n).length)) ∧ DE K ad td n M w1)) 30 1800 A := by
  obtain ⟨bad, rm, k, idx, hDk⟩ := hE
  refine kentH (cc := cL_asks) (maxL := 5) (ret := some .int) (hh := [(0, 112, 113, 49), (0, 112, 118, 53)]) (by decide) rfl (Nat.le_of_ble_eq_true rfl) ?_
  intro p e s m args below meth c ls hx hb hr hts hown hlocks hml hxt hG hP hD hS hl
  have hl : lv_has ls 5 [(0, .ref (ad 0)), (1, .int 6), (2, .int (nI b)), (3, .int c2)] := hl
  refine lv_iload_n hx hb dL_asks_0 rfl (lv_at hl 1 rfl) ?_
  refine lv_if_ne (tgt := 12) hx hb dL_asks_1 (by decide) (fun h1 => ?_) (fun h1 => False.elim (absurd h1 (by decide)))
  refine lv_iload_n hx hb dL_asks_12 rfl (lv_at hl 1 rfl) ?_
  refine lv_iconst (v := 1) hx hb dL_asks_13 (by decide) ?_
  refine lv_icmp_ne (tgt := 25) hx hb dL_asks_14 (by decide) (fun h14 => ?_) (fun h14 => False.elim (absurd h14 (by decide)))
  refine lv_iload_n hx hb dL_asks_25 rfl (lv_at hl 1 rfl) ?_
  refine lv_iconst (v := 2) hx hb dL_asks_26 (by decide) ?_
  refine lv_icmp_ne (tgt := 38) hx hb dL_asks_27 (by decide) (fun h27 => ?_) (fun h27 => False.elim (absurd h27 (by decide)))
  refine lv_iload_n hx hb dL_asks_38 rfl (lv_at hl 1 rfl) ?_
  refine lv_iconst (v := 3) hx hb dL_asks_39 (by decide) ?_
  refine lv_icmp_ne (tgt := 51) hx hb dL_asks_40 (by decide) (fun h40 => ?_) (fun h40 => False.elim (absurd h40 (by decide)))
  refine lv_iload_n hx hb dL_asks_51 rfl (lv_at hl 1 rfl) ?_
  refine lv_iconst (v := 4) hx hb dL_asks_52 (by decide) ?_
  refine lv_icmp_ne (tgt := 64) hx hb dL_asks_53 (by decide) (fun h53 => ?_) (fun h53 => False.elim (absurd h53 (by decide)))
  refine lv_iload_n hx hb dL_asks_64 rfl (lv_at hl 1 rfl) ?_
  refine lv_iconst (v := 5) hx hb dL_asks_65 (by decide) ?_
  refine lv_icmp_ne (tgt := 77) hx hb dL_asks_66 (by decide) (fun h66 => ?_) (fun h66 => False.elim (absurd h66 (by decide)))
  refine lv_iload_n hx hb dL_asks_77 rfl (lv_at hl 1 rfl) ?_
  refine lv_bipush (v := 6) hx hb dL_asks_78 (by decide) ?_
  refine lv_icmp_ne (tgt := 91) hx hb dL_asks_80 (by decide) (fun h80 => False.elim (absurd (by decide) h80)) (fun h80 => ?_)
  refine lv_aload_n hx hb dL_asks_83 rfl (lv_at hl 0 rfl) ?_
  refine lv_iload_n hx hb dL_asks_84 rfl (lv_at hl 2 rfl) ?_
  refine kc_i (va_runV (As := [.int (nI b)]) (rest := []) ⟨hx, hb, hml, hown, hts⟩ (c_X1_most hDk hx4 hk12 hok) (cwV 1 hts gL_asks_X1_most rfl rfl rfl (by decide +kernel) ⟨(Nat.le_of_ble_eq_true rfl), (Nat.le_of_ble_eq_true rfl)⟩) (kpv (q0 := 0) hG hP hD hS hDk.x rfl) rfl rfl hl.1 rfl (lv_room (Nat.le_of_ble_eq_true rfl)) dL_asks_85 ⟨(Nat.le_of_ble_eq_true rfl), (Nat.le_of_ble_eq_true rfl)⟩) hS (fun r w H locs hp hP hD hS => ?_)
  obtain ⟨hp1, hE1⟩ := hp
  refine lv_goto (tgt := 112) hx hb dL_asks_88 (by decide) ?_
  exact kr_i hx hb hr hlocks hP hD hS (Nat.le_of_ble_eq_true rfl) (Nat.le_of_ble_eq_true rfl) (⟨⟨rm, hp1⟩, _, hE1⟩) dL_asks_112
set_option maxHeartbeats 4000000 in
set_option maxRecDepth 100000 in
theorem a_left_t {l : Launch} {K : Ks} {A : Nat → Prop} {ad : Nat → Nat} {td : Int32} {n : Nat} {M : Nat → Nat → Int32} {w : va_W} (hE : DE K ad td n M w) (hlt : l.stackTraces = false) {x y : Int32} (hx4 : ixBad 4 x) : Met l yL_asks wsL_asks (kR 6 1 6) (kPr K A [.ref (ad 0), .int 7, .int x, .int y] w) (kQi K A (fun r w1 => r = (-2000000030) ∧ DE K ad td n M w1)) 1 6 A := by
  obtain ⟨bad, rm, k, idx, hDk⟩ := hE
  refine kentH (cc := cL_asks) (maxL := 5) (ret := some .int) (hh := [(0, 112, 113, 49), (0, 112, 118, 53)]) (by decide) rfl (Nat.le_of_ble_eq_true rfl) ?_
  intro p e s m args below meth c ls hx hb hr hts hown hlocks hml hxt hG hP hD hS hl
  have hl : lv_has ls 5 [(0, .ref (ad 0)), (1, .int 7), (2, .int x), (3, .int y)] := hl
  refine lv_iload_n hx hb dL_asks_0 rfl (lv_at hl 1 rfl) ?_
  refine lv_if_ne (tgt := 12) hx hb dL_asks_1 (by decide) (fun h1 => ?_) (fun h1 => False.elim (absurd h1 (by decide)))
  refine lv_iload_n hx hb dL_asks_12 rfl (lv_at hl 1 rfl) ?_
  refine lv_iconst (v := 1) hx hb dL_asks_13 (by decide) ?_
  refine lv_icmp_ne (tgt := 25) hx hb dL_asks_14 (by decide) (fun h14 => ?_) (fun h14 => False.elim (absurd h14 (by decide)))
  refine lv_iload_n hx hb dL_asks_25 rfl (lv_at hl 1 rfl) ?_
  refine lv_iconst (v := 2) hx hb dL_asks_26 (by decide) ?_
  refine lv_icmp_ne (tgt := 38) hx hb dL_asks_27 (by decide) (fun h27 => ?_) (fun h27 => False.elim (absurd h27 (by decide)))
  refine lv_iload_n hx hb dL_asks_38 rfl (lv_at hl 1 rfl) ?_
  refine lv_iconst (v := 3) hx hb dL_asks_39 (by decide) ?_
  refine lv_icmp_ne (tgt := 51) hx hb dL_asks_40 (by decide) (fun h40 => ?_) (fun h40 => False.elim (absurd h40 (by decide)))
  refine lv_iload_n hx hb dL_asks_51 rfl (lv_at hl 1 rfl) ?_
  refine lv_iconst (v := 4) hx hb dL_asks_52 (by decide) ?_
  refine lv_icmp_ne (tgt := 64) hx hb dL_asks_53 (by decide) (fun h53 => ?_) (fun h53 => False.elim (absurd h53 (by decide)))
  refine lv_iload_n hx hb dL_asks_64 rfl (lv_at hl 1 rfl) ?_
  refine lv_iconst (v := 5) hx hb dL_asks_65 (by decide) ?_
  refine lv_icmp_ne (tgt := 77) hx hb dL_asks_66 (by decide) (fun h66 => ?_) (fun h66 => False.elim (absurd h66 (by decide)))
  refine lv_iload_n hx hb dL_asks_77 rfl (lv_at hl 1 rfl) ?_
  refine lv_bipush (v := 6) hx hb dL_asks_78 (by decide) ?_
  refine lv_icmp_ne (tgt := 91) hx hb dL_asks_80 (by decide) (fun h80 => ?_) (fun h80 => False.elim (absurd h80 (by decide)))
  refine lv_iload_n hx hb dL_asks_91 rfl (lv_at hl 1 rfl) ?_
  refine lv_bipush (v := 7) hx hb dL_asks_92 (by decide) ?_
  refine lv_icmp_ne (tgt := 106) hx hb dL_asks_94 (by decide) (fun h94 => False.elim (absurd (by decide) h94)) (fun h94 => ?_)
  refine lv_aload_n hx hb dL_asks_97 rfl (lv_at hl 0 rfl) ?_
  refine lv_iload_n hx hb dL_asks_98 rfl (lv_at hl 2 rfl) ?_
  refine lv_iload_n hx hb dL_asks_99 rfl (lv_at hl 3 rfl) ?_
  refine kc_t (vx_runV (As := [.int x, .int y]) (rest := []) ⟨hx, hb, hml, hown, hts⟩ (c_X1_left_tb hDk hlt hx4) (cwV 2 hts gL_asks_X1_left rfl rfl rfl (by decide +kernel) ⟨(Nat.le_of_ble_eq_true rfl), (Nat.le_of_ble_eq_true rfl)⟩) (kpv (q0 := 0) hG hP hD hS hDk.x rfl) rfl rfl hl.1 rfl (lv_room (Nat.le_of_ble_eq_true rfl)) dL_asks_100 ⟨(Nat.le_of_ble_eq_true rfl), (Nat.le_of_ble_eq_true rfl)⟩) hS (fun ce q9 w H locs hp hP hD hS hce hcv hcl => ?_)
  refine vx_catch (own := RL) (name := IOB) (E := IOB) hown [] ⟨0, 112, 113, 49⟩ [⟨0, 112, 118, 53⟩] (hxt.trans rfl) (fun z hz => absurd hz (by simp)) rfl (by decide) (hts (.classLink RL 49 IOB) (by decide +kernel)) (va_Nw.use rfl hG.2.2.2.2.2.1) hce hcv hcl ?_
  refine lv_astore (lv' := [(4, .ref q9), (0, .ref (ad 0)), (1, .int 7), (2, .int x), (3, .int y)]) hx hb dL_asks_113 hl (by decide) rfl (fun ls hl => ?_)
  refine lv_ldc (v := -2000000030) hx hb hown (hts (.constant RL 82 (-2000000030)) (by decide +kernel)) dL_asks_115 ?_
  exact kr_i hx hb hr hlocks hP hD hS (Nat.le_of_ble_eq_true rfl) (Nat.le_of_ble_eq_true rfl) (⟨rfl, ⟨_, _, _, _, hp⟩⟩) dL_asks_117
set_option maxHeartbeats 4000000 in
set_option maxRecDepth 100000 in
theorem a_claim_ts {l : Launch} {K : Ks} {A : Nat → Prop} {ad : Nat → Nat} {td : Int32} {n : Nat} {M : Nat → Nat → Int32} {w : va_W} (hE : DE K ad td n M w) (hlt : l.stackTraces = false) {b : Nat} {y : Int32} (hx4 : b < 4) (hx8 : ixBad 8 y) : Met l yL_asks wsL_asks (kR 6 1 6) (kPr K A [.ref (ad 0), .int 8, .int (nI b), .int y] w) (kQi K A (fun r w1 => r = (-2000000030) ∧ DE K ad td n M w1)) 1 6 A := by
  obtain ⟨bad, rm, k, idx, hDk⟩ := hE
  refine kentH (cc := cL_asks) (maxL := 5) (ret := some .int) (hh := [(0, 112, 113, 49), (0, 112, 118, 53)]) (by decide) rfl (Nat.le_of_ble_eq_true rfl) ?_
  intro p e s m args below meth c ls hx hb hr hts hown hlocks hml hxt hG hP hD hS hl
  have hl : lv_has ls 5 [(0, .ref (ad 0)), (1, .int 8), (2, .int (nI b)), (3, .int y)] := hl
  refine lv_iload_n hx hb dL_asks_0 rfl (lv_at hl 1 rfl) ?_
  refine lv_if_ne (tgt := 12) hx hb dL_asks_1 (by decide) (fun h1 => ?_) (fun h1 => False.elim (absurd h1 (by decide)))
  refine lv_iload_n hx hb dL_asks_12 rfl (lv_at hl 1 rfl) ?_
  refine lv_iconst (v := 1) hx hb dL_asks_13 (by decide) ?_
  refine lv_icmp_ne (tgt := 25) hx hb dL_asks_14 (by decide) (fun h14 => ?_) (fun h14 => False.elim (absurd h14 (by decide)))
  refine lv_iload_n hx hb dL_asks_25 rfl (lv_at hl 1 rfl) ?_
  refine lv_iconst (v := 2) hx hb dL_asks_26 (by decide) ?_
  refine lv_icmp_ne (tgt := 38) hx hb dL_asks_27 (by decide) (fun h27 => ?_) (fun h27 => False.elim (absurd h27 (by decide)))
  refine lv_iload_n hx hb dL_asks_38 rfl (lv_at hl 1 rfl) ?_
  refine lv_iconst (v := 3) hx hb dL_asks_39 (by decide) ?_
  refine lv_icmp_ne (tgt := 51) hx hb dL_asks_40 (by decide) (fun h40 => ?_) (fun h40 => False.elim (absurd h40 (by decide)))
  refine lv_iload_n hx hb dL_asks_51 rfl (lv_at hl 1 rfl) ?_
  refine lv_iconst (v := 4) hx hb dL_asks_52 (by decide) ?_
  refine lv_icmp_ne (tgt := 64) hx hb dL_asks_53 (by decide) (fun h53 => ?_) (fun h53 => False.elim (absurd h53 (by decide)))
  refine lv_iload_n hx hb dL_asks_64 rfl (lv_at hl 1 rfl) ?_
  refine lv_iconst (v := 5) hx hb dL_asks_65 (by decide) ?_
  refine lv_icmp_ne (tgt := 77) hx hb dL_asks_66 (by decide) (fun h66 => ?_) (fun h66 => False.elim (absurd h66 (by decide)))
  refine lv_iload_n hx hb dL_asks_77 rfl (lv_at hl 1 rfl) ?_
  refine lv_bipush (v := 6) hx hb dL_asks_78 (by decide) ?_
  refine lv_icmp_ne (tgt := 91) hx hb dL_asks_80 (by decide) (fun h80 => ?_) (fun h80 => False.elim (absurd h80 (by decide)))
  refine lv_iload_n hx hb dL_asks_91 rfl (lv_at hl 1 rfl) ?_
  refine lv_bipush (v := 7) hx hb dL_asks_92 (by decide) ?_
  refine lv_icmp_ne (tgt := 106) hx hb dL_asks_94 (by decide) (fun h94 => ?_) (fun h94 => False.elim (absurd h94 (by decide)))
  refine lv_aload_n hx hb dL_asks_106 rfl (lv_at hl 0 rfl) ?_
  refine lv_iload_n hx hb dL_asks_107 rfl (lv_at hl 2 rfl) ?_
  refine lv_iload_n hx hb dL_asks_108 rfl (lv_at hl 3 rfl) ?_
  refine kc_t (vx_runV (As := [.int (nI b), .int y]) (rest := []) ⟨hx, hb, hml, hown, hts⟩ (c_X1_claim_ts hDk hlt hx4 hx8) (cwV 2 hts gL_asks_X1_claim rfl rfl rfl (by decide +kernel) ⟨(Nat.le_of_ble_eq_true rfl), (Nat.le_of_ble_eq_true rfl)⟩) (kpv (q0 := 0) hG hP hD hS hDk.x rfl) rfl rfl hl.1 rfl (lv_room (Nat.le_of_ble_eq_true rfl)) dL_asks_109 ⟨(Nat.le_of_ble_eq_true rfl), (Nat.le_of_ble_eq_true rfl)⟩) hS (fun ce q9 w H locs hp hP hD hS hce hcv hcl => ?_)
  refine vx_catch (own := RL) (name := IOB) (E := IOB) hown [] ⟨0, 112, 113, 49⟩ [⟨0, 112, 118, 53⟩] (hxt.trans rfl) (fun z hz => absurd hz (by simp)) rfl (by decide) (hts (.classLink RL 49 IOB) (by decide +kernel)) (va_Nw.use rfl hG.2.2.2.2.2.1) hce hcv hcl ?_
  refine lv_astore (lv' := [(4, .ref q9), (0, .ref (ad 0)), (1, .int 8), (2, .int (nI b)), (3, .int y)]) hx hb dL_asks_113 hl (by decide) rfl (fun ls hl => ?_)
  refine lv_ldc (v := -2000000030) hx hb hown (hts (.constant RL 82 (-2000000030)) (by decide +kernel)) dL_asks_115 ?_
  exact kr_i hx hb hr hlocks hP hD hS (Nat.le_of_ble_eq_true rfl) (Nat.le_of_ble_eq_true rfl) (⟨rfl, ⟨_, _, _, _, hp⟩⟩) dL_asks_117
set_option maxHeartbeats 4000000 in
set_option maxRecDepth 100000 in
theorem a_average_tb {l : Launch} {K : Ks} {A : Nat → Prop} {ad : Nat → Nat} {td : Int32} {n : Nat} {M : Nat → Nat → Int32} {w : va_W} (hE : DE K ad td n M w) (hlt : l.stackTraces = false) {x : Int32} (hx4 : ixBad 4 x) : Met l yL_average wsL_average (kR 6 1 6) (kPr K A [.ref (ad 0), .int x] w) (kQf K A (fun r w1 => r = 3253731328 ∧ DE K ad td n M w1)) 1 6 A := by
  obtain ⟨bad, rm, k, idx, hDk⟩ := hE
  refine kentH (cc := cL_average) (maxL := 3) (ret := some .float) (hh := [(0, 5, 6, 49), (0, 5, 10, 53)]) (by decide) rfl (Nat.le_of_ble_eq_true rfl) ?_
  intro p e s m args below meth c ls hx hb hr hts hown hlocks hml hxt hG hP hD hS hl
  have hl : lv_has ls 3 [(0, .ref (ad 0)), (1, .int x)] := hl
  refine lv_aload_n hx hb dL_average_0 rfl (lv_at hl 0 rfl) ?_
  refine lv_iload_n hx hb dL_average_1 rfl (lv_at hl 1 rfl) ?_
  refine kc_t (vx_runV (As := [.int x]) (rest := []) ⟨hx, hb, hml, hown, hts⟩ (c_X1_averageDiscount_tb hDk hlt hx4) (cwV 1 hts gL_average_X1_averageDiscount rfl rfl rfl (by decide +kernel) ⟨(Nat.le_of_ble_eq_true rfl), (Nat.le_of_ble_eq_true rfl)⟩) (kpv (q0 := 0) hG hP hD hS hDk.x rfl) rfl rfl hl.1 rfl (lv_room (Nat.le_of_ble_eq_true rfl)) dL_average_2 ⟨(Nat.le_of_ble_eq_true rfl), (Nat.le_of_ble_eq_true rfl)⟩) hS (fun ce q9 w H locs hp hP hD hS hce hcv hcl => ?_)
  refine vx_catch (own := RL) (name := IOB) (E := IOB) hown [] ⟨0, 5, 6, 49⟩ [⟨0, 5, 10, 53⟩] (hxt.trans rfl) (fun z hz => absurd hz (by simp)) rfl (by decide) (hts (.classLink RL 49 IOB) (by decide +kernel)) (va_Nw.use rfl hG.2.2.2.2.2.1) hce hcv hcl ?_
  refine lv_astore_n (lv' := [(2, .ref q9), (0, .ref (ad 0)), (1, .int x)]) hx hb dL_average_6 rfl hl (by decide) rfl (fun ls hl => ?_)
  refine lv_ldcf (v := 3253731328) hx hb hown (hts (.constantFloat RL 88 3253731328) (by decide +kernel)) dL_average_7 ?_
  exact kr_f hx hb hr hlocks hP hD hS (Nat.le_of_ble_eq_true rfl) (Nat.le_of_ble_eq_true rfl) (⟨rfl, ⟨_, _, _, _, hp⟩⟩) dL_average_9
set_option maxHeartbeats 4000000 in
set_option maxRecDepth 100000 in
theorem a_average_tp {l : Launch} {K : Ks} {A : Nat → Prop} {ad : Nat → Nat} {td : Int32} {n : Nat} {M : Nat → Nat → Int32} {w : va_W} (hE : DE K ad td n M w) (hlt : l.stackTraces = false) {b : Nat} (hx4 : b < 4) (hz : adA M b n = 0) : Met l yL_average wsL_average (kR 6 1 6) (kPr K A [.ref (ad 0), .int (nI b)] w) (kQf K A (fun r w1 => r = 3240099840 ∧ DE K ad td n M w1)) 1 6 A := by
  obtain ⟨bad, rm, k, idx, hDk⟩ := hE
  refine kentH (cc := cL_average) (maxL := 3) (ret := some .float) (hh := [(0, 5, 6, 49), (0, 5, 10, 53)]) (by decide) rfl (Nat.le_of_ble_eq_true rfl) ?_
  intro p e s m args below meth c ls hx hb hr hts hown hlocks hml hxt hG hP hD hS hl
  have hl : lv_has ls 3 [(0, .ref (ad 0)), (1, .int (nI b))] := hl
  refine lv_aload_n hx hb dL_average_0 rfl (lv_at hl 0 rfl) ?_
  refine lv_iload_n hx hb dL_average_1 rfl (lv_at hl 1 rfl) ?_
  refine kc_t (vx_runV (As := [.int (nI b)]) (rest := []) ⟨hx, hb, hml, hown, hts⟩ (c_X1_averageDiscount_tp hDk hlt hx4 hz) (cwV 1 hts gL_average_X1_averageDiscount rfl rfl rfl (by decide +kernel) ⟨(Nat.le_of_ble_eq_true rfl), (Nat.le_of_ble_eq_true rfl)⟩) (kpv (q0 := 0) hG hP hD hS hDk.x rfl) rfl rfl hl.1 rfl (lv_room (Nat.le_of_ble_eq_true rfl)) dL_average_2 ⟨(Nat.le_of_ble_eq_true rfl), (Nat.le_of_ble_eq_true rfl)⟩) hS (fun ce q9 w H locs hp hP hD hS hce hcv hcl => ?_)
  refine vx_catch (own := RL) (name := ISE) (E := ISE) hown [⟨0, 5, 6, 49⟩] ⟨0, 5, 10, 53⟩ [] (hxt.trans rfl) (fun z hz => by rw [List.mem_singleton.mp hz]; exact Or.inr ⟨by decide, IOB, hts (.classLink RL 49 IOB) (by decide +kernel), hG.2.2.2.2.2.2.2.1.2.2.2.2.2.1⟩) rfl (by decide) (hts (.classLink RL 53 ISE) (by decide +kernel)) (va_Nw.use rfl hG.2.2.2.2.2.2.2.1.1) hce hcv hcl ?_
  refine lv_astore_n (lv' := [(2, .ref q9), (0, .ref (ad 0)), (1, .int (nI b))]) hx hb dL_average_10 rfl hl (by decide) rfl (fun ls hl => ?_)
  refine lv_ldcf (v := 3240099840) hx hb hown (hts (.constantFloat RL 89 3240099840) (by decide +kernel)) dL_average_11 ?_
  exact kr_f hx hb hr hlocks hP hD hS (Nat.le_of_ble_eq_true rfl) (Nat.le_of_ble_eq_true rfl) (⟨rfl, ⟨_, _, _, _, hp⟩⟩) dL_average_13
set_option maxHeartbeats 4000000 in
set_option maxRecDepth 100000 in
theorem a_average {l : Launch} {K : Ks} {A : Nat → Prop} {ad : Nat → Nat} {td : Int32} {n : Nat} {M : Nat → Nat → Int32} {w : va_W} (hE : DE K ad td n M w) {b : Nat} (hx4 : b < 4) (hz : ¬ adA M b n = 0) : Met l yL_average wsL_average (kR 6 1 6) (kPr K A [.ref (ad 0), .int (nI b)] w) (kQf K A (fun r w1 => r = FP.fdiv (FP.i2f (adS M b n)) (FP.i2f (adA M b n)) ∧ DE K ad td n M w1)) 1 6 A := by
  obtain ⟨bad, rm, k, idx, hDk⟩ := hE
  refine kentH (cc := cL_average) (maxL := 3) (ret := some .float) (hh := [(0, 5, 6, 49), (0, 5, 10, 53)]) (by decide) rfl (Nat.le_of_ble_eq_true rfl) ?_
  intro p e s m args below meth c ls hx hb hr hts hown hlocks hml hxt hG hP hD hS hl
  have hl : lv_has ls 3 [(0, .ref (ad 0)), (1, .int (nI b))] := hl
  refine lv_aload_n hx hb dL_average_0 rfl (lv_at hl 0 rfl) ?_
  refine lv_iload_n hx hb dL_average_1 rfl (lv_at hl 1 rfl) ?_
  refine kc_f (va_runV (As := [.int (nI b)]) (rest := []) ⟨hx, hb, hml, hown, hts⟩ (c_X1_averageDiscount hDk hx4 hz) (cwV 1 hts gL_average_X1_averageDiscount rfl rfl rfl (by decide +kernel) ⟨(Nat.le_of_ble_eq_true rfl), (Nat.le_of_ble_eq_true rfl)⟩) (kpv (q0 := 0) hG hP hD hS hDk.x rfl) rfl rfl hl.1 rfl (lv_room (Nat.le_of_ble_eq_true rfl)) dL_average_2 ⟨(Nat.le_of_ble_eq_true rfl), (Nat.le_of_ble_eq_true rfl)⟩) hS (fun r w H locs hp hP hD hS => ?_)
  obtain ⟨hp1, hDk⟩ := hp
  exact kr_f hx hb hr hlocks hP hD hS (Nat.le_of_ble_eq_true rfl) (Nat.le_of_ble_eq_true rfl) (⟨hp1, _, _, _, _, hDk⟩) dL_average_5
