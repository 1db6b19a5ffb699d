/-! The law, case by case -/
theorem dcs {x y : Int32} (h : ¬ y = 0) : Op.cmpValue (FP.dcmp (FP.f2d (FP.fdiv (FP.i2f x) (FP.i2f y))) (FP.f2d (FP.fdiv (FP.i2f x) (FP.i2f y)))) .l = 0 := by
  rw [show FP.dcmp (FP.f2d (FP.fdiv (FP.i2f x) (FP.i2f y))) (FP.f2d (FP.fdiv (FP.i2f x) (FP.i2f y))) = some .eq from Jvm.FP.Core.dcmp_self (Jvm.Free.Fl.val64_no.mp (fd64 h))]
  rfl
theorem note_I {td : Int32} {M : Nat → Nat → Int32} {u : Nat} {y : Int32} (h : bOk td M u) (hy : inR 1 (M 4 u - M 10 u) y) : inR 1 1000000 (M 4 u) ∧ ¬ M 4 u = 0 ∧ (0 ≤ (M 10 u + y).toInt ∧ (M 10 u + y).toInt ≤ 1000000) ∧ (0 ≤ (M 4 u - y).toInt ∧ (M 4 u - y).toInt ≤ 1000000) := by
  obtain ⟨-, g2, -, -, g5, -⟩ := h
  have hy' := inR_I.mp hy
  have e1 : (1 : Int32).toInt = 1 := rfl
  have e2 : (1000000 : Int32).toInt = 1000000 := rfl
  have e3 : (M 4 u - M 10 u).toInt = (M 4 u).toInt - (M 10 u).toInt := i32_sub (by omega) (by omega)
  have e4 : (M 10 u + y).toInt = (M 10 u).toInt + y.toInt := i32_add (by omega) (by omega)
  have e5 : (M 4 u - y).toInt = (M 4 u).toInt - y.toInt := i32_sub (by omega) (by omega)
  refine ⟨inR_I.mpr ⟨by omega, by omega⟩, fun q => ?_, ⟨by omega, by omega⟩, by omega, by omega⟩
  have e0 : (M 4 u).toInt = 0 := by rw [q]; rfl
  omega
set_option maxHeartbeats 4000000 in
set_option maxRecDepth 100000 in
theorem q_setBudget_tb {p : Program} {l : Launch} {e : Env} {s : State} {m : MethodId} {args : Array Value} {below : List Frame} {meth : Method} {c : Code} {H : Heap} {locs : List Loc} {cells slots : Nat} {Q : State → Prop} {ls : Array Slot} {K : Ks} {A : Nat → Prop} {ad bad qm : Nat → Nat} {td th : Int32} {n : Nat} {M X : Nat → Nat → Int32} {w : va_W} {oj od : Nat} {g : Nat → Int64} {gd : Nat → UInt64} {b L i j : Nat} {xs : Nat → Int32} (h0 : LSt p l s m args c K A b L xs) (hE : DkE K ad bad td n M w) (hIv : Iv j td n M) (hP : va_P K.1 kCl (CW K qm oj od td n th M X w g gd) H) (hD : va_D A (CW K qm oj od td n th M X w g gd)) (hS : va_S A s.heap H locs) (hl : lv_has ls 8 [(0, .ref b), (1, .ref (ad 0)), (2, .ref (qm 0)), (3, .ref oj), (4, .ref od), (5, .int (nI i))]) (hi : i + 4 < L) (hcl : cells + 31 ≤ 601024) (hsl : slots + 1806 ≤ 7293034) (hj : j ≤ 100000) (kk : LEnd p l e s m args below meth c Q K A b ad qm oj od i j cells slots) {x y : Int32} (hx4 : ixBad 4 x) (e1 : xs (i + 1) = x) (e2 : xs (i + 2) = y) : W p l e room_1 s m args below meth c H locs cells slots Q (F0 m 140 ls []) := by
  obtain ⟨hx, hb, hml, hown, hts, hG, hX, hbl, hbA, hL, hlt⟩ := h0
  have hok := hIv.ok
  have hn30 := hIv.1
  refine lv_aload_n hx hb dL_law_140 rfl (lv_at hl 1 rfl) ?_
  refine lv_aload_n hx hb dL_law_141 rfl (lv_at hl 0 rfl) ?_
  refine lv_iload hx hb dL_law_142 (lv_at hl 5 rfl) ?_
  refine lv_iconst (v := 1) hx hb dL_law_144 (by decide) ?_
  refine lv_iadd hx hb dL_law_145 ?_
  refine lsld (z := x) hx hb hX hbl hbA hS (nI_add i 1) (by omega) (by omega) e1 dL_law_146 ?_
  refine lv_aload_n hx hb dL_law_147 rfl (lv_at hl 0 rfl) ?_
  refine lv_iload hx hb dL_law_148 (lv_at hl 5 rfl) ?_
  refine lv_iconst (v := 2) hx hb dL_law_150 (by decide) ?_
  refine lv_iadd hx hb dL_law_151 ?_
  refine lsld (z := y) hx hb hX hbl hbA hS (nI_add i 2) (by omega) (by omega) e2 dL_law_152 ?_
  refine lv_aload_n hx hb dL_law_153 rfl (lv_at hl 3 rfl) ?_
  have hP := P_perm hP pmJ
  have hD := D_perm hD pmJ
  refine kf_i (W2 := (od, oD K gd) :: Mfix K qm td (nI n) th M X) (vx_runSW (As := [.ref (ad 0), .int x, .int y, .ref oj]) (rest := []) ⟨hx, hb, hml, hown, hts⟩ (h_setBudget_tb hE hlt hx4) (vx_cwSW 4 hts gL_law_L_setBudget rfl rfl rfl (by decide +kernel) ⟨(Nat.le_of_ble_eq_true rfl), (Nat.le_of_ble_eq_true rfl)⟩) (lps hG hP hD hS) rfl rfl hl.1 rfl (lv_room (Nat.le_of_ble_eq_true rfl)) dL_law_154 ⟨(by show _ ≤ 601024; omega), (by show _ ≤ 7293034; omega)⟩) hS hP hD (fun r w H locs hp hP hD hS => ?_)
  obtain ⟨hr, w2, hw, hE⟩ := hp
  subst hw
  subst hr
  have hP := P_perm hP pmJ'
  have hD := D_perm hD pmJ'
  refine lv_istore (lv' := [(6, .int 1), (0, .ref b), (1, .ref (ad 0)), (2, .ref (qm 0)), (3, .ref oj), (4, .ref od), (5, .int (nI i))]) hx hb dL_law_157 hl (by decide) rfl (fun ls hl => ?_)
  refine lv_aload_n hx hb dL_law_159 rfl (lv_at hl 3 rfl) ?_
  refine lv_aload_n hx hb dL_law_160 rfl (lv_at hl 1 rfl) ?_
  refine lv_iload hx hb dL_law_161 (lv_at hl 6 rfl) ?_
  refine lv_iconst (v := 1) hx hb dL_law_163 (by decide) ?_
  refine lv_iadd hx hb dL_law_164 ?_
  refine lsld (z := x) hx hb hX hbl hbA hS (nI_add i 1) (by omega) (by omega) e1 dL_law_165 ?_
  refine lv_aload_n hx hb dL_law_166 rfl (lv_at hl 1 rfl) ?_
  refine lv_iload hx hb dL_law_167 (lv_at hl 6 rfl) ?_
  refine lv_iconst (v := 2) hx hb dL_law_169 (by decide) ?_
  refine lv_iadd hx hb dL_law_170 ?_
  refine lsld (z := y) hx hb hX hbl hbA hS (nI_add i 2) (by omega) (by omega) e2 dL_law_171 ?_
  have hP := P_perm hP pmM
  have hD := D_perm hD pmM
  refine kf_i (W2 := w2 ++ [(oj, oJ K g), (od, oD K gd)]) (va_runV (As := [.int x, .int y]) (rest := []) ⟨hx, hb, hml, hown, hts⟩ (c_X2_setBudget_1 hx4) (cwV 2 hts gL_law_X2_setBudget rfl rfl rfl (by decide +kernel) ⟨(Nat.le_of_ble_eq_true rfl), (Nat.le_of_ble_eq_true rfl)⟩) (lpv (q0 := 0) hG hP hD hS rfl rfl) rfl rfl hl.1 rfl (lv_room (Nat.le_of_ble_eq_true rfl)) dL_law_172 ⟨(by show _ ≤ 601024; omega), (by show _ ≤ 7293034; omega)⟩) hS hP hD (fun r172 w9 H locs hp hP hD hS => ?_)
  subst hp
  have hP := P_perm hP pmM'
  have hD := D_perm hD pmM'
  refine lv_istore (lv' := [(7, .int r172), (6, .int 1), (0, .ref b), (1, .ref (ad 0)), (2, .ref (qm 0)), (3, .ref oj), (4, .ref od), (5, .int (nI i))]) hx hb dL_law_175 hl (by decide) rfl (fun ls hl => ?_)
  refine lv_aload_n hx hb dL_law_177 rfl (lv_at hl 4 rfl) ?_
  have hP := P_perm hP pmM
  have hD := D_perm hD pmM
  refine kf_i (W2 := w2 ++ [(oj, oJ K g), (od, oD K gd)]) (va_runV (As := []) (rest := []) ⟨hx, hb, hml, hown, hts⟩ (c_X2_thrown) (cwV 0 hts gL_law_X2_thrown rfl rfl rfl (by decide +kernel) ⟨(Nat.le_of_ble_eq_true rfl), (Nat.le_of_ble_eq_true rfl)⟩) (lpv (q0 := 0) hG hP hD hS rfl rfl) rfl rfl hl.1 rfl (lv_room (Nat.le_of_ble_eq_true rfl)) dL_law_178 ⟨(by show _ ≤ 601024; omega), (by show _ ≤ 7293034; omega)⟩) hS hP hD (fun r178 w9 H locs hp hP hD hS => ?_)
  obtain ⟨hr, hw⟩ := hp
  subst hw
  subst hr
  have hP := P_perm hP pmM'
  have hD := D_perm hD pmM'
  refine lv_iload hx hb dL_law_181 (lv_at hl 1 rfl) ?_
  refine lv_icmp_eq (tgt := 188) hx hb dL_law_183 (by decide) (fun h183 => ?_) (fun h183 => False.elim (h183 rfl))
  refine lv_iload hx hb dL_law_188 (lv_at hl 1 rfl) ?_
  refine lv_if_ne (tgt := 205) hx hb dL_law_190 (by decide) (fun h190 => ?_) (fun h190 => False.elim (absurd h190 (by decide)))
  refine lv_goto (tgt := 1346) hx hb dL_law_205 (by decide) ?_
  exact W.widen (k := cells + 31) (n := slots + 1806) (by omega) (by omega) (kk _ _ _ _ _ _ _ _ _ H locs ls hE (hIv.up) hP hD hS (lv_sub hl [2, 3, 4, 5, 6, 7] rfl))
set_option maxHeartbeats 4000000 in
set_option maxRecDepth 100000 in
theorem q_setBudget_tr {p : Program} {l : Launch} {e : Env} {s : State} {m : MethodId} {args : Array Value} {below : List Frame} {meth : Method} {c : Code} {H : Heap} {locs : List Loc} {cells slots : Nat} {Q : State → Prop} {ls : Array Slot} {K : Ks} {A : Nat → Prop} {ad bad qm : Nat → Nat} {td th : Int32} {n : Nat} {M X : Nat → Nat → Int32} {w : va_W} {oj od : Nat} {g : Nat → Int64} {gd : Nat → UInt64} {b L i j : Nat} {xs : Nat → Int32} (h0 : LSt p l s m args c K A b L xs) (hE : DkE K ad bad td n M w) (hIv : Iv j td n M) (hP : va_P K.1 kCl (CW K qm oj od td n th M X w g gd) H) (hD : va_D A (CW K qm oj od td n th M X w g gd)) (hS : va_S A s.heap H locs) (hl : lv_has ls 8 [(0, .ref b), (1, .ref (ad 0)), (2, .ref (qm 0)), (3, .ref oj), (4, .ref od), (5, .int (nI i))]) (hi : i + 4 < L) (hcl : cells + 31 ≤ 601024) (hsl : slots + 1806 ≤ 7293034) (hj : j ≤ 100000) (kk : LEnd p l e s m args below meth c Q K A b ad qm oj od i j cells slots) {v : Nat} {y : Int32} (hx4 : v < 4) (hy : ¬ inR 0 100000000 y) (e1 : xs (i + 1) = nI v) (e2 : xs (i + 2) = y) : W p l e room_1 s m args below meth c H locs cells slots Q (F0 m 140 ls []) := by
  obtain ⟨hx, hb, hml, hown, hts, hG, hX, hbl, hbA, hL, hlt⟩ := h0
  have hok := hIv.ok
  have hn30 := hIv.1
  refine lv_aload_n hx hb dL_law_140 rfl (lv_at hl 1 rfl) ?_
  refine lv_aload_n hx hb dL_law_141 rfl (lv_at hl 0 rfl) ?_
  refine lv_iload hx hb dL_law_142 (lv_at hl 5 rfl) ?_
  refine lv_iconst (v := 1) hx hb dL_law_144 (by decide) ?_
  refine lv_iadd hx hb dL_law_145 ?_
  refine lsld (z := nI v) hx hb hX hbl hbA hS (nI_add i 1) (by omega) (by omega) e1 dL_law_146 ?_
  refine lv_aload_n hx hb dL_law_147 rfl (lv_at hl 0 rfl) ?_
  refine lv_iload hx hb dL_law_148 (lv_at hl 5 rfl) ?_
  refine lv_iconst (v := 2) hx hb dL_law_150 (by decide) ?_
  refine lv_iadd hx hb dL_law_151 ?_
  refine lsld (z := y) hx hb hX hbl hbA hS (nI_add i 2) (by omega) (by omega) e2 dL_law_152 ?_
  refine lv_aload_n hx hb dL_law_153 rfl (lv_at hl 3 rfl) ?_
  have hP := P_perm hP pmJ
  have hD := D_perm hD pmJ
  refine kf_i (W2 := (od, oD K gd) :: Mfix K qm td (nI n) th M X) (vx_runSW (As := [.ref (ad 0), .int (nI v), .int y, .ref oj]) (rest := []) ⟨hx, hb, hml, hown, hts⟩ (h_setBudget_tr hE hlt hx4 hy) (vx_cwSW 4 hts gL_law_L_setBudget rfl rfl rfl (by decide +kernel) ⟨(Nat.le_of_ble_eq_true rfl), (Nat.le_of_ble_eq_true rfl)⟩) (lps hG hP hD hS) rfl rfl hl.1 rfl (lv_room (Nat.le_of_ble_eq_true rfl)) dL_law_154 ⟨(by show _ ≤ 601024; omega), (by show _ ≤ 7293034; omega)⟩) hS hP hD (fun r w H locs hp hP hD hS => ?_)
  obtain ⟨hr, w2, hw, hE⟩ := hp
  subst hw
  subst hr
  have hP := P_perm hP pmJ'
  have hD := D_perm hD pmJ'
  refine lv_istore (lv' := [(6, .int 2), (0, .ref b), (1, .ref (ad 0)), (2, .ref (qm 0)), (3, .ref oj), (4, .ref od), (5, .int (nI i))]) hx hb dL_law_157 hl (by decide) rfl (fun ls hl => ?_)
  refine lv_aload_n hx hb dL_law_159 rfl (lv_at hl 3 rfl) ?_
  refine lv_aload_n hx hb dL_law_160 rfl (lv_at hl 1 rfl) ?_
  refine lv_iload hx hb dL_law_161 (lv_at hl 6 rfl) ?_
  refine lv_iconst (v := 1) hx hb dL_law_163 (by decide) ?_
  refine lv_iadd hx hb dL_law_164 ?_
  refine lsld (z := nI v) hx hb hX hbl hbA hS (nI_add i 1) (by omega) (by omega) e1 dL_law_165 ?_
  refine lv_aload_n hx hb dL_law_166 rfl (lv_at hl 1 rfl) ?_
  refine lv_iload hx hb dL_law_167 (lv_at hl 6 rfl) ?_
  refine lv_iconst (v := 2) hx hb dL_law_169 (by decide) ?_
  refine lv_iadd hx hb dL_law_170 ?_
  refine lsld (z := y) hx hb hX hbl hbA hS (nI_add i 2) (by omega) (by omega) e2 dL_law_171 ?_
  have hP := P_perm hP pmM
  have hD := D_perm hD pmM
  refine kf_i (W2 := w2 ++ [(oj, oJ K g), (od, oD K gd)]) (va_runV (As := [.int (nI v), .int y]) (rest := []) ⟨hx, hb, hml, hown, hts⟩ (c_X2_setBudget_2 hx4 hy) (cwV 2 hts gL_law_X2_setBudget rfl rfl rfl (by decide +kernel) ⟨(Nat.le_of_ble_eq_true rfl), (Nat.le_of_ble_eq_true rfl)⟩) (lpv (q0 := 0) hG hP hD hS rfl rfl) rfl rfl hl.1 rfl (lv_room (Nat.le_of_ble_eq_true rfl)) dL_law_172 ⟨(by show _ ≤ 601024; omega), (by show _ ≤ 7293034; omega)⟩) hS hP hD (fun r172 w9 H locs hp hP hD hS => ?_)
  subst hp
  have hP := P_perm hP pmM'
  have hD := D_perm hD pmM'
  refine lv_istore (lv' := [(7, .int r172), (6, .int 2), (0, .ref b), (1, .ref (ad 0)), (2, .ref (qm 0)), (3, .ref oj), (4, .ref od), (5, .int (nI i))]) hx hb dL_law_175 hl (by decide) rfl (fun ls hl => ?_)
  refine lv_aload_n hx hb dL_law_177 rfl (lv_at hl 4 rfl) ?_
  have hP := P_perm hP pmM
  have hD := D_perm hD pmM
  refine kf_i (W2 := w2 ++ [(oj, oJ K g), (od, oD K gd)]) (va_runV (As := []) (rest := []) ⟨hx, hb, hml, hown, hts⟩ (c_X2_thrown) (cwV 0 hts gL_law_X2_thrown rfl rfl rfl (by decide +kernel) ⟨(Nat.le_of_ble_eq_true rfl), (Nat.le_of_ble_eq_true rfl)⟩) (lpv (q0 := 0) hG hP hD hS rfl rfl) rfl rfl hl.1 rfl (lv_room (Nat.le_of_ble_eq_true rfl)) dL_law_178 ⟨(by show _ ≤ 601024; omega), (by show _ ≤ 7293034; omega)⟩) hS hP hD (fun r178 w9 H locs hp hP hD hS => ?_)
  obtain ⟨hr, hw⟩ := hp
  subst hw
  subst hr
  have hP := P_perm hP pmM'
  have hD := D_perm hD pmM'
  refine lv_iload hx hb dL_law_181 (lv_at hl 1 rfl) ?_
  refine lv_icmp_eq (tgt := 188) hx hb dL_law_183 (by decide) (fun h183 => ?_) (fun h183 => False.elim (h183 rfl))
  refine lv_iload hx hb dL_law_188 (lv_at hl 1 rfl) ?_
  refine lv_if_ne (tgt := 205) hx hb dL_law_190 (by decide) (fun h190 => ?_) (fun h190 => False.elim (absurd h190 (by decide)))
  refine lv_goto (tgt := 1346) hx hb dL_law_205 (by decide) ?_
  exact W.widen (k := cells + 31) (n := slots + 1806) (by omega) (by omega) (kk _ _ _ _ _ _ _ _ _ H locs ls hE (hIv.up) hP hD hS (lv_sub hl [2, 3, 4, 5, 6, 7] rfl))
set_option maxHeartbeats 4000000 in
set_option maxRecDepth 100000 in
theorem q_setBudget {p : Program} {l : Launch} {e : Env} {s : State} {m : MethodId} {args : Array Value} {below : List Frame} {meth : Method} {c : Code} {H : Heap} {locs : List Loc} {cells slots : Nat} {Q : State → Prop} {ls : Array Slot} {K : Ks} {A : Nat → Prop} {ad bad qm : Nat → Nat} {td th : Int32} {n : Nat} {M X : Nat → Nat → Int32} {w : va_W} {oj od : Nat} {g : Nat → Int64} {gd : Nat → UInt64} {b L i j : Nat} {xs : Nat → Int32} (h0 : LSt p l s m args c K A b L xs) (hE : DkE K ad bad td n M w) (hIv : Iv j td n M) (hP : va_P K.1 kCl (CW K qm oj od td n th M X w g gd) H) (hD : va_D A (CW K qm oj od td n th M X w g gd)) (hS : va_S A s.heap H locs) (hl : lv_has ls 8 [(0, .ref b), (1, .ref (ad 0)), (2, .ref (qm 0)), (3, .ref oj), (4, .ref od), (5, .int (nI i))]) (hi : i + 4 < L) (hcl : cells + 31 ≤ 601024) (hsl : slots + 1806 ≤ 7293034) (hj : j ≤ 100000) (kk : LEnd p l e s m args below meth c Q K A b ad qm oj od i j cells slots) {v : Nat} {y : Int32} (hx4 : v < 4) (hy : inR 0 100000000 y) (e1 : xs (i + 1) = nI v) (e2 : xs (i + 2) = y) : W p l e room_1 s m args below meth c H locs cells slots Q (F0 m 140 ls []) := by
  obtain ⟨hx, hb, hml, hown, hts, hG, hX, hbl, hbA, hL, hlt⟩ := h0
  have hok := hIv.ok
  have hn30 := hIv.1
  refine lv_aload_n hx hb dL_law_140 rfl (lv_at hl 1 rfl) ?_
  refine lv_aload_n hx hb dL_law_141 rfl (lv_at hl 0 rfl) ?_
  refine lv_iload hx hb dL_law_142 (lv_at hl 5 rfl) ?_
  refine lv_iconst (v := 1) hx hb dL_law_144 (by decide) ?_
  refine lv_iadd hx hb dL_law_145 ?_
  refine lsld (z := nI v) hx hb hX hbl hbA hS (nI_add i 1) (by omega) (by omega) e1 dL_law_146 ?_
  refine lv_aload_n hx hb dL_law_147 rfl (lv_at hl 0 rfl) ?_
  refine lv_iload hx hb dL_law_148 (lv_at hl 5 rfl) ?_
  refine lv_iconst (v := 2) hx hb dL_law_150 (by decide) ?_
  refine lv_iadd hx hb dL_law_151 ?_
  refine lsld (z := y) hx hb hX hbl hbA hS (nI_add i 2) (by omega) (by omega) e2 dL_law_152 ?_
  refine lv_aload_n hx hb dL_law_153 rfl (lv_at hl 3 rfl) ?_
  have hP := P_perm hP pmJ
  have hD := D_perm hD pmJ
  refine kf_i (W2 := (od, oD K gd) :: Mfix K qm td (nI n) th M X) (vx_runSW (As := [.ref (ad 0), .int (nI v), .int y, .ref oj]) (rest := []) ⟨hx, hb, hml, hown, hts⟩ (h_setBudget hE hx4 hy) (vx_cwSW 4 hts gL_law_L_setBudget rfl rfl rfl (by decide +kernel) ⟨(Nat.le_of_ble_eq_true rfl), (Nat.le_of_ble_eq_true rfl)⟩) (lps hG hP hD hS) rfl rfl hl.1 rfl (lv_room (Nat.le_of_ble_eq_true rfl)) dL_law_154 ⟨(by show _ ≤ 601024; omega), (by show _ ≤ 7293034; omega)⟩) hS hP hD (fun r w H locs hp hP hD hS => ?_)
  obtain ⟨hr, w2, g1, hw, hg, hE⟩ := hp
  subst hw
  subst hr
  have hP := P_perm hP pmJ'
  have hD := D_perm hD pmJ'
  refine lv_istore (lv' := [(6, .int 0), (0, .ref b), (1, .ref (ad 0)), (2, .ref (qm 0)), (3, .ref oj), (4, .ref od), (5, .int (nI i))]) hx hb dL_law_157 hl (by decide) rfl (fun ls hl => ?_)
  refine lv_aload_n hx hb dL_law_159 rfl (lv_at hl 3 rfl) ?_
  refine lv_aload_n hx hb dL_law_160 rfl (lv_at hl 1 rfl) ?_
  refine lv_iload hx hb dL_law_161 (lv_at hl 6 rfl) ?_
  refine lv_iconst (v := 1) hx hb dL_law_163 (by decide) ?_
  refine lv_iadd hx hb dL_law_164 ?_
  refine lsld (z := nI v) hx hb hX hbl hbA hS (nI_add i 1) (by omega) (by omega) e1 dL_law_165 ?_
  refine lv_aload_n hx hb dL_law_166 rfl (lv_at hl 1 rfl) ?_
  refine lv_iload hx hb dL_law_167 (lv_at hl 6 rfl) ?_
  refine lv_iconst (v := 2) hx hb dL_law_169 (by decide) ?_
  refine lv_iadd hx hb dL_law_170 ?_
  refine lsld (z := y) hx hb hX hbl hbA hS (nI_add i 2) (by omega) (by omega) e2 dL_law_171 ?_
  have hP := P_perm hP pmM
  have hD := D_perm hD pmM
  refine kf_i (W2 := w2 ++ [(oj, oJ K g1), (od, oD K gd)]) (va_runV (As := [.int (nI v), .int y]) (rest := []) ⟨hx, hb, hml, hown, hts⟩ (c_X2_setBudget_ok hx4 hy) (cwV 2 hts gL_law_X2_setBudget rfl rfl rfl (by decide +kernel) ⟨(Nat.le_of_ble_eq_true rfl), (Nat.le_of_ble_eq_true rfl)⟩) (lpv (q0 := 0) hG hP hD hS rfl rfl) rfl rfl hl.1 rfl (lv_room (Nat.le_of_ble_eq_true rfl)) dL_law_172 ⟨(by show _ ≤ 601024; omega), (by show _ ≤ 7293034; omega)⟩) hS hP hD (fun r172 w9 H locs hp hP hD hS => ?_)
  obtain ⟨hr, hw⟩ := hp
  subst hw
  subst hr
  have hP := P_perm hP pmM'
  have hD := D_perm hD pmM'
  refine lv_istore (lv' := [(7, .int (M 11 v)), (6, .int 0), (0, .ref b), (1, .ref (ad 0)), (2, .ref (qm 0)), (3, .ref oj), (4, .ref od), (5, .int (nI i))]) hx hb dL_law_175 hl (by decide) rfl (fun ls hl => ?_)
  refine lv_aload_n hx hb dL_law_177 rfl (lv_at hl 4 rfl) ?_
  have hP := P_perm hP pmM
  have hD := D_perm hD pmM
  refine kf_i (W2 := w2 ++ [(oj, oJ K g1), (od, oD K gd)]) (va_runV (As := []) (rest := []) ⟨hx, hb, hml, hown, hts⟩ (c_X2_thrown) (cwV 0 hts gL_law_X2_thrown rfl rfl rfl (by decide +kernel) ⟨(Nat.le_of_ble_eq_true rfl), (Nat.le_of_ble_eq_true rfl)⟩) (lpv (q0 := 0) hG hP hD hS rfl rfl) rfl rfl hl.1 rfl (lv_room (Nat.le_of_ble_eq_true rfl)) dL_law_178 ⟨(by show _ ≤ 601024; omega), (by show _ ≤ 7293034; omega)⟩) hS hP hD (fun r178 w9 H locs hp hP hD hS => ?_)
  obtain ⟨hr, hw⟩ := hp
  subst hw
  subst hr
  have hP := P_perm hP pmM'
  have hD := D_perm hD pmM'
  refine lv_iload hx hb dL_law_181 (lv_at hl 1 rfl) ?_
  refine lv_icmp_eq (tgt := 188) hx hb dL_law_183 (by decide) (fun h183 => ?_) (fun h183 => False.elim (h183 rfl))
  refine lv_iload hx hb dL_law_188 (lv_at hl 1 rfl) ?_
  refine lv_if_ne (tgt := 205) hx hb dL_law_190 (by decide) (fun h190 => False.elim (absurd rfl h190)) (fun h190 => ?_)
  refine lv_aload_n hx hb dL_law_193 rfl (lv_at hl 5 rfl) ?_
  refine lv_iconst (v := 0) hx hb dL_law_194 (by decide) ?_
  refine llald hx hb hG hP hg dL_law_195 ?_
  refine lv_iload hx hb dL_law_196 (lv_at hl 0 rfl) ?_
  refine lv_i2l (v := ((M 11 v) : Int32).toInt64) hx hb dL_law_198 rfl ?_
  refine llcmp hx hb dL_law_199 ?_
  refine lv_if_eq (tgt := 205) hx hb dL_law_200 (by decide) (fun h200 => ?_) (fun h200 => False.elim (absurd rfl h200))
  refine lv_goto (tgt := 1346) hx hb dL_law_205 (by decide) ?_
  exact W.widen (k := cells + 31) (n := slots + 1806) (by omega) (by omega) (kk _ _ _ _ _ _ _ _ _ H locs ls hE ((hIv.hi (by decide)).up) hP hD hS (lv_sub hl [2, 3, 4, 5, 6, 7] rfl))
set_option maxHeartbeats 4000000 in
set_option maxRecDepth 100000 in
theorem q_setLimit_tb {p : Program} {l : Launch} {e : Env} {s : State} {m : MethodId} {args : Array Value} {below : List Frame} {meth : Method} {c : Code} {H : Heap} {locs : List Loc} {cells slots : Nat} {Q : State → Prop} {ls : Array Slot} {K : Ks} {A : Nat → Prop} {ad bad qm : Nat → Nat} {td th : Int32} {n : Nat} {M X : Nat → Nat → Int32} {w : va_W} {oj od : Nat} {g : Nat → Int64} {gd : Nat → UInt64} {b L i j : Nat} {xs : Nat → Int32} (h0 : LSt p l s m args c K A b L xs) (hE : DkE K ad bad td n M w) (hIv : Iv j td n M) (hP : va_P K.1 kCl (CW K qm oj od td n th M X w g gd) H) (hD : va_D A (CW K qm oj od td n th M X w g gd)) (hS : va_S A s.heap H locs) (hl : lv_has ls 8 [(0, .ref b), (1, .ref (ad 0)), (2, .ref (qm 0)), (3, .ref oj), (4, .ref od), (5, .int (nI i))]) (hi : i + 4 < L) (hcl : cells + 31 ≤ 601024) (hsl : slots + 1806 ≤ 7293034) (hj : j ≤ 100000) (kk : LEnd p l e s m args below meth c Q K A b ad qm oj od i j cells slots) {x y z : Int32} (hx4 : ixBad 4 x) (e1 : xs (i + 1) = x) (e2 : xs (i + 2) = y) (e3 : xs (i + 3) = z) : W p l e room_1 s m args below meth c H locs cells slots Q (F0 m 208 ls []) := by
  obtain ⟨hx, hb, hml, hown, hts, hG, hX, hbl, hbA, hL, hlt⟩ := h0
  have hok := hIv.ok
  have hn30 := hIv.1
  refine lv_aload_n hx hb dL_law_208 rfl (lv_at hl 1 rfl) ?_
  refine lv_aload_n hx hb dL_law_209 rfl (lv_at hl 0 rfl) ?_
  refine lv_iload hx hb dL_law_210 (lv_at hl 5 rfl) ?_
  refine lv_iconst (v := 1) hx hb dL_law_212 (by decide) ?_
  refine lv_iadd hx hb dL_law_213 ?_
  refine lsld (z := x) hx hb hX hbl hbA hS (nI_add i 1) (by omega) (by omega) e1 dL_law_214 ?_
  refine lv_aload_n hx hb dL_law_215 rfl (lv_at hl 0 rfl) ?_
  refine lv_iload hx hb dL_law_216 (lv_at hl 5 rfl) ?_
  refine lv_iconst (v := 2) hx hb dL_law_218 (by decide) ?_
  refine lv_iadd hx hb dL_law_219 ?_
  refine lsld (z := y) hx hb hX hbl hbA hS (nI_add i 2) (by omega) (by omega) e2 dL_law_220 ?_
  refine lv_aload_n hx hb dL_law_221 rfl (lv_at hl 0 rfl) ?_
  refine lv_iload hx hb dL_law_222 (lv_at hl 5 rfl) ?_
  refine lv_iconst (v := 3) hx hb dL_law_224 (by decide) ?_
  refine lv_iadd hx hb dL_law_225 ?_
  refine lsld (z := z) hx hb hX hbl hbA hS (nI_add i 3) (by omega) (by omega) e3 dL_law_226 ?_
  refine lv_aload_n hx hb dL_law_227 rfl (lv_at hl 3 rfl) ?_
  have hP := P_perm hP pmJ
  have hD := D_perm hD pmJ
  refine kf_i (W2 := (od, oD K gd) :: Mfix K qm td (nI n) th M X) (vx_runSW (As := [.ref (ad 0), .int x, .int y, .int z, .ref oj]) (rest := []) ⟨hx, hb, hml, hown, hts⟩ (h_setLimit_tb hE hlt hx4) (vx_cwSW 5 hts gL_law_L_setLimit rfl rfl rfl (by decide +kernel) ⟨(Nat.le_of_ble_eq_true rfl), (Nat.le_of_ble_eq_true rfl)⟩) (lps hG hP hD hS) rfl rfl hl.1 rfl (lv_room (Nat.le_of_ble_eq_true rfl)) dL_law_228 ⟨(by show _ ≤ 601024; omega), (by show _ ≤ 7293034; omega)⟩) hS hP hD (fun r w H locs hp hP hD hS => ?_)
  obtain ⟨hr, w2, hw, hE⟩ := hp
  subst hw
  subst hr
  have hP := P_perm hP pmJ'
  have hD := D_perm hD pmJ'
  refine lv_istore (lv' := [(6, .int 1), (0, .ref b), (1, .ref (ad 0)), (2, .ref (qm 0)), (3, .ref oj), (4, .ref od), (5, .int (nI i))]) hx hb dL_law_231 hl (by decide) rfl (fun ls hl => ?_)
  refine lv_aload_n hx hb dL_law_233 rfl (lv_at hl 3 rfl) ?_
  refine lv_aload_n hx hb dL_law_234 rfl (lv_at hl 1 rfl) ?_
  refine lv_iload hx hb dL_law_235 (lv_at hl 6 rfl) ?_
  refine lv_iconst (v := 1) hx hb dL_law_237 (by decide) ?_
  refine lv_iadd hx hb dL_law_238 ?_
  refine lsld (z := x) hx hb hX hbl hbA hS (nI_add i 1) (by omega) (by omega) e1 dL_law_239 ?_
  refine lv_aload_n hx hb dL_law_240 rfl (lv_at hl 1 rfl) ?_
  refine lv_iload hx hb dL_law_241 (lv_at hl 6 rfl) ?_
  refine lv_iconst (v := 2) hx hb dL_law_243 (by decide) ?_
  refine lv_iadd hx hb dL_law_244 ?_
  refine lsld (z := y) hx hb hX hbl hbA hS (nI_add i 2) (by omega) (by omega) e2 dL_law_245 ?_
  refine lv_aload_n hx hb dL_law_246 rfl (lv_at hl 1 rfl) ?_
  refine lv_iload hx hb dL_law_247 (lv_at hl 6 rfl) ?_
  refine lv_iconst (v := 3) hx hb dL_law_249 (by decide) ?_
  refine lv_iadd hx hb dL_law_250 ?_
  refine lsld (z := z) hx hb hX hbl hbA hS (nI_add i 3) (by omega) (by omega) e3 dL_law_251 ?_
  have hP := P_perm hP pmM
  have hD := D_perm hD pmM
  refine kf_i (W2 := w2 ++ [(oj, oJ K g), (od, oD K gd)]) (va_runV (As := [.int x, .int y, .int z]) (rest := []) ⟨hx, hb, hml, hown, hts⟩ (c_X2_setLimit_1b hx4) (cwV 3 hts gL_law_X2_setLimit rfl rfl rfl (by decide +kernel) ⟨(Nat.le_of_ble_eq_true rfl), (Nat.le_of_ble_eq_true rfl)⟩) (lpv (q0 := 0) hG hP hD hS rfl rfl) rfl rfl hl.1 rfl (lv_room (Nat.le_of_ble_eq_true rfl)) dL_law_252 ⟨(by show _ ≤ 601024; omega), (by show _ ≤ 7293034; omega)⟩) hS hP hD (fun r252 w9 H locs hp hP hD hS => ?_)
  subst hp
  have hP := P_perm hP pmM'
  have hD := D_perm hD pmM'
  refine lv_istore (lv' := [(7, .int r252), (6, .int 1), (0, .ref b), (1, .ref (ad 0)), (2, .ref (qm 0)), (3, .ref oj), (4, .ref od), (5, .int (nI i))]) hx hb dL_law_255 hl (by decide) rfl (fun ls hl => ?_)
  refine lv_aload_n hx hb dL_law_257 rfl (lv_at hl 4 rfl) ?_
  have hP := P_perm hP pmM
  have hD := D_perm hD pmM
  refine kf_i (W2 := w2 ++ [(oj, oJ K g), (od, oD K gd)]) (va_runV (As := []) (rest := []) ⟨hx, hb, hml, hown, hts⟩ (c_X2_thrown) (cwV 0 hts gL_law_X2_thrown rfl rfl rfl (by decide +kernel) ⟨(Nat.le_of_ble_eq_true rfl), (Nat.le_of_ble_eq_true rfl)⟩) (lpv (q0 := 0) hG hP hD hS rfl rfl) rfl rfl hl.1 rfl (lv_room (Nat.le_of_ble_eq_true rfl)) dL_law_258 ⟨(by show _ ≤ 601024; omega), (by show _ ≤ 7293034; omega)⟩) hS hP hD (fun r258 w9 H locs hp hP hD hS => ?_)
  obtain ⟨hr, hw⟩ := hp
  subst hw
  subst hr
  have hP := P_perm hP pmM'
  have hD := D_perm hD pmM'
  refine lv_iload hx hb dL_law_261 (lv_at hl 1 rfl) ?_
  refine lv_icmp_eq (tgt := 268) hx hb dL_law_263 (by decide) (fun h263 => ?_) (fun h263 => False.elim (h263 rfl))
  refine lv_iload hx hb dL_law_268 (lv_at hl 1 rfl) ?_
  refine lv_if_ne (tgt := 285) hx hb dL_law_270 (by decide) (fun h270 => ?_) (fun h270 => False.elim (absurd h270 (by decide)))
  refine lv_goto (tgt := 1346) hx hb dL_law_285 (by decide) ?_
  exact W.widen (k := cells + 31) (n := slots + 1806) (by omega) (by omega) (kk _ _ _ _ _ _ _ _ _ H locs ls hE (hIv.up) hP hD hS (lv_sub hl [2, 3, 4, 5, 6, 7] rfl))
set_option maxHeartbeats 4000000 in
set_option maxRecDepth 100000 in
theorem q_setLimit_ts {p : Program} {l : Launch} {e : Env} {s : State} {m : MethodId} {args : Array Value} {below : List Frame} {meth : Method} {c : Code} {H : Heap} {locs : List Loc} {cells slots : Nat} {Q : State → Prop} {ls : Array Slot} {K : Ks} {A : Nat → Prop} {ad bad qm : Nat → Nat} {td th : Int32} {n : Nat} {M X : Nat → Nat → Int32} {w : va_W} {oj od : Nat} {g : Nat → Int64} {gd : Nat → UInt64} {b L i j : Nat} {xs : Nat → Int32} (h0 : LSt p l s m args c K A b L xs) (hE : DkE K ad bad td n M w) (hIv : Iv j td n M) (hP : va_P K.1 kCl (CW K qm oj od td n th M X w g gd) H) (hD : va_D A (CW K qm oj od td n th M X w g gd)) (hS : va_S A s.heap H locs) (hl : lv_has ls 8 [(0, .ref b), (1, .ref (ad 0)), (2, .ref (qm 0)), (3, .ref oj), (4, .ref od), (5, .int (nI i))]) (hi : i + 4 < L) (hcl : cells + 31 ≤ 601024) (hsl : slots + 1806 ≤ 7293034) (hj : j ≤ 100000) (kk : LEnd p l e s m args below meth c Q K A b ad qm oj od i j cells slots) {v : Nat} {y : Int32} (hx4 : v < 4) (hx8 : ixBad 8 y) {z : Int32} (e1 : xs (i + 1) = nI v) (e2 : xs (i + 2) = y) (e3 : xs (i + 3) = z) : W p l e room_1 s m args below meth c H locs cells slots Q (F0 m 208 ls []) := by
  obtain ⟨hx, hb, hml, hown, hts, hG, hX, hbl, hbA, hL, hlt⟩ := h0
  have hok := hIv.ok
  have hn30 := hIv.1
  refine lv_aload_n hx hb dL_law_208 rfl (lv_at hl 1 rfl) ?_
  refine lv_aload_n hx hb dL_law_209 rfl (lv_at hl 0 rfl) ?_
  refine lv_iload hx hb dL_law_210 (lv_at hl 5 rfl) ?_
  refine lv_iconst (v := 1) hx hb dL_law_212 (by decide) ?_
  refine lv_iadd hx hb dL_law_213 ?_
  refine lsld (z := nI v) hx hb hX hbl hbA hS (nI_add i 1) (by omega) (by omega) e1 dL_law_214 ?_
  refine lv_aload_n hx hb dL_law_215 rfl (lv_at hl 0 rfl) ?_
  refine lv_iload hx hb dL_law_216 (lv_at hl 5 rfl) ?_
  refine lv_iconst (v := 2) hx hb dL_law_218 (by decide) ?_
  refine lv_iadd hx hb dL_law_219 ?_
  refine lsld (z := y) hx hb hX hbl hbA hS (nI_add i 2) (by omega) (by omega) e2 dL_law_220 ?_
  refine lv_aload_n hx hb dL_law_221 rfl (lv_at hl 0 rfl) ?_
  refine lv_iload hx hb dL_law_222 (lv_at hl 5 rfl) ?_
  refine lv_iconst (v := 3) hx hb dL_law_224 (by decide) ?_
  refine lv_iadd hx hb dL_law_225 ?_
  refine lsld (z := z) hx hb hX hbl hbA hS (nI_add i 3) (by omega) (by omega) e3 dL_law_226 ?_
  refine lv_aload_n hx hb dL_law_227 rfl (lv_at hl 3 rfl) ?_
  have hP := P_perm hP pmJ
  have hD := D_perm hD pmJ
  refine kf_i (W2 := (od, oD K gd) :: Mfix K qm td (nI n) th M X) (vx_runSW (As := [.ref (ad 0), .int (nI v), .int y, .int z, .ref oj]) (rest := []) ⟨hx, hb, hml, hown, hts⟩ (h_setLimit_ts hE hlt hx4 hx8) (vx_cwSW 5 hts gL_law_L_setLimit rfl rfl rfl (by decide +kernel) ⟨(Nat.le_of_ble_eq_true rfl), (Nat.le_of_ble_eq_true rfl)⟩) (lps hG hP hD hS) rfl rfl hl.1 rfl (lv_room (Nat.le_of_ble_eq_true rfl)) dL_law_228 ⟨(by show _ ≤ 601024; omega), (by show _ ≤ 7293034; omega)⟩) hS hP hD (fun r w H locs hp hP hD hS => ?_)
  obtain ⟨hr, w2, hw, hE⟩ := hp
  subst hw
  subst hr
  have hP := P_perm hP pmJ'
  have hD := D_perm hD pmJ'
  refine lv_istore (lv' := [(6, .int 1), (0, .ref b), (1, .ref (ad 0)), (2, .ref (qm 0)), (3, .ref oj), (4, .ref od), (5, .int (nI i))]) hx hb dL_law_231 hl (by decide) rfl (fun ls hl => ?_)
  refine lv_aload_n hx hb dL_law_233 rfl (lv_at hl 3 rfl) ?_
  refine lv_aload_n hx hb dL_law_234 rfl (lv_at hl 1 rfl) ?_
  refine lv_iload hx hb dL_law_235 (lv_at hl 6 rfl) ?_
  refine lv_iconst (v := 1) hx hb dL_law_237 (by decide) ?_
  refine lv_iadd hx hb dL_law_238 ?_
  refine lsld (z := nI v) hx hb hX hbl hbA hS (nI_add i 1) (by omega) (by omega) e1 dL_law_239 ?_
  refine lv_aload_n hx hb dL_law_240 rfl (lv_at hl 1 rfl) ?_
  refine lv_iload hx hb dL_law_241 (lv_at hl 6 rfl) ?_
  refine lv_iconst (v := 2) hx hb dL_law_243 (by decide) ?_
  refine lv_iadd hx hb dL_law_244 ?_
  refine lsld (z := y) hx hb hX hbl hbA hS (nI_add i 2) (by omega) (by omega) e2 dL_law_245 ?_
  refine lv_aload_n hx hb dL_law_246 rfl (lv_at hl 1 rfl) ?_
  refine lv_iload hx hb dL_law_247 (lv_at hl 6 rfl) ?_
  refine lv_iconst (v := 3) hx hb dL_law_249 (by decide) ?_
  refine lv_iadd hx hb dL_law_250 ?_
  refine lsld (z := z) hx hb hX hbl hbA hS (nI_add i 3) (by omega) (by omega) e3 dL_law_251 ?_
  have hP := P_perm hP pmM
  have hD := D_perm hD pmM
  refine kf_i (W2 := w2 ++ [(oj, oJ K g), (od, oD K gd)]) (va_runV (As := [.int (nI v), .int y, .int z]) (rest := []) ⟨hx, hb, hml, hown, hts⟩ (c_X2_setLimit_1s hx4 hx8) (cwV 3 hts gL_law_X2_setLimit rfl rfl rfl (by decide +kernel) ⟨(Nat.le_of_ble_eq_true rfl), (Nat.le_of_ble_eq_true rfl)⟩) (lpv (q0 := 0) hG hP hD hS rfl rfl) rfl rfl hl.1 rfl (lv_room (Nat.le_of_ble_eq_true rfl)) dL_law_252 ⟨(by show _ ≤ 601024; omega), (by show _ ≤ 7293034; omega)⟩) hS hP hD (fun r252 w9 H locs hp hP hD hS => ?_)
  subst hp
  have hP := P_perm hP pmM'
  have hD := D_perm hD pmM'
  refine lv_istore (lv' := [(7, .int r252), (6, .int 1), (0, .ref b), (1, .ref (ad 0)), (2, .ref (qm 0)), (3, .ref oj), (4, .ref od), (5, .int (nI i))]) hx hb dL_law_255 hl (by decide) rfl (fun ls hl => ?_)
  refine lv_aload_n hx hb dL_law_257 rfl (lv_at hl 4 rfl) ?_
  have hP := P_perm hP pmM
  have hD := D_perm hD pmM
  refine kf_i (W2 := w2 ++ [(oj, oJ K g), (od, oD K gd)]) (va_runV (As := []) (rest := []) ⟨hx, hb, hml, hown, hts⟩ (c_X2_thrown) (cwV 0 hts gL_law_X2_thrown rfl rfl rfl (by decide +kernel) ⟨(Nat.le_of_ble_eq_true rfl), (Nat.le_of_ble_eq_true rfl)⟩) (lpv (q0 := 0) hG hP hD hS rfl rfl) rfl rfl hl.1 rfl (lv_room (Nat.le_of_ble_eq_true rfl)) dL_law_258 ⟨(by show _ ≤ 601024; omega), (by show _ ≤ 7293034; omega)⟩) hS hP hD (fun r258 w9 H locs hp hP hD hS => ?_)
  obtain ⟨hr, hw⟩ := hp
  subst hw
  subst hr
  have hP := P_perm hP pmM'
  have hD := D_perm hD pmM'
  refine lv_iload hx hb dL_law_261 (lv_at hl 1 rfl) ?_
  refine lv_icmp_eq (tgt := 268) hx hb dL_law_263 (by decide) (fun h263 => ?_) (fun h263 => False.elim (h263 rfl))
  refine lv_iload hx hb dL_law_268 (lv_at hl 1 rfl) ?_
  refine lv_if_ne (tgt := 285) hx hb dL_law_270 (by decide) (fun h270 => ?_) (fun h270 => False.elim (absurd h270 (by decide)))
  refine lv_goto (tgt := 1346) hx hb dL_law_285 (by decide) ?_
  exact W.widen (k := cells + 31) (n := slots + 1806) (by omega) (by omega) (kk _ _ _ _ _ _ _ _ _ H locs ls hE (hIv.up) hP hD hS (lv_sub hl [2, 3, 4, 5, 6, 7] rfl))
set_option maxHeartbeats 4000000 in
set_option maxRecDepth 100000 in
theorem q_setLimit_tr {p : Program} {l : Launch} {e : Env} {s : State} {m : MethodId} {args : Array Value} {below : List Frame} {meth : Method} {c : Code} {H : Heap} {locs : List Loc} {cells slots : Nat} {Q : State → Prop} {ls : Array Slot} {K : Ks} {A : Nat → Prop} {ad bad qm : Nat → Nat} {td th : Int32} {n : Nat} {M X : Nat → Nat → Int32} {w : va_W} {oj od : Nat} {g : Nat → Int64} {gd : Nat → UInt64} {b L i j : Nat} {xs : Nat → Int32} (h0 : LSt p l s m args c K A b L xs) (hE : DkE K ad bad td n M w) (hIv : Iv j td n M) (hP : va_P K.1 kCl (CW K qm oj od td n th M X w g gd) H) (hD : va_D A (CW K qm oj od td n th M X w g gd)) (hS : va_S A s.heap H locs) (hl : lv_has ls 8 [(0, .ref b), (1, .ref (ad 0)), (2, .ref (qm 0)), (3, .ref oj), (4, .ref od), (5, .int (nI i))]) (hi : i + 4 < L) (hcl : cells + 31 ≤ 601024) (hsl : slots + 1806 ≤ 7293034) (hj : j ≤ 100000) (kk : LEnd p l e s m args below meth c Q K A b ad qm oj od i j cells slots) {v u : Nat} (hx4 : v < 4) (hx8 : u < 8) {z : Int32} (hy : ¬ inR 0 100000000 z) (e1 : xs (i + 1) = nI v) (e2 : xs (i + 2) = nI u) (e3 : xs (i + 3) = z) : W p l e room_1 s m args below meth c H locs cells slots Q (F0 m 208 ls []) := by
  obtain ⟨hx, hb, hml, hown, hts, hG, hX, hbl, hbA, hL, hlt⟩ := h0
  have hok := hIv.ok
  have hn30 := hIv.1
  refine lv_aload_n hx hb dL_law_208 rfl (lv_at hl 1 rfl) ?_
  refine lv_aload_n hx hb dL_law_209 rfl (lv_at hl 0 rfl) ?_
  refine lv_iload hx hb dL_law_210 (lv_at hl 5 rfl) ?_
  refine lv_iconst (v := 1) hx hb dL_law_212 (by decide) ?_
  refine lv_iadd hx hb dL_law_213 ?_
  refine lsld (z := nI v) hx hb hX hbl hbA hS (nI_add i 1) (by omega) (by omega) e1 dL_law_214 ?_
  refine lv_aload_n hx hb dL_law_215 rfl (lv_at hl 0 rfl) ?_
  refine lv_iload hx hb dL_law_216 (lv_at hl 5 rfl) ?_
  refine lv_iconst (v := 2) hx hb dL_law_218 (by decide) ?_
  refine lv_iadd hx hb dL_law_219 ?_
  refine lsld (z := nI u) hx hb hX hbl hbA hS (nI_add i 2) (by omega) (by omega) e2 dL_law_220 ?_
  refine lv_aload_n hx hb dL_law_221 rfl (lv_at hl 0 rfl) ?_
  refine lv_iload hx hb dL_law_222 (lv_at hl 5 rfl) ?_
  refine lv_iconst (v := 3) hx hb dL_law_224 (by decide) ?_
  refine lv_iadd hx hb dL_law_225 ?_
  refine lsld (z := z) hx hb hX hbl hbA hS (nI_add i 3) (by omega) (by omega) e3 dL_law_226 ?_
  refine lv_aload_n hx hb dL_law_227 rfl (lv_at hl 3 rfl) ?_
  have hP := P_perm hP pmJ
  have hD := D_perm hD pmJ
  refine kf_i (W2 := (od, oD K gd) :: Mfix K qm td (nI n) th M X) (vx_runSW (As := [.ref (ad 0), .int (nI v), .int (nI u), .int z, .ref oj]) (rest := []) ⟨hx, hb, hml, hown, hts⟩ (h_setLimit_tr hE hlt hx4 hx8 hy) (vx_cwSW 5 hts gL_law_L_setLimit rfl rfl rfl (by decide +kernel) ⟨(Nat.le_of_ble_eq_true rfl), (Nat.le_of_ble_eq_true rfl)⟩) (lps hG hP hD hS) rfl rfl hl.1 rfl (lv_room (Nat.le_of_ble_eq_true rfl)) dL_law_228 ⟨(by show _ ≤ 601024; omega), (by show _ ≤ 7293034; omega)⟩) hS hP hD (fun r w H locs hp hP hD hS => ?_)
  obtain ⟨hr, w2, hw, hE⟩ := hp
  subst hw
  subst hr
  have hP := P_perm hP pmJ'
  have hD := D_perm hD pmJ'
  refine lv_istore (lv' := [(6, .int 2), (0, .ref b), (1, .ref (ad 0)), (2, .ref (qm 0)), (3, .ref oj), (4, .ref od), (5, .int (nI i))]) hx hb dL_law_231 hl (by decide) rfl (fun ls hl => ?_)
  refine lv_aload_n hx hb dL_law_233 rfl (lv_at hl 3 rfl) ?_
  refine lv_aload_n hx hb dL_law_234 rfl (lv_at hl 1 rfl) ?_
  refine lv_iload hx hb dL_law_235 (lv_at hl 6 rfl) ?_
  refine lv_iconst (v := 1) hx hb dL_law_237 (by decide) ?_
  refine lv_iadd hx hb dL_law_238 ?_
  refine lsld (z := nI v) hx hb hX hbl hbA hS (nI_add i 1) (by omega) (by omega) e1 dL_law_239 ?_
  refine lv_aload_n hx hb dL_law_240 rfl (lv_at hl 1 rfl) ?_
  refine lv_iload hx hb dL_law_241 (lv_at hl 6 rfl) ?_
  refine lv_iconst (v := 2) hx hb dL_law_243 (by decide) ?_
  refine lv_iadd hx hb dL_law_244 ?_
  refine lsld (z := nI u) hx hb hX hbl hbA hS (nI_add i 2) (by omega) (by omega) e2 dL_law_245 ?_
  refine lv_aload_n hx hb dL_law_246 rfl (lv_at hl 1 rfl) ?_
  refine lv_iload hx hb dL_law_247 (lv_at hl 6 rfl) ?_
  refine lv_iconst (v := 3) hx hb dL_law_249 (by decide) ?_
  refine lv_iadd hx hb dL_law_250 ?_
  refine lsld (z := z) hx hb hX hbl hbA hS (nI_add i 3) (by omega) (by omega) e3 dL_law_251 ?_
  have hP := P_perm hP pmM
  have hD := D_perm hD pmM
  refine kf_i (W2 := w2 ++ [(oj, oJ K g), (od, oD K gd)]) (va_runV (As := [.int (nI v), .int (nI u), .int z]) (rest := []) ⟨hx, hb, hml, hown, hts⟩ (c_X2_setLimit_2 hx4 hx8 hy) (cwV 3 hts gL_law_X2_setLimit rfl rfl rfl (by decide +kernel) ⟨(Nat.le_of_ble_eq_true rfl), (Nat.le_of_ble_eq_true rfl)⟩) (lpv (q0 := 0) hG hP hD hS rfl rfl) rfl rfl hl.1 rfl (lv_room (Nat.le_of_ble_eq_true rfl)) dL_law_252 ⟨(by show _ ≤ 601024; omega), (by show _ ≤ 7293034; omega)⟩) hS hP hD (fun r252 w9 H locs hp hP hD hS => ?_)
  subst hp
  have hP := P_perm hP pmM'
  have hD := D_perm hD pmM'
  refine lv_istore (lv' := [(7, .int r252), (6, .int 2), (0, .ref b), (1, .ref (ad 0)), (2, .ref (qm 0)), (3, .ref oj), (4, .ref od), (5, .int (nI i))]) hx hb dL_law_255 hl (by decide) rfl (fun ls hl => ?_)
  refine lv_aload_n hx hb dL_law_257 rfl (lv_at hl 4 rfl) ?_
  have hP := P_perm hP pmM
  have hD := D_perm hD pmM
  refine kf_i (W2 := w2 ++ [(oj, oJ K g), (od, oD K gd)]) (va_runV (As := []) (rest := []) ⟨hx, hb, hml, hown, hts⟩ (c_X2_thrown) (cwV 0 hts gL_law_X2_thrown rfl rfl rfl (by decide +kernel) ⟨(Nat.le_of_ble_eq_true rfl), (Nat.le_of_ble_eq_true rfl)⟩) (lpv (q0 := 0) hG hP hD hS rfl rfl) rfl rfl hl.1 rfl (lv_room (Nat.le_of_ble_eq_true rfl)) dL_law_258 ⟨(by show _ ≤ 601024; omega), (by show _ ≤ 7293034; omega)⟩) hS hP hD (fun r258 w9 H locs hp hP hD hS => ?_)
  obtain ⟨hr, hw⟩ := hp
  subst hw
  subst hr
  have hP := P_perm hP pmM'
  have hD := D_perm hD pmM'
  refine lv_iload hx hb dL_law_261 (lv_at hl 1 rfl) ?_
  refine lv_icmp_eq (tgt := 268) hx hb dL_law_263 (by decide) (fun h263 => ?_) (fun h263 => False.elim (h263 rfl))
  refine lv_iload hx hb dL_law_268 (lv_at hl 1 rfl) ?_
  refine lv_if_ne (tgt := 285) hx hb dL_law_270 (by decide) (fun h270 => ?_) (fun h270 => False.elim (absurd h270 (by decide)))
  refine lv_goto (tgt := 1346) hx hb dL_law_285 (by decide) ?_
  exact W.widen (k := cells + 31) (n := slots + 1806) (by omega) (by omega) (kk _ _ _ _ _ _ _ _ _ H locs ls hE (hIv.up) hP hD hS (lv_sub hl [2, 3, 4, 5, 6, 7] rfl))
set_option maxHeartbeats 4000000 in
set_option maxRecDepth 100000 in
theorem q_setLimit {p : Program} {l : Launch} {e : Env} {s : State} {m : MethodId} {args : Array Value} {below : List Frame} {meth : Method} {c : Code} {H : Heap} {locs : List Loc} {cells slots : Nat} {Q : State → Prop} {ls : Array Slot} {K : Ks} {A : Nat → Prop} {ad bad qm : Nat → Nat} {td th : Int32} {n : Nat} {M X : Nat → Nat → Int32} {w : va_W} {oj od : Nat} {g : Nat → Int64} {gd : Nat → UInt64} {b L i j : Nat} {xs : Nat → Int32} (h0 : LSt p l s m args c K A b L xs) (hE : DkE K ad bad td n M w) (hIv : Iv j td n M) (hP : va_P K.1 kCl (CW K qm oj od td n th M X w g gd) H) (hD : va_D A (CW K qm oj od td n th M X w g gd)) (hS : va_S A s.heap H locs) (hl : lv_has ls 8 [(0, .ref b), (1, .ref (ad 0)), (2, .ref (qm 0)), (3, .ref oj), (4, .ref od), (5, .int (nI i))]) (hi : i + 4 < L) (hcl : cells + 31 ≤ 601024) (hsl : slots + 1806 ≤ 7293034) (hj : j ≤ 100000) (kk : LEnd p l e s m args below meth c Q K A b ad qm oj od i j cells slots) {v u : Nat} (hx4 : v < 4) (hx8 : u < 8) {z : Int32} (hy : inR 0 100000000 z) (e1 : xs (i + 1) = nI v) (e2 : xs (i + 2) = nI u) (e3 : xs (i + 3) = z) : W p l e room_1 s m args below meth c H locs cells slots Q (F0 m 208 ls []) := by
  obtain ⟨hx, hb, hml, hown, hts, hG, hX, hbl, hbA, hL, hlt⟩ := h0
  have hok := hIv.ok
  have hn30 := hIv.1
  refine lv_aload_n hx hb dL_law_208 rfl (lv_at hl 1 rfl) ?_
  refine lv_aload_n hx hb dL_law_209 rfl (lv_at hl 0 rfl) ?_
  refine lv_iload hx hb dL_law_210 (lv_at hl 5 rfl) ?_
  refine lv_iconst (v := 1) hx hb dL_law_212 (by decide) ?_
  refine lv_iadd hx hb dL_law_213 ?_
  refine lsld (z := nI v) hx hb hX hbl hbA hS (nI_add i 1) (by omega) (by omega) e1 dL_law_214 ?_
  refine lv_aload_n hx hb dL_law_215 rfl (lv_at hl 0 rfl) ?_
  refine lv_iload hx hb dL_law_216 (lv_at hl 5 rfl) ?_
  refine lv_iconst (v := 2) hx hb dL_law_218 (by decide) ?_
  refine lv_iadd hx hb dL_law_219 ?_
  refine lsld (z := nI u) hx hb hX hbl hbA hS (nI_add i 2) (by omega) (by omega) e2 dL_law_220 ?_
  refine lv_aload_n hx hb dL_law_221 rfl (lv_at hl 0 rfl) ?_
  refine lv_iload hx hb dL_law_222 (lv_at hl 5 rfl) ?_
  refine lv_iconst (v := 3) hx hb dL_law_224 (by decide) ?_
  refine lv_iadd hx hb dL_law_225 ?_
  refine lsld (z := z) hx hb hX hbl hbA hS (nI_add i 3) (by omega) (by omega) e3 dL_law_226 ?_
  refine lv_aload_n hx hb dL_law_227 rfl (lv_at hl 3 rfl) ?_
  have hP := P_perm hP pmJ
  have hD := D_perm hD pmJ
  refine kf_i (W2 := (od, oD K gd) :: Mfix K qm td (nI n) th M X) (vx_runSW (As := [.ref (ad 0), .int (nI v), .int (nI u), .int z, .ref oj]) (rest := []) ⟨hx, hb, hml, hown, hts⟩ (h_setLimit hE hx4 hx8 hy) (vx_cwSW 5 hts gL_law_L_setLimit rfl rfl rfl (by decide +kernel) ⟨(Nat.le_of_ble_eq_true rfl), (Nat.le_of_ble_eq_true rfl)⟩) (lps hG hP hD hS) rfl rfl hl.1 rfl (lv_room (Nat.le_of_ble_eq_true rfl)) dL_law_228 ⟨(by show _ ≤ 601024; omega), (by show _ ≤ 7293034; omega)⟩) hS hP hD (fun r w H locs hp hP hD hS => ?_)
  obtain ⟨hr, w2, g1, hw, hg, hE⟩ := hp
  subst hw
  subst hr
  have hP := P_perm hP pmJ'
  have hD := D_perm hD pmJ'
  refine lv_istore (lv' := [(6, .int 0), (0, .ref b), (1, .ref (ad 0)), (2, .ref (qm 0)), (3, .ref oj), (4, .ref od), (5, .int (nI i))]) hx hb dL_law_231 hl (by decide) rfl (fun ls hl => ?_)
  refine lv_aload_n hx hb dL_law_233 rfl (lv_at hl 3 rfl) ?_
  refine lv_aload_n hx hb dL_law_234 rfl (lv_at hl 1 rfl) ?_
  refine lv_iload hx hb dL_law_235 (lv_at hl 6 rfl) ?_
  refine lv_iconst (v := 1) hx hb dL_law_237 (by decide) ?_
  refine lv_iadd hx hb dL_law_238 ?_
  refine lsld (z := nI v) hx hb hX hbl hbA hS (nI_add i 1) (by omega) (by omega) e1 dL_law_239 ?_
  refine lv_aload_n hx hb dL_law_240 rfl (lv_at hl 1 rfl) ?_
  refine lv_iload hx hb dL_law_241 (lv_at hl 6 rfl) ?_
  refine lv_iconst (v := 2) hx hb dL_law_243 (by decide) ?_
  refine lv_iadd hx hb dL_law_244 ?_
  refine lsld (z := nI u) hx hb hX hbl hbA hS (nI_add i 2) (by omega) (by omega) e2 dL_law_245 ?_
  refine lv_aload_n hx hb dL_law_246 rfl (lv_at hl 1 rfl) ?_
  refine lv_iload hx hb dL_law_247 (lv_at hl 6 rfl) ?_
  refine lv_iconst (v := 3) hx hb dL_law_249 (by decide) ?_
  refine lv_iadd hx hb dL_law_250 ?_
  refine lsld (z := z) hx hb hX hbl hbA hS (nI_add i 3) (by omega) (by omega) e3 dL_law_251 ?_
  have hP := P_perm hP pmM
  have hD := D_perm hD pmM
  refine kf_i (W2 := w2 ++ [(oj, oJ K g1), (od, oD K gd)]) (va_runV (As := [.int (nI v), .int (nI u), .int z]) (rest := []) ⟨hx, hb, hml, hown, hts⟩ (c_X2_setLimit_ok hx4 hx8 hy) (cwV 3 hts gL_law_X2_setLimit rfl rfl rfl (by decide +kernel) ⟨(Nat.le_of_ble_eq_true rfl), (Nat.le_of_ble_eq_true rfl)⟩) (lpv (q0 := 0) hG hP hD hS rfl rfl) rfl rfl hl.1 rfl (lv_room (Nat.le_of_ble_eq_true rfl)) dL_law_252 ⟨(by show _ ≤ 601024; omega), (by show _ ≤ 7293034; omega)⟩) hS hP hD (fun r252 w9 H locs hp hP hD hS => ?_)
  obtain ⟨hr, hw⟩ := hp
  subst hw
  subst hr
  have hP := P_perm hP pmM'
  have hD := D_perm hD pmM'
  refine lv_istore (lv' := [(7, .int (M 12 (8 * v + u))), (6, .int 0), (0, .ref b), (1, .ref (ad 0)), (2, .ref (qm 0)), (3, .ref oj), (4, .ref od), (5, .int (nI i))]) hx hb dL_law_255 hl (by decide) rfl (fun ls hl => ?_)
  refine lv_aload_n hx hb dL_law_257 rfl (lv_at hl 4 rfl) ?_
  have hP := P_perm hP pmM
  have hD := D_perm hD pmM
  refine kf_i (W2 := w2 ++ [(oj, oJ K g1), (od, oD K gd)]) (va_runV (As := []) (rest := []) ⟨hx, hb, hml, hown, hts⟩ (c_X2_thrown) (cwV 0 hts gL_law_X2_thrown rfl rfl rfl (by decide +kernel) ⟨(Nat.le_of_ble_eq_true rfl), (Nat.le_of_ble_eq_true rfl)⟩) (lpv (q0 := 0) hG hP hD hS rfl rfl) rfl rfl hl.1 rfl (lv_room (Nat.le_of_ble_eq_true rfl)) dL_law_258 ⟨(by show _ ≤ 601024; omega), (by show _ ≤ 7293034; omega)⟩) hS hP hD (fun r258 w9 H locs hp hP hD hS => ?_)
  obtain ⟨hr, hw⟩ := hp
  subst hw
  subst hr
  have hP := P_perm hP pmM'
  have hD := D_perm hD pmM'
  refine lv_iload hx hb dL_law_261 (lv_at hl 1 rfl) ?_
  refine lv_icmp_eq (tgt := 268) hx hb dL_law_263 (by decide) (fun h263 => ?_) (fun h263 => False.elim (h263 rfl))
  refine lv_iload hx hb dL_law_268 (lv_at hl 1 rfl) ?_
  refine lv_if_ne (tgt := 285) hx hb dL_law_270 (by decide) (fun h270 => False.elim (absurd rfl h270)) (fun h270 => ?_)
  refine lv_aload_n hx hb dL_law_273 rfl (lv_at hl 5 rfl) ?_
  refine lv_iconst (v := 0) hx hb dL_law_274 (by decide) ?_
  refine llald hx hb hG hP hg dL_law_275 ?_
  refine lv_iload hx hb dL_law_276 (lv_at hl 0 rfl) ?_
  refine lv_i2l (v := ((M 12 (8 * v + u)) : Int32).toInt64) hx hb dL_law_278 rfl ?_
  refine llcmp hx hb dL_law_279 ?_
  refine lv_if_eq (tgt := 285) hx hb dL_law_280 (by decide) (fun h280 => ?_) (fun h280 => False.elim (absurd rfl h280))
  refine lv_goto (tgt := 1346) hx hb dL_law_285 (by decide) ?_
  exact W.widen (k := cells + 31) (n := slots + 1806) (by omega) (by omega) (kk _ _ _ _ _ _ _ _ _ H locs ls hE ((hIv.hi (by decide)).up) hP hD hS (lv_sub hl [2, 3, 4, 5, 6, 7] rfl))
set_option maxHeartbeats 4000000 in
set_option maxRecDepth 100000 in
theorem q_bill_tb {p : Program} {l : Launch} {e : Env} {s : State} {m : MethodId} {args : Array Value} {below : List Frame} {meth : Method} {c : Code} {H : Heap} {locs : List Loc} {cells slots : Nat} {Q : State → Prop} {ls : Array Slot} {K : Ks} {A : Nat → Prop} {ad bad qm : Nat → Nat} {td th : Int32} {n : Nat} {M X : Nat → Nat → Int32} {w : va_W} {oj od : Nat} {g : Nat → Int64} {gd : Nat → UInt64} {b L i j : Nat} {xs : Nat → Int32} (h0 : LSt p l s m args c K A b L xs) (hE : DkE K ad bad td n M w) (hIv : Iv j td n M) (hP : va_P K.1 kCl (CW K qm oj od td n th M X w g gd) H) (hD : va_D A (CW K qm oj od td n th M X w g gd)) (hS : va_S A s.heap H locs) (hl : lv_has ls 8 [(0, .ref b), (1, .ref (ad 0)), (2, .ref (qm 0)), (3, .ref oj), (4, .ref od), (5, .int (nI i))]) (hi : i + 4 < L) (hcl : cells + 31 ≤ 601024) (hsl : slots + 1806 ≤ 7293034) (hj : j ≤ 100000) (kk : LEnd p l e s m args below meth c Q K A b ad qm oj od i j cells slots) {x y ct dd : Int32} (hx4 : ixBad 4 x) (e1 : xs (i + 1) = x) (e2 : xs (i + 2) = y) (e3 : xs (i + 3) = ct) (e4 : xs (i + 4) = dd) : W p l e room_1 s m args below meth c H locs cells slots Q (F0 m 288 ls []) := by
  obtain ⟨hx, hb, hml, hown, hts, hG, hX, hbl, hbA, hL, hlt⟩ := h0
  have hok := hIv.ok
  have hn30 := hIv.1
  refine lv_aload_n hx hb dL_law_288 rfl (lv_at hl 1 rfl) ?_
  refine lv_aload_n hx hb dL_law_289 rfl (lv_at hl 0 rfl) ?_
  refine lv_iload hx hb dL_law_290 (lv_at hl 5 rfl) ?_
  refine lv_iconst (v := 1) hx hb dL_law_292 (by decide) ?_
  refine lv_iadd hx hb dL_law_293 ?_
  refine lsld (z := x) hx hb hX hbl hbA hS (nI_add i 1) (by omega) (by omega) e1 dL_law_294 ?_
  refine lv_aload_n hx hb dL_law_295 rfl (lv_at hl 0 rfl) ?_
  refine lv_iload hx hb dL_law_296 (lv_at hl 5 rfl) ?_
  refine lv_iconst (v := 2) hx hb dL_law_298 (by decide) ?_
  refine lv_iadd hx hb dL_law_299 ?_
  refine lsld (z := y) hx hb hX hbl hbA hS (nI_add i 2) (by omega) (by omega) e2 dL_law_300 ?_
  refine lv_aload_n hx hb dL_law_301 rfl (lv_at hl 0 rfl) ?_
  refine lv_iload hx hb dL_law_302 (lv_at hl 5 rfl) ?_
  refine lv_iconst (v := 3) hx hb dL_law_304 (by decide) ?_
  refine lv_iadd hx hb dL_law_305 ?_
  refine lsld (z := ct) hx hb hX hbl hbA hS (nI_add i 3) (by omega) (by omega) e3 dL_law_306 ?_
  refine lv_aload_n hx hb dL_law_307 rfl (lv_at hl 0 rfl) ?_
  refine lv_iload hx hb dL_law_308 (lv_at hl 5 rfl) ?_
  refine lv_iconst (v := 4) hx hb dL_law_310 (by decide) ?_
  refine lv_iadd hx hb dL_law_311 ?_
  refine lsld (z := dd) hx hb hX hbl hbA hS (nI_add i 4) (by omega) (by omega) e4 dL_law_312 ?_
  refine lv_aload_n hx hb dL_law_313 rfl (lv_at hl 3 rfl) ?_
  have hP := P_perm hP pmJ
  have hD := D_perm hD pmJ
  refine kf_i (W2 := (od, oD K gd) :: Mfix K qm td (nI n) th M X) (vx_runSW (As := [.ref (ad 0), .int x, .int y, .int ct, .int dd, .ref oj]) (rest := []) ⟨hx, hb, hml, hown, hts⟩ (h_bill_tb hE hlt hx4) (vx_cwSW 6 hts gL_law_L_bill rfl rfl rfl (by decide +kernel) ⟨(Nat.le_of_ble_eq_true rfl), (Nat.le_of_ble_eq_true rfl)⟩) (lps hG hP hD hS) rfl rfl hl.1 rfl (lv_room (Nat.le_of_ble_eq_true rfl)) dL_law_314 ⟨(by show _ ≤ 601024; omega), (by show _ ≤ 7293034; omega)⟩) hS hP hD (fun r w H locs hp hP hD hS => ?_)
  obtain ⟨hr, w2, hw, hE⟩ := hp
  subst hw
  subst hr
  have hP := P_perm hP pmJ'
  have hD := D_perm hD pmJ'
  refine lv_istore (lv' := [(6, .int 1), (0, .ref b), (1, .ref (ad 0)), (2, .ref (qm 0)), (3, .ref oj), (4, .ref od), (5, .int (nI i))]) hx hb dL_law_317 hl (by decide) rfl (fun ls hl => ?_)
  refine lv_aload_n hx hb dL_law_319 rfl (lv_at hl 3 rfl) ?_
  refine lv_aload_n hx hb dL_law_320 rfl (lv_at hl 1 rfl) ?_
  refine lv_iload hx hb dL_law_321 (lv_at hl 6 rfl) ?_
  refine lv_iconst (v := 1) hx hb dL_law_323 (by decide) ?_
  refine lv_iadd hx hb dL_law_324 ?_
  refine lsld (z := x) hx hb hX hbl hbA hS (nI_add i 1) (by omega) (by omega) e1 dL_law_325 ?_
  refine lv_aload_n hx hb dL_law_326 rfl (lv_at hl 1 rfl) ?_
  refine lv_iload hx hb dL_law_327 (lv_at hl 6 rfl) ?_
  refine lv_iconst (v := 2) hx hb dL_law_329 (by decide) ?_
  refine lv_iadd hx hb dL_law_330 ?_
  refine lsld (z := y) hx hb hX hbl hbA hS (nI_add i 2) (by omega) (by omega) e2 dL_law_331 ?_
  refine lv_aload_n hx hb dL_law_332 rfl (lv_at hl 1 rfl) ?_
  refine lv_iload hx hb dL_law_333 (lv_at hl 6 rfl) ?_
  refine lv_iconst (v := 3) hx hb dL_law_335 (by decide) ?_
  refine lv_iadd hx hb dL_law_336 ?_
  refine lsld (z := ct) hx hb hX hbl hbA hS (nI_add i 3) (by omega) (by omega) e3 dL_law_337 ?_
  refine lv_aload_n hx hb dL_law_338 rfl (lv_at hl 1 rfl) ?_
  refine lv_iload hx hb dL_law_339 (lv_at hl 6 rfl) ?_
  refine lv_iconst (v := 4) hx hb dL_law_341 (by decide) ?_
  refine lv_iadd hx hb dL_law_342 ?_
  refine lsld (z := dd) hx hb hX hbl hbA hS (nI_add i 4) (by omega) (by omega) e4 dL_law_343 ?_
  have hP := P_perm hP pmM
  have hD := D_perm hD pmM
  refine kf_i (W2 := w2 ++ [(oj, oJ K g), (od, oD K gd)]) (va_runV (As := [.int x, .int y, .int ct, .int dd]) (rest := []) ⟨hx, hb, hml, hown, hts⟩ (c_X2_bill_1b hx4) (cwV 4 hts gL_law_X2_bill rfl rfl rfl (by decide +kernel) ⟨(Nat.le_of_ble_eq_true rfl), (Nat.le_of_ble_eq_true rfl)⟩) (lpv (q0 := 0) hG hP hD hS rfl rfl) rfl rfl hl.1 rfl (lv_room (Nat.le_of_ble_eq_true rfl)) dL_law_344 ⟨(by show _ ≤ 601024; omega), (by show _ ≤ 7293034; omega)⟩) hS hP hD (fun r344 w9 H locs hp hP hD hS => ?_)
  subst hp
  have hP := P_perm hP pmM'
  have hD := D_perm hD pmM'
  refine lv_istore (lv' := [(7, .int r344), (6, .int 1), (0, .ref b), (1, .ref (ad 0)), (2, .ref (qm 0)), (3, .ref oj), (4, .ref od), (5, .int (nI i))]) hx hb dL_law_347 hl (by decide) rfl (fun ls hl => ?_)
  refine lv_aload_n hx hb dL_law_349 rfl (lv_at hl 4 rfl) ?_
  have hP := P_perm hP pmM
  have hD := D_perm hD pmM
  refine kf_i (W2 := w2 ++ [(oj, oJ K g), (od, oD K gd)]) (va_runV (As := []) (rest := []) ⟨hx, hb, hml, hown, hts⟩ (c_X2_thrown) (cwV 0 hts gL_law_X2_thrown rfl rfl rfl (by decide +kernel) ⟨(Nat.le_of_ble_eq_true rfl), (Nat.le_of_ble_eq_true rfl)⟩) (lpv (q0 := 0) hG hP hD hS rfl rfl) rfl rfl hl.1 rfl (lv_room (Nat.le_of_ble_eq_true rfl)) dL_law_350 ⟨(by show _ ≤ 601024; omega), (by show _ ≤ 7293034; omega)⟩) hS hP hD (fun r350 w9 H locs hp hP hD hS => ?_)
  obtain ⟨hr, hw⟩ := hp
  subst hw
  subst hr
  have hP := P_perm hP pmM'
  have hD := D_perm hD pmM'
  refine lv_iload hx hb dL_law_353 (lv_at hl 1 rfl) ?_
  refine lv_icmp_eq (tgt := 360) hx hb dL_law_355 (by decide) (fun h355 => ?_) (fun h355 => False.elim (h355 rfl))
  refine lv_iload hx hb dL_law_360 (lv_at hl 1 rfl) ?_
  refine lv_if_ne (tgt := 377) hx hb dL_law_362 (by decide) (fun h362 => ?_) (fun h362 => False.elim (absurd h362 (by decide)))
  refine lv_goto (tgt := 1346) hx hb dL_law_377 (by decide) ?_
  exact W.widen (k := cells + 31) (n := slots + 1806) (by omega) (by omega) (kk _ _ _ _ _ _ _ _ _ H locs ls hE (hIv.up) hP hD hS (lv_sub hl [2, 3, 4, 5, 6, 7] rfl))
set_option maxHeartbeats 4000000 in
set_option maxRecDepth 100000 in
theorem q_bill_ts {p : Program} {l : Launch} {e : Env} {s : State} {m : MethodId} {args : Array Value} {below : List Frame} {meth : Method} {c : Code} {H : Heap} {locs : List Loc} {cells slots : Nat} {Q : State → Prop} {ls : Array Slot} {K : Ks} {A : Nat → Prop} {ad bad qm : Nat → Nat} {td th : Int32} {n : Nat} {M X : Nat → Nat → Int32} {w : va_W} {oj od : Nat} {g : Nat → Int64} {gd : Nat → UInt64} {b L i j : Nat} {xs : Nat → Int32} (h0 : LSt p l s m args c K A b L xs) (hE : DkE K ad bad td n M w) (hIv : Iv j td n M) (hP : va_P K.1 kCl (CW K qm oj od td n th M X w g gd) H) (hD : va_D A (CW K qm oj od td n th M X w g gd)) (hS : va_S A s.heap H locs) (hl : lv_has ls 8 [(0, .ref b), (1, .ref (ad 0)), (2, .ref (qm 0)), (3, .ref oj), (4, .ref od), (5, .int (nI i))]) (hi : i + 4 < L) (hcl : cells + 31 ≤ 601024) (hsl : slots + 1806 ≤ 7293034) (hj : j ≤ 100000) (kk : LEnd p l e s m args below meth c Q K A b ad qm oj od i j cells slots) {v : Nat} {y : Int32} (hx4 : v < 4) (hx8 : ixBad 8 y) {ct dd : Int32} (e1 : xs (i + 1) = nI v) (e2 : xs (i + 2) = y) (e3 : xs (i + 3) = ct) (e4 : xs (i + 4) = dd) : W p l e room_1 s m args below meth c H locs cells slots Q (F0 m 288 ls []) := by
  obtain ⟨hx, hb, hml, hown, hts, hG, hX, hbl, hbA, hL, hlt⟩ := h0
  have hok := hIv.ok
  have hn30 := hIv.1
  refine lv_aload_n hx hb dL_law_288 rfl (lv_at hl 1 rfl) ?_
  refine lv_aload_n hx hb dL_law_289 rfl (lv_at hl 0 rfl) ?_
  refine lv_iload hx hb dL_law_290 (lv_at hl 5 rfl) ?_
  refine lv_iconst (v := 1) hx hb dL_law_292 (by decide) ?_
  refine lv_iadd hx hb dL_law_293 ?_
  refine lsld (z := nI v) hx hb hX hbl hbA hS (nI_add i 1) (by omega) (by omega) e1 dL_law_294 ?_
  refine lv_aload_n hx hb dL_law_295 rfl (lv_at hl 0 rfl) ?_
  refine lv_iload hx hb dL_law_296 (lv_at hl 5 rfl) ?_
  refine lv_iconst (v := 2) hx hb dL_law_298 (by decide) ?_
  refine lv_iadd hx hb dL_law_299 ?_
  refine lsld (z := y) hx hb hX hbl hbA hS (nI_add i 2) (by omega) (by omega) e2 dL_law_300 ?_
  refine lv_aload_n hx hb dL_law_301 rfl (lv_at hl 0 rfl) ?_
  refine lv_iload hx hb dL_law_302 (lv_at hl 5 rfl) ?_
  refine lv_iconst (v := 3) hx hb dL_law_304 (by decide) ?_
  refine lv_iadd hx hb dL_law_305 ?_
  refine lsld (z := ct) hx hb hX hbl hbA hS (nI_add i 3) (by omega) (by omega) e3 dL_law_306 ?_
  refine lv_aload_n hx hb dL_law_307 rfl (lv_at hl 0 rfl) ?_
  refine lv_iload hx hb dL_law_308 (lv_at hl 5 rfl) ?_
  refine lv_iconst (v := 4) hx hb dL_law_310 (by decide) ?_
  refine lv_iadd hx hb dL_law_311 ?_
  refine lsld (z := dd) hx hb hX hbl hbA hS (nI_add i 4) (by omega) (by omega) e4 dL_law_312 ?_
  refine lv_aload_n hx hb dL_law_313 rfl (lv_at hl 3 rfl) ?_
  have hP := P_perm hP pmJ
  have hD := D_perm hD pmJ
  refine kf_i (W2 := (od, oD K gd) :: Mfix K qm td (nI n) th M X) (vx_runSW (As := [.ref (ad 0), .int (nI v), .int y, .int ct, .int dd, .ref oj]) (rest := []) ⟨hx, hb, hml, hown, hts⟩ (h_bill_ts hE hlt hx4 hx8) (vx_cwSW 6 hts gL_law_L_bill rfl rfl rfl (by decide +kernel) ⟨(Nat.le_of_ble_eq_true rfl), (Nat.le_of_ble_eq_true rfl)⟩) (lps hG hP hD hS) rfl rfl hl.1 rfl (lv_room (Nat.le_of_ble_eq_true rfl)) dL_law_314 ⟨(by show _ ≤ 601024; omega), (by show _ ≤ 7293034; omega)⟩) hS hP hD (fun r w H locs hp hP hD hS => ?_)
  obtain ⟨hr, w2, hw, hE⟩ := hp
  subst hw
  subst hr
  have hP := P_perm hP pmJ'
  have hD := D_perm hD pmJ'
  refine lv_istore (lv' := [(6, .int 1), (0, .ref b), (1, .ref (ad 0)), (2, .ref (qm 0)), (3, .ref oj), (4, .ref od), (5, .int (nI i))]) hx hb dL_law_317 hl (by decide) rfl (fun ls hl => ?_)
  refine lv_aload_n hx hb dL_law_319 rfl (lv_at hl 3 rfl) ?_
  refine lv_aload_n hx hb dL_law_320 rfl (lv_at hl 1 rfl) ?_
  refine lv_iload hx hb dL_law_321 (lv_at hl 6 rfl) ?_
  refine lv_iconst (v := 1) hx hb dL_law_323 (by decide) ?_
  refine lv_iadd hx hb dL_law_324 ?_
  refine lsld (z := nI v) hx hb hX hbl hbA hS (nI_add i 1) (by omega) (by omega) e1 dL_law_325 ?_
  refine lv_aload_n hx hb dL_law_326 rfl (lv_at hl 1 rfl) ?_
  refine lv_iload hx hb dL_law_327 (lv_at hl 6 rfl) ?_
  refine lv_iconst (v := 2) hx hb dL_law_329 (by decide) ?_
  refine lv_iadd hx hb dL_law_330 ?_
  refine lsld (z := y) hx hb hX hbl hbA hS (nI_add i 2) (by omega) (by omega) e2 dL_law_331 ?_
  refine lv_aload_n hx hb dL_law_332 rfl (lv_at hl 1 rfl) ?_
  refine lv_iload hx hb dL_law_333 (lv_at hl 6 rfl) ?_
  refine lv_iconst (v := 3) hx hb dL_law_335 (by decide) ?_
  refine lv_iadd hx hb dL_law_336 ?_
  refine lsld (z := ct) hx hb hX hbl hbA hS (nI_add i 3) (by omega) (by omega) e3 dL_law_337 ?_
  refine lv_aload_n hx hb dL_law_338 rfl (lv_at hl 1 rfl) ?_
  refine lv_iload hx hb dL_law_339 (lv_at hl 6 rfl) ?_
  refine lv_iconst (v := 4) hx hb dL_law_341 (by decide) ?_
  refine lv_iadd hx hb dL_law_342 ?_
  refine lsld (z := dd) hx hb hX hbl hbA hS (nI_add i 4) (by omega) (by omega) e4 dL_law_343 ?_
  have hP := P_perm hP pmM
  have hD := D_perm hD pmM
  refine kf_i (W2 := w2 ++ [(oj, oJ K g), (od, oD K gd)]) (va_runV (As := [.int (nI v), .int y, .int ct, .int dd]) (rest := []) ⟨hx, hb, hml, hown, hts⟩ (c_X2_bill_1s hx4 hx8) (cwV 4 hts gL_law_X2_bill rfl rfl rfl (by decide +kernel) ⟨(Nat.le_of_ble_eq_true rfl), (Nat.le_of_ble_eq_true rfl)⟩) (lpv (q0 := 0) hG hP hD hS rfl rfl) rfl rfl hl.1 rfl (lv_room (Nat.le_of_ble_eq_true rfl)) dL_law_344 ⟨(by show _ ≤ 601024; omega), (by show _ ≤ 7293034; omega)⟩) hS hP hD (fun r344 w9 H locs hp hP hD hS => ?_)
  subst hp
  have hP := P_perm hP pmM'
  have hD := D_perm hD pmM'
  refine lv_istore (lv' := [(7, .int r344), (6, .int 1), (0, .ref b), (1, .ref (ad 0)), (2, .ref (qm 0)), (3, .ref oj), (4, .ref od), (5, .int (nI i))]) hx hb dL_law_347 hl (by decide) rfl (fun ls hl => ?_)
  refine lv_aload_n hx hb dL_law_349 rfl (lv_at hl 4 rfl) ?_
  have hP := P_perm hP pmM
  have hD := D_perm hD pmM
  refine kf_i (W2 := w2 ++ [(oj, oJ K g), (od, oD K gd)]) (va_runV (As := []) (rest := []) ⟨hx, hb, hml, hown, hts⟩ (c_X2_thrown) (cwV 0 hts gL_law_X2_thrown rfl rfl rfl (by decide +kernel) ⟨(Nat.le_of_ble_eq_true rfl), (Nat.le_of_ble_eq_true rfl)⟩) (lpv (q0 := 0) hG hP hD hS rfl rfl) rfl rfl hl.1 rfl (lv_room (Nat.le_of_ble_eq_true rfl)) dL_law_350 ⟨(by show _ ≤ 601024; omega), (by show _ ≤ 7293034; omega)⟩) hS hP hD (fun r350 w9 H locs hp hP hD hS => ?_)
  obtain ⟨hr, hw⟩ := hp
  subst hw
  subst hr
  have hP := P_perm hP pmM'
  have hD := D_perm hD pmM'
  refine lv_iload hx hb dL_law_353 (lv_at hl 1 rfl) ?_
  refine lv_icmp_eq (tgt := 360) hx hb dL_law_355 (by decide) (fun h355 => ?_) (fun h355 => False.elim (h355 rfl))
  refine lv_iload hx hb dL_law_360 (lv_at hl 1 rfl) ?_
  refine lv_if_ne (tgt := 377) hx hb dL_law_362 (by decide) (fun h362 => ?_) (fun h362 => False.elim (absurd h362 (by decide)))
  refine lv_goto (tgt := 1346) hx hb dL_law_377 (by decide) ?_
  exact W.widen (k := cells + 31) (n := slots + 1806) (by omega) (by omega) (kk _ _ _ _ _ _ _ _ _ H locs ls hE (hIv.up) hP hD hS (lv_sub hl [2, 3, 4, 5, 6, 7] rfl))
set_option maxHeartbeats 4000000 in
set_option maxRecDepth 100000 in
theorem q_bill_tc {p : Program} {l : Launch} {e : Env} {s : State} {m : MethodId} {args : Array Value} {below : List Frame} {meth : Method} {c : Code} {H : Heap} {locs : List Loc} {cells slots : Nat} {Q : State → Prop} {ls : Array Slot} {K : Ks} {A : Nat → Prop} {ad bad qm : Nat → Nat} {td th : Int32} {n : Nat} {M X : Nat → Nat → Int32} {w : va_W} {oj od : Nat} {g : Nat → Int64} {gd : Nat → UInt64} {b L i j : Nat} {xs : Nat → Int32} (h0 : LSt p l s m args c K A b L xs) (hE : DkE K ad bad td n M w) (hIv : Iv j td n M) (hP : va_P K.1 kCl (CW K qm oj od td n th M X w g gd) H) (hD : va_D A (CW K qm oj od td n th M X w g gd)) (hS : va_S A s.heap H locs) (hl : lv_has ls 8 [(0, .ref b), (1, .ref (ad 0)), (2, .ref (qm 0)), (3, .ref oj), (4, .ref od), (5, .int (nI i))]) (hi : i + 4 < L) (hcl : cells + 31 ≤ 601024) (hsl : slots + 1806 ≤ 7293034) (hj : j ≤ 100000) (kk : LEnd p l e s m args below meth c Q K A b ad qm oj od i j cells slots) {v u : Nat} (hx4 : v < 4) (hx8 : u < 8) {ct dd : Int32} (hc : ¬ inR 1 1000000 ct) (e1 : xs (i + 1) = nI v) (e2 : xs (i + 2) = nI u) (e3 : xs (i + 3) = ct) (e4 : xs (i + 4) = dd) : W p l e room_1 s m args below meth c H locs cells slots Q (F0 m 288 ls []) := by
  obtain ⟨hx, hb, hml, hown, hts, hG, hX, hbl, hbA, hL, hlt⟩ := h0
  have hok := hIv.ok
  have hn30 := hIv.1
  refine lv_aload_n hx hb dL_law_288 rfl (lv_at hl 1 rfl) ?_
  refine lv_aload_n hx hb dL_law_289 rfl (lv_at hl 0 rfl) ?_
  refine lv_iload hx hb dL_law_290 (lv_at hl 5 rfl) ?_
  refine lv_iconst (v := 1) hx hb dL_law_292 (by decide) ?_
  refine lv_iadd hx hb dL_law_293 ?_
  refine lsld (z := nI v) hx hb hX hbl hbA hS (nI_add i 1) (by omega) (by omega) e1 dL_law_294 ?_
  refine lv_aload_n hx hb dL_law_295 rfl (lv_at hl 0 rfl) ?_
  refine lv_iload hx hb dL_law_296 (lv_at hl 5 rfl) ?_
  refine lv_iconst (v := 2) hx hb dL_law_298 (by decide) ?_
  refine lv_iadd hx hb dL_law_299 ?_
  refine lsld (z := nI u) hx hb hX hbl hbA hS (nI_add i 2) (by omega) (by omega) e2 dL_law_300 ?_
  refine lv_aload_n hx hb dL_law_301 rfl (lv_at hl 0 rfl) ?_
  refine lv_iload hx hb dL_law_302 (lv_at hl 5 rfl) ?_
  refine lv_iconst (v := 3) hx hb dL_law_304 (by decide) ?_
  refine lv_iadd hx hb dL_law_305 ?_
  refine lsld (z := ct) hx hb hX hbl hbA hS (nI_add i 3) (by omega) (by omega) e3 dL_law_306 ?_
  refine lv_aload_n hx hb dL_law_307 rfl (lv_at hl 0 rfl) ?_
  refine lv_iload hx hb dL_law_308 (lv_at hl 5 rfl) ?_
  refine lv_iconst (v := 4) hx hb dL_law_310 (by decide) ?_
  refine lv_iadd hx hb dL_law_311 ?_
  refine lsld (z := dd) hx hb hX hbl hbA hS (nI_add i 4) (by omega) (by omega) e4 dL_law_312 ?_
  refine lv_aload_n hx hb dL_law_313 rfl (lv_at hl 3 rfl) ?_
  have hP := P_perm hP pmJ
  have hD := D_perm hD pmJ
  refine kf_i (W2 := (od, oD K gd) :: Mfix K qm td (nI n) th M X) (vx_runSW (As := [.ref (ad 0), .int (nI v), .int (nI u), .int ct, .int dd, .ref oj]) (rest := []) ⟨hx, hb, hml, hown, hts⟩ (h_bill_tc hE hlt hx4 hx8 hc) (vx_cwSW 6 hts gL_law_L_bill rfl rfl rfl (by decide +kernel) ⟨(Nat.le_of_ble_eq_true rfl), (Nat.le_of_ble_eq_true rfl)⟩) (lps hG hP hD hS) rfl rfl hl.1 rfl (lv_room (Nat.le_of_ble_eq_true rfl)) dL_law_314 ⟨(by show _ ≤ 601024; omega), (by show _ ≤ 7293034; omega)⟩) hS hP hD (fun r w H locs hp hP hD hS => ?_)
  obtain ⟨hr, w2, hw, hE⟩ := hp
  subst hw
  subst hr
  have hP := P_perm hP pmJ'
  have hD := D_perm hD pmJ'
  refine lv_istore (lv' := [(6, .int 2), (0, .ref b), (1, .ref (ad 0)), (2, .ref (qm 0)), (3, .ref oj), (4, .ref od), (5, .int (nI i))]) hx hb dL_law_317 hl (by decide) rfl (fun ls hl => ?_)
  refine lv_aload_n hx hb dL_law_319 rfl (lv_at hl 3 rfl) ?_
  refine lv_aload_n hx hb dL_law_320 rfl (lv_at hl 1 rfl) ?_
  refine lv_iload hx hb dL_law_321 (lv_at hl 6 rfl) ?_
  refine lv_iconst (v := 1) hx hb dL_law_323 (by decide) ?_
  refine lv_iadd hx hb dL_law_324 ?_
  refine lsld (z := nI v) hx hb hX hbl hbA hS (nI_add i 1) (by omega) (by omega) e1 dL_law_325 ?_
  refine lv_aload_n hx hb dL_law_326 rfl (lv_at hl 1 rfl) ?_
  refine lv_iload hx hb dL_law_327 (lv_at hl 6 rfl) ?_
  refine lv_iconst (v := 2) hx hb dL_law_329 (by decide) ?_
  refine lv_iadd hx hb dL_law_330 ?_
  refine lsld (z := nI u) hx hb hX hbl hbA hS (nI_add i 2) (by omega) (by omega) e2 dL_law_331 ?_
  refine lv_aload_n hx hb dL_law_332 rfl (lv_at hl 1 rfl) ?_
  refine lv_iload hx hb dL_law_333 (lv_at hl 6 rfl) ?_
  refine lv_iconst (v := 3) hx hb dL_law_335 (by decide) ?_
  refine lv_iadd hx hb dL_law_336 ?_
  refine lsld (z := ct) hx hb hX hbl hbA hS (nI_add i 3) (by omega) (by omega) e3 dL_law_337 ?_
  refine lv_aload_n hx hb dL_law_338 rfl (lv_at hl 1 rfl) ?_
  refine lv_iload hx hb dL_law_339 (lv_at hl 6 rfl) ?_
  refine lv_iconst (v := 4) hx hb dL_law_341 (by decide) ?_
  refine lv_iadd hx hb dL_law_342 ?_
  refine lsld (z := dd) hx hb hX hbl hbA hS (nI_add i 4) (by omega) (by omega) e4 dL_law_343 ?_
  have hP := P_perm hP pmM
  have hD := D_perm hD pmM
  refine kf_i (W2 := w2 ++ [(oj, oJ K g), (od, oD K gd)]) (va_runV (As := [.int (nI v), .int (nI u), .int ct, .int dd]) (rest := []) ⟨hx, hb, hml, hown, hts⟩ (c_X2_bill_2c hn30 hx4 hx8 hc) (cwV 4 hts gL_law_X2_bill rfl rfl rfl (by decide +kernel) ⟨(Nat.le_of_ble_eq_true rfl), (Nat.le_of_ble_eq_true rfl)⟩) (lpv (q0 := 0) hG hP hD hS rfl rfl) rfl rfl hl.1 rfl (lv_room (Nat.le_of_ble_eq_true rfl)) dL_law_344 ⟨(by show _ ≤ 601024; omega), (by show _ ≤ 7293034; omega)⟩) hS hP hD (fun r344 w9 H locs hp hP hD hS => ?_)
  subst hp
  have hP := P_perm hP pmM'
  have hD := D_perm hD pmM'
  refine lv_istore (lv' := [(7, .int r344), (6, .int 2), (0, .ref b), (1, .ref (ad 0)), (2, .ref (qm 0)), (3, .ref oj), (4, .ref od), (5, .int (nI i))]) hx hb dL_law_347 hl (by decide) rfl (fun ls hl => ?_)
  refine lv_aload_n hx hb dL_law_349 rfl (lv_at hl 4 rfl) ?_
  have hP := P_perm hP pmM
  have hD := D_perm hD pmM
  refine kf_i (W2 := w2 ++ [(oj, oJ K g), (od, oD K gd)]) (va_runV (As := []) (rest := []) ⟨hx, hb, hml, hown, hts⟩ (c_X2_thrown) (cwV 0 hts gL_law_X2_thrown rfl rfl rfl (by decide +kernel) ⟨(Nat.le_of_ble_eq_true rfl), (Nat.le_of_ble_eq_true rfl)⟩) (lpv (q0 := 0) hG hP hD hS rfl rfl) rfl rfl hl.1 rfl (lv_room (Nat.le_of_ble_eq_true rfl)) dL_law_350 ⟨(by show _ ≤ 601024; omega), (by show _ ≤ 7293034; omega)⟩) hS hP hD (fun r350 w9 H locs hp hP hD hS => ?_)
  obtain ⟨hr, hw⟩ := hp
  subst hw
  subst hr
  have hP := P_perm hP pmM'
  have hD := D_perm hD pmM'
  refine lv_iload hx hb dL_law_353 (lv_at hl 1 rfl) ?_
  refine lv_icmp_eq (tgt := 360) hx hb dL_law_355 (by decide) (fun h355 => ?_) (fun h355 => False.elim (h355 rfl))
  refine lv_iload hx hb dL_law_360 (lv_at hl 1 rfl) ?_
  refine lv_if_ne (tgt := 377) hx hb dL_law_362 (by decide) (fun h362 => ?_) (fun h362 => False.elim (absurd h362 (by decide)))
  refine lv_goto (tgt := 1346) hx hb dL_law_377 (by decide) ?_
  exact W.widen (k := cells + 31) (n := slots + 1806) (by omega) (by omega) (kk _ _ _ _ _ _ _ _ _ H locs ls hE (hIv.up) hP hD hS (lv_sub hl [2, 3, 4, 5, 6, 7] rfl))
set_option maxHeartbeats 4000000 in
set_option maxRecDepth 100000 in
theorem q_bill_td {p : Program} {l : Launch} {e : Env} {s : State} {m : MethodId} {args : Array Value} {below : List Frame} {meth : Method} {c : Code} {H : Heap} {locs : List Loc} {cells slots : Nat} {Q : State → Prop} {ls : Array Slot} {K : Ks} {A : Nat → Prop} {ad bad qm : Nat → Nat} {td th : Int32} {n : Nat} {M X : Nat → Nat → Int32} {w : va_W} {oj od : Nat} {g : Nat → Int64} {gd : Nat → UInt64} {b L i j : Nat} {xs : Nat → Int32} (h0 : LSt p l s m args c K A b L xs) (hE : DkE K ad bad td n M w) (hIv : Iv j td n M) (hP : va_P K.1 kCl (CW K qm oj od td n th M X w g gd) H) (hD : va_D A (CW K qm oj od td n th M X w g gd)) (hS : va_S A s.heap H locs) (hl : lv_has ls 8 [(0, .ref b), (1, .ref (ad 0)), (2, .ref (qm 0)), (3, .ref oj), (4, .ref od), (5, .int (nI i))]) (hi : i + 4 < L) (hcl : cells + 31 ≤ 601024) (hsl : slots + 1806 ≤ 7293034) (hj : j ≤ 100000) (kk : LEnd p l e s m args below meth c Q K A b ad qm oj od i j cells slots) {v u : Nat} (hx4 : v < 4) (hx8 : u < 8) {ct dd : Int32} (hc : inR 1 1000000 ct) (hd : ¬ inR 1 360 dd) (e1 : xs (i + 1) = nI v) (e2 : xs (i + 2) = nI u) (e3 : xs (i + 3) = ct) (e4 : xs (i + 4) = dd) : W p l e room_1 s m args below meth c H locs cells slots Q (F0 m 288 ls []) := by
  obtain ⟨hx, hb, hml, hown, hts, hG, hX, hbl, hbA, hL, hlt⟩ := h0
  have hok := hIv.ok
  have hn30 := hIv.1
  refine lv_aload_n hx hb dL_law_288 rfl (lv_at hl 1 rfl) ?_
  refine lv_aload_n hx hb dL_law_289 rfl (lv_at hl 0 rfl) ?_
  refine lv_iload hx hb dL_law_290 (lv_at hl 5 rfl) ?_
  refine lv_iconst (v := 1) hx hb dL_law_292 (by decide) ?_
  refine lv_iadd hx hb dL_law_293 ?_
  refine lsld (z := nI v) hx hb hX hbl hbA hS (nI_add i 1) (by omega) (by omega) e1 dL_law_294 ?_
  refine lv_aload_n hx hb dL_law_295 rfl (lv_at hl 0 rfl) ?_
  refine lv_iload hx hb dL_law_296 (lv_at hl 5 rfl) ?_
  refine lv_iconst (v := 2) hx hb dL_law_298 (by decide) ?_
  refine lv_iadd hx hb dL_law_299 ?_
  refine lsld (z := nI u) hx hb hX hbl hbA hS (nI_add i 2) (by omega) (by omega) e2 dL_law_300 ?_
  refine lv_aload_n hx hb dL_law_301 rfl (lv_at hl 0 rfl) ?_
  refine lv_iload hx hb dL_law_302 (lv_at hl 5 rfl) ?_
  refine lv_iconst (v := 3) hx hb dL_law_304 (by decide) ?_
  refine lv_iadd hx hb dL_law_305 ?_
  refine lsld (z := ct) hx hb hX hbl hbA hS (nI_add i 3) (by omega) (by omega) e3 dL_law_306 ?_
  refine lv_aload_n hx hb dL_law_307 rfl (lv_at hl 0 rfl) ?_
  refine lv_iload hx hb dL_law_308 (lv_at hl 5 rfl) ?_
  refine lv_iconst (v := 4) hx hb dL_law_310 (by decide) ?_
  refine lv_iadd hx hb dL_law_311 ?_
  refine lsld (z := dd) hx hb hX hbl hbA hS (nI_add i 4) (by omega) (by omega) e4 dL_law_312 ?_
  refine lv_aload_n hx hb dL_law_313 rfl (lv_at hl 3 rfl) ?_
  have hP := P_perm hP pmJ
  have hD := D_perm hD pmJ
  refine kf_i (W2 := (od, oD K gd) :: Mfix K qm td (nI n) th M X) (vx_runSW (As := [.ref (ad 0), .int (nI v), .int (nI u), .int ct, .int dd, .ref oj]) (rest := []) ⟨hx, hb, hml, hown, hts⟩ (h_bill_td hE hlt hx4 hx8 hc hd) (vx_cwSW 6 hts gL_law_L_bill rfl rfl rfl (by decide +kernel) ⟨(Nat.le_of_ble_eq_true rfl), (Nat.le_of_ble_eq_true rfl)⟩) (lps hG hP hD hS) rfl rfl hl.1 rfl (lv_room (Nat.le_of_ble_eq_true rfl)) dL_law_314 ⟨(by show _ ≤ 601024; omega), (by show _ ≤ 7293034; omega)⟩) hS hP hD (fun r w H locs hp hP hD hS => ?_)
  obtain ⟨hr, w2, hw, hE⟩ := hp
  subst hw
  subst hr
  have hP := P_perm hP pmJ'
  have hD := D_perm hD pmJ'
  refine lv_istore (lv' := [(6, .int 2), (0, .ref b), (1, .ref (ad 0)), (2, .ref (qm 0)), (3, .ref oj), (4, .ref od), (5, .int (nI i))]) hx hb dL_law_317 hl (by decide) rfl (fun ls hl => ?_)
  refine lv_aload_n hx hb dL_law_319 rfl (lv_at hl 3 rfl) ?_
  refine lv_aload_n hx hb dL_law_320 rfl (lv_at hl 1 rfl) ?_
  refine lv_iload hx hb dL_law_321 (lv_at hl 6 rfl) ?_
  refine lv_iconst (v := 1) hx hb dL_law_323 (by decide) ?_
  refine lv_iadd hx hb dL_law_324 ?_
  refine lsld (z := nI v) hx hb hX hbl hbA hS (nI_add i 1) (by omega) (by omega) e1 dL_law_325 ?_
  refine lv_aload_n hx hb dL_law_326 rfl (lv_at hl 1 rfl) ?_
  refine lv_iload hx hb dL_law_327 (lv_at hl 6 rfl) ?_
  refine lv_iconst (v := 2) hx hb dL_law_329 (by decide) ?_
  refine lv_iadd hx hb dL_law_330 ?_
  refine lsld (z := nI u) hx hb hX hbl hbA hS (nI_add i 2) (by omega) (by omega) e2 dL_law_331 ?_
  refine lv_aload_n hx hb dL_law_332 rfl (lv_at hl 1 rfl) ?_
  refine lv_iload hx hb dL_law_333 (lv_at hl 6 rfl) ?_
  refine lv_iconst (v := 3) hx hb dL_law_335 (by decide) ?_
  refine lv_iadd hx hb dL_law_336 ?_
  refine lsld (z := ct) hx hb hX hbl hbA hS (nI_add i 3) (by omega) (by omega) e3 dL_law_337 ?_
  refine lv_aload_n hx hb dL_law_338 rfl (lv_at hl 1 rfl) ?_
  refine lv_iload hx hb dL_law_339 (lv_at hl 6 rfl) ?_
  refine lv_iconst (v := 4) hx hb dL_law_341 (by decide) ?_
  refine lv_iadd hx hb dL_law_342 ?_
  refine lsld (z := dd) hx hb hX hbl hbA hS (nI_add i 4) (by omega) (by omega) e4 dL_law_343 ?_
  have hP := P_perm hP pmM
  have hD := D_perm hD pmM
  refine kf_i (W2 := w2 ++ [(oj, oJ K g), (od, oD K gd)]) (va_runV (As := [.int (nI v), .int (nI u), .int ct, .int dd]) (rest := []) ⟨hx, hb, hml, hown, hts⟩ (c_X2_bill_2d hn30 hx4 hx8 hc hd) (cwV 4 hts gL_law_X2_bill rfl rfl rfl (by decide +kernel) ⟨(Nat.le_of_ble_eq_true rfl), (Nat.le_of_ble_eq_true rfl)⟩) (lpv (q0 := 0) hG hP hD hS rfl rfl) rfl rfl hl.1 rfl (lv_room (Nat.le_of_ble_eq_true rfl)) dL_law_344 ⟨(by show _ ≤ 601024; omega), (by show _ ≤ 7293034; omega)⟩) hS hP hD (fun r344 w9 H locs hp hP hD hS => ?_)
  subst hp
  have hP := P_perm hP pmM'
  have hD := D_perm hD pmM'
  refine lv_istore (lv' := [(7, .int r344), (6, .int 2), (0, .ref b), (1, .ref (ad 0)), (2, .ref (qm 0)), (3, .ref oj), (4, .ref od), (5, .int (nI i))]) hx hb dL_law_347 hl (by decide) rfl (fun ls hl => ?_)
  refine lv_aload_n hx hb dL_law_349 rfl (lv_at hl 4 rfl) ?_
  have hP := P_perm hP pmM
  have hD := D_perm hD pmM
  refine kf_i (W2 := w2 ++ [(oj, oJ K g), (od, oD K gd)]) (va_runV (As := []) (rest := []) ⟨hx, hb, hml, hown, hts⟩ (c_X2_thrown) (cwV 0 hts gL_law_X2_thrown rfl rfl rfl (by decide +kernel) ⟨(Nat.le_of_ble_eq_true rfl), (Nat.le_of_ble_eq_true rfl)⟩) (lpv (q0 := 0) hG hP hD hS rfl rfl) rfl rfl hl.1 rfl (lv_room (Nat.le_of_ble_eq_true rfl)) dL_law_350 ⟨(by show _ ≤ 601024; omega), (by show _ ≤ 7293034; omega)⟩) hS hP hD (fun r350 w9 H locs hp hP hD hS => ?_)
  obtain ⟨hr, hw⟩ := hp
  subst hw
  subst hr
  have hP := P_perm hP pmM'
  have hD := D_perm hD pmM'
  refine lv_iload hx hb dL_law_353 (lv_at hl 1 rfl) ?_
  refine lv_icmp_eq (tgt := 360) hx hb dL_law_355 (by decide) (fun h355 => ?_) (fun h355 => False.elim (h355 rfl))
  refine lv_iload hx hb dL_law_360 (lv_at hl 1 rfl) ?_
  refine lv_if_ne (tgt := 377) hx hb dL_law_362 (by decide) (fun h362 => ?_) (fun h362 => False.elim (absurd h362 (by decide)))
  refine lv_goto (tgt := 1346) hx hb dL_law_377 (by decide) ?_
  exact W.widen (k := cells + 31) (n := slots + 1806) (by omega) (by omega) (kk _ _ _ _ _ _ _ _ _ H locs ls hE (hIv.up) hP hD hS (lv_sub hl [2, 3, 4, 5, 6, 7] rfl))
set_option maxHeartbeats 4000000 in
set_option maxRecDepth 100000 in
theorem q_bill_tp {p : Program} {l : Launch} {e : Env} {s : State} {m : MethodId} {args : Array Value} {below : List Frame} {meth : Method} {c : Code} {H : Heap} {locs : List Loc} {cells slots : Nat} {Q : State → Prop} {ls : Array Slot} {K : Ks} {A : Nat → Prop} {ad bad qm : Nat → Nat} {td th : Int32} {n : Nat} {M X : Nat → Nat → Int32} {w : va_W} {oj od : Nat} {g : Nat → Int64} {gd : Nat → UInt64} {b L i j : Nat} {xs : Nat → Int32} (h0 : LSt p l s m args c K A b L xs) (hE : DkE K ad bad td n M w) (hIv : Iv j td n M) (hP : va_P K.1 kCl (CW K qm oj od td n th M X w g gd) H) (hD : va_D A (CW K qm oj od td n th M X w g gd)) (hS : va_S A s.heap H locs) (hl : lv_has ls 8 [(0, .ref b), (1, .ref (ad 0)), (2, .ref (qm 0)), (3, .ref oj), (4, .ref od), (5, .int (nI i))]) (hi : i + 4 < L) (hcl : cells + 31 ≤ 601024) (hsl : slots + 1806 ≤ 7293034) (hj : j ≤ 100000) (kk : LEnd p l e s m args below meth c Q K A b ad qm oj od i j cells slots) {v u : Nat} (hx4 : v < 4) (hx8 : u < 8) {ct dd : Int32} (hc : inR 1 1000000 ct) (hd : inR 1 360 dd) (h30 : n = 30) (e1 : xs (i + 1) = nI v) (e2 : xs (i + 2) = nI u) (e3 : xs (i + 3) = ct) (e4 : xs (i + 4) = dd) : W p l e room_1 s m args below meth c H locs cells slots Q (F0 m 288 ls []) := by
  obtain ⟨hx, hb, hml, hown, hts, hG, hX, hbl, hbA, hL, hlt⟩ := h0
  have hok := hIv.ok
  have hn30 := hIv.1
  refine lv_aload_n hx hb dL_law_288 rfl (lv_at hl 1 rfl) ?_
  refine lv_aload_n hx hb dL_law_289 rfl (lv_at hl 0 rfl) ?_
  refine lv_iload hx hb dL_law_290 (lv_at hl 5 rfl) ?_
  refine lv_iconst (v := 1) hx hb dL_law_292 (by decide) ?_
  refine lv_iadd hx hb dL_law_293 ?_
  refine lsld (z := nI v) hx hb hX hbl hbA hS (nI_add i 1) (by omega) (by omega) e1 dL_law_294 ?_
  refine lv_aload_n hx hb dL_law_295 rfl (lv_at hl 0 rfl) ?_
  refine lv_iload hx hb dL_law_296 (lv_at hl 5 rfl) ?_
  refine lv_iconst (v := 2) hx hb dL_law_298 (by decide) ?_
  refine lv_iadd hx hb dL_law_299 ?_
  refine lsld (z := nI u) hx hb hX hbl hbA hS (nI_add i 2) (by omega) (by omega) e2 dL_law_300 ?_
  refine lv_aload_n hx hb dL_law_301 rfl (lv_at hl 0 rfl) ?_
  refine lv_iload hx hb dL_law_302 (lv_at hl 5 rfl) ?_
  refine lv_iconst (v := 3) hx hb dL_law_304 (by decide) ?_
  refine lv_iadd hx hb dL_law_305 ?_
  refine lsld (z := ct) hx hb hX hbl hbA hS (nI_add i 3) (by omega) (by omega) e3 dL_law_306 ?_
  refine lv_aload_n hx hb dL_law_307 rfl (lv_at hl 0 rfl) ?_
  refine lv_iload hx hb dL_law_308 (lv_at hl 5 rfl) ?_
  refine lv_iconst (v := 4) hx hb dL_law_310 (by decide) ?_
  refine lv_iadd hx hb dL_law_311 ?_
  refine lsld (z := dd) hx hb hX hbl hbA hS (nI_add i 4) (by omega) (by omega) e4 dL_law_312 ?_
  refine lv_aload_n hx hb dL_law_313 rfl (lv_at hl 3 rfl) ?_
  have hP := P_perm hP pmJ
  have hD := D_perm hD pmJ
  refine kf_i (W2 := (od, oD K gd) :: Mfix K qm td (nI n) th M X) (vx_runSW (As := [.ref (ad 0), .int (nI v), .int (nI u), .int ct, .int dd, .ref oj]) (rest := []) ⟨hx, hb, hml, hown, hts⟩ (h_bill_tp hE hlt hx4 hx8 hc hd h30) (vx_cwSW 6 hts gL_law_L_bill rfl rfl rfl (by decide +kernel) ⟨(Nat.le_of_ble_eq_true rfl), (Nat.le_of_ble_eq_true rfl)⟩) (lps hG hP hD hS) rfl rfl hl.1 rfl (lv_room (Nat.le_of_ble_eq_true rfl)) dL_law_314 ⟨(by show _ ≤ 601024; omega), (by show _ ≤ 7293034; omega)⟩) hS hP hD (fun r w H locs hp hP hD hS => ?_)
  obtain ⟨hr, w2, hw, hE⟩ := hp
  subst hw
  subst hr
  have hP := P_perm hP pmJ'
  have hD := D_perm hD pmJ'
  refine lv_istore (lv' := [(6, .int 3), (0, .ref b), (1, .ref (ad 0)), (2, .ref (qm 0)), (3, .ref oj), (4, .ref od), (5, .int (nI i))]) hx hb dL_law_317 hl (by decide) rfl (fun ls hl => ?_)
  refine lv_aload_n hx hb dL_law_319 rfl (lv_at hl 3 rfl) ?_
  refine lv_aload_n hx hb dL_law_320 rfl (lv_at hl 1 rfl) ?_
  refine lv_iload hx hb dL_law_321 (lv_at hl 6 rfl) ?_
  refine lv_iconst (v := 1) hx hb dL_law_323 (by decide) ?_
  refine lv_iadd hx hb dL_law_324 ?_
  refine lsld (z := nI v) hx hb hX hbl hbA hS (nI_add i 1) (by omega) (by omega) e1 dL_law_325 ?_
  refine lv_aload_n hx hb dL_law_326 rfl (lv_at hl 1 rfl) ?_
  refine lv_iload hx hb dL_law_327 (lv_at hl 6 rfl) ?_
  refine lv_iconst (v := 2) hx hb dL_law_329 (by decide) ?_
  refine lv_iadd hx hb dL_law_330 ?_
  refine lsld (z := nI u) hx hb hX hbl hbA hS (nI_add i 2) (by omega) (by omega) e2 dL_law_331 ?_
  refine lv_aload_n hx hb dL_law_332 rfl (lv_at hl 1 rfl) ?_
  refine lv_iload hx hb dL_law_333 (lv_at hl 6 rfl) ?_
  refine lv_iconst (v := 3) hx hb dL_law_335 (by decide) ?_
  refine lv_iadd hx hb dL_law_336 ?_
  refine lsld (z := ct) hx hb hX hbl hbA hS (nI_add i 3) (by omega) (by omega) e3 dL_law_337 ?_
  refine lv_aload_n hx hb dL_law_338 rfl (lv_at hl 1 rfl) ?_
  refine lv_iload hx hb dL_law_339 (lv_at hl 6 rfl) ?_
  refine lv_iconst (v := 4) hx hb dL_law_341 (by decide) ?_
  refine lv_iadd hx hb dL_law_342 ?_
  refine lsld (z := dd) hx hb hX hbl hbA hS (nI_add i 4) (by omega) (by omega) e4 dL_law_343 ?_
  have hP := P_perm hP pmM
  have hD := D_perm hD pmM
  refine kf_i (W2 := w2 ++ [(oj, oJ K g), (od, oD K gd)]) (va_runV (As := [.int (nI v), .int (nI u), .int ct, .int dd]) (rest := []) ⟨hx, hb, hml, hown, hts⟩ (c_X2_bill_3 hn30 hx4 hx8 hc hd h30) (cwV 4 hts gL_law_X2_bill rfl rfl rfl (by decide +kernel) ⟨(Nat.le_of_ble_eq_true rfl), (Nat.le_of_ble_eq_true rfl)⟩) (lpv (q0 := 0) hG hP hD hS rfl rfl) rfl rfl hl.1 rfl (lv_room (Nat.le_of_ble_eq_true rfl)) dL_law_344 ⟨(by show _ ≤ 601024; omega), (by show _ ≤ 7293034; omega)⟩) hS hP hD (fun r344 w9 H locs hp hP hD hS => ?_)
  subst hp
  have hP := P_perm hP pmM'
  have hD := D_perm hD pmM'
  refine lv_istore (lv' := [(7, .int r344), (6, .int 3), (0, .ref b), (1, .ref (ad 0)), (2, .ref (qm 0)), (3, .ref oj), (4, .ref od), (5, .int (nI i))]) hx hb dL_law_347 hl (by decide) rfl (fun ls hl => ?_)
  refine lv_aload_n hx hb dL_law_349 rfl (lv_at hl 4 rfl) ?_
  have hP := P_perm hP pmM
  have hD := D_perm hD pmM
  refine kf_i (W2 := w2 ++ [(oj, oJ K g), (od, oD K gd)]) (va_runV (As := []) (rest := []) ⟨hx, hb, hml, hown, hts⟩ (c_X2_thrown) (cwV 0 hts gL_law_X2_thrown rfl rfl rfl (by decide +kernel) ⟨(Nat.le_of_ble_eq_true rfl), (Nat.le_of_ble_eq_true rfl)⟩) (lpv (q0 := 0) hG hP hD hS rfl rfl) rfl rfl hl.1 rfl (lv_room (Nat.le_of_ble_eq_true rfl)) dL_law_350 ⟨(by show _ ≤ 601024; omega), (by show _ ≤ 7293034; omega)⟩) hS hP hD (fun r350 w9 H locs hp hP hD hS => ?_)
  obtain ⟨hr, hw⟩ := hp
  subst hw
  subst hr
  have hP := P_perm hP pmM'
  have hD := D_perm hD pmM'
  refine lv_iload hx hb dL_law_353 (lv_at hl 1 rfl) ?_
  refine lv_icmp_eq (tgt := 360) hx hb dL_law_355 (by decide) (fun h355 => ?_) (fun h355 => False.elim (h355 rfl))
  refine lv_iload hx hb dL_law_360 (lv_at hl 1 rfl) ?_
  refine lv_if_ne (tgt := 377) hx hb dL_law_362 (by decide) (fun h362 => ?_) (fun h362 => False.elim (absurd h362 (by decide)))
  refine lv_goto (tgt := 1346) hx hb dL_law_377 (by decide) ?_
  exact W.widen (k := cells + 31) (n := slots + 1806) (by omega) (by omega) (kk _ _ _ _ _ _ _ _ _ H locs ls hE (hIv.up) hP hD hS (lv_sub hl [2, 3, 4, 5, 6, 7] rfl))
set_option maxHeartbeats 4000000 in
set_option maxRecDepth 100000 in
theorem q_bill {p : Program} {l : Launch} {e : Env} {s : State} {m : MethodId} {args : Array Value} {below : List Frame} {meth : Method} {c : Code} {H : Heap} {locs : List Loc} {cells slots : Nat} {Q : State → Prop} {ls : Array Slot} {K : Ks} {A : Nat → Prop} {ad bad qm : Nat → Nat} {td th : Int32} {n : Nat} {M X : Nat → Nat → Int32} {w : va_W} {oj od : Nat} {g : Nat → Int64} {gd : Nat → UInt64} {b L i j : Nat} {xs : Nat → Int32} (h0 : LSt p l s m args c K A b L xs) (hE : DkE K ad bad td n M w) (hIv : Iv j td n M) (hP : va_P K.1 kCl (CW K qm oj od td n th M X w g gd) H) (hD : va_D A (CW K qm oj od td n th M X w g gd)) (hS : va_S A s.heap H locs) (hl : lv_has ls 8 [(0, .ref b), (1, .ref (ad 0)), (2, .ref (qm 0)), (3, .ref oj), (4, .ref od), (5, .int (nI i))]) (hi : i + 4 < L) (hcl : cells + 31 ≤ 601024) (hsl : slots + 1806 ≤ 7293034) (hj : j ≤ 100000) (kk : LEnd p l e s m args below meth c Q K A b ad qm oj od i j cells slots) {v u : Nat} (hx4 : v < 4) (hx8 : u < 8) {ct dd : Int32} (hc : inR 1 1000000 ct) (hd : inR 1 360 dd) (h30 : n < 30) (e1 : xs (i + 1) = nI v) (e2 : xs (i + 2) = nI u) (e3 : xs (i + 3) = ct) (e4 : xs (i + 4) = dd) : W p l e room_1 s m args below meth c H locs cells slots Q (F0 m 288 ls []) := by
  obtain ⟨hx, hb, hml, hown, hts, hG, hX, hbl, hbA, hL, hlt⟩ := h0
  have hok := hIv.ok
  have hn30 := hIv.1
  have hz := hIv.2.2.2 n (Nat.le_refl _)
  refine lv_aload_n hx hb dL_law_288 rfl (lv_at hl 1 rfl) ?_
  refine lv_aload_n hx hb dL_law_289 rfl (lv_at hl 0 rfl) ?_
  refine lv_iload hx hb dL_law_290 (lv_at hl 5 rfl) ?_
  refine lv_iconst (v := 1) hx hb dL_law_292 (by decide) ?_
  refine lv_iadd hx hb dL_law_293 ?_
  refine lsld (z := nI v) hx hb hX hbl hbA hS (nI_add i 1) (by omega) (by omega) e1 dL_law_294 ?_
  refine lv_aload_n hx hb dL_law_295 rfl (lv_at hl 0 rfl) ?_
  refine lv_iload hx hb dL_law_296 (lv_at hl 5 rfl) ?_
  refine lv_iconst (v := 2) hx hb dL_law_298 (by decide) ?_
  refine lv_iadd hx hb dL_law_299 ?_
  refine lsld (z := nI u) hx hb hX hbl hbA hS (nI_add i 2) (by omega) (by omega) e2 dL_law_300 ?_
  refine lv_aload_n hx hb dL_law_301 rfl (lv_at hl 0 rfl) ?_
  refine lv_iload hx hb dL_law_302 (lv_at hl 5 rfl) ?_
  refine lv_iconst (v := 3) hx hb dL_law_304 (by decide) ?_
  refine lv_iadd hx hb dL_law_305 ?_
  refine lsld (z := ct) hx hb hX hbl hbA hS (nI_add i 3) (by omega) (by omega) e3 dL_law_306 ?_
  refine lv_aload_n hx hb dL_law_307 rfl (lv_at hl 0 rfl) ?_
  refine lv_iload hx hb dL_law_308 (lv_at hl 5 rfl) ?_
  refine lv_iconst (v := 4) hx hb dL_law_310 (by decide) ?_
  refine lv_iadd hx hb dL_law_311 ?_
  refine lsld (z := dd) hx hb hX hbl hbA hS (nI_add i 4) (by omega) (by omega) e4 dL_law_312 ?_
  refine lv_aload_n hx hb dL_law_313 rfl (lv_at hl 3 rfl) ?_
  have hP := P_perm hP pmJ
  have hD := D_perm hD pmJ
  refine kf_i (W2 := (od, oD K gd) :: Mfix K qm td (nI n) th M X) (vx_runSW (As := [.ref (ad 0), .int (nI v), .int (nI u), .int ct, .int dd, .ref oj]) (rest := []) ⟨hx, hb, hml, hown, hts⟩ (h_bill hE hx4 hx8 hc hd h30 hz.1 hz.2.1 hz.2.2.1 hz.2.2.2) (vx_cwSW 6 hts gL_law_L_bill rfl rfl rfl (by decide +kernel) ⟨(Nat.le_of_ble_eq_true rfl), (Nat.le_of_ble_eq_true rfl)⟩) (lps hG hP hD hS) rfl rfl hl.1 rfl (lv_room (Nat.le_of_ble_eq_true rfl)) dL_law_314 ⟨(by show _ ≤ 601024; omega), (by show _ ≤ 7293034; omega)⟩) hS hP hD (fun r w H locs hp hP hD hS => ?_)
  obtain ⟨hr, w2, g1, hw, hg, bad1, hE⟩ := hp
  subst hw
  subst hr
  have hP := P_perm hP pmJ'
  have hD := D_perm hD pmJ'
  refine lv_istore (lv' := [(6, .int 0), (0, .ref b), (1, .ref (ad 0)), (2, .ref (qm 0)), (3, .ref oj), (4, .ref od), (5, .int (nI i))]) hx hb dL_law_317 hl (by decide) rfl (fun ls hl => ?_)
  refine lv_aload_n hx hb dL_law_319 rfl (lv_at hl 3 rfl) ?_
  refine lv_aload_n hx hb dL_law_320 rfl (lv_at hl 1 rfl) ?_
  refine lv_iload hx hb dL_law_321 (lv_at hl 6 rfl) ?_
  refine lv_iconst (v := 1) hx hb dL_law_323 (by decide) ?_
  refine lv_iadd hx hb dL_law_324 ?_
  refine lsld (z := nI v) hx hb hX hbl hbA hS (nI_add i 1) (by omega) (by omega) e1 dL_law_325 ?_
  refine lv_aload_n hx hb dL_law_326 rfl (lv_at hl 1 rfl) ?_
  refine lv_iload hx hb dL_law_327 (lv_at hl 6 rfl) ?_
  refine lv_iconst (v := 2) hx hb dL_law_329 (by decide) ?_
  refine lv_iadd hx hb dL_law_330 ?_
  refine lsld (z := nI u) hx hb hX hbl hbA hS (nI_add i 2) (by omega) (by omega) e2 dL_law_331 ?_
  refine lv_aload_n hx hb dL_law_332 rfl (lv_at hl 1 rfl) ?_
  refine lv_iload hx hb dL_law_333 (lv_at hl 6 rfl) ?_
  refine lv_iconst (v := 3) hx hb dL_law_335 (by decide) ?_
  refine lv_iadd hx hb dL_law_336 ?_
  refine lsld (z := ct) hx hb hX hbl hbA hS (nI_add i 3) (by omega) (by omega) e3 dL_law_337 ?_
  refine lv_aload_n hx hb dL_law_338 rfl (lv_at hl 1 rfl) ?_
  refine lv_iload hx hb dL_law_339 (lv_at hl 6 rfl) ?_
  refine lv_iconst (v := 4) hx hb dL_law_341 (by decide) ?_
  refine lv_iadd hx hb dL_law_342 ?_
  refine lsld (z := dd) hx hb hX hbl hbA hS (nI_add i 4) (by omega) (by omega) e4 dL_law_343 ?_
  have hP := P_perm hP pmM
  have hD := D_perm hD pmM
  refine kf_i (W2 := w2 ++ [(oj, oJ K g1), (od, oD K gd)]) (va_runV (As := [.int (nI v), .int (nI u), .int ct, .int dd]) (rest := []) ⟨hx, hb, hml, hown, hts⟩ (c_X2_bill_ok hn30 hx4 hx8 hc hd h30) (cwV 4 hts gL_law_X2_bill rfl rfl rfl (by decide +kernel) ⟨(Nat.le_of_ble_eq_true rfl), (Nat.le_of_ble_eq_true rfl)⟩) (lpv (q0 := 0) hG hP hD hS rfl rfl) rfl rfl hl.1 rfl (lv_room (Nat.le_of_ble_eq_true rfl)) dL_law_344 ⟨(by show _ ≤ 601024; omega), (by show _ ≤ 7293034; omega)⟩) hS hP hD (fun r344 w9 H locs hp hP hD hS => ?_)
  obtain ⟨hr, hw⟩ := hp
  subst hw
  subst hr
  have hP := P_perm hP pmM'
  have hD := D_perm hD pmM'
  refine lv_istore (lv' := [(7, .int (nI n)), (6, .int 0), (0, .ref b), (1, .ref (ad 0)), (2, .ref (qm 0)), (3, .ref oj), (4, .ref od), (5, .int (nI i))]) hx hb dL_law_347 hl (by decide) rfl (fun ls hl => ?_)
  refine lv_aload_n hx hb dL_law_349 rfl (lv_at hl 4 rfl) ?_
  have hP := P_perm hP pmM
  have hD := D_perm hD pmM
  refine kf_i (W2 := w2 ++ [(oj, oJ K g1), (od, oD K gd)]) (va_runV (As := []) (rest := []) ⟨hx, hb, hml, hown, hts⟩ (c_X2_thrown) (cwV 0 hts gL_law_X2_thrown rfl rfl rfl (by decide +kernel) ⟨(Nat.le_of_ble_eq_true rfl), (Nat.le_of_ble_eq_true rfl)⟩) (lpv (q0 := 0) hG hP hD hS rfl rfl) rfl rfl hl.1 rfl (lv_room (Nat.le_of_ble_eq_true rfl)) dL_law_350 ⟨(by show _ ≤ 601024; omega), (by show _ ≤ 7293034; omega)⟩) hS hP hD (fun r350 w9 H locs hp hP hD hS => ?_)
  obtain ⟨hr, hw⟩ := hp
  subst hw
  subst hr
  have hP := P_perm hP pmM'
  have hD := D_perm hD pmM'
  refine lv_iload hx hb dL_law_353 (lv_at hl 1 rfl) ?_
  refine lv_icmp_eq (tgt := 360) hx hb dL_law_355 (by decide) (fun h355 => ?_) (fun h355 => False.elim (h355 rfl))
  refine lv_iload hx hb dL_law_360 (lv_at hl 1 rfl) ?_
  refine lv_if_ne (tgt := 377) hx hb dL_law_362 (by decide) (fun h362 => False.elim (absurd rfl h362)) (fun h362 => ?_)
  refine lv_aload_n hx hb dL_law_365 rfl (lv_at hl 5 rfl) ?_
  refine lv_iconst (v := 0) hx hb dL_law_366 (by decide) ?_
  refine llald hx hb hG hP hg dL_law_367 ?_
  refine lv_iload hx hb dL_law_368 (lv_at hl 0 rfl) ?_
  refine lv_i2l (v := ((nI n) : Int32).toInt64) hx hb dL_law_370 rfl ?_
  refine llcmp hx hb dL_law_371 ?_
  refine lv_if_eq (tgt := 377) hx hb dL_law_372 (by decide) (fun h372 => ?_) (fun h372 => False.elim (absurd rfl h372))
  refine lv_goto (tgt := 1346) hx hb dL_law_377 (by decide) ?_
  exact W.widen (k := cells + 31) (n := slots + 1806) (by omega) (by omega) (kk _ _ _ _ _ _ _ _ _ H locs ls hE ((hIv.bill hx4 hx8 hc hd h30 hj).up) hP hD hS (lv_sub hl [2, 3, 4, 5, 6, 7] rfl))
set_option maxHeartbeats 4000000 in
set_option maxRecDepth 100000 in
theorem q_state_tb {p : Program} {l : Launch} {e : Env} {s : State} {m : MethodId} {args : Array Value} {below : List Frame} {meth : Method} {c : Code} {H : Heap} {locs : List Loc} {cells slots : Nat} {Q : State → Prop} {ls : Array Slot} {K : Ks} {A : Nat → Prop} {ad bad qm : Nat → Nat} {td th : Int32} {n : Nat} {M X : Nat → Nat → Int32} {w : va_W} {oj od : Nat} {g : Nat → Int64} {gd : Nat → UInt64} {b L i j : Nat} {xs : Nat → Int32} (h0 : LSt p l s m args c K A b L xs) (hE : DkE K ad bad td n M w) (hIv : Iv j td n M) (hP : va_P K.1 kCl (CW K qm oj od td n th M X w g gd) H) (hD : va_D A (CW K qm oj od td n th M X w g gd)) (hS : va_S A s.heap H locs) (hl : lv_has ls 8 [(0, .ref b), (1, .ref (ad 0)), (2, .ref (qm 0)), (3, .ref oj), (4, .ref od), (5, .int (nI i))]) (hi : i + 4 < L) (hcl : cells + 31 ≤ 601024) (hsl : slots + 1806 ≤ 7293034) (hj : j ≤ 100000) (kk : LEnd p l e s m args below meth c Q K A b ad qm oj od i j cells slots) {x : Int32} (hix : ixBad n x) (e1 : xs (i + 1) = x) : W p l e room_1 s m args below meth c H locs cells slots Q (F0 m 547 ls []) := by
  obtain ⟨hx, hb, hml, hown, hts, hG, hX, hbl, hbA, hL, hlt⟩ := h0
  have hok := hIv.ok
  have hn30 := hIv.1
  refine lv_aload_n hx hb dL_law_547 rfl (lv_at hl 1 rfl) ?_
  refine lv_aload_n hx hb dL_law_548 rfl (lv_at hl 0 rfl) ?_
  refine lv_iload hx hb dL_law_549 (lv_at hl 5 rfl) ?_
  refine lv_iconst (v := 1) hx hb dL_law_551 (by decide) ?_
  refine lv_iadd hx hb dL_law_552 ?_
  refine lsld (z := x) hx hb hX hbl hbA hS (nI_add i 1) (by omega) (by omega) e1 dL_law_553 ?_
  refine lv_aload_n hx hb dL_law_554 rfl (lv_at hl 3 rfl) ?_
  have hP := P_perm hP pmJ
  have hD := D_perm hD pmJ
  refine kf_i (W2 := (od, oD K gd) :: Mfix K qm td (nI n) th M X) (vx_runSW (As := [.ref (ad 0), .int x, .ref oj]) (rest := []) ⟨hx, hb, hml, hown, hts⟩ (h_state_tb hE hlt hix) (vx_cwSW 3 hts gL_law_L_state rfl rfl rfl (by decide +kernel) ⟨(Nat.le_of_ble_eq_true rfl), (Nat.le_of_ble_eq_true rfl)⟩) (lps hG hP hD hS) rfl rfl hl.1 rfl (lv_room (Nat.le_of_ble_eq_true rfl)) dL_law_555 ⟨(by show _ ≤ 601024; omega), (by show _ ≤ 7293034; omega)⟩) hS hP hD (fun r w H locs hp hP hD hS => ?_)
  obtain ⟨hr, w2, hw, hE⟩ := hp
  subst hw
  subst hr
  have hP := P_perm hP pmJ'
  have hD := D_perm hD pmJ'
  refine lv_istore (lv' := [(6, .int 1), (0, .ref b), (1, .ref (ad 0)), (2, .ref (qm 0)), (3, .ref oj), (4, .ref od), (5, .int (nI i))]) hx hb dL_law_558 hl (by decide) rfl (fun ls hl => ?_)
  refine lv_aload_n hx hb dL_law_560 rfl (lv_at hl 3 rfl) ?_
  refine lv_aload_n hx hb dL_law_561 rfl (lv_at hl 1 rfl) ?_
  refine lv_iload hx hb dL_law_562 (lv_at hl 6 rfl) ?_
  refine lv_iconst (v := 1) hx hb dL_law_564 (by decide) ?_
  refine lv_iadd hx hb dL_law_565 ?_
  refine lsld (z := x) hx hb hX hbl hbA hS (nI_add i 1) (by omega) (by omega) e1 dL_law_566 ?_
  have hP := P_perm hP pmM
  have hD := D_perm hD pmM
  refine kf_i (W2 := w2 ++ [(oj, oJ K g), (od, oD K gd)]) (va_runV (As := [.int x]) (rest := []) ⟨hx, hb, hml, hown, hts⟩ (c_X2_state_1 hn30 hix) (cwV 1 hts gL_law_X2_state rfl rfl rfl (by decide +kernel) ⟨(Nat.le_of_ble_eq_true rfl), (Nat.le_of_ble_eq_true rfl)⟩) (lpv (q0 := 0) hG hP hD hS rfl rfl) rfl rfl hl.1 rfl (lv_room (Nat.le_of_ble_eq_true rfl)) dL_law_567 ⟨(by show _ ≤ 601024; omega), (by show _ ≤ 7293034; omega)⟩) hS hP hD (fun r567 w9 H locs hp hP hD hS => ?_)
  subst hp
  have hP := P_perm hP pmM'
  have hD := D_perm hD pmM'
  refine lv_istore (lv' := [(7, .int r567), (6, .int 1), (0, .ref b), (1, .ref (ad 0)), (2, .ref (qm 0)), (3, .ref oj), (4, .ref od), (5, .int (nI i))]) hx hb dL_law_570 hl (by decide) rfl (fun ls hl => ?_)
  refine lv_aload_n hx hb dL_law_572 rfl (lv_at hl 4 rfl) ?_
  have hP := P_perm hP pmM
  have hD := D_perm hD pmM
  refine kf_i (W2 := w2 ++ [(oj, oJ K g), (od, oD K gd)]) (va_runV (As := []) (rest := []) ⟨hx, hb, hml, hown, hts⟩ (c_X2_thrown) (cwV 0 hts gL_law_X2_thrown rfl rfl rfl (by decide +kernel) ⟨(Nat.le_of_ble_eq_true rfl), (Nat.le_of_ble_eq_true rfl)⟩) (lpv (q0 := 0) hG hP hD hS rfl rfl) rfl rfl hl.1 rfl (lv_room (Nat.le_of_ble_eq_true rfl)) dL_law_573 ⟨(by show _ ≤ 601024; omega), (by show _ ≤ 7293034; omega)⟩) hS hP hD (fun r573 w9 H locs hp hP hD hS => ?_)
  obtain ⟨hr, hw⟩ := hp
  subst hw
  subst hr
  have hP := P_perm hP pmM'
  have hD := D_perm hD pmM'
  refine lv_iload hx hb dL_law_576 (lv_at hl 1 rfl) ?_
  refine lv_icmp_eq (tgt := 583) hx hb dL_law_578 (by decide) (fun h578 => ?_) (fun h578 => False.elim (h578 rfl))
  refine lv_iload hx hb dL_law_583 (lv_at hl 1 rfl) ?_
  refine lv_if_ne (tgt := 600) hx hb dL_law_585 (by decide) (fun h585 => ?_) (fun h585 => False.elim (absurd h585 (by decide)))
  refine lv_goto (tgt := 1346) hx hb dL_law_600 (by decide) ?_
  exact W.widen (k := cells + 31) (n := slots + 1806) (by omega) (by omega) (kk _ _ _ _ _ _ _ _ _ H locs ls hE (hIv.up) hP hD hS (lv_sub hl [2, 3, 4, 5, 6, 7] rfl))
set_option maxHeartbeats 4000000 in
set_option maxRecDepth 100000 in
theorem q_state {p : Program} {l : Launch} {e : Env} {s : State} {m : MethodId} {args : Array Value} {below : List Frame} {meth : Method} {c : Code} {H : Heap} {locs : List Loc} {cells slots : Nat} {Q : State → Prop} {ls : Array Slot} {K : Ks} {A : Nat → Prop} {ad bad qm : Nat → Nat} {td th : Int32} {n : Nat} {M X : Nat → Nat → Int32} {w : va_W} {oj od : Nat} {g : Nat → Int64} {gd : Nat → UInt64} {b L i j : Nat} {xs : Nat → Int32} (h0 : LSt p l s m args c K A b L xs) (hE : DkE K ad bad td n M w) (hIv : Iv j td n M) (hP : va_P K.1 kCl (CW K qm oj od td n th M X w g gd) H) (hD : va_D A (CW K qm oj od td n th M X w g gd)) (hS : va_S A s.heap H locs) (hl : lv_has ls 8 [(0, .ref b), (1, .ref (ad 0)), (2, .ref (qm 0)), (3, .ref oj), (4, .ref od), (5, .int (nI i))]) (hi : i + 4 < L) (hcl : cells + 31 ≤ 601024) (hsl : slots + 1806 ≤ 7293034) (hj : j ≤ 100000) (kk : LEnd p l e s m args below meth c Q K A b ad qm oj od i j cells slots) {u : Nat} (hu : u < n) (e1 : xs (i + 1) = nI u) : W p l e room_1 s m args below meth c H locs cells slots Q (F0 m 547 ls []) := by
  obtain ⟨hx, hb, hml, hown, hts, hG, hX, hbl, hbA, hL, hlt⟩ := h0
  have hok := hIv.ok
  have hn30 := hIv.1
  refine lv_aload_n hx hb dL_law_547 rfl (lv_at hl 1 rfl) ?_
  refine lv_aload_n hx hb dL_law_548 rfl (lv_at hl 0 rfl) ?_
  refine lv_iload hx hb dL_law_549 (lv_at hl 5 rfl) ?_
  refine lv_iconst (v := 1) hx hb dL_law_551 (by decide) ?_
  refine lv_iadd hx hb dL_law_552 ?_
  refine lsld (z := nI u) hx hb hX hbl hbA hS (nI_add i 1) (by omega) (by omega) e1 dL_law_553 ?_
  refine lv_aload_n hx hb dL_law_554 rfl (lv_at hl 3 rfl) ?_
  have hP := P_perm hP pmJ
  have hD := D_perm hD pmJ
  refine kf_i (W2 := (od, oD K gd) :: Mfix K qm td (nI n) th M X) (vx_runSW (As := [.ref (ad 0), .int (nI u), .ref oj]) (rest := []) ⟨hx, hb, hml, hown, hts⟩ (h_state hE hu) (vx_cwSW 3 hts gL_law_L_state rfl rfl rfl (by decide +kernel) ⟨(Nat.le_of_ble_eq_true rfl), (Nat.le_of_ble_eq_true rfl)⟩) (lps hG hP hD hS) rfl rfl hl.1 rfl (lv_room (Nat.le_of_ble_eq_true rfl)) dL_law_555 ⟨(by show _ ≤ 601024; omega), (by show _ ≤ 7293034; omega)⟩) hS hP hD (fun r w H locs hp hP hD hS => ?_)
  obtain ⟨hr, w2, g1, hw, hg, hE⟩ := hp
  subst hw
  subst hr
  have hP := P_perm hP pmJ'
  have hD := D_perm hD pmJ'
  refine lv_istore (lv' := [(6, .int 0), (0, .ref b), (1, .ref (ad 0)), (2, .ref (qm 0)), (3, .ref oj), (4, .ref od), (5, .int (nI i))]) hx hb dL_law_558 hl (by decide) rfl (fun ls hl => ?_)
  refine lv_aload_n hx hb dL_law_560 rfl (lv_at hl 3 rfl) ?_
  refine lv_aload_n hx hb dL_law_561 rfl (lv_at hl 1 rfl) ?_
  refine lv_iload hx hb dL_law_562 (lv_at hl 6 rfl) ?_
  refine lv_iconst (v := 1) hx hb dL_law_564 (by decide) ?_
  refine lv_iadd hx hb dL_law_565 ?_
  refine lsld (z := nI u) hx hb hX hbl hbA hS (nI_add i 1) (by omega) (by omega) e1 dL_law_566 ?_
  have hP := P_perm hP pmM
  have hD := D_perm hD pmM
  refine kf_i (W2 := w2 ++ [(oj, oJ K g1), (od, oD K gd)]) (va_runV (As := [.int (nI u)]) (rest := []) ⟨hx, hb, hml, hown, hts⟩ (c_X2_state_ok hn30 hu) (cwV 1 hts gL_law_X2_state rfl rfl rfl (by decide +kernel) ⟨(Nat.le_of_ble_eq_true rfl), (Nat.le_of_ble_eq_true rfl)⟩) (lpv (q0 := 0) hG hP hD hS rfl rfl) rfl rfl hl.1 rfl (lv_room (Nat.le_of_ble_eq_true rfl)) dL_law_567 ⟨(by show _ ≤ 601024; omega), (by show _ ≤ 7293034; omega)⟩) hS hP hD (fun r567 w9 H locs hp hP hD hS => ?_)
  obtain ⟨hr, hw⟩ := hp
  subst hw
  subst hr
  have hP := P_perm hP pmM'
  have hD := D_perm hD pmM'
  refine lv_istore (lv' := [(7, .int (M 6 u)), (6, .int 0), (0, .ref b), (1, .ref (ad 0)), (2, .ref (qm 0)), (3, .ref oj), (4, .ref od), (5, .int (nI i))]) hx hb dL_law_570 hl (by decide) rfl (fun ls hl => ?_)
  refine lv_aload_n hx hb dL_law_572 rfl (lv_at hl 4 rfl) ?_
  have hP := P_perm hP pmM
  have hD := D_perm hD pmM
  refine kf_i (W2 := w2 ++ [(oj, oJ K g1), (od, oD K gd)]) (va_runV (As := []) (rest := []) ⟨hx, hb, hml, hown, hts⟩ (c_X2_thrown) (cwV 0 hts gL_law_X2_thrown rfl rfl rfl (by decide +kernel) ⟨(Nat.le_of_ble_eq_true rfl), (Nat.le_of_ble_eq_true rfl)⟩) (lpv (q0 := 0) hG hP hD hS rfl rfl) rfl rfl hl.1 rfl (lv_room (Nat.le_of_ble_eq_true rfl)) dL_law_573 ⟨(by show _ ≤ 601024; omega), (by show _ ≤ 7293034; omega)⟩) hS hP hD (fun r573 w9 H locs hp hP hD hS => ?_)
  obtain ⟨hr, hw⟩ := hp
  subst hw
  subst hr
  have hP := P_perm hP pmM'
  have hD := D_perm hD pmM'
  refine lv_iload hx hb dL_law_576 (lv_at hl 1 rfl) ?_
  refine lv_icmp_eq (tgt := 583) hx hb dL_law_578 (by decide) (fun h578 => ?_) (fun h578 => False.elim (h578 rfl))
  refine lv_iload hx hb dL_law_583 (lv_at hl 1 rfl) ?_
  refine lv_if_ne (tgt := 600) hx hb dL_law_585 (by decide) (fun h585 => False.elim (absurd rfl h585)) (fun h585 => ?_)
  refine lv_aload_n hx hb dL_law_588 rfl (lv_at hl 5 rfl) ?_
  refine lv_iconst (v := 0) hx hb dL_law_589 (by decide) ?_
  refine llald hx hb hG hP hg dL_law_590 ?_
  refine lv_iload hx hb dL_law_591 (lv_at hl 0 rfl) ?_
  refine lv_i2l (v := ((M 6 u) : Int32).toInt64) hx hb dL_law_593 rfl ?_
  refine llcmp hx hb dL_law_594 ?_
  refine lv_if_eq (tgt := 600) hx hb dL_law_595 (by decide) (fun h595 => ?_) (fun h595 => False.elim (absurd rfl h595))
  refine lv_goto (tgt := 1346) hx hb dL_law_600 (by decide) ?_
  exact W.widen (k := cells + 31) (n := slots + 1806) (by omega) (by omega) (kk _ _ _ _ _ _ _ _ _ H locs ls hE (hIv.up) hP hD hS (lv_sub hl [2, 3, 4, 5, 6, 7] rfl))
set_option maxHeartbeats 4000000 in
set_option maxRecDepth 100000 in
theorem q_amount_tb {p : Program} {l : Launch} {e : Env} {s : State} {m : MethodId} {args : Array Value} {below : List Frame} {meth : Method} {c : Code} {H : Heap} {locs : List Loc} {cells slots : Nat} {Q : State → Prop} {ls : Array Slot} {K : Ks} {A : Nat → Prop} {ad bad qm : Nat → Nat} {td th : Int32} {n : Nat} {M X : Nat → Nat → Int32} {w : va_W} {oj od : Nat} {g : Nat → Int64} {gd : Nat → UInt64} {b L i j : Nat} {xs : Nat → Int32} (h0 : LSt p l s m args c K A b L xs) (hE : DkE K ad bad td n M w) (hIv : Iv j td n M) (hP : va_P K.1 kCl (CW K qm oj od td n th M X w g gd) H) (hD : va_D A (CW K qm oj od td n th M X w g gd)) (hS : va_S A s.heap H locs) (hl : lv_has ls 8 [(0, .ref b), (1, .ref (ad 0)), (2, .ref (qm 0)), (3, .ref oj), (4, .ref od), (5, .int (nI i))]) (hi : i + 4 < L) (hcl : cells + 31 ≤ 601024) (hsl : slots + 1806 ≤ 7293034) (hj : j ≤ 100000) (kk : LEnd p l e s m args below meth c Q K A b ad qm oj od i j cells slots) {x : Int32} (hix : ixBad n x) (e1 : xs (i + 1) = x) : W p l e room_1 s m args below meth c H locs cells slots Q (F0 m 603 ls []) := by
  obtain ⟨hx, hb, hml, hown, hts, hG, hX, hbl, hbA, hL, hlt⟩ := h0
  have hok := hIv.ok
  have hn30 := hIv.1
  refine lv_aload_n hx hb dL_law_603 rfl (lv_at hl 1 rfl) ?_
  refine lv_aload_n hx hb dL_law_604 rfl (lv_at hl 0 rfl) ?_
  refine lv_iload hx hb dL_law_605 (lv_at hl 5 rfl) ?_
  refine lv_iconst (v := 1) hx hb dL_law_607 (by decide) ?_
  refine lv_iadd hx hb dL_law_608 ?_
  refine lsld (z := x) hx hb hX hbl hbA hS (nI_add i 1) (by omega) (by omega) e1 dL_law_609 ?_
  refine lv_aload_n hx hb dL_law_610 rfl (lv_at hl 3 rfl) ?_
  have hP := P_perm hP pmJ
  have hD := D_perm hD pmJ
  refine kf_i (W2 := (od, oD K gd) :: Mfix K qm td (nI n) th M X) (vx_runSW (As := [.ref (ad 0), .int x, .ref oj]) (rest := []) ⟨hx, hb, hml, hown, hts⟩ (h_amount_tb hE hlt hix) (vx_cwSW 3 hts gL_law_L_amount rfl rfl rfl (by decide +kernel) ⟨(Nat.le_of_ble_eq_true rfl), (Nat.le_of_ble_eq_true rfl)⟩) (lps hG hP hD hS) rfl rfl hl.1 rfl (lv_room (Nat.le_of_ble_eq_true rfl)) dL_law_611 ⟨(by show _ ≤ 601024; omega), (by show _ ≤ 7293034; omega)⟩) hS hP hD (fun r w H locs hp hP hD hS => ?_)
  obtain ⟨hr, w2, hw, hE⟩ := hp
  subst hw
  subst hr
  have hP := P_perm hP pmJ'
  have hD := D_perm hD pmJ'
  refine lv_istore (lv' := [(6, .int 1), (0, .ref b), (1, .ref (ad 0)), (2, .ref (qm 0)), (3, .ref oj), (4, .ref od), (5, .int (nI i))]) hx hb dL_law_614 hl (by decide) rfl (fun ls hl => ?_)
  refine lv_aload_n hx hb dL_law_616 rfl (lv_at hl 3 rfl) ?_
  refine lv_aload_n hx hb dL_law_617 rfl (lv_at hl 1 rfl) ?_
  refine lv_iload hx hb dL_law_618 (lv_at hl 6 rfl) ?_
  refine lv_iconst (v := 1) hx hb dL_law_620 (by decide) ?_
  refine lv_iadd hx hb dL_law_621 ?_
  refine lsld (z := x) hx hb hX hbl hbA hS (nI_add i 1) (by omega) (by omega) e1 dL_law_622 ?_
  have hP := P_perm hP pmM
  have hD := D_perm hD pmM
  refine kf_i (W2 := w2 ++ [(oj, oJ K g), (od, oD K gd)]) (va_runV (As := [.int x]) (rest := []) ⟨hx, hb, hml, hown, hts⟩ (c_X2_amount_1 hn30 hix) (cwV 1 hts gL_law_X2_amount rfl rfl rfl (by decide +kernel) ⟨(Nat.le_of_ble_eq_true rfl), (Nat.le_of_ble_eq_true rfl)⟩) (lpv (q0 := 0) hG hP hD hS rfl rfl) rfl rfl hl.1 rfl (lv_room (Nat.le_of_ble_eq_true rfl)) dL_law_623 ⟨(by show _ ≤ 601024; omega), (by show _ ≤ 7293034; omega)⟩) hS hP hD (fun r623 w9 H locs hp hP hD hS => ?_)
  subst hp
  have hP := P_perm hP pmM'
  have hD := D_perm hD pmM'
  refine lv_istore (lv' := [(7, .int r623), (6, .int 1), (0, .ref b), (1, .ref (ad 0)), (2, .ref (qm 0)), (3, .ref oj), (4, .ref od), (5, .int (nI i))]) hx hb dL_law_626 hl (by decide) rfl (fun ls hl => ?_)
  refine lv_aload_n hx hb dL_law_628 rfl (lv_at hl 4 rfl) ?_
  have hP := P_perm hP pmM
  have hD := D_perm hD pmM
  refine kf_i (W2 := w2 ++ [(oj, oJ K g), (od, oD K gd)]) (va_runV (As := []) (rest := []) ⟨hx, hb, hml, hown, hts⟩ (c_X2_thrown) (cwV 0 hts gL_law_X2_thrown rfl rfl rfl (by decide +kernel) ⟨(Nat.le_of_ble_eq_true rfl), (Nat.le_of_ble_eq_true rfl)⟩) (lpv (q0 := 0) hG hP hD hS rfl rfl) rfl rfl hl.1 rfl (lv_room (Nat.le_of_ble_eq_true rfl)) dL_law_629 ⟨(by show _ ≤ 601024; omega), (by show _ ≤ 7293034; omega)⟩) hS hP hD (fun r629 w9 H locs hp hP hD hS => ?_)
  obtain ⟨hr, hw⟩ := hp
  subst hw
  subst hr
  have hP := P_perm hP pmM'
  have hD := D_perm hD pmM'
  refine lv_iload hx hb dL_law_632 (lv_at hl 1 rfl) ?_
  refine lv_icmp_eq (tgt := 639) hx hb dL_law_634 (by decide) (fun h634 => ?_) (fun h634 => False.elim (h634 rfl))
  refine lv_iload hx hb dL_law_639 (lv_at hl 1 rfl) ?_
  refine lv_if_ne (tgt := 656) hx hb dL_law_641 (by decide) (fun h641 => ?_) (fun h641 => False.elim (absurd h641 (by decide)))
  refine lv_goto (tgt := 1346) hx hb dL_law_656 (by decide) ?_
  exact W.widen (k := cells + 31) (n := slots + 1806) (by omega) (by omega) (kk _ _ _ _ _ _ _ _ _ H locs ls hE (hIv.up) hP hD hS (lv_sub hl [2, 3, 4, 5, 6, 7] rfl))
set_option maxHeartbeats 4000000 in
set_option maxRecDepth 100000 in
theorem q_amount {p : Program} {l : Launch} {e : Env} {s : State} {m : MethodId} {args : Array Value} {below : List Frame} {meth : Method} {c : Code} {H : Heap} {locs : List Loc} {cells slots : Nat} {Q : State → Prop} {ls : Array Slot} {K : Ks} {A : Nat → Prop} {ad bad qm : Nat → Nat} {td th : Int32} {n : Nat} {M X : Nat → Nat → Int32} {w : va_W} {oj od : Nat} {g : Nat → Int64} {gd : Nat → UInt64} {b L i j : Nat} {xs : Nat → Int32} (h0 : LSt p l s m args c K A b L xs) (hE : DkE K ad bad td n M w) (hIv : Iv j td n M) (hP : va_P K.1 kCl (CW K qm oj od td n th M X w g gd) H) (hD : va_D A (CW K qm oj od td n th M X w g gd)) (hS : va_S A s.heap H locs) (hl : lv_has ls 8 [(0, .ref b), (1, .ref (ad 0)), (2, .ref (qm 0)), (3, .ref oj), (4, .ref od), (5, .int (nI i))]) (hi : i + 4 < L) (hcl : cells + 31 ≤ 601024) (hsl : slots + 1806 ≤ 7293034) (hj : j ≤ 100000) (kk : LEnd p l e s m args below meth c Q K A b ad qm oj od i j cells slots) {u : Nat} (hu : u < n) (e1 : xs (i + 1) = nI u) : W p l e room_1 s m args below meth c H locs cells slots Q (F0 m 603 ls []) := by
  obtain ⟨hx, hb, hml, hown, hts, hG, hX, hbl, hbA, hL, hlt⟩ := h0
  have hok := hIv.ok
  have hn30 := hIv.1
  refine lv_aload_n hx hb dL_law_603 rfl (lv_at hl 1 rfl) ?_
  refine lv_aload_n hx hb dL_law_604 rfl (lv_at hl 0 rfl) ?_
  refine lv_iload hx hb dL_law_605 (lv_at hl 5 rfl) ?_
  refine lv_iconst (v := 1) hx hb dL_law_607 (by decide) ?_
  refine lv_iadd hx hb dL_law_608 ?_
  refine lsld (z := nI u) hx hb hX hbl hbA hS (nI_add i 1) (by omega) (by omega) e1 dL_law_609 ?_
  refine lv_aload_n hx hb dL_law_610 rfl (lv_at hl 3 rfl) ?_
  have hP := P_perm hP pmJ
  have hD := D_perm hD pmJ
  refine kf_i (W2 := (od, oD K gd) :: Mfix K qm td (nI n) th M X) (vx_runSW (As := [.ref (ad 0), .int (nI u), .ref oj]) (rest := []) ⟨hx, hb, hml, hown, hts⟩ (h_amount hE hu) (vx_cwSW 3 hts gL_law_L_amount rfl rfl rfl (by decide +kernel) ⟨(Nat.le_of_ble_eq_true rfl), (Nat.le_of_ble_eq_true rfl)⟩) (lps hG hP hD hS) rfl rfl hl.1 rfl (lv_room (Nat.le_of_ble_eq_true rfl)) dL_law_611 ⟨(by show _ ≤ 601024; omega), (by show _ ≤ 7293034; omega)⟩) hS hP hD (fun r w H locs hp hP hD hS => ?_)
  obtain ⟨hr, w2, g1, hw, hg, hE⟩ := hp
  subst hw
  subst hr
  have hP := P_perm hP pmJ'
  have hD := D_perm hD pmJ'
  refine lv_istore (lv' := [(6, .int 0), (0, .ref b), (1, .ref (ad 0)), (2, .ref (qm 0)), (3, .ref oj), (4, .ref od), (5, .int (nI i))]) hx hb dL_law_614 hl (by decide) rfl (fun ls hl => ?_)
  refine lv_aload_n hx hb dL_law_616 rfl (lv_at hl 3 rfl) ?_
  refine lv_aload_n hx hb dL_law_617 rfl (lv_at hl 1 rfl) ?_
  refine lv_iload hx hb dL_law_618 (lv_at hl 6 rfl) ?_
  refine lv_iconst (v := 1) hx hb dL_law_620 (by decide) ?_
  refine lv_iadd hx hb dL_law_621 ?_
  refine lsld (z := nI u) hx hb hX hbl hbA hS (nI_add i 1) (by omega) (by omega) e1 dL_law_622 ?_
  have hP := P_perm hP pmM
  have hD := D_perm hD pmM
  refine kf_i (W2 := w2 ++ [(oj, oJ K g1), (od, oD K gd)]) (va_runV (As := [.int (nI u)]) (rest := []) ⟨hx, hb, hml, hown, hts⟩ (c_X2_amount_ok hn30 hu) (cwV 1 hts gL_law_X2_amount rfl rfl rfl (by decide +kernel) ⟨(Nat.le_of_ble_eq_true rfl), (Nat.le_of_ble_eq_true rfl)⟩) (lpv (q0 := 0) hG hP hD hS rfl rfl) rfl rfl hl.1 rfl (lv_room (Nat.le_of_ble_eq_true rfl)) dL_law_623 ⟨(by show _ ≤ 601024; omega), (by show _ ≤ 7293034; omega)⟩) hS hP hD (fun r623 w9 H locs hp hP hD hS => ?_)
  obtain ⟨hr, hw⟩ := hp
  subst hw
  subst hr
  have hP := P_perm hP pmM'
  have hD := D_perm hD pmM'
  refine lv_istore (lv' := [(7, .int (M 4 u)), (6, .int 0), (0, .ref b), (1, .ref (ad 0)), (2, .ref (qm 0)), (3, .ref oj), (4, .ref od), (5, .int (nI i))]) hx hb dL_law_626 hl (by decide) rfl (fun ls hl => ?_)
  refine lv_aload_n hx hb dL_law_628 rfl (lv_at hl 4 rfl) ?_
  have hP := P_perm hP pmM
  have hD := D_perm hD pmM
  refine kf_i (W2 := w2 ++ [(oj, oJ K g1), (od, oD K gd)]) (va_runV (As := []) (rest := []) ⟨hx, hb, hml, hown, hts⟩ (c_X2_thrown) (cwV 0 hts gL_law_X2_thrown rfl rfl rfl (by decide +kernel) ⟨(Nat.le_of_ble_eq_true rfl), (Nat.le_of_ble_eq_true rfl)⟩) (lpv (q0 := 0) hG hP hD hS rfl rfl) rfl rfl hl.1 rfl (lv_room (Nat.le_of_ble_eq_true rfl)) dL_law_629 ⟨(by show _ ≤ 601024; omega), (by show _ ≤ 7293034; omega)⟩) hS hP hD (fun r629 w9 H locs hp hP hD hS => ?_)
  obtain ⟨hr, hw⟩ := hp
  subst hw
  subst hr
  have hP := P_perm hP pmM'
  have hD := D_perm hD pmM'
  refine lv_iload hx hb dL_law_632 (lv_at hl 1 rfl) ?_
  refine lv_icmp_eq (tgt := 639) hx hb dL_law_634 (by decide) (fun h634 => ?_) (fun h634 => False.elim (h634 rfl))
  refine lv_iload hx hb dL_law_639 (lv_at hl 1 rfl) ?_
  refine lv_if_ne (tgt := 656) hx hb dL_law_641 (by decide) (fun h641 => False.elim (absurd rfl h641)) (fun h641 => ?_)
  refine lv_aload_n hx hb dL_law_644 rfl (lv_at hl 5 rfl) ?_
  refine lv_iconst (v := 0) hx hb dL_law_645 (by decide) ?_
  refine llald hx hb hG hP hg dL_law_646 ?_
  refine lv_iload hx hb dL_law_647 (lv_at hl 0 rfl) ?_
  refine lv_i2l (v := ((M 4 u) : Int32).toInt64) hx hb dL_law_649 rfl ?_
  refine llcmp hx hb dL_law_650 ?_
  refine lv_if_eq (tgt := 656) hx hb dL_law_651 (by decide) (fun h651 => ?_) (fun h651 => False.elim (absurd rfl h651))
  refine lv_goto (tgt := 1346) hx hb dL_law_656 (by decide) ?_
  exact W.widen (k := cells + 31) (n := slots + 1806) (by omega) (by omega) (kk _ _ _ _ _ _ _ _ _ H locs ls hE (hIv.up) hP hD hS (lv_sub hl [2, 3, 4, 5, 6, 7] rfl))
set_option maxHeartbeats 4000000 in
set_option maxRecDepth 100000 in
theorem q_paid_tb {p : Program} {l : Launch} {e : Env} {s : State} {m : MethodId} {args : Array Value} {below : List Frame} {meth : Method} {c : Code} {H : Heap} {locs : List Loc} {cells slots : Nat} {Q : State → Prop} {ls : Array Slot} {K : Ks} {A : Nat → Prop} {ad bad qm : Nat → Nat} {td th : Int32} {n : Nat} {M X : Nat → Nat → Int32} {w : va_W} {oj od : Nat} {g : Nat → Int64} {gd : Nat → UInt64} {b L i j : Nat} {xs : Nat → Int32} (h0 : LSt p l s m args c K A b L xs) (hE : DkE K ad bad td n M w) (hIv : Iv j td n M) (hP : va_P K.1 kCl (CW K qm oj od td n th M X w g gd) H) (hD : va_D A (CW K qm oj od td n th M X w g gd)) (hS : va_S A s.heap H locs) (hl : lv_has ls 8 [(0, .ref b), (1, .ref (ad 0)), (2, .ref (qm 0)), (3, .ref oj), (4, .ref od), (5, .int (nI i))]) (hi : i + 4 < L) (hcl : cells + 31 ≤ 601024) (hsl : slots + 1806 ≤ 7293034) (hj : j ≤ 100000) (kk : LEnd p l e s m args below meth c Q K A b ad qm oj od i j cells slots) {x : Int32} (hix : ixBad n x) (e1 : xs (i + 1) = x) : W p l e room_1 s m args below meth c H locs cells slots Q (F0 m 659 ls []) := by
  obtain ⟨hx, hb, hml, hown, hts, hG, hX, hbl, hbA, hL, hlt⟩ := h0
  have hok := hIv.ok
  have hn30 := hIv.1
  refine lv_aload_n hx hb dL_law_659 rfl (lv_at hl 1 rfl) ?_
  refine lv_aload_n hx hb dL_law_660 rfl (lv_at hl 0 rfl) ?_
  refine lv_iload hx hb dL_law_661 (lv_at hl 5 rfl) ?_
  refine lv_iconst (v := 1) hx hb dL_law_663 (by decide) ?_
  refine lv_iadd hx hb dL_law_664 ?_
  refine lsld (z := x) hx hb hX hbl hbA hS (nI_add i 1) (by omega) (by omega) e1 dL_law_665 ?_
  refine lv_aload_n hx hb dL_law_666 rfl (lv_at hl 3 rfl) ?_
  have hP := P_perm hP pmJ
  have hD := D_perm hD pmJ
  refine kf_i (W2 := (od, oD K gd) :: Mfix K qm td (nI n) th M X) (vx_runSW (As := [.ref (ad 0), .int x, .ref oj]) (rest := []) ⟨hx, hb, hml, hown, hts⟩ (h_paid_tb hE hlt hix) (vx_cwSW 3 hts gL_law_L_paid rfl rfl rfl (by decide +kernel) ⟨(Nat.le_of_ble_eq_true rfl), (Nat.le_of_ble_eq_true rfl)⟩) (lps hG hP hD hS) rfl rfl hl.1 rfl (lv_room (Nat.le_of_ble_eq_true rfl)) dL_law_667 ⟨(by show _ ≤ 601024; omega), (by show _ ≤ 7293034; omega)⟩) hS hP hD (fun r w H locs hp hP hD hS => ?_)
  obtain ⟨hr, w2, hw, hE⟩ := hp
  subst hw
  subst hr
  have hP := P_perm hP pmJ'
  have hD := D_perm hD pmJ'
  refine lv_istore (lv' := [(6, .int 1), (0, .ref b), (1, .ref (ad 0)), (2, .ref (qm 0)), (3, .ref oj), (4, .ref od), (5, .int (nI i))]) hx hb dL_law_670 hl (by decide) rfl (fun ls hl => ?_)
  refine lv_aload_n hx hb dL_law_672 rfl (lv_at hl 3 rfl) ?_
  refine lv_aload_n hx hb dL_law_673 rfl (lv_at hl 1 rfl) ?_
  refine lv_iload hx hb dL_law_674 (lv_at hl 6 rfl) ?_
  refine lv_iconst (v := 1) hx hb dL_law_676 (by decide) ?_
  refine lv_iadd hx hb dL_law_677 ?_
  refine lsld (z := x) hx hb hX hbl hbA hS (nI_add i 1) (by omega) (by omega) e1 dL_law_678 ?_
  have hP := P_perm hP pmM
  have hD := D_perm hD pmM
  refine kf_i (W2 := w2 ++ [(oj, oJ K g), (od, oD K gd)]) (va_runV (As := [.int x]) (rest := []) ⟨hx, hb, hml, hown, hts⟩ (c_X2_paid_1 hn30 hix) (cwV 1 hts gL_law_X2_paid rfl rfl rfl (by decide +kernel) ⟨(Nat.le_of_ble_eq_true rfl), (Nat.le_of_ble_eq_true rfl)⟩) (lpv (q0 := 0) hG hP hD hS rfl rfl) rfl rfl hl.1 rfl (lv_room (Nat.le_of_ble_eq_true rfl)) dL_law_679 ⟨(by show _ ≤ 601024; omega), (by show _ ≤ 7293034; omega)⟩) hS hP hD (fun r679 w9 H locs hp hP hD hS => ?_)
  subst hp
  have hP := P_perm hP pmM'
  have hD := D_perm hD pmM'
  refine lv_istore (lv' := [(7, .int r679), (6, .int 1), (0, .ref b), (1, .ref (ad 0)), (2, .ref (qm 0)), (3, .ref oj), (4, .ref od), (5, .int (nI i))]) hx hb dL_law_682 hl (by decide) rfl (fun ls hl => ?_)
  refine lv_aload_n hx hb dL_law_684 rfl (lv_at hl 4 rfl) ?_
  have hP := P_perm hP pmM
  have hD := D_perm hD pmM
  refine kf_i (W2 := w2 ++ [(oj, oJ K g), (od, oD K gd)]) (va_runV (As := []) (rest := []) ⟨hx, hb, hml, hown, hts⟩ (c_X2_thrown) (cwV 0 hts gL_law_X2_thrown rfl rfl rfl (by decide +kernel) ⟨(Nat.le_of_ble_eq_true rfl), (Nat.le_of_ble_eq_true rfl)⟩) (lpv (q0 := 0) hG hP hD hS rfl rfl) rfl rfl hl.1 rfl (lv_room (Nat.le_of_ble_eq_true rfl)) dL_law_685 ⟨(by show _ ≤ 601024; omega), (by show _ ≤ 7293034; omega)⟩) hS hP hD (fun r685 w9 H locs hp hP hD hS => ?_)
  obtain ⟨hr, hw⟩ := hp
  subst hw
  subst hr
  have hP := P_perm hP pmM'
  have hD := D_perm hD pmM'
  refine lv_iload hx hb dL_law_688 (lv_at hl 1 rfl) ?_
  refine lv_icmp_eq (tgt := 695) hx hb dL_law_690 (by decide) (fun h690 => ?_) (fun h690 => False.elim (h690 rfl))
  refine lv_iload hx hb dL_law_695 (lv_at hl 1 rfl) ?_
  refine lv_if_ne (tgt := 712) hx hb dL_law_697 (by decide) (fun h697 => ?_) (fun h697 => False.elim (absurd h697 (by decide)))
  refine lv_goto (tgt := 1346) hx hb dL_law_712 (by decide) ?_
  exact W.widen (k := cells + 31) (n := slots + 1806) (by omega) (by omega) (kk _ _ _ _ _ _ _ _ _ H locs ls hE (hIv.up) hP hD hS (lv_sub hl [2, 3, 4, 5, 6, 7] rfl))
set_option maxHeartbeats 4000000 in
set_option maxRecDepth 100000 in
theorem q_paid {p : Program} {l : Launch} {e : Env} {s : State} {m : MethodId} {args : Array Value} {below : List Frame} {meth : Method} {c : Code} {H : Heap} {locs : List Loc} {cells slots : Nat} {Q : State → Prop} {ls : Array Slot} {K : Ks} {A : Nat → Prop} {ad bad qm : Nat → Nat} {td th : Int32} {n : Nat} {M X : Nat → Nat → Int32} {w : va_W} {oj od : Nat} {g : Nat → Int64} {gd : Nat → UInt64} {b L i j : Nat} {xs : Nat → Int32} (h0 : LSt p l s m args c K A b L xs) (hE : DkE K ad bad td n M w) (hIv : Iv j td n M) (hP : va_P K.1 kCl (CW K qm oj od td n th M X w g gd) H) (hD : va_D A (CW K qm oj od td n th M X w g gd)) (hS : va_S A s.heap H locs) (hl : lv_has ls 8 [(0, .ref b), (1, .ref (ad 0)), (2, .ref (qm 0)), (3, .ref oj), (4, .ref od), (5, .int (nI i))]) (hi : i + 4 < L) (hcl : cells + 31 ≤ 601024) (hsl : slots + 1806 ≤ 7293034) (hj : j ≤ 100000) (kk : LEnd p l e s m args below meth c Q K A b ad qm oj od i j cells slots) {u : Nat} (hu : u < n) (e1 : xs (i + 1) = nI u) : W p l e room_1 s m args below meth c H locs cells slots Q (F0 m 659 ls []) := by
  obtain ⟨hx, hb, hml, hown, hts, hG, hX, hbl, hbA, hL, hlt⟩ := h0
  have hok := hIv.ok
  have hn30 := hIv.1
  refine lv_aload_n hx hb dL_law_659 rfl (lv_at hl 1 rfl) ?_
  refine lv_aload_n hx hb dL_law_660 rfl (lv_at hl 0 rfl) ?_
  refine lv_iload hx hb dL_law_661 (lv_at hl 5 rfl) ?_
  refine lv_iconst (v := 1) hx hb dL_law_663 (by decide) ?_
  refine lv_iadd hx hb dL_law_664 ?_
  refine lsld (z := nI u) hx hb hX hbl hbA hS (nI_add i 1) (by omega) (by omega) e1 dL_law_665 ?_
  refine lv_aload_n hx hb dL_law_666 rfl (lv_at hl 3 rfl) ?_
  have hP := P_perm hP pmJ
  have hD := D_perm hD pmJ
  refine kf_i (W2 := (od, oD K gd) :: Mfix K qm td (nI n) th M X) (vx_runSW (As := [.ref (ad 0), .int (nI u), .ref oj]) (rest := []) ⟨hx, hb, hml, hown, hts⟩ (h_paid hE hu) (vx_cwSW 3 hts gL_law_L_paid rfl rfl rfl (by decide +kernel) ⟨(Nat.le_of_ble_eq_true rfl), (Nat.le_of_ble_eq_true rfl)⟩) (lps hG hP hD hS) rfl rfl hl.1 rfl (lv_room (Nat.le_of_ble_eq_true rfl)) dL_law_667 ⟨(by show _ ≤ 601024; omega), (by show _ ≤ 7293034; omega)⟩) hS hP hD (fun r w H locs hp hP hD hS => ?_)
  obtain ⟨hr, w2, g1, hw, hg, hE⟩ := hp
  subst hw
  subst hr
  have hP := P_perm hP pmJ'
  have hD := D_perm hD pmJ'
  refine lv_istore (lv' := [(6, .int 0), (0, .ref b), (1, .ref (ad 0)), (2, .ref (qm 0)), (3, .ref oj), (4, .ref od), (5, .int (nI i))]) hx hb dL_law_670 hl (by decide) rfl (fun ls hl => ?_)
  refine lv_aload_n hx hb dL_law_672 rfl (lv_at hl 3 rfl) ?_
  refine lv_aload_n hx hb dL_law_673 rfl (lv_at hl 1 rfl) ?_
  refine lv_iload hx hb dL_law_674 (lv_at hl 6 rfl) ?_
  refine lv_iconst (v := 1) hx hb dL_law_676 (by decide) ?_
  refine lv_iadd hx hb dL_law_677 ?_
  refine lsld (z := nI u) hx hb hX hbl hbA hS (nI_add i 1) (by omega) (by omega) e1 dL_law_678 ?_
  have hP := P_perm hP pmM
  have hD := D_perm hD pmM
  refine kf_i (W2 := w2 ++ [(oj, oJ K g1), (od, oD K gd)]) (va_runV (As := [.int (nI u)]) (rest := []) ⟨hx, hb, hml, hown, hts⟩ (c_X2_paid_ok hn30 hu) (cwV 1 hts gL_law_X2_paid rfl rfl rfl (by decide +kernel) ⟨(Nat.le_of_ble_eq_true rfl), (Nat.le_of_ble_eq_true rfl)⟩) (lpv (q0 := 0) hG hP hD hS rfl rfl) rfl rfl hl.1 rfl (lv_room (Nat.le_of_ble_eq_true rfl)) dL_law_679 ⟨(by show _ ≤ 601024; omega), (by show _ ≤ 7293034; omega)⟩) hS hP hD (fun r679 w9 H locs hp hP hD hS => ?_)
  obtain ⟨hr, hw⟩ := hp
  subst hw
  subst hr
  have hP := P_perm hP pmM'
  have hD := D_perm hD pmM'
  refine lv_istore (lv' := [(7, .int (M 8 u)), (6, .int 0), (0, .ref b), (1, .ref (ad 0)), (2, .ref (qm 0)), (3, .ref oj), (4, .ref od), (5, .int (nI i))]) hx hb dL_law_682 hl (by decide) rfl (fun ls hl => ?_)
  refine lv_aload_n hx hb dL_law_684 rfl (lv_at hl 4 rfl) ?_
  have hP := P_perm hP pmM
  have hD := D_perm hD pmM
  refine kf_i (W2 := w2 ++ [(oj, oJ K g1), (od, oD K gd)]) (va_runV (As := []) (rest := []) ⟨hx, hb, hml, hown, hts⟩ (c_X2_thrown) (cwV 0 hts gL_law_X2_thrown rfl rfl rfl (by decide +kernel) ⟨(Nat.le_of_ble_eq_true rfl), (Nat.le_of_ble_eq_true rfl)⟩) (lpv (q0 := 0) hG hP hD hS rfl rfl) rfl rfl hl.1 rfl (lv_room (Nat.le_of_ble_eq_true rfl)) dL_law_685 ⟨(by show _ ≤ 601024; omega), (by show _ ≤ 7293034; omega)⟩) hS hP hD (fun r685 w9 H locs hp hP hD hS => ?_)
  obtain ⟨hr, hw⟩ := hp
  subst hw
  subst hr
  have hP := P_perm hP pmM'
  have hD := D_perm hD pmM'
  refine lv_iload hx hb dL_law_688 (lv_at hl 1 rfl) ?_
  refine lv_icmp_eq (tgt := 695) hx hb dL_law_690 (by decide) (fun h690 => ?_) (fun h690 => False.elim (h690 rfl))
  refine lv_iload hx hb dL_law_695 (lv_at hl 1 rfl) ?_
  refine lv_if_ne (tgt := 712) hx hb dL_law_697 (by decide) (fun h697 => False.elim (absurd rfl h697)) (fun h697 => ?_)
  refine lv_aload_n hx hb dL_law_700 rfl (lv_at hl 5 rfl) ?_
  refine lv_iconst (v := 0) hx hb dL_law_701 (by decide) ?_
  refine llald hx hb hG hP hg dL_law_702 ?_
  refine lv_iload hx hb dL_law_703 (lv_at hl 0 rfl) ?_
  refine lv_i2l (v := ((M 8 u) : Int32).toInt64) hx hb dL_law_705 rfl ?_
  refine llcmp hx hb dL_law_706 ?_
  refine lv_if_eq (tgt := 712) hx hb dL_law_707 (by decide) (fun h707 => ?_) (fun h707 => False.elim (absurd rfl h707))
  refine lv_goto (tgt := 1346) hx hb dL_law_712 (by decide) ?_
  exact W.widen (k := cells + 31) (n := slots + 1806) (by omega) (by omega) (kk _ _ _ _ _ _ _ _ _ H locs ls hE (hIv.up) hP hD hS (lv_sub hl [2, 3, 4, 5, 6, 7] rfl))
set_option maxHeartbeats 4000000 in
set_option maxRecDepth 100000 in
theorem q_heldBack_tb {p : Program} {l : Launch} {e : Env} {s : State} {m : MethodId} {args : Array Value} {below : List Frame} {meth : Method} {c : Code} {H : Heap} {locs : List Loc} {cells slots : Nat} {Q : State → Prop} {ls : Array Slot} {K : Ks} {A : Nat → Prop} {ad bad qm : Nat → Nat} {td th : Int32} {n : Nat} {M X : Nat → Nat → Int32} {w : va_W} {oj od : Nat} {g : Nat → Int64} {gd : Nat → UInt64} {b L i j : Nat} {xs : Nat → Int32} (h0 : LSt p l s m args c K A b L xs) (hE : DkE K ad bad td n M w) (hIv : Iv j td n M) (hP : va_P K.1 kCl (CW K qm oj od td n th M X w g gd) H) (hD : va_D A (CW K qm oj od td n th M X w g gd)) (hS : va_S A s.heap H locs) (hl : lv_has ls 8 [(0, .ref b), (1, .ref (ad 0)), (2, .ref (qm 0)), (3, .ref oj), (4, .ref od), (5, .int (nI i))]) (hi : i + 4 < L) (hcl : cells + 31 ≤ 601024) (hsl : slots + 1806 ≤ 7293034) (hj : j ≤ 100000) (kk : LEnd p l e s m args below meth c Q K A b ad qm oj od i j cells slots) {x : Int32} (hix : ixBad n x) (e1 : xs (i + 1) = x) : W p l e room_1 s m args below meth c H locs cells slots Q (F0 m 715 ls []) := by
  obtain ⟨hx, hb, hml, hown, hts, hG, hX, hbl, hbA, hL, hlt⟩ := h0
  have hok := hIv.ok
  have hn30 := hIv.1
  refine lv_aload_n hx hb dL_law_715 rfl (lv_at hl 1 rfl) ?_
  refine lv_aload_n hx hb dL_law_716 rfl (lv_at hl 0 rfl) ?_
  refine lv_iload hx hb dL_law_717 (lv_at hl 5 rfl) ?_
  refine lv_iconst (v := 1) hx hb dL_law_719 (by decide) ?_
  refine lv_iadd hx hb dL_law_720 ?_
  refine lsld (z := x) hx hb hX hbl hbA hS (nI_add i 1) (by omega) (by omega) e1 dL_law_721 ?_
  refine lv_aload_n hx hb dL_law_722 rfl (lv_at hl 3 rfl) ?_
  have hP := P_perm hP pmJ
  have hD := D_perm hD pmJ
  refine kf_i (W2 := (od, oD K gd) :: Mfix K qm td (nI n) th M X) (vx_runSW (As := [.ref (ad 0), .int x, .ref oj]) (rest := []) ⟨hx, hb, hml, hown, hts⟩ (h_heldBack_tb hE hlt hix) (vx_cwSW 3 hts gL_law_L_heldBack rfl rfl rfl (by decide +kernel) ⟨(Nat.le_of_ble_eq_true rfl), (Nat.le_of_ble_eq_true rfl)⟩) (lps hG hP hD hS) rfl rfl hl.1 rfl (lv_room (Nat.le_of_ble_eq_true rfl)) dL_law_723 ⟨(by show _ ≤ 601024; omega), (by show _ ≤ 7293034; omega)⟩) hS hP hD (fun r w H locs hp hP hD hS => ?_)
  obtain ⟨hr, w2, hw, hE⟩ := hp
  subst hw
  subst hr
  have hP := P_perm hP pmJ'
  have hD := D_perm hD pmJ'
  refine lv_istore (lv' := [(6, .int 1), (0, .ref b), (1, .ref (ad 0)), (2, .ref (qm 0)), (3, .ref oj), (4, .ref od), (5, .int (nI i))]) hx hb dL_law_726 hl (by decide) rfl (fun ls hl => ?_)
  refine lv_aload_n hx hb dL_law_728 rfl (lv_at hl 3 rfl) ?_
  refine lv_aload_n hx hb dL_law_729 rfl (lv_at hl 1 rfl) ?_
  refine lv_iload hx hb dL_law_730 (lv_at hl 6 rfl) ?_
  refine lv_iconst (v := 1) hx hb dL_law_732 (by decide) ?_
  refine lv_iadd hx hb dL_law_733 ?_
  refine lsld (z := x) hx hb hX hbl hbA hS (nI_add i 1) (by omega) (by omega) e1 dL_law_734 ?_
  have hP := P_perm hP pmM
  have hD := D_perm hD pmM
  refine kf_i (W2 := w2 ++ [(oj, oJ K g), (od, oD K gd)]) (va_runV (As := [.int x]) (rest := []) ⟨hx, hb, hml, hown, hts⟩ (c_X2_heldBack_1 hn30 hix) (cwV 1 hts gL_law_X2_heldBack rfl rfl rfl (by decide +kernel) ⟨(Nat.le_of_ble_eq_true rfl), (Nat.le_of_ble_eq_true rfl)⟩) (lpv (q0 := 0) hG hP hD hS rfl rfl) rfl rfl hl.1 rfl (lv_room (Nat.le_of_ble_eq_true rfl)) dL_law_735 ⟨(by show _ ≤ 601024; omega), (by show _ ≤ 7293034; omega)⟩) hS hP hD (fun r735 w9 H locs hp hP hD hS => ?_)
  subst hp
  have hP := P_perm hP pmM'
  have hD := D_perm hD pmM'
  refine lv_istore (lv' := [(7, .int r735), (6, .int 1), (0, .ref b), (1, .ref (ad 0)), (2, .ref (qm 0)), (3, .ref oj), (4, .ref od), (5, .int (nI i))]) hx hb dL_law_738 hl (by decide) rfl (fun ls hl => ?_)
  refine lv_aload_n hx hb dL_law_740 rfl (lv_at hl 4 rfl) ?_
  have hP := P_perm hP pmM
  have hD := D_perm hD pmM
  refine kf_i (W2 := w2 ++ [(oj, oJ K g), (od, oD K gd)]) (va_runV (As := []) (rest := []) ⟨hx, hb, hml, hown, hts⟩ (c_X2_thrown) (cwV 0 hts gL_law_X2_thrown rfl rfl rfl (by decide +kernel) ⟨(Nat.le_of_ble_eq_true rfl), (Nat.le_of_ble_eq_true rfl)⟩) (lpv (q0 := 0) hG hP hD hS rfl rfl) rfl rfl hl.1 rfl (lv_room (Nat.le_of_ble_eq_true rfl)) dL_law_741 ⟨(by show _ ≤ 601024; omega), (by show _ ≤ 7293034; omega)⟩) hS hP hD (fun r741 w9 H locs hp hP hD hS => ?_)
  obtain ⟨hr, hw⟩ := hp
  subst hw
  subst hr
  have hP := P_perm hP pmM'
  have hD := D_perm hD pmM'
  refine lv_iload hx hb dL_law_744 (lv_at hl 1 rfl) ?_
  refine lv_icmp_eq (tgt := 751) hx hb dL_law_746 (by decide) (fun h746 => ?_) (fun h746 => False.elim (h746 rfl))
  refine lv_iload hx hb dL_law_751 (lv_at hl 1 rfl) ?_
  refine lv_if_ne (tgt := 768) hx hb dL_law_753 (by decide) (fun h753 => ?_) (fun h753 => False.elim (absurd h753 (by decide)))
  refine lv_goto (tgt := 1346) hx hb dL_law_768 (by decide) ?_
  exact W.widen (k := cells + 31) (n := slots + 1806) (by omega) (by omega) (kk _ _ _ _ _ _ _ _ _ H locs ls hE (hIv.up) hP hD hS (lv_sub hl [2, 3, 4, 5, 6, 7] rfl))
set_option maxHeartbeats 4000000 in
set_option maxRecDepth 100000 in
theorem q_heldBack {p : Program} {l : Launch} {e : Env} {s : State} {m : MethodId} {args : Array Value} {below : List Frame} {meth : Method} {c : Code} {H : Heap} {locs : List Loc} {cells slots : Nat} {Q : State → Prop} {ls : Array Slot} {K : Ks} {A : Nat → Prop} {ad bad qm : Nat → Nat} {td th : Int32} {n : Nat} {M X : Nat → Nat → Int32} {w : va_W} {oj od : Nat} {g : Nat → Int64} {gd : Nat → UInt64} {b L i j : Nat} {xs : Nat → Int32} (h0 : LSt p l s m args c K A b L xs) (hE : DkE K ad bad td n M w) (hIv : Iv j td n M) (hP : va_P K.1 kCl (CW K qm oj od td n th M X w g gd) H) (hD : va_D A (CW K qm oj od td n th M X w g gd)) (hS : va_S A s.heap H locs) (hl : lv_has ls 8 [(0, .ref b), (1, .ref (ad 0)), (2, .ref (qm 0)), (3, .ref oj), (4, .ref od), (5, .int (nI i))]) (hi : i + 4 < L) (hcl : cells + 31 ≤ 601024) (hsl : slots + 1806 ≤ 7293034) (hj : j ≤ 100000) (kk : LEnd p l e s m args below meth c Q K A b ad qm oj od i j cells slots) {u : Nat} (hu : u < n) (e1 : xs (i + 1) = nI u) : W p l e room_1 s m args below meth c H locs cells slots Q (F0 m 715 ls []) := by
  obtain ⟨hx, hb, hml, hown, hts, hG, hX, hbl, hbA, hL, hlt⟩ := h0
  have hok := hIv.ok
  have hn30 := hIv.1
  refine lv_aload_n hx hb dL_law_715 rfl (lv_at hl 1 rfl) ?_
  refine lv_aload_n hx hb dL_law_716 rfl (lv_at hl 0 rfl) ?_
  refine lv_iload hx hb dL_law_717 (lv_at hl 5 rfl) ?_
  refine lv_iconst (v := 1) hx hb dL_law_719 (by decide) ?_
  refine lv_iadd hx hb dL_law_720 ?_
  refine lsld (z := nI u) hx hb hX hbl hbA hS (nI_add i 1) (by omega) (by omega) e1 dL_law_721 ?_
  refine lv_aload_n hx hb dL_law_722 rfl (lv_at hl 3 rfl) ?_
  have hP := P_perm hP pmJ
  have hD := D_perm hD pmJ
  refine kf_i (W2 := (od, oD K gd) :: Mfix K qm td (nI n) th M X) (vx_runSW (As := [.ref (ad 0), .int (nI u), .ref oj]) (rest := []) ⟨hx, hb, hml, hown, hts⟩ (h_heldBack hE hu) (vx_cwSW 3 hts gL_law_L_heldBack rfl rfl rfl (by decide +kernel) ⟨(Nat.le_of_ble_eq_true rfl), (Nat.le_of_ble_eq_true rfl)⟩) (lps hG hP hD hS) rfl rfl hl.1 rfl (lv_room (Nat.le_of_ble_eq_true rfl)) dL_law_723 ⟨(by show _ ≤ 601024; omega), (by show _ ≤ 7293034; omega)⟩) hS hP hD (fun r w H locs hp hP hD hS => ?_)
  obtain ⟨hr, w2, g1, hw, hg, hE⟩ := hp
  subst hw
  subst hr
  have hP := P_perm hP pmJ'
  have hD := D_perm hD pmJ'
  refine lv_istore (lv' := [(6, .int 0), (0, .ref b), (1, .ref (ad 0)), (2, .ref (qm 0)), (3, .ref oj), (4, .ref od), (5, .int (nI i))]) hx hb dL_law_726 hl (by decide) rfl (fun ls hl => ?_)
  refine lv_aload_n hx hb dL_law_728 rfl (lv_at hl 3 rfl) ?_
  refine lv_aload_n hx hb dL_law_729 rfl (lv_at hl 1 rfl) ?_
  refine lv_iload hx hb dL_law_730 (lv_at hl 6 rfl) ?_
  refine lv_iconst (v := 1) hx hb dL_law_732 (by decide) ?_
  refine lv_iadd hx hb dL_law_733 ?_
  refine lsld (z := nI u) hx hb hX hbl hbA hS (nI_add i 1) (by omega) (by omega) e1 dL_law_734 ?_
  have hP := P_perm hP pmM
  have hD := D_perm hD pmM
  refine kf_i (W2 := w2 ++ [(oj, oJ K g1), (od, oD K gd)]) (va_runV (As := [.int (nI u)]) (rest := []) ⟨hx, hb, hml, hown, hts⟩ (c_X2_heldBack_ok hn30 hu) (cwV 1 hts gL_law_X2_heldBack rfl rfl rfl (by decide +kernel) ⟨(Nat.le_of_ble_eq_true rfl), (Nat.le_of_ble_eq_true rfl)⟩) (lpv (q0 := 0) hG hP hD hS rfl rfl) rfl rfl hl.1 rfl (lv_room (Nat.le_of_ble_eq_true rfl)) dL_law_735 ⟨(by show _ ≤ 601024; omega), (by show _ ≤ 7293034; omega)⟩) hS hP hD (fun r735 w9 H locs hp hP hD hS => ?_)
  obtain ⟨hr, hw⟩ := hp
  subst hw
  subst hr
  have hP := P_perm hP pmM'
  have hD := D_perm hD pmM'
  refine lv_istore (lv' := [(7, .int (M 9 u)), (6, .int 0), (0, .ref b), (1, .ref (ad 0)), (2, .ref (qm 0)), (3, .ref oj), (4, .ref od), (5, .int (nI i))]) hx hb dL_law_738 hl (by decide) rfl (fun ls hl => ?_)
  refine lv_aload_n hx hb dL_law_740 rfl (lv_at hl 4 rfl) ?_
  have hP := P_perm hP pmM
  have hD := D_perm hD pmM
  refine kf_i (W2 := w2 ++ [(oj, oJ K g1), (od, oD K gd)]) (va_runV (As := []) (rest := []) ⟨hx, hb, hml, hown, hts⟩ (c_X2_thrown) (cwV 0 hts gL_law_X2_thrown rfl rfl rfl (by decide +kernel) ⟨(Nat.le_of_ble_eq_true rfl), (Nat.le_of_ble_eq_true rfl)⟩) (lpv (q0 := 0) hG hP hD hS rfl rfl) rfl rfl hl.1 rfl (lv_room (Nat.le_of_ble_eq_true rfl)) dL_law_741 ⟨(by show _ ≤ 601024; omega), (by show _ ≤ 7293034; omega)⟩) hS hP hD (fun r741 w9 H locs hp hP hD hS => ?_)
  obtain ⟨hr, hw⟩ := hp
  subst hw
  subst hr
  have hP := P_perm hP pmM'
  have hD := D_perm hD pmM'
  refine lv_iload hx hb dL_law_744 (lv_at hl 1 rfl) ?_
  refine lv_icmp_eq (tgt := 751) hx hb dL_law_746 (by decide) (fun h746 => ?_) (fun h746 => False.elim (h746 rfl))
  refine lv_iload hx hb dL_law_751 (lv_at hl 1 rfl) ?_
  refine lv_if_ne (tgt := 768) hx hb dL_law_753 (by decide) (fun h753 => False.elim (absurd rfl h753)) (fun h753 => ?_)
  refine lv_aload_n hx hb dL_law_756 rfl (lv_at hl 5 rfl) ?_
  refine lv_iconst (v := 0) hx hb dL_law_757 (by decide) ?_
  refine llald hx hb hG hP hg dL_law_758 ?_
  refine lv_iload hx hb dL_law_759 (lv_at hl 0 rfl) ?_
  refine lv_i2l (v := ((M 9 u) : Int32).toInt64) hx hb dL_law_761 rfl ?_
  refine llcmp hx hb dL_law_762 ?_
  refine lv_if_eq (tgt := 768) hx hb dL_law_763 (by decide) (fun h763 => ?_) (fun h763 => False.elim (absurd rfl h763))
  refine lv_goto (tgt := 1346) hx hb dL_law_768 (by decide) ?_
  exact W.widen (k := cells + 31) (n := slots + 1806) (by omega) (by omega) (kk _ _ _ _ _ _ _ _ _ H locs ls hE (hIv.up) hP hD hS (lv_sub hl [2, 3, 4, 5, 6, 7] rfl))
set_option maxHeartbeats 4000000 in
set_option maxRecDepth 100000 in
theorem q_approve_tb {p : Program} {l : Launch} {e : Env} {s : State} {m : MethodId} {args : Array Value} {below : List Frame} {meth : Method} {c : Code} {H : Heap} {locs : List Loc} {cells slots : Nat} {Q : State → Prop} {ls : Array Slot} {K : Ks} {A : Nat → Prop} {ad bad qm : Nat → Nat} {td th : Int32} {n : Nat} {M X : Nat → Nat → Int32} {w : va_W} {oj od : Nat} {g : Nat → Int64} {gd : Nat → UInt64} {b L i j : Nat} {xs : Nat → Int32} (h0 : LSt p l s m args c K A b L xs) (hE : DkE K ad bad td n M w) (hIv : Iv j td n M) (hP : va_P K.1 kCl (CW K qm oj od td n th M X w g gd) H) (hD : va_D A (CW K qm oj od td n th M X w g gd)) (hS : va_S A s.heap H locs) (hl : lv_has ls 8 [(0, .ref b), (1, .ref (ad 0)), (2, .ref (qm 0)), (3, .ref oj), (4, .ref od), (5, .int (nI i))]) (hi : i + 4 < L) (hcl : cells + 31 ≤ 601024) (hsl : slots + 1806 ≤ 7293034) (hj : j ≤ 100000) (kk : LEnd p l e s m args below meth c Q K A b ad qm oj od i j cells slots) {x : Int32} (hix : ixBad n x) (e1 : xs (i + 1) = x) : W p l e room_1 s m args below meth c H locs cells slots Q (F0 m 380 ls []) := by
  obtain ⟨hx, hb, hml, hown, hts, hG, hX, hbl, hbA, hL, hlt⟩ := h0
  have hok := hIv.ok
  have hn30 := hIv.1
  refine lv_aload_n hx hb dL_law_380 rfl (lv_at hl 1 rfl) ?_
  refine lv_aload_n hx hb dL_law_381 rfl (lv_at hl 0 rfl) ?_
  refine lv_iload hx hb dL_law_382 (lv_at hl 5 rfl) ?_
  refine lv_iconst (v := 1) hx hb dL_law_384 (by decide) ?_
  refine lv_iadd hx hb dL_law_385 ?_
  refine lsld (z := x) hx hb hX hbl hbA hS (nI_add i 1) (by omega) (by omega) e1 dL_law_386 ?_
  refine lv_aload_n hx hb dL_law_387 rfl (lv_at hl 3 rfl) ?_
  have hP := P_perm hP pmJ
  have hD := D_perm hD pmJ
  refine kf_i (W2 := (od, oD K gd) :: Mfix K qm td (nI n) th M X) (vx_runSW (As := [.ref (ad 0), .int x, .ref oj]) (rest := []) ⟨hx, hb, hml, hown, hts⟩ (h_approve_tb hE hlt hix) (vx_cwSW 3 hts gL_law_L_approve rfl rfl rfl (by decide +kernel) ⟨(Nat.le_of_ble_eq_true rfl), (Nat.le_of_ble_eq_true rfl)⟩) (lps hG hP hD hS) rfl rfl hl.1 rfl (lv_room (Nat.le_of_ble_eq_true rfl)) dL_law_388 ⟨(by show _ ≤ 601024; omega), (by show _ ≤ 7293034; omega)⟩) hS hP hD (fun r w H locs hp hP hD hS => ?_)
  obtain ⟨hr, w2, hw, hE⟩ := hp
  subst hw
  subst hr
  have hP := P_perm hP pmJ'
  have hD := D_perm hD pmJ'
  refine lv_istore (lv' := [(6, .int 1), (0, .ref b), (1, .ref (ad 0)), (2, .ref (qm 0)), (3, .ref oj), (4, .ref od), (5, .int (nI i))]) hx hb dL_law_391 hl (by decide) rfl (fun ls hl => ?_)
  refine lv_aload_n hx hb dL_law_393 rfl (lv_at hl 3 rfl) ?_
  refine lv_aload_n hx hb dL_law_394 rfl (lv_at hl 1 rfl) ?_
  refine lv_iload hx hb dL_law_395 (lv_at hl 6 rfl) ?_
  refine lv_iconst (v := 1) hx hb dL_law_397 (by decide) ?_
  refine lv_iadd hx hb dL_law_398 ?_
  refine lsld (z := x) hx hb hX hbl hbA hS (nI_add i 1) (by omega) (by omega) e1 dL_law_399 ?_
  have hP := P_perm hP pmM
  have hD := D_perm hD pmM
  refine kf_i (W2 := w2 ++ [(oj, oJ K g), (od, oD K gd)]) (va_runV (As := [.int x]) (rest := []) ⟨hx, hb, hml, hown, hts⟩ (c_X2_approve_1 hn30 hix) (cwV 1 hts gL_law_X2_approve rfl rfl rfl (by decide +kernel) ⟨(Nat.le_of_ble_eq_true rfl), (Nat.le_of_ble_eq_true rfl)⟩) (lpv (q0 := 0) hG hP hD hS rfl rfl) rfl rfl hl.1 rfl (lv_room (Nat.le_of_ble_eq_true rfl)) dL_law_400 ⟨(by show _ ≤ 601024; omega), (by show _ ≤ 7293034; omega)⟩) hS hP hD (fun r400 w9 H locs hp hP hD hS => ?_)
  subst hp
  have hP := P_perm hP pmM'
  have hD := D_perm hD pmM'
  refine lv_istore (lv' := [(7, .int r400), (6, .int 1), (0, .ref b), (1, .ref (ad 0)), (2, .ref (qm 0)), (3, .ref oj), (4, .ref od), (5, .int (nI i))]) hx hb dL_law_403 hl (by decide) rfl (fun ls hl => ?_)
  refine lv_aload_n hx hb dL_law_405 rfl (lv_at hl 4 rfl) ?_
  have hP := P_perm hP pmM
  have hD := D_perm hD pmM
  refine kf_i (W2 := w2 ++ [(oj, oJ K g), (od, oD K gd)]) (va_runV (As := []) (rest := []) ⟨hx, hb, hml, hown, hts⟩ (c_X2_thrown) (cwV 0 hts gL_law_X2_thrown rfl rfl rfl (by decide +kernel) ⟨(Nat.le_of_ble_eq_true rfl), (Nat.le_of_ble_eq_true rfl)⟩) (lpv (q0 := 0) hG hP hD hS rfl rfl) rfl rfl hl.1 rfl (lv_room (Nat.le_of_ble_eq_true rfl)) dL_law_406 ⟨(by show _ ≤ 601024; omega), (by show _ ≤ 7293034; omega)⟩) hS hP hD (fun r406 w9 H locs hp hP hD hS => ?_)
  obtain ⟨hr, hw⟩ := hp
  subst hw
  subst hr
  have hP := P_perm hP pmM'
  have hD := D_perm hD pmM'
  refine lv_iload hx hb dL_law_409 (lv_at hl 1 rfl) ?_
  refine lv_icmp_eq (tgt := 416) hx hb dL_law_411 (by decide) (fun h411 => ?_) (fun h411 => False.elim (h411 rfl))
  refine lv_iload hx hb dL_law_416 (lv_at hl 1 rfl) ?_
  refine lv_if_ne (tgt := 440) hx hb dL_law_418 (by decide) (fun h418 => ?_) (fun h418 => False.elim (absurd h418 (by decide)))
  refine lv_goto (tgt := 1346) hx hb dL_law_440 (by decide) ?_
  exact W.widen (k := cells + 31) (n := slots + 1806) (by omega) (by omega) (kk _ _ _ _ _ _ _ _ _ H locs ls hE (hIv.up) hP hD hS (lv_sub hl [2, 3, 4, 5, 6, 7] rfl))
set_option maxHeartbeats 4000000 in
set_option maxRecDepth 100000 in
theorem q_approve_tp {p : Program} {l : Launch} {e : Env} {s : State} {m : MethodId} {args : Array Value} {below : List Frame} {meth : Method} {c : Code} {H : Heap} {locs : List Loc} {cells slots : Nat} {Q : State → Prop} {ls : Array Slot} {K : Ks} {A : Nat → Prop} {ad bad qm : Nat → Nat} {td th : Int32} {n : Nat} {M X : Nat → Nat → Int32} {w : va_W} {oj od : Nat} {g : Nat → Int64} {gd : Nat → UInt64} {b L i j : Nat} {xs : Nat → Int32} (h0 : LSt p l s m args c K A b L xs) (hE : DkE K ad bad td n M w) (hIv : Iv j td n M) (hP : va_P K.1 kCl (CW K qm oj od td n th M X w g gd) H) (hD : va_D A (CW K qm oj od td n th M X w g gd)) (hS : va_S A s.heap H locs) (hl : lv_has ls 8 [(0, .ref b), (1, .ref (ad 0)), (2, .ref (qm 0)), (3, .ref oj), (4, .ref od), (5, .int (nI i))]) (hi : i + 4 < L) (hcl : cells + 31 ≤ 601024) (hsl : slots + 1806 ≤ 7293034) (hj : j ≤ 100000) (kk : LEnd p l e s m args below meth c Q K A b ad qm oj od i j cells slots) {u : Nat} (hu : u < n) (hst : ¬ (M 6 u = 0 ∨ M 6 u = 2)) (e1 : xs (i + 1) = nI u) : W p l e room_1 s m args below meth c H locs cells slots Q (F0 m 380 ls []) := by
  obtain ⟨hx, hb, hml, hown, hts, hG, hX, hbl, hbA, hL, hlt⟩ := h0
  have hok := hIv.ok
  have hn30 := hIv.1
  refine lv_aload_n hx hb dL_law_380 rfl (lv_at hl 1 rfl) ?_
  refine lv_aload_n hx hb dL_law_381 rfl (lv_at hl 0 rfl) ?_
  refine lv_iload hx hb dL_law_382 (lv_at hl 5 rfl) ?_
  refine lv_iconst (v := 1) hx hb dL_law_384 (by decide) ?_
  refine lv_iadd hx hb dL_law_385 ?_
  refine lsld (z := nI u) hx hb hX hbl hbA hS (nI_add i 1) (by omega) (by omega) e1 dL_law_386 ?_
  refine lv_aload_n hx hb dL_law_387 rfl (lv_at hl 3 rfl) ?_
  have hP := P_perm hP pmJ
  have hD := D_perm hD pmJ
  refine kf_i (W2 := (od, oD K gd) :: Mfix K qm td (nI n) th M X) (vx_runSW (As := [.ref (ad 0), .int (nI u), .ref oj]) (rest := []) ⟨hx, hb, hml, hown, hts⟩ (h_approve_tp hE hlt hu hst) (vx_cwSW 3 hts gL_law_L_approve rfl rfl rfl (by decide +kernel) ⟨(Nat.le_of_ble_eq_true rfl), (Nat.le_of_ble_eq_true rfl)⟩) (lps hG hP hD hS) rfl rfl hl.1 rfl (lv_room (Nat.le_of_ble_eq_true rfl)) dL_law_388 ⟨(by show _ ≤ 601024; omega), (by show _ ≤ 7293034; omega)⟩) hS hP hD (fun r w H locs hp hP hD hS => ?_)
  obtain ⟨hr, w2, hw, hE⟩ := hp
  subst hw
  subst hr
  have hP := P_perm hP pmJ'
  have hD := D_perm hD pmJ'
  refine lv_istore (lv' := [(6, .int 2), (0, .ref b), (1, .ref (ad 0)), (2, .ref (qm 0)), (3, .ref oj), (4, .ref od), (5, .int (nI i))]) hx hb dL_law_391 hl (by decide) rfl (fun ls hl => ?_)
  refine lv_aload_n hx hb dL_law_393 rfl (lv_at hl 3 rfl) ?_
  refine lv_aload_n hx hb dL_law_394 rfl (lv_at hl 1 rfl) ?_
  refine lv_iload hx hb dL_law_395 (lv_at hl 6 rfl) ?_
  refine lv_iconst (v := 1) hx hb dL_law_397 (by decide) ?_
  refine lv_iadd hx hb dL_law_398 ?_
  refine lsld (z := nI u) hx hb hX hbl hbA hS (nI_add i 1) (by omega) (by omega) e1 dL_law_399 ?_
  have hP := P_perm hP pmM
  have hD := D_perm hD pmM
  refine kf_i (W2 := w2 ++ [(oj, oJ K g), (od, oD K gd)]) (va_runV (As := [.int (nI u)]) (rest := []) ⟨hx, hb, hml, hown, hts⟩ (c_X2_approve_2 hn30 hu hst) (cwV 1 hts gL_law_X2_approve rfl rfl rfl (by decide +kernel) ⟨(Nat.le_of_ble_eq_true rfl), (Nat.le_of_ble_eq_true rfl)⟩) (lpv (q0 := 0) hG hP hD hS rfl rfl) rfl rfl hl.1 rfl (lv_room (Nat.le_of_ble_eq_true rfl)) dL_law_400 ⟨(by show _ ≤ 601024; omega), (by show _ ≤ 7293034; omega)⟩) hS hP hD (fun r400 w9 H locs hp hP hD hS => ?_)
  subst hp
  have hP := P_perm hP pmM'
  have hD := D_perm hD pmM'
  refine lv_istore (lv' := [(7, .int r400), (6, .int 2), (0, .ref b), (1, .ref (ad 0)), (2, .ref (qm 0)), (3, .ref oj), (4, .ref od), (5, .int (nI i))]) hx hb dL_law_403 hl (by decide) rfl (fun ls hl => ?_)
  refine lv_aload_n hx hb dL_law_405 rfl (lv_at hl 4 rfl) ?_
  have hP := P_perm hP pmM
  have hD := D_perm hD pmM
  refine kf_i (W2 := w2 ++ [(oj, oJ K g), (od, oD K gd)]) (va_runV (As := []) (rest := []) ⟨hx, hb, hml, hown, hts⟩ (c_X2_thrown) (cwV 0 hts gL_law_X2_thrown rfl rfl rfl (by decide +kernel) ⟨(Nat.le_of_ble_eq_true rfl), (Nat.le_of_ble_eq_true rfl)⟩) (lpv (q0 := 0) hG hP hD hS rfl rfl) rfl rfl hl.1 rfl (lv_room (Nat.le_of_ble_eq_true rfl)) dL_law_406 ⟨(by show _ ≤ 601024; omega), (by show _ ≤ 7293034; omega)⟩) hS hP hD (fun r406 w9 H locs hp hP hD hS => ?_)
  obtain ⟨hr, hw⟩ := hp
  subst hw
  subst hr
  have hP := P_perm hP pmM'
  have hD := D_perm hD pmM'
  refine lv_iload hx hb dL_law_409 (lv_at hl 1 rfl) ?_
  refine lv_icmp_eq (tgt := 416) hx hb dL_law_411 (by decide) (fun h411 => ?_) (fun h411 => False.elim (h411 rfl))
  refine lv_iload hx hb dL_law_416 (lv_at hl 1 rfl) ?_
  refine lv_if_ne (tgt := 440) hx hb dL_law_418 (by decide) (fun h418 => ?_) (fun h418 => False.elim (absurd h418 (by decide)))
  refine lv_goto (tgt := 1346) hx hb dL_law_440 (by decide) ?_
  exact W.widen (k := cells + 31) (n := slots + 1806) (by omega) (by omega) (kk _ _ _ _ _ _ _ _ _ H locs ls hE (hIv.up) hP hD hS (lv_sub hl [2, 3, 4, 5, 6, 7] rfl))
set_option maxHeartbeats 4000000 in
set_option maxRecDepth 100000 in
theorem q_approve_p {p : Program} {l : Launch} {e : Env} {s : State} {m : MethodId} {args : Array Value} {below : List Frame} {meth : Method} {c : Code} {H : Heap} {locs : List Loc} {cells slots : Nat} {Q : State → Prop} {ls : Array Slot} {K : Ks} {A : Nat → Prop} {ad bad qm : Nat → Nat} {td th : Int32} {n : Nat} {M X : Nat → Nat → Int32} {w : va_W} {oj od : Nat} {g : Nat → Int64} {gd : Nat → UInt64} {b L i j : Nat} {xs : Nat → Int32} (h0 : LSt p l s m args c K A b L xs) (hE : DkE K ad bad td n M w) (hIv : Iv j td n M) (hP : va_P K.1 kCl (CW K qm oj od td n th M X w g gd) H) (hD : va_D A (CW K qm oj od td n th M X w g gd)) (hS : va_S A s.heap H locs) (hl : lv_has ls 8 [(0, .ref b), (1, .ref (ad 0)), (2, .ref (qm 0)), (3, .ref oj), (4, .ref od), (5, .int (nI i))]) (hi : i + 4 < L) (hcl : cells + 31 ≤ 601024) (hsl : slots + 1806 ≤ 7293034) (hj : j ≤ 100000) (kk : LEnd p l e s m args below meth c Q K A b ad qm oj od i j cells slots) {u : Nat} (hu : u < n) (hst : M 6 u = 0 ∨ M 6 u = 2) (hdue : M 5 u ≤ td) (e1 : xs (i + 1) = nI u) : W p l e room_1 s m args below meth c H locs cells slots Q (F0 m 380 ls []) := by
  obtain ⟨hx, hb, hml, hown, hts, hG, hX, hbl, hbA, hL, hlt⟩ := h0
  have hok := hIv.ok
  have hn30 := hIv.1
  refine lv_aload_n hx hb dL_law_380 rfl (lv_at hl 1 rfl) ?_
  refine lv_aload_n hx hb dL_law_381 rfl (lv_at hl 0 rfl) ?_
  refine lv_iload hx hb dL_law_382 (lv_at hl 5 rfl) ?_
  refine lv_iconst (v := 1) hx hb dL_law_384 (by decide) ?_
  refine lv_iadd hx hb dL_law_385 ?_
  refine lsld (z := nI u) hx hb hX hbl hbA hS (nI_add i 1) (by omega) (by omega) e1 dL_law_386 ?_
  refine lv_aload_n hx hb dL_law_387 rfl (lv_at hl 3 rfl) ?_
  have hP := P_perm hP pmJ
  have hD := D_perm hD pmJ
  refine kf_i (W2 := (od, oD K gd) :: Mfix K qm td (nI n) th M X) (vx_runSW (As := [.ref (ad 0), .int (nI u), .ref oj]) (rest := []) ⟨hx, hb, hml, hown, hts⟩ (h_approve_p hE hu (hok u hu) hst hdue) (vx_cwSW 3 hts gL_law_L_approve rfl rfl rfl (by decide +kernel) ⟨(Nat.le_of_ble_eq_true rfl), (Nat.le_of_ble_eq_true rfl)⟩) (lps hG hP hD hS) rfl rfl hl.1 rfl (lv_room (Nat.le_of_ble_eq_true rfl)) dL_law_388 ⟨(by show _ ≤ 601024; omega), (by show _ ≤ 7293034; omega)⟩) hS hP hD (fun r w H locs hp hP hD hS => ?_)
  obtain ⟨hr, w2, g1, hw, hg, hE⟩ := hp
  subst hw
  subst hr
  have hP := P_perm hP pmJ'
  have hD := D_perm hD pmJ'
  refine lv_istore (lv' := [(6, .int 0), (0, .ref b), (1, .ref (ad 0)), (2, .ref (qm 0)), (3, .ref oj), (4, .ref od), (5, .int (nI i))]) hx hb dL_law_391 hl (by decide) rfl (fun ls hl => ?_)
  refine lv_aload_n hx hb dL_law_393 rfl (lv_at hl 3 rfl) ?_
  refine lv_aload_n hx hb dL_law_394 rfl (lv_at hl 1 rfl) ?_
  refine lv_iload hx hb dL_law_395 (lv_at hl 6 rfl) ?_
  refine lv_iconst (v := 1) hx hb dL_law_397 (by decide) ?_
  refine lv_iadd hx hb dL_law_398 ?_
  refine lsld (z := nI u) hx hb hX hbl hbA hS (nI_add i 1) (by omega) (by omega) e1 dL_law_399 ?_
  have hP := P_perm hP pmM
  have hD := D_perm hD pmM
  refine kf_i (W2 := w2 ++ [(oj, oJ K g1), (od, oD K gd)]) (va_runV (As := [.int (nI u)]) (rest := []) ⟨hx, hb, hml, hown, hts⟩ (c_X2_approve_p hn30 hu (hok u hu) hst hdue) (cwV 1 hts gL_law_X2_approve rfl rfl rfl (by decide +kernel) ⟨(Nat.le_of_ble_eq_true rfl), (Nat.le_of_ble_eq_true rfl)⟩) (lpv (q0 := 0) hG hP hD hS rfl rfl) rfl rfl hl.1 rfl (lv_room (Nat.le_of_ble_eq_true rfl)) dL_law_400 ⟨(by show _ ≤ 601024; omega), (by show _ ≤ 7293034; omega)⟩) hS hP hD (fun r400 w9 H locs hp hP hD hS => ?_)
  obtain ⟨hr, hw⟩ := hp
  subst hw
  subst hr
  have hP := P_perm hP pmM'
  have hD := D_perm hD pmM'
  refine lv_istore (lv' := [(7, .int 1), (6, .int 0), (0, .ref b), (1, .ref (ad 0)), (2, .ref (qm 0)), (3, .ref oj), (4, .ref od), (5, .int (nI i))]) hx hb dL_law_403 hl (by decide) rfl (fun ls hl => ?_)
  refine lv_aload_n hx hb dL_law_405 rfl (lv_at hl 4 rfl) ?_
  have hP := P_perm hP pmM
  have hD := D_perm hD pmM
  refine kf_i (W2 := w2 ++ [(oj, oJ K g1), (od, oD K gd)]) (va_runV (As := []) (rest := []) ⟨hx, hb, hml, hown, hts⟩ (c_X2_thrown) (cwV 0 hts gL_law_X2_thrown rfl rfl rfl (by decide +kernel) ⟨(Nat.le_of_ble_eq_true rfl), (Nat.le_of_ble_eq_true rfl)⟩) (lpv (q0 := 0) hG hP hD hS rfl rfl) rfl rfl hl.1 rfl (lv_room (Nat.le_of_ble_eq_true rfl)) dL_law_406 ⟨(by show _ ≤ 601024; omega), (by show _ ≤ 7293034; omega)⟩) hS hP hD (fun r406 w9 H locs hp hP hD hS => ?_)
  obtain ⟨hr, hw⟩ := hp
  subst hw
  subst hr
  have hP := P_perm hP pmM'
  have hD := D_perm hD pmM'
  refine lv_iload hx hb dL_law_409 (lv_at hl 1 rfl) ?_
  refine lv_icmp_eq (tgt := 416) hx hb dL_law_411 (by decide) (fun h411 => ?_) (fun h411 => False.elim (h411 rfl))
  refine lv_iload hx hb dL_law_416 (lv_at hl 1 rfl) ?_
  refine lv_if_ne (tgt := 440) hx hb dL_law_418 (by decide) (fun h418 => False.elim (absurd rfl h418)) (fun h418 => ?_)
  refine lv_aload_n hx hb dL_law_421 rfl (lv_at hl 5 rfl) ?_
  refine lv_iconst (v := 0) hx hb dL_law_422 (by decide) ?_
  refine llald hx hb hG hP hg dL_law_423 ?_
  refine lv_iload hx hb dL_law_424 (lv_at hl 0 rfl) ?_
  refine lv_if_eq (tgt := 433) hx hb dL_law_426 (by decide) (fun h426 => False.elim (absurd h426 (by decide))) (fun h426 => ?_)
  refine lv_lconst (v := 1) hx hb dL_law_429 (by decide) ?_
  refine lv_goto (tgt := 434) hx hb dL_law_430 (by decide) ?_
  refine llcmp hx hb dL_law_434 ?_
  refine lv_if_eq (tgt := 440) hx hb dL_law_435 (by decide) (fun h435 => ?_) (fun h435 => False.elim (absurd rfl h435))
  refine lv_goto (tgt := 1346) hx hb dL_law_440 (by decide) ?_
  exact W.widen (k := cells + 31) (n := slots + 1806) (by omega) (by omega) (kk _ _ _ _ _ _ _ _ _ H locs ls hE ((hIv.pay hu (Or.inr rfl)).up) hP hD hS (lv_sub hl [2, 3, 4, 5, 6, 7] rfl))
set_option maxHeartbeats 4000000 in
set_option maxRecDepth 100000 in
theorem q_approve_a {p : Program} {l : Launch} {e : Env} {s : State} {m : MethodId} {args : Array Value} {below : List Frame} {meth : Method} {c : Code} {H : Heap} {locs : List Loc} {cells slots : Nat} {Q : State → Prop} {ls : Array Slot} {K : Ks} {A : Nat → Prop} {ad bad qm : Nat → Nat} {td th : Int32} {n : Nat} {M X : Nat → Nat → Int32} {w : va_W} {oj od : Nat} {g : Nat → Int64} {gd : Nat → UInt64} {b L i j : Nat} {xs : Nat → Int32} (h0 : LSt p l s m args c K A b L xs) (hE : DkE K ad bad td n M w) (hIv : Iv j td n M) (hP : va_P K.1 kCl (CW K qm oj od td n th M X w g gd) H) (hD : va_D A (CW K qm oj od td n th M X w g gd)) (hS : va_S A s.heap H locs) (hl : lv_has ls 8 [(0, .ref b), (1, .ref (ad 0)), (2, .ref (qm 0)), (3, .ref oj), (4, .ref od), (5, .int (nI i))]) (hi : i + 4 < L) (hcl : cells + 31 ≤ 601024) (hsl : slots + 1806 ≤ 7293034) (hj : j ≤ 100000) (kk : LEnd p l e s m args below meth c Q K A b ad qm oj od i j cells slots) {u : Nat} (hu : u < n) (hst : M 6 u = 0 ∨ M 6 u = 2) (hdue : ¬ M 5 u ≤ td) (e1 : xs (i + 1) = nI u) : W p l e room_1 s m args below meth c H locs cells slots Q (F0 m 380 ls []) := by
  obtain ⟨hx, hb, hml, hown, hts, hG, hX, hbl, hbA, hL, hlt⟩ := h0
  have hok := hIv.ok
  have hn30 := hIv.1
  refine lv_aload_n hx hb dL_law_380 rfl (lv_at hl 1 rfl) ?_
  refine lv_aload_n hx hb dL_law_381 rfl (lv_at hl 0 rfl) ?_
  refine lv_iload hx hb dL_law_382 (lv_at hl 5 rfl) ?_
  refine lv_iconst (v := 1) hx hb dL_law_384 (by decide) ?_
  refine lv_iadd hx hb dL_law_385 ?_
  refine lsld (z := nI u) hx hb hX hbl hbA hS (nI_add i 1) (by omega) (by omega) e1 dL_law_386 ?_
  refine lv_aload_n hx hb dL_law_387 rfl (lv_at hl 3 rfl) ?_
  have hP := P_perm hP pmJ
  have hD := D_perm hD pmJ
  refine kf_i (W2 := (od, oD K gd) :: Mfix K qm td (nI n) th M X) (vx_runSW (As := [.ref (ad 0), .int (nI u), .ref oj]) (rest := []) ⟨hx, hb, hml, hown, hts⟩ (h_approve_a hE hu hst hdue) (vx_cwSW 3 hts gL_law_L_approve rfl rfl rfl (by decide +kernel) ⟨(Nat.le_of_ble_eq_true rfl), (Nat.le_of_ble_eq_true rfl)⟩) (lps hG hP hD hS) rfl rfl hl.1 rfl (lv_room (Nat.le_of_ble_eq_true rfl)) dL_law_388 ⟨(by show _ ≤ 601024; omega), (by show _ ≤ 7293034; omega)⟩) hS hP hD (fun r w H locs hp hP hD hS => ?_)
  obtain ⟨hr, w2, g1, hw, hg, hE⟩ := hp
  subst hw
  subst hr
  have hP := P_perm hP pmJ'
  have hD := D_perm hD pmJ'
  refine lv_istore (lv' := [(6, .int 0), (0, .ref b), (1, .ref (ad 0)), (2, .ref (qm 0)), (3, .ref oj), (4, .ref od), (5, .int (nI i))]) hx hb dL_law_391 hl (by decide) rfl (fun ls hl => ?_)
  refine lv_aload_n hx hb dL_law_393 rfl (lv_at hl 3 rfl) ?_
  refine lv_aload_n hx hb dL_law_394 rfl (lv_at hl 1 rfl) ?_
  refine lv_iload hx hb dL_law_395 (lv_at hl 6 rfl) ?_
  refine lv_iconst (v := 1) hx hb dL_law_397 (by decide) ?_
  refine lv_iadd hx hb dL_law_398 ?_
  refine lsld (z := nI u) hx hb hX hbl hbA hS (nI_add i 1) (by omega) (by omega) e1 dL_law_399 ?_
  have hP := P_perm hP pmM
  have hD := D_perm hD pmM
  refine kf_i (W2 := w2 ++ [(oj, oJ K g1), (od, oD K gd)]) (va_runV (As := [.int (nI u)]) (rest := []) ⟨hx, hb, hml, hown, hts⟩ (c_X2_approve_a hn30 hu hst hdue) (cwV 1 hts gL_law_X2_approve rfl rfl rfl (by decide +kernel) ⟨(Nat.le_of_ble_eq_true rfl), (Nat.le_of_ble_eq_true rfl)⟩) (lpv (q0 := 0) hG hP hD hS rfl rfl) rfl rfl hl.1 rfl (lv_room (Nat.le_of_ble_eq_true rfl)) dL_law_400 ⟨(by show _ ≤ 601024; omega), (by show _ ≤ 7293034; omega)⟩) hS hP hD (fun r400 w9 H locs hp hP hD hS => ?_)
  obtain ⟨hr, hw⟩ := hp
  subst hw
  subst hr
  have hP := P_perm hP pmM'
  have hD := D_perm hD pmM'
  refine lv_istore (lv' := [(7, .int 0), (6, .int 0), (0, .ref b), (1, .ref (ad 0)), (2, .ref (qm 0)), (3, .ref oj), (4, .ref od), (5, .int (nI i))]) hx hb dL_law_403 hl (by decide) rfl (fun ls hl => ?_)
  refine lv_aload_n hx hb dL_law_405 rfl (lv_at hl 4 rfl) ?_
  have hP := P_perm hP pmM
  have hD := D_perm hD pmM
  refine kf_i (W2 := w2 ++ [(oj, oJ K g1), (od, oD K gd)]) (va_runV (As := []) (rest := []) ⟨hx, hb, hml, hown, hts⟩ (c_X2_thrown) (cwV 0 hts gL_law_X2_thrown rfl rfl rfl (by decide +kernel) ⟨(Nat.le_of_ble_eq_true rfl), (Nat.le_of_ble_eq_true rfl)⟩) (lpv (q0 := 0) hG hP hD hS rfl rfl) rfl rfl hl.1 rfl (lv_room (Nat.le_of_ble_eq_true rfl)) dL_law_406 ⟨(by show _ ≤ 601024; omega), (by show _ ≤ 7293034; omega)⟩) hS hP hD (fun r406 w9 H locs hp hP hD hS => ?_)
  obtain ⟨hr, hw⟩ := hp
  subst hw
  subst hr
  have hP := P_perm hP pmM'
  have hD := D_perm hD pmM'
  refine lv_iload hx hb dL_law_409 (lv_at hl 1 rfl) ?_
  refine lv_icmp_eq (tgt := 416) hx hb dL_law_411 (by decide) (fun h411 => ?_) (fun h411 => False.elim (h411 rfl))
  refine lv_iload hx hb dL_law_416 (lv_at hl 1 rfl) ?_
  refine lv_if_ne (tgt := 440) hx hb dL_law_418 (by decide) (fun h418 => False.elim (absurd rfl h418)) (fun h418 => ?_)
  refine lv_aload_n hx hb dL_law_421 rfl (lv_at hl 5 rfl) ?_
  refine lv_iconst (v := 0) hx hb dL_law_422 (by decide) ?_
  refine llald hx hb hG hP hg dL_law_423 ?_
  refine lv_iload hx hb dL_law_424 (lv_at hl 0 rfl) ?_
  refine lv_if_eq (tgt := 433) hx hb dL_law_426 (by decide) (fun h426 => ?_) (fun h426 => False.elim (absurd rfl h426))
  refine lv_lconst (v := 0) hx hb dL_law_433 (by decide) ?_
  refine llcmp hx hb dL_law_434 ?_
  refine lv_if_eq (tgt := 440) hx hb dL_law_435 (by decide) (fun h435 => ?_) (fun h435 => False.elim (absurd rfl h435))
  refine lv_goto (tgt := 1346) hx hb dL_law_440 (by decide) ?_
  exact W.widen (k := cells + 31) (n := slots + 1806) (by omega) (by omega) (kk _ _ _ _ _ _ _ _ _ H locs ls hE ((hIv.one hu (Or.inr (Or.inr (Or.inl ⟨rfl, Or.inr (Or.inl rfl)⟩)))).up) hP hD hS (lv_sub hl [2, 3, 4, 5, 6, 7] rfl))
set_option maxHeartbeats 4000000 in
set_option maxRecDepth 100000 in
theorem q_dispute_tb {p : Program} {l : Launch} {e : Env} {s : State} {m : MethodId} {args : Array Value} {below : List Frame} {meth : Method} {c : Code} {H : Heap} {locs : List Loc} {cells slots : Nat} {Q : State → Prop} {ls : Array Slot} {K : Ks} {A : Nat → Prop} {ad bad qm : Nat → Nat} {td th : Int32} {n : Nat} {M X : Nat → Nat → Int32} {w : va_W} {oj od : Nat} {g : Nat → Int64} {gd : Nat → UInt64} {b L i j : Nat} {xs : Nat → Int32} (h0 : LSt p l s m args c K A b L xs) (hE : DkE K ad bad td n M w) (hIv : Iv j td n M) (hP : va_P K.1 kCl (CW K qm oj od td n th M X w g gd) H) (hD : va_D A (CW K qm oj od td n th M X w g gd)) (hS : va_S A s.heap H locs) (hl : lv_has ls 8 [(0, .ref b), (1, .ref (ad 0)), (2, .ref (qm 0)), (3, .ref oj), (4, .ref od), (5, .int (nI i))]) (hi : i + 4 < L) (hcl : cells + 31 ≤ 601024) (hsl : slots + 1806 ≤ 7293034) (hj : j ≤ 100000) (kk : LEnd p l e s m args below meth c Q K A b ad qm oj od i j cells slots) {x : Int32} (hix : ixBad n x) (e1 : xs (i + 1) = x) : W p l e room_1 s m args below meth c H locs cells slots Q (F0 m 443 ls []) := by
  obtain ⟨hx, hb, hml, hown, hts, hG, hX, hbl, hbA, hL, hlt⟩ := h0
  have hok := hIv.ok
  have hn30 := hIv.1
  refine lv_aload_n hx hb dL_law_443 rfl (lv_at hl 1 rfl) ?_
  refine lv_aload_n hx hb dL_law_444 rfl (lv_at hl 0 rfl) ?_
  refine lv_iload hx hb dL_law_445 (lv_at hl 5 rfl) ?_
  refine lv_iconst (v := 1) hx hb dL_law_447 (by decide) ?_
  refine lv_iadd hx hb dL_law_448 ?_
  refine lsld (z := x) hx hb hX hbl hbA hS (nI_add i 1) (by omega) (by omega) e1 dL_law_449 ?_
  refine kf_i (W2 := (oj, oJ K g) :: (od, oD K gd) :: Mfix K qm td (nI n) th M X) (vx_runSW (As := [.ref (ad 0), .int x]) (rest := []) ⟨hx, hb, hml, hown, hts⟩ (h_dispute_tb (o := 0) hE hlt hix) (vx_cwSW 2 hts gL_law_L_dispute rfl rfl rfl (by decide +kernel) ⟨(Nat.le_of_ble_eq_true rfl), (Nat.le_of_ble_eq_true rfl)⟩) (lps hG hP hD hS) rfl rfl hl.1 rfl (lv_room (Nat.le_of_ble_eq_true rfl)) dL_law_450 ⟨(by show _ ≤ 601024; omega), (by show _ ≤ 7293034; omega)⟩) hS hP hD (fun r w H locs hp hP hD hS => ?_)
  obtain ⟨hr, hE⟩ := hp
  subst hr
  refine lv_istore (lv' := [(6, .int 1), (0, .ref b), (1, .ref (ad 0)), (2, .ref (qm 0)), (3, .ref oj), (4, .ref od), (5, .int (nI i))]) hx hb dL_law_453 hl (by decide) rfl (fun ls hl => ?_)
  refine lv_aload_n hx hb dL_law_455 rfl (lv_at hl 3 rfl) ?_
  refine lv_aload_n hx hb dL_law_456 rfl (lv_at hl 1 rfl) ?_
  refine lv_iload hx hb dL_law_457 (lv_at hl 6 rfl) ?_
  refine lv_iconst (v := 1) hx hb dL_law_459 (by decide) ?_
  refine lv_iadd hx hb dL_law_460 ?_
  refine lsld (z := x) hx hb hX hbl hbA hS (nI_add i 1) (by omega) (by omega) e1 dL_law_461 ?_
  have hP := P_perm hP pmM
  have hD := D_perm hD pmM
  refine kf_v (W2 := w ++ [(oj, oJ K g), (od, oD K gd)]) (va_runV (As := [.int x]) (rest := []) ⟨hx, hb, hml, hown, hts⟩ (c_X2_dispute_1 hn30 hix) (cwV 1 hts gL_law_X2_dispute rfl rfl rfl (by decide +kernel) ⟨(Nat.le_of_ble_eq_true rfl), (Nat.le_of_ble_eq_true rfl)⟩) (lpv (q0 := 0) hG hP hD hS rfl rfl) rfl rfl hl.1 rfl (lv_room (Nat.le_of_ble_eq_true rfl)) dL_law_462 ⟨(by show _ ≤ 601024; omega), (by show _ ≤ 7293034; omega)⟩) hS hP hD (fun w9 H locs hp hP hD hS => ?_)
  subst hp
  have hP := P_perm hP pmM'
  have hD := D_perm hD pmM'
  refine lv_aload_n hx hb dL_law_465 rfl (lv_at hl 3 rfl) ?_
  have hP := P_perm hP pmM
  have hD := D_perm hD pmM
  refine kf_i (W2 := w ++ [(oj, oJ K g), (od, oD K gd)]) (va_runV (As := []) (rest := []) ⟨hx, hb, hml, hown, hts⟩ (c_X2_thrown) (cwV 0 hts gL_law_X2_thrown rfl rfl rfl (by decide +kernel) ⟨(Nat.le_of_ble_eq_true rfl), (Nat.le_of_ble_eq_true rfl)⟩) (lpv (q0 := 0) hG hP hD hS rfl rfl) rfl rfl hl.1 rfl (lv_room (Nat.le_of_ble_eq_true rfl)) dL_law_466 ⟨(by show _ ≤ 601024; omega), (by show _ ≤ 7293034; omega)⟩) hS hP hD (fun r466 w9 H locs hp hP hD hS => ?_)
  obtain ⟨hr, hw⟩ := hp
  subst hw
  subst hr
  have hP := P_perm hP pmM'
  have hD := D_perm hD pmM'
  refine lv_iload hx hb dL_law_469 (lv_at hl 0 rfl) ?_
  refine lv_icmp_eq (tgt := 476) hx hb dL_law_471 (by decide) (fun h471 => ?_) (fun h471 => False.elim (h471 rfl))
  refine lv_goto (tgt := 1346) hx hb dL_law_476 (by decide) ?_
  exact W.widen (k := cells + 31) (n := slots + 1806) (by omega) (by omega) (kk _ _ _ _ _ _ _ _ _ H locs ls hE (hIv.up) hP hD hS (lv_sub hl [1, 2, 3, 4, 5, 6] rfl))
set_option maxHeartbeats 4000000 in
set_option maxRecDepth 100000 in
theorem q_dispute_tp {p : Program} {l : Launch} {e : Env} {s : State} {m : MethodId} {args : Array Value} {below : List Frame} {meth : Method} {c : Code} {H : Heap} {locs : List Loc} {cells slots : Nat} {Q : State → Prop} {ls : Array Slot} {K : Ks} {A : Nat → Prop} {ad bad qm : Nat → Nat} {td th : Int32} {n : Nat} {M X : Nat → Nat → Int32} {w : va_W} {oj od : Nat} {g : Nat → Int64} {gd : Nat → UInt64} {b L i j : Nat} {xs : Nat → Int32} (h0 : LSt p l s m args c K A b L xs) (hE : DkE K ad bad td n M w) (hIv : Iv j td n M) (hP : va_P K.1 kCl (CW K qm oj od td n th M X w g gd) H) (hD : va_D A (CW K qm oj od td n th M X w g gd)) (hS : va_S A s.heap H locs) (hl : lv_has ls 8 [(0, .ref b), (1, .ref (ad 0)), (2, .ref (qm 0)), (3, .ref oj), (4, .ref od), (5, .int (nI i))]) (hi : i + 4 < L) (hcl : cells + 31 ≤ 601024) (hsl : slots + 1806 ≤ 7293034) (hj : j ≤ 100000) (kk : LEnd p l e s m args below meth c Q K A b ad qm oj od i j cells slots) {u : Nat} (hu : u < n) (hst : ¬ (M 6 u = 0 ∨ M 6 u = 1)) (e1 : xs (i + 1) = nI u) : W p l e room_1 s m args below meth c H locs cells slots Q (F0 m 443 ls []) := by
  obtain ⟨hx, hb, hml, hown, hts, hG, hX, hbl, hbA, hL, hlt⟩ := h0
  have hok := hIv.ok
  have hn30 := hIv.1
  refine lv_aload_n hx hb dL_law_443 rfl (lv_at hl 1 rfl) ?_
  refine lv_aload_n hx hb dL_law_444 rfl (lv_at hl 0 rfl) ?_
  refine lv_iload hx hb dL_law_445 (lv_at hl 5 rfl) ?_
  refine lv_iconst (v := 1) hx hb dL_law_447 (by decide) ?_
  refine lv_iadd hx hb dL_law_448 ?_
  refine lsld (z := nI u) hx hb hX hbl hbA hS (nI_add i 1) (by omega) (by omega) e1 dL_law_449 ?_
  refine kf_i (W2 := (oj, oJ K g) :: (od, oD K gd) :: Mfix K qm td (nI n) th M X) (vx_runSW (As := [.ref (ad 0), .int (nI u)]) (rest := []) ⟨hx, hb, hml, hown, hts⟩ (h_dispute_tp (o := 0) hE hlt hu hst) (vx_cwSW 2 hts gL_law_L_dispute rfl rfl rfl (by decide +kernel) ⟨(Nat.le_of_ble_eq_true rfl), (Nat.le_of_ble_eq_true rfl)⟩) (lps hG hP hD hS) rfl rfl hl.1 rfl (lv_room (Nat.le_of_ble_eq_true rfl)) dL_law_450 ⟨(by show _ ≤ 601024; omega), (by show _ ≤ 7293034; omega)⟩) hS hP hD (fun r w H locs hp hP hD hS => ?_)
  obtain ⟨hr, hE⟩ := hp
  subst hr
  refine lv_istore (lv' := [(6, .int 2), (0, .ref b), (1, .ref (ad 0)), (2, .ref (qm 0)), (3, .ref oj), (4, .ref od), (5, .int (nI i))]) hx hb dL_law_453 hl (by decide) rfl (fun ls hl => ?_)
  refine lv_aload_n hx hb dL_law_455 rfl (lv_at hl 3 rfl) ?_
  refine lv_aload_n hx hb dL_law_456 rfl (lv_at hl 1 rfl) ?_
  refine lv_iload hx hb dL_law_457 (lv_at hl 6 rfl) ?_
  refine lv_iconst (v := 1) hx hb dL_law_459 (by decide) ?_
  refine lv_iadd hx hb dL_law_460 ?_
  refine lsld (z := nI u) hx hb hX hbl hbA hS (nI_add i 1) (by omega) (by omega) e1 dL_law_461 ?_
  have hP := P_perm hP pmM
  have hD := D_perm hD pmM
  refine kf_v (W2 := w ++ [(oj, oJ K g), (od, oD K gd)]) (va_runV (As := [.int (nI u)]) (rest := []) ⟨hx, hb, hml, hown, hts⟩ (c_X2_dispute_2 hn30 hu hst) (cwV 1 hts gL_law_X2_dispute rfl rfl rfl (by decide +kernel) ⟨(Nat.le_of_ble_eq_true rfl), (Nat.le_of_ble_eq_true rfl)⟩) (lpv (q0 := 0) hG hP hD hS rfl rfl) rfl rfl hl.1 rfl (lv_room (Nat.le_of_ble_eq_true rfl)) dL_law_462 ⟨(by show _ ≤ 601024; omega), (by show _ ≤ 7293034; omega)⟩) hS hP hD (fun w9 H locs hp hP hD hS => ?_)
  subst hp
  have hP := P_perm hP pmM'
  have hD := D_perm hD pmM'
  refine lv_aload_n hx hb dL_law_465 rfl (lv_at hl 3 rfl) ?_
  have hP := P_perm hP pmM
  have hD := D_perm hD pmM
  refine kf_i (W2 := w ++ [(oj, oJ K g), (od, oD K gd)]) (va_runV (As := []) (rest := []) ⟨hx, hb, hml, hown, hts⟩ (c_X2_thrown) (cwV 0 hts gL_law_X2_thrown rfl rfl rfl (by decide +kernel) ⟨(Nat.le_of_ble_eq_true rfl), (Nat.le_of_ble_eq_true rfl)⟩) (lpv (q0 := 0) hG hP hD hS rfl rfl) rfl rfl hl.1 rfl (lv_room (Nat.le_of_ble_eq_true rfl)) dL_law_466 ⟨(by show _ ≤ 601024; omega), (by show _ ≤ 7293034; omega)⟩) hS hP hD (fun r466 w9 H locs hp hP hD hS => ?_)
  obtain ⟨hr, hw⟩ := hp
  subst hw
  subst hr
  have hP := P_perm hP pmM'
  have hD := D_perm hD pmM'
  refine lv_iload hx hb dL_law_469 (lv_at hl 0 rfl) ?_
  refine lv_icmp_eq (tgt := 476) hx hb dL_law_471 (by decide) (fun h471 => ?_) (fun h471 => False.elim (h471 rfl))
  refine lv_goto (tgt := 1346) hx hb dL_law_476 (by decide) ?_
  exact W.widen (k := cells + 31) (n := slots + 1806) (by omega) (by omega) (kk _ _ _ _ _ _ _ _ _ H locs ls hE (hIv.up) hP hD hS (lv_sub hl [1, 2, 3, 4, 5, 6] rfl))
set_option maxHeartbeats 4000000 in
set_option maxRecDepth 100000 in
theorem q_dispute {p : Program} {l : Launch} {e : Env} {s : State} {m : MethodId} {args : Array Value} {below : List Frame} {meth : Method} {c : Code} {H : Heap} {locs : List Loc} {cells slots : Nat} {Q : State → Prop} {ls : Array Slot} {K : Ks} {A : Nat → Prop} {ad bad qm : Nat → Nat} {td th : Int32} {n : Nat} {M X : Nat → Nat → Int32} {w : va_W} {oj od : Nat} {g : Nat → Int64} {gd : Nat → UInt64} {b L i j : Nat} {xs : Nat → Int32} (h0 : LSt p l s m args c K A b L xs) (hE : DkE K ad bad td n M w) (hIv : Iv j td n M) (hP : va_P K.1 kCl (CW K qm oj od td n th M X w g gd) H) (hD : va_D A (CW K qm oj od td n th M X w g gd)) (hS : va_S A s.heap H locs) (hl : lv_has ls 8 [(0, .ref b), (1, .ref (ad 0)), (2, .ref (qm 0)), (3, .ref oj), (4, .ref od), (5, .int (nI i))]) (hi : i + 4 < L) (hcl : cells + 31 ≤ 601024) (hsl : slots + 1806 ≤ 7293034) (hj : j ≤ 100000) (kk : LEnd p l e s m args below meth c Q K A b ad qm oj od i j cells slots) {u : Nat} (hu : u < n) (hst : M 6 u = 0 ∨ M 6 u = 1) (e1 : xs (i + 1) = nI u) : W p l e room_1 s m args below meth c H locs cells slots Q (F0 m 443 ls []) := by
  obtain ⟨hx, hb, hml, hown, hts, hG, hX, hbl, hbA, hL, hlt⟩ := h0
  have hok := hIv.ok
  have hn30 := hIv.1
  refine lv_aload_n hx hb dL_law_443 rfl (lv_at hl 1 rfl) ?_
  refine lv_aload_n hx hb dL_law_444 rfl (lv_at hl 0 rfl) ?_
  refine lv_iload hx hb dL_law_445 (lv_at hl 5 rfl) ?_
  refine lv_iconst (v := 1) hx hb dL_law_447 (by decide) ?_
  refine lv_iadd hx hb dL_law_448 ?_
  refine lsld (z := nI u) hx hb hX hbl hbA hS (nI_add i 1) (by omega) (by omega) e1 dL_law_449 ?_
  refine kf_i (W2 := (oj, oJ K g) :: (od, oD K gd) :: Mfix K qm td (nI n) th M X) (vx_runSW (As := [.ref (ad 0), .int (nI u)]) (rest := []) ⟨hx, hb, hml, hown, hts⟩ (h_dispute (o := 0) hE hu hst) (vx_cwSW 2 hts gL_law_L_dispute rfl rfl rfl (by decide +kernel) ⟨(Nat.le_of_ble_eq_true rfl), (Nat.le_of_ble_eq_true rfl)⟩) (lps hG hP hD hS) rfl rfl hl.1 rfl (lv_room (Nat.le_of_ble_eq_true rfl)) dL_law_450 ⟨(by show _ ≤ 601024; omega), (by show _ ≤ 7293034; omega)⟩) hS hP hD (fun r w H locs hp hP hD hS => ?_)
  obtain ⟨hr, hE⟩ := hp
  subst hr
  refine lv_istore (lv' := [(6, .int 0), (0, .ref b), (1, .ref (ad 0)), (2, .ref (qm 0)), (3, .ref oj), (4, .ref od), (5, .int (nI i))]) hx hb dL_law_453 hl (by decide) rfl (fun ls hl => ?_)
  refine lv_aload_n hx hb dL_law_455 rfl (lv_at hl 3 rfl) ?_
  refine lv_aload_n hx hb dL_law_456 rfl (lv_at hl 1 rfl) ?_
  refine lv_iload hx hb dL_law_457 (lv_at hl 6 rfl) ?_
  refine lv_iconst (v := 1) hx hb dL_law_459 (by decide) ?_
  refine lv_iadd hx hb dL_law_460 ?_
  refine lsld (z := nI u) hx hb hX hbl hbA hS (nI_add i 1) (by omega) (by omega) e1 dL_law_461 ?_
  have hP := P_perm hP pmM
  have hD := D_perm hD pmM
  refine kf_v (W2 := w ++ [(oj, oJ K g), (od, oD K gd)]) (va_runV (As := [.int (nI u)]) (rest := []) ⟨hx, hb, hml, hown, hts⟩ (c_X2_dispute_ok hn30 hu hst) (cwV 1 hts gL_law_X2_dispute rfl rfl rfl (by decide +kernel) ⟨(Nat.le_of_ble_eq_true rfl), (Nat.le_of_ble_eq_true rfl)⟩) (lpv (q0 := 0) hG hP hD hS rfl rfl) rfl rfl hl.1 rfl (lv_room (Nat.le_of_ble_eq_true rfl)) dL_law_462 ⟨(by show _ ≤ 601024; omega), (by show _ ≤ 7293034; omega)⟩) hS hP hD (fun w9 H locs hp hP hD hS => ?_)
  subst hp
  have hP := P_perm hP pmM'
  have hD := D_perm hD pmM'
  refine lv_aload_n hx hb dL_law_465 rfl (lv_at hl 3 rfl) ?_
  have hP := P_perm hP pmM
  have hD := D_perm hD pmM
  refine kf_i (W2 := w ++ [(oj, oJ K g), (od, oD K gd)]) (va_runV (As := []) (rest := []) ⟨hx, hb, hml, hown, hts⟩ (c_X2_thrown) (cwV 0 hts gL_law_X2_thrown rfl rfl rfl (by decide +kernel) ⟨(Nat.le_of_ble_eq_true rfl), (Nat.le_of_ble_eq_true rfl)⟩) (lpv (q0 := 0) hG hP hD hS rfl rfl) rfl rfl hl.1 rfl (lv_room (Nat.le_of_ble_eq_true rfl)) dL_law_466 ⟨(by show _ ≤ 601024; omega), (by show _ ≤ 7293034; omega)⟩) hS hP hD (fun r466 w9 H locs hp hP hD hS => ?_)
  obtain ⟨hr, hw⟩ := hp
  subst hw
  subst hr
  have hP := P_perm hP pmM'
  have hD := D_perm hD pmM'
  refine lv_iload hx hb dL_law_469 (lv_at hl 0 rfl) ?_
  refine lv_icmp_eq (tgt := 476) hx hb dL_law_471 (by decide) (fun h471 => ?_) (fun h471 => False.elim (h471 rfl))
  refine lv_goto (tgt := 1346) hx hb dL_law_476 (by decide) ?_
  exact W.widen (k := cells + 31) (n := slots + 1806) (by omega) (by omega) (kk _ _ _ _ _ _ _ _ _ H locs ls hE (((hIv.one hu (Or.inr (Or.inr (Or.inl ⟨rfl, Or.inr (Or.inr (Or.inl rfl))⟩)))).one hu (Or.inr (Or.inr (Or.inr (Or.inl ⟨rfl, Or.inl rfl⟩))))).up) hP hD hS (lv_sub hl [1, 2, 3, 4, 5, 6] rfl))
set_option maxHeartbeats 4000000 in
set_option maxRecDepth 100000 in
theorem q_note_tb {p : Program} {l : Launch} {e : Env} {s : State} {m : MethodId} {args : Array Value} {below : List Frame} {meth : Method} {c : Code} {H : Heap} {locs : List Loc} {cells slots : Nat} {Q : State → Prop} {ls : Array Slot} {K : Ks} {A : Nat → Prop} {ad bad qm : Nat → Nat} {td th : Int32} {n : Nat} {M X : Nat → Nat → Int32} {w : va_W} {oj od : Nat} {g : Nat → Int64} {gd : Nat → UInt64} {b L i j : Nat} {xs : Nat → Int32} (h0 : LSt p l s m args c K A b L xs) (hE : DkE K ad bad td n M w) (hIv : Iv j td n M) (hP : va_P K.1 kCl (CW K qm oj od td n th M X w g gd) H) (hD : va_D A (CW K qm oj od td n th M X w g gd)) (hS : va_S A s.heap H locs) (hl : lv_has ls 8 [(0, .ref b), (1, .ref (ad 0)), (2, .ref (qm 0)), (3, .ref oj), (4, .ref od), (5, .int (nI i))]) (hi : i + 4 < L) (hcl : cells + 31 ≤ 601024) (hsl : slots + 1806 ≤ 7293034) (hj : j ≤ 100000) (kk : LEnd p l e s m args below meth c Q K A b ad qm oj od i j cells slots) {x : Int32} (hix : ixBad n x) {y : Int32} (e1 : xs (i + 1) = x) (e2 : xs (i + 2) = y) : W p l e room_1 s m args below meth c H locs cells slots Q (F0 m 479 ls []) := by
  obtain ⟨hx, hb, hml, hown, hts, hG, hX, hbl, hbA, hL, hlt⟩ := h0
  have hok := hIv.ok
  have hn30 := hIv.1
  refine lv_aload_n hx hb dL_law_479 rfl (lv_at hl 1 rfl) ?_
  refine lv_aload_n hx hb dL_law_480 rfl (lv_at hl 0 rfl) ?_
  refine lv_iload hx hb dL_law_481 (lv_at hl 5 rfl) ?_
  refine lv_iconst (v := 1) hx hb dL_law_483 (by decide) ?_
  refine lv_iadd hx hb dL_law_484 ?_
  refine lsld (z := x) hx hb hX hbl hbA hS (nI_add i 1) (by omega) (by omega) e1 dL_law_485 ?_
  refine lv_aload_n hx hb dL_law_486 rfl (lv_at hl 0 rfl) ?_
  refine lv_iload hx hb dL_law_487 (lv_at hl 5 rfl) ?_
  refine lv_iconst (v := 2) hx hb dL_law_489 (by decide) ?_
  refine lv_iadd hx hb dL_law_490 ?_
  refine lsld (z := y) hx hb hX hbl hbA hS (nI_add i 2) (by omega) (by omega) e2 dL_law_491 ?_
  refine lv_aload_n hx hb dL_law_492 rfl (lv_at hl 3 rfl) ?_
  have hP := P_perm hP pmJ
  have hD := D_perm hD pmJ
  refine kf_i (W2 := (od, oD K gd) :: Mfix K qm td (nI n) th M X) (vx_runSW (As := [.ref (ad 0), .int x, .int y, .ref oj]) (rest := []) ⟨hx, hb, hml, hown, hts⟩ (h_note_tb hE hlt hix) (vx_cwSW 4 hts gL_law_L_note rfl rfl rfl (by decide +kernel) ⟨(Nat.le_of_ble_eq_true rfl), (Nat.le_of_ble_eq_true rfl)⟩) (lps hG hP hD hS) rfl rfl hl.1 rfl (lv_room (Nat.le_of_ble_eq_true rfl)) dL_law_493 ⟨(by show _ ≤ 601024; omega), (by show _ ≤ 7293034; omega)⟩) hS hP hD (fun r w H locs hp hP hD hS => ?_)
  obtain ⟨hr, w2, hw, hE⟩ := hp
  subst hw
  subst hr
  have hP := P_perm hP pmJ'
  have hD := D_perm hD pmJ'
  refine lv_istore (lv' := [(6, .int 1), (0, .ref b), (1, .ref (ad 0)), (2, .ref (qm 0)), (3, .ref oj), (4, .ref od), (5, .int (nI i))]) hx hb dL_law_496 hl (by decide) rfl (fun ls hl => ?_)
  refine lv_aload_n hx hb dL_law_498 rfl (lv_at hl 3 rfl) ?_
  refine lv_aload_n hx hb dL_law_499 rfl (lv_at hl 1 rfl) ?_
  refine lv_iload hx hb dL_law_500 (lv_at hl 6 rfl) ?_
  refine lv_iconst (v := 1) hx hb dL_law_502 (by decide) ?_
  refine lv_iadd hx hb dL_law_503 ?_
  refine lsld (z := x) hx hb hX hbl hbA hS (nI_add i 1) (by omega) (by omega) e1 dL_law_504 ?_
  refine lv_aload_n hx hb dL_law_505 rfl (lv_at hl 1 rfl) ?_
  refine lv_iload hx hb dL_law_506 (lv_at hl 6 rfl) ?_
  refine lv_iconst (v := 2) hx hb dL_law_508 (by decide) ?_
  refine lv_iadd hx hb dL_law_509 ?_
  refine lsld (z := y) hx hb hX hbl hbA hS (nI_add i 2) (by omega) (by omega) e2 dL_law_510 ?_
  have hP := P_perm hP pmM
  have hD := D_perm hD pmM
  refine kf_i (W2 := w2 ++ [(oj, oJ K g), (od, oD K gd)]) (va_runV (As := [.int x, .int y]) (rest := []) ⟨hx, hb, hml, hown, hts⟩ (c_X2_note_1 hn30 hix) (cwV 2 hts gL_law_X2_note rfl rfl rfl (by decide +kernel) ⟨(Nat.le_of_ble_eq_true rfl), (Nat.le_of_ble_eq_true rfl)⟩) (lpv (q0 := 0) hG hP hD hS rfl rfl) rfl rfl hl.1 rfl (lv_room (Nat.le_of_ble_eq_true rfl)) dL_law_511 ⟨(by show _ ≤ 601024; omega), (by show _ ≤ 7293034; omega)⟩) hS hP hD (fun r511 w9 H locs hp hP hD hS => ?_)
  subst hp
  have hP := P_perm hP pmM'
  have hD := D_perm hD pmM'
  refine lv_istore (lv' := [(7, .int r511), (6, .int 1), (0, .ref b), (1, .ref (ad 0)), (2, .ref (qm 0)), (3, .ref oj), (4, .ref od), (5, .int (nI i))]) hx hb dL_law_514 hl (by decide) rfl (fun ls hl => ?_)
  refine lv_aload_n hx hb dL_law_516 rfl (lv_at hl 4 rfl) ?_
  have hP := P_perm hP pmM
  have hD := D_perm hD pmM
  refine kf_i (W2 := w2 ++ [(oj, oJ K g), (od, oD K gd)]) (va_runV (As := []) (rest := []) ⟨hx, hb, hml, hown, hts⟩ (c_X2_thrown) (cwV 0 hts gL_law_X2_thrown rfl rfl rfl (by decide +kernel) ⟨(Nat.le_of_ble_eq_true rfl), (Nat.le_of_ble_eq_true rfl)⟩) (lpv (q0 := 0) hG hP hD hS rfl rfl) rfl rfl hl.1 rfl (lv_room (Nat.le_of_ble_eq_true rfl)) dL_law_517 ⟨(by show _ ≤ 601024; omega), (by show _ ≤ 7293034; omega)⟩) hS hP hD (fun r517 w9 H locs hp hP hD hS => ?_)
  obtain ⟨hr, hw⟩ := hp
  subst hw
  subst hr
  have hP := P_perm hP pmM'
  have hD := D_perm hD pmM'
  refine lv_iload hx hb dL_law_520 (lv_at hl 1 rfl) ?_
  refine lv_icmp_eq (tgt := 527) hx hb dL_law_522 (by decide) (fun h522 => ?_) (fun h522 => False.elim (h522 rfl))
  refine lv_iload hx hb dL_law_527 (lv_at hl 1 rfl) ?_
  refine lv_if_ne (tgt := 544) hx hb dL_law_529 (by decide) (fun h529 => ?_) (fun h529 => False.elim (absurd h529 (by decide)))
  refine lv_goto (tgt := 1346) hx hb dL_law_544 (by decide) ?_
  exact W.widen (k := cells + 31) (n := slots + 1806) (by omega) (by omega) (kk _ _ _ _ _ _ _ _ _ H locs ls hE (hIv.up) hP hD hS (lv_sub hl [2, 3, 4, 5, 6, 7] rfl))
set_option maxHeartbeats 4000000 in
set_option maxRecDepth 100000 in
theorem q_note_tr {p : Program} {l : Launch} {e : Env} {s : State} {m : MethodId} {args : Array Value} {below : List Frame} {meth : Method} {c : Code} {H : Heap} {locs : List Loc} {cells slots : Nat} {Q : State → Prop} {ls : Array Slot} {K : Ks} {A : Nat → Prop} {ad bad qm : Nat → Nat} {td th : Int32} {n : Nat} {M X : Nat → Nat → Int32} {w : va_W} {oj od : Nat} {g : Nat → Int64} {gd : Nat → UInt64} {b L i j : Nat} {xs : Nat → Int32} (h0 : LSt p l s m args c K A b L xs) (hE : DkE K ad bad td n M w) (hIv : Iv j td n M) (hP : va_P K.1 kCl (CW K qm oj od td n th M X w g gd) H) (hD : va_D A (CW K qm oj od td n th M X w g gd)) (hS : va_S A s.heap H locs) (hl : lv_has ls 8 [(0, .ref b), (1, .ref (ad 0)), (2, .ref (qm 0)), (3, .ref oj), (4, .ref od), (5, .int (nI i))]) (hi : i + 4 < L) (hcl : cells + 31 ≤ 601024) (hsl : slots + 1806 ≤ 7293034) (hj : j ≤ 100000) (kk : LEnd p l e s m args below meth c Q K A b ad qm oj od i j cells slots) {u : Nat} (hu : u < n) {y : Int32} (hy : ¬ inR 1 (M 4 u - M 10 u) y) (e1 : xs (i + 1) = nI u) (e2 : xs (i + 2) = y) : W p l e room_1 s m args below meth c H locs cells slots Q (F0 m 479 ls []) := by
  obtain ⟨hx, hb, hml, hown, hts, hG, hX, hbl, hbA, hL, hlt⟩ := h0
  have hok := hIv.ok
  have hn30 := hIv.1
  refine lv_aload_n hx hb dL_law_479 rfl (lv_at hl 1 rfl) ?_
  refine lv_aload_n hx hb dL_law_480 rfl (lv_at hl 0 rfl) ?_
  refine lv_iload hx hb dL_law_481 (lv_at hl 5 rfl) ?_
  refine lv_iconst (v := 1) hx hb dL_law_483 (by decide) ?_
  refine lv_iadd hx hb dL_law_484 ?_
  refine lsld (z := nI u) hx hb hX hbl hbA hS (nI_add i 1) (by omega) (by omega) e1 dL_law_485 ?_
  refine lv_aload_n hx hb dL_law_486 rfl (lv_at hl 0 rfl) ?_
  refine lv_iload hx hb dL_law_487 (lv_at hl 5 rfl) ?_
  refine lv_iconst (v := 2) hx hb dL_law_489 (by decide) ?_
  refine lv_iadd hx hb dL_law_490 ?_
  refine lsld (z := y) hx hb hX hbl hbA hS (nI_add i 2) (by omega) (by omega) e2 dL_law_491 ?_
  refine lv_aload_n hx hb dL_law_492 rfl (lv_at hl 3 rfl) ?_
  have hP := P_perm hP pmJ
  have hD := D_perm hD pmJ
  refine kf_i (W2 := (od, oD K gd) :: Mfix K qm td (nI n) th M X) (vx_runSW (As := [.ref (ad 0), .int (nI u), .int y, .ref oj]) (rest := []) ⟨hx, hb, hml, hown, hts⟩ (h_note_tr hE hlt hu hy) (vx_cwSW 4 hts gL_law_L_note rfl rfl rfl (by decide +kernel) ⟨(Nat.le_of_ble_eq_true rfl), (Nat.le_of_ble_eq_true rfl)⟩) (lps hG hP hD hS) rfl rfl hl.1 rfl (lv_room (Nat.le_of_ble_eq_true rfl)) dL_law_493 ⟨(by show _ ≤ 601024; omega), (by show _ ≤ 7293034; omega)⟩) hS hP hD (fun r w H locs hp hP hD hS => ?_)
  obtain ⟨hr, w2, hw, hE⟩ := hp
  subst hw
  subst hr
  have hP := P_perm hP pmJ'
  have hD := D_perm hD pmJ'
  refine lv_istore (lv' := [(6, .int 2), (0, .ref b), (1, .ref (ad 0)), (2, .ref (qm 0)), (3, .ref oj), (4, .ref od), (5, .int (nI i))]) hx hb dL_law_496 hl (by decide) rfl (fun ls hl => ?_)
  refine lv_aload_n hx hb dL_law_498 rfl (lv_at hl 3 rfl) ?_
  refine lv_aload_n hx hb dL_law_499 rfl (lv_at hl 1 rfl) ?_
  refine lv_iload hx hb dL_law_500 (lv_at hl 6 rfl) ?_
  refine lv_iconst (v := 1) hx hb dL_law_502 (by decide) ?_
  refine lv_iadd hx hb dL_law_503 ?_
  refine lsld (z := nI u) hx hb hX hbl hbA hS (nI_add i 1) (by omega) (by omega) e1 dL_law_504 ?_
  refine lv_aload_n hx hb dL_law_505 rfl (lv_at hl 1 rfl) ?_
  refine lv_iload hx hb dL_law_506 (lv_at hl 6 rfl) ?_
  refine lv_iconst (v := 2) hx hb dL_law_508 (by decide) ?_
  refine lv_iadd hx hb dL_law_509 ?_
  refine lsld (z := y) hx hb hX hbl hbA hS (nI_add i 2) (by omega) (by omega) e2 dL_law_510 ?_
  have hP := P_perm hP pmM
  have hD := D_perm hD pmM
  refine kf_i (W2 := w2 ++ [(oj, oJ K g), (od, oD K gd)]) (va_runV (As := [.int (nI u), .int y]) (rest := []) ⟨hx, hb, hml, hown, hts⟩ (c_X2_note_2 hn30 hu hy) (cwV 2 hts gL_law_X2_note rfl rfl rfl (by decide +kernel) ⟨(Nat.le_of_ble_eq_true rfl), (Nat.le_of_ble_eq_true rfl)⟩) (lpv (q0 := 0) hG hP hD hS rfl rfl) rfl rfl hl.1 rfl (lv_room (Nat.le_of_ble_eq_true rfl)) dL_law_511 ⟨(by show _ ≤ 601024; omega), (by show _ ≤ 7293034; omega)⟩) hS hP hD (fun r511 w9 H locs hp hP hD hS => ?_)
  subst hp
  have hP := P_perm hP pmM'
  have hD := D_perm hD pmM'
  refine lv_istore (lv' := [(7, .int r511), (6, .int 2), (0, .ref b), (1, .ref (ad 0)), (2, .ref (qm 0)), (3, .ref oj), (4, .ref od), (5, .int (nI i))]) hx hb dL_law_514 hl (by decide) rfl (fun ls hl => ?_)
  refine lv_aload_n hx hb dL_law_516 rfl (lv_at hl 4 rfl) ?_
  have hP := P_perm hP pmM
  have hD := D_perm hD pmM
  refine kf_i (W2 := w2 ++ [(oj, oJ K g), (od, oD K gd)]) (va_runV (As := []) (rest := []) ⟨hx, hb, hml, hown, hts⟩ (c_X2_thrown) (cwV 0 hts gL_law_X2_thrown rfl rfl rfl (by decide +kernel) ⟨(Nat.le_of_ble_eq_true rfl), (Nat.le_of_ble_eq_true rfl)⟩) (lpv (q0 := 0) hG hP hD hS rfl rfl) rfl rfl hl.1 rfl (lv_room (Nat.le_of_ble_eq_true rfl)) dL_law_517 ⟨(by show _ ≤ 601024; omega), (by show _ ≤ 7293034; omega)⟩) hS hP hD (fun r517 w9 H locs hp hP hD hS => ?_)
  obtain ⟨hr, hw⟩ := hp
  subst hw
  subst hr
  have hP := P_perm hP pmM'
  have hD := D_perm hD pmM'
  refine lv_iload hx hb dL_law_520 (lv_at hl 1 rfl) ?_
  refine lv_icmp_eq (tgt := 527) hx hb dL_law_522 (by decide) (fun h522 => ?_) (fun h522 => False.elim (h522 rfl))
  refine lv_iload hx hb dL_law_527 (lv_at hl 1 rfl) ?_
  refine lv_if_ne (tgt := 544) hx hb dL_law_529 (by decide) (fun h529 => ?_) (fun h529 => False.elim (absurd h529 (by decide)))
  refine lv_goto (tgt := 1346) hx hb dL_law_544 (by decide) ?_
  exact W.widen (k := cells + 31) (n := slots + 1806) (by omega) (by omega) (kk _ _ _ _ _ _ _ _ _ H locs ls hE (hIv.up) hP hD hS (lv_sub hl [2, 3, 4, 5, 6, 7] rfl))
set_option maxHeartbeats 4000000 in
set_option maxRecDepth 100000 in
theorem q_note_p {p : Program} {l : Launch} {e : Env} {s : State} {m : MethodId} {args : Array Value} {below : List Frame} {meth : Method} {c : Code} {H : Heap} {locs : List Loc} {cells slots : Nat} {Q : State → Prop} {ls : Array Slot} {K : Ks} {A : Nat → Prop} {ad bad qm : Nat → Nat} {td th : Int32} {n : Nat} {M X : Nat → Nat → Int32} {w : va_W} {oj od : Nat} {g : Nat → Int64} {gd : Nat → UInt64} {b L i j : Nat} {xs : Nat → Int32} (h0 : LSt p l s m args c K A b L xs) (hE : DkE K ad bad td n M w) (hIv : Iv j td n M) (hP : va_P K.1 kCl (CW K qm oj od td n th M X w g gd) H) (hD : va_D A (CW K qm oj od td n th M X w g gd)) (hS : va_S A s.heap H locs) (hl : lv_has ls 8 [(0, .ref b), (1, .ref (ad 0)), (2, .ref (qm 0)), (3, .ref oj), (4, .ref od), (5, .int (nI i))]) (hi : i + 4 < L) (hcl : cells + 31 ≤ 601024) (hsl : slots + 1806 ≤ 7293034) (hj : j ≤ 100000) (kk : LEnd p l e s m args below meth c Q K A b ad qm oj od i j cells slots) {u : Nat} (hu : u < n) {y : Int32} (hy : inR 1 (M 4 u - M 10 u) y) (hst : M 6 u = 3 ∨ M 6 u = 4) (hst2 : ¬ M 6 u < 3) (e1 : xs (i + 1) = nI u) (e2 : xs (i + 2) = y) : W p l e room_1 s m args below meth c H locs cells slots Q (F0 m 479 ls []) := by
  obtain ⟨hx, hb, hml, hown, hts, hG, hX, hbl, hbA, hL, hlt⟩ := h0
  have hok := hIv.ok
  have hn30 := hIv.1
  have hn1 := note_I (hIv.2.2.1 u hu) hy
  refine lv_aload_n hx hb dL_law_479 rfl (lv_at hl 1 rfl) ?_
  refine lv_aload_n hx hb dL_law_480 rfl (lv_at hl 0 rfl) ?_
  refine lv_iload hx hb dL_law_481 (lv_at hl 5 rfl) ?_
  refine lv_iconst (v := 1) hx hb dL_law_483 (by decide) ?_
  refine lv_iadd hx hb dL_law_484 ?_
  refine lsld (z := nI u) hx hb hX hbl hbA hS (nI_add i 1) (by omega) (by omega) e1 dL_law_485 ?_
  refine lv_aload_n hx hb dL_law_486 rfl (lv_at hl 0 rfl) ?_
  refine lv_iload hx hb dL_law_487 (lv_at hl 5 rfl) ?_
  refine lv_iconst (v := 2) hx hb dL_law_489 (by decide) ?_
  refine lv_iadd hx hb dL_law_490 ?_
  refine lsld (z := y) hx hb hX hbl hbA hS (nI_add i 2) (by omega) (by omega) e2 dL_law_491 ?_
  refine lv_aload_n hx hb dL_law_492 rfl (lv_at hl 3 rfl) ?_
  have hP := P_perm hP pmJ
  have hD := D_perm hD pmJ
  refine kf_i (W2 := (od, oD K gd) :: Mfix K qm td (nI n) th M X) (vx_runSW (As := [.ref (ad 0), .int (nI u), .int y, .ref oj]) (rest := []) ⟨hx, hb, hml, hown, hts⟩ (h_note_p hE hu (hok u hu) hn1.1 hy hst) (vx_cwSW 4 hts gL_law_L_note rfl rfl rfl (by decide +kernel) ⟨(Nat.le_of_ble_eq_true rfl), (Nat.le_of_ble_eq_true rfl)⟩) (lps hG hP hD hS) rfl rfl hl.1 rfl (lv_room (Nat.le_of_ble_eq_true rfl)) dL_law_493 ⟨(by show _ ≤ 601024; omega), (by show _ ≤ 7293034; omega)⟩) hS hP hD (fun r w H locs hp hP hD hS => ?_)
  obtain ⟨hr, w2, g1, hw, hg, hE⟩ := hp
  subst hw
  subst hr
  have hP := P_perm hP pmJ'
  have hD := D_perm hD pmJ'
  refine lv_istore (lv' := [(6, .int 0), (0, .ref b), (1, .ref (ad 0)), (2, .ref (qm 0)), (3, .ref oj), (4, .ref od), (5, .int (nI i))]) hx hb dL_law_496 hl (by decide) rfl (fun ls hl => ?_)
  refine lv_aload_n hx hb dL_law_498 rfl (lv_at hl 3 rfl) ?_
  refine lv_aload_n hx hb dL_law_499 rfl (lv_at hl 1 rfl) ?_
  refine lv_iload hx hb dL_law_500 (lv_at hl 6 rfl) ?_
  refine lv_iconst (v := 1) hx hb dL_law_502 (by decide) ?_
  refine lv_iadd hx hb dL_law_503 ?_
  refine lsld (z := nI u) hx hb hX hbl hbA hS (nI_add i 1) (by omega) (by omega) e1 dL_law_504 ?_
  refine lv_aload_n hx hb dL_law_505 rfl (lv_at hl 1 rfl) ?_
  refine lv_iload hx hb dL_law_506 (lv_at hl 6 rfl) ?_
  refine lv_iconst (v := 2) hx hb dL_law_508 (by decide) ?_
  refine lv_iadd hx hb dL_law_509 ?_
  refine lsld (z := y) hx hb hX hbl hbA hS (nI_add i 2) (by omega) (by omega) e2 dL_law_510 ?_
  have hP := P_perm hP pmM
  have hD := D_perm hD pmM
  refine kf_i (W2 := w2 ++ [(oj, oJ K g1), (od, oD K gd)]) (va_runV (As := [.int (nI u), .int y]) (rest := []) ⟨hx, hb, hml, hown, hts⟩ (c_X2_note_p hn30 hu (hok u hu) hy hst2 hn1.2.1) (cwV 2 hts gL_law_X2_note rfl rfl rfl (by decide +kernel) ⟨(Nat.le_of_ble_eq_true rfl), (Nat.le_of_ble_eq_true rfl)⟩) (lpv (q0 := 0) hG hP hD hS rfl rfl) rfl rfl hl.1 rfl (lv_room (Nat.le_of_ble_eq_true rfl)) dL_law_511 ⟨(by show _ ≤ 601024; omega), (by show _ ≤ 7293034; omega)⟩) hS hP hD (fun r511 w9 H locs hp hP hD hS => ?_)
  obtain ⟨hr, hw⟩ := hp
  subst hw
  subst hr
  have hP := P_perm hP pmM'
  have hD := D_perm hD pmM'
  refine lv_istore (lv' := [(7, .int (moreS M u y)), (6, .int 0), (0, .ref b), (1, .ref (ad 0)), (2, .ref (qm 0)), (3, .ref oj), (4, .ref od), (5, .int (nI i))]) hx hb dL_law_514 hl (by decide) rfl (fun ls hl => ?_)
  refine lv_aload_n hx hb dL_law_516 rfl (lv_at hl 4 rfl) ?_
  have hP := P_perm hP pmM
  have hD := D_perm hD pmM
  refine kf_i (W2 := w2 ++ [(oj, oJ K g1), (od, oD K gd)]) (va_runV (As := []) (rest := []) ⟨hx, hb, hml, hown, hts⟩ (c_X2_thrown) (cwV 0 hts gL_law_X2_thrown rfl rfl rfl (by decide +kernel) ⟨(Nat.le_of_ble_eq_true rfl), (Nat.le_of_ble_eq_true rfl)⟩) (lpv (q0 := 0) hG hP hD hS rfl rfl) rfl rfl hl.1 rfl (lv_room (Nat.le_of_ble_eq_true rfl)) dL_law_517 ⟨(by show _ ≤ 601024; omega), (by show _ ≤ 7293034; omega)⟩) hS hP hD (fun r517 w9 H locs hp hP hD hS => ?_)
  obtain ⟨hr, hw⟩ := hp
  subst hw
  subst hr
  have hP := P_perm hP pmM'
  have hD := D_perm hD pmM'
  refine lv_iload hx hb dL_law_520 (lv_at hl 1 rfl) ?_
  refine lv_icmp_eq (tgt := 527) hx hb dL_law_522 (by decide) (fun h522 => ?_) (fun h522 => False.elim (h522 rfl))
  refine lv_iload hx hb dL_law_527 (lv_at hl 1 rfl) ?_
  refine lv_if_ne (tgt := 544) hx hb dL_law_529 (by decide) (fun h529 => False.elim (absurd rfl h529)) (fun h529 => ?_)
  refine lv_aload_n hx hb dL_law_532 rfl (lv_at hl 5 rfl) ?_
  refine lv_iconst (v := 0) hx hb dL_law_533 (by decide) ?_
  refine llald hx hb hG hP hg dL_law_534 ?_
  refine lv_iload hx hb dL_law_535 (lv_at hl 0 rfl) ?_
  refine lv_i2l (v := ((moreS M u y) : Int32).toInt64) hx hb dL_law_537 rfl ?_
  refine llcmp hx hb dL_law_538 ?_
  refine lv_if_eq (tgt := 544) hx hb dL_law_539 (by decide) (fun h539 => ?_) (fun h539 => False.elim (absurd rfl h539))
  refine lv_goto (tgt := 1346) hx hb dL_law_544 (by decide) ?_
  exact W.widen (k := cells + 31) (n := slots + 1806) (by omega) (by omega) (kk _ _ _ _ _ _ _ _ _ H locs ls hE (((hIv.one hu (Or.inr (Or.inr (Or.inr (Or.inr (Or.inr ⟨rfl, hn1.2.2.1⟩)))))).hi (by decide)).up) hP hD hS (lv_sub hl [2, 3, 4, 5, 6, 7] rfl))
set_option maxHeartbeats 4000000 in
set_option maxRecDepth 100000 in
theorem q_note_u {p : Program} {l : Launch} {e : Env} {s : State} {m : MethodId} {args : Array Value} {below : List Frame} {meth : Method} {c : Code} {H : Heap} {locs : List Loc} {cells slots : Nat} {Q : State → Prop} {ls : Array Slot} {K : Ks} {A : Nat → Prop} {ad bad qm : Nat → Nat} {td th : Int32} {n : Nat} {M X : Nat → Nat → Int32} {w : va_W} {oj od : Nat} {g : Nat → Int64} {gd : Nat → UInt64} {b L i j : Nat} {xs : Nat → Int32} (h0 : LSt p l s m args c K A b L xs) (hE : DkE K ad bad td n M w) (hIv : Iv j td n M) (hP : va_P K.1 kCl (CW K qm oj od td n th M X w g gd) H) (hD : va_D A (CW K qm oj od td n th M X w g gd)) (hS : va_S A s.heap H locs) (hl : lv_has ls 8 [(0, .ref b), (1, .ref (ad 0)), (2, .ref (qm 0)), (3, .ref oj), (4, .ref od), (5, .int (nI i))]) (hi : i + 4 < L) (hcl : cells + 31 ≤ 601024) (hsl : slots + 1806 ≤ 7293034) (hj : j ≤ 100000) (kk : LEnd p l e s m args below meth c Q K A b ad qm oj od i j cells slots) {u : Nat} (hu : u < n) {y : Int32} (hy : inR 1 (M 4 u - M 10 u) y) (hst : ¬ (M 6 u = 3 ∨ M 6 u = 4)) (hst2 : M 6 u < 3) (e1 : xs (i + 1) = nI u) (e2 : xs (i + 2) = y) : W p l e room_1 s m args below meth c H locs cells slots Q (F0 m 479 ls []) := by
  obtain ⟨hx, hb, hml, hown, hts, hG, hX, hbl, hbA, hL, hlt⟩ := h0
  have hok := hIv.ok
  have hn30 := hIv.1
  have hn1 := note_I (hIv.2.2.1 u hu) hy
  refine lv_aload_n hx hb dL_law_479 rfl (lv_at hl 1 rfl) ?_
  refine lv_aload_n hx hb dL_law_480 rfl (lv_at hl 0 rfl) ?_
  refine lv_iload hx hb dL_law_481 (lv_at hl 5 rfl) ?_
  refine lv_iconst (v := 1) hx hb dL_law_483 (by decide) ?_
  refine lv_iadd hx hb dL_law_484 ?_
  refine lsld (z := nI u) hx hb hX hbl hbA hS (nI_add i 1) (by omega) (by omega) e1 dL_law_485 ?_
  refine lv_aload_n hx hb dL_law_486 rfl (lv_at hl 0 rfl) ?_
  refine lv_iload hx hb dL_law_487 (lv_at hl 5 rfl) ?_
  refine lv_iconst (v := 2) hx hb dL_law_489 (by decide) ?_
  refine lv_iadd hx hb dL_law_490 ?_
  refine lsld (z := y) hx hb hX hbl hbA hS (nI_add i 2) (by omega) (by omega) e2 dL_law_491 ?_
  refine lv_aload_n hx hb dL_law_492 rfl (lv_at hl 3 rfl) ?_
  have hP := P_perm hP pmJ
  have hD := D_perm hD pmJ
  refine kf_i (W2 := (od, oD K gd) :: Mfix K qm td (nI n) th M X) (vx_runSW (As := [.ref (ad 0), .int (nI u), .int y, .ref oj]) (rest := []) ⟨hx, hb, hml, hown, hts⟩ (h_note_u hE hu hy hst) (vx_cwSW 4 hts gL_law_L_note rfl rfl rfl (by decide +kernel) ⟨(Nat.le_of_ble_eq_true rfl), (Nat.le_of_ble_eq_true rfl)⟩) (lps hG hP hD hS) rfl rfl hl.1 rfl (lv_room (Nat.le_of_ble_eq_true rfl)) dL_law_493 ⟨(by show _ ≤ 601024; omega), (by show _ ≤ 7293034; omega)⟩) hS hP hD (fun r w H locs hp hP hD hS => ?_)
  obtain ⟨hr, w2, g1, hw, hg, hE⟩ := hp
  subst hw
  subst hr
  have hP := P_perm hP pmJ'
  have hD := D_perm hD pmJ'
  refine lv_istore (lv' := [(6, .int 0), (0, .ref b), (1, .ref (ad 0)), (2, .ref (qm 0)), (3, .ref oj), (4, .ref od), (5, .int (nI i))]) hx hb dL_law_496 hl (by decide) rfl (fun ls hl => ?_)
  refine lv_aload_n hx hb dL_law_498 rfl (lv_at hl 3 rfl) ?_
  refine lv_aload_n hx hb dL_law_499 rfl (lv_at hl 1 rfl) ?_
  refine lv_iload hx hb dL_law_500 (lv_at hl 6 rfl) ?_
  refine lv_iconst (v := 1) hx hb dL_law_502 (by decide) ?_
  refine lv_iadd hx hb dL_law_503 ?_
  refine lsld (z := nI u) hx hb hX hbl hbA hS (nI_add i 1) (by omega) (by omega) e1 dL_law_504 ?_
  refine lv_aload_n hx hb dL_law_505 rfl (lv_at hl 1 rfl) ?_
  refine lv_iload hx hb dL_law_506 (lv_at hl 6 rfl) ?_
  refine lv_iconst (v := 2) hx hb dL_law_508 (by decide) ?_
  refine lv_iadd hx hb dL_law_509 ?_
  refine lsld (z := y) hx hb hX hbl hbA hS (nI_add i 2) (by omega) (by omega) e2 dL_law_510 ?_
  have hP := P_perm hP pmM
  have hD := D_perm hD pmM
  refine kf_i (W2 := w2 ++ [(oj, oJ K g1), (od, oD K gd)]) (va_runV (As := [.int (nI u), .int y]) (rest := []) ⟨hx, hb, hml, hown, hts⟩ (c_X2_note_u hn30 hu hy hst2) (cwV 2 hts gL_law_X2_note rfl rfl rfl (by decide +kernel) ⟨(Nat.le_of_ble_eq_true rfl), (Nat.le_of_ble_eq_true rfl)⟩) (lpv (q0 := 0) hG hP hD hS rfl rfl) rfl rfl hl.1 rfl (lv_room (Nat.le_of_ble_eq_true rfl)) dL_law_511 ⟨(by show _ ≤ 601024; omega), (by show _ ≤ 7293034; omega)⟩) hS hP hD (fun r511 w9 H locs hp hP hD hS => ?_)
  obtain ⟨hr, hw⟩ := hp
  subst hw
  subst hr
  have hP := P_perm hP pmM'
  have hD := D_perm hD pmM'
  refine lv_istore (lv' := [(7, .int (M 4 u - y)), (6, .int 0), (0, .ref b), (1, .ref (ad 0)), (2, .ref (qm 0)), (3, .ref oj), (4, .ref od), (5, .int (nI i))]) hx hb dL_law_514 hl (by decide) rfl (fun ls hl => ?_)
  refine lv_aload_n hx hb dL_law_516 rfl (lv_at hl 4 rfl) ?_
  have hP := P_perm hP pmM
  have hD := D_perm hD pmM
  refine kf_i (W2 := w2 ++ [(oj, oJ K g1), (od, oD K gd)]) (va_runV (As := []) (rest := []) ⟨hx, hb, hml, hown, hts⟩ (c_X2_thrown) (cwV 0 hts gL_law_X2_thrown rfl rfl rfl (by decide +kernel) ⟨(Nat.le_of_ble_eq_true rfl), (Nat.le_of_ble_eq_true rfl)⟩) (lpv (q0 := 0) hG hP hD hS rfl rfl) rfl rfl hl.1 rfl (lv_room (Nat.le_of_ble_eq_true rfl)) dL_law_517 ⟨(by show _ ≤ 601024; omega), (by show _ ≤ 7293034; omega)⟩) hS hP hD (fun r517 w9 H locs hp hP hD hS => ?_)
  obtain ⟨hr, hw⟩ := hp
  subst hw
  subst hr
  have hP := P_perm hP pmM'
  have hD := D_perm hD pmM'
  refine lv_iload hx hb dL_law_520 (lv_at hl 1 rfl) ?_
  refine lv_icmp_eq (tgt := 527) hx hb dL_law_522 (by decide) (fun h522 => ?_) (fun h522 => False.elim (h522 rfl))
  refine lv_iload hx hb dL_law_527 (lv_at hl 1 rfl) ?_
  refine lv_if_ne (tgt := 544) hx hb dL_law_529 (by decide) (fun h529 => False.elim (absurd rfl h529)) (fun h529 => ?_)
  refine lv_aload_n hx hb dL_law_532 rfl (lv_at hl 5 rfl) ?_
  refine lv_iconst (v := 0) hx hb dL_law_533 (by decide) ?_
  refine llald hx hb hG hP hg dL_law_534 ?_
  refine lv_iload hx hb dL_law_535 (lv_at hl 0 rfl) ?_
  refine lv_i2l (v := ((M 4 u - y) : Int32).toInt64) hx hb dL_law_537 rfl ?_
  refine llcmp hx hb dL_law_538 ?_
  refine lv_if_eq (tgt := 544) hx hb dL_law_539 (by decide) (fun h539 => ?_) (fun h539 => False.elim (absurd rfl h539))
  refine lv_goto (tgt := 1346) hx hb dL_law_544 (by decide) ?_
  exact W.widen (k := cells + 31) (n := slots + 1806) (by omega) (by omega) (kk _ _ _ _ _ _ _ _ _ H locs ls hE ((hIv.one hu (Or.inr (Or.inr (Or.inr (Or.inr (Or.inl ⟨rfl, hn1.2.2.2⟩)))))).up) hP hD hS (lv_sub hl [2, 3, 4, 5, 6, 7] rfl))
set_option maxHeartbeats 4000000 in
set_option maxRecDepth 100000 in
theorem q_offer_tb {p : Program} {l : Launch} {e : Env} {s : State} {m : MethodId} {args : Array Value} {below : List Frame} {meth : Method} {c : Code} {H : Heap} {locs : List Loc} {cells slots : Nat} {Q : State → Prop} {ls : Array Slot} {K : Ks} {A : Nat → Prop} {ad bad qm : Nat → Nat} {td th : Int32} {n : Nat} {M X : Nat → Nat → Int32} {w : va_W} {oj od : Nat} {g : Nat → Int64} {gd : Nat → UInt64} {b L i j : Nat} {xs : Nat → Int32} (h0 : LSt p l s m args c K A b L xs) (hE : DkE K ad bad td n M w) (hIv : Iv j td n M) (hP : va_P K.1 kCl (CW K qm oj od td n th M X w g gd) H) (hD : va_D A (CW K qm oj od td n th M X w g gd)) (hS : va_S A s.heap H locs) (hl : lv_has ls 8 [(0, .ref b), (1, .ref (ad 0)), (2, .ref (qm 0)), (3, .ref oj), (4, .ref od), (5, .int (nI i))]) (hi : i + 4 < L) (hcl : cells + 31 ≤ 601024) (hsl : slots + 1806 ≤ 7293034) (hj : j ≤ 100000) (kk : LEnd p l e s m args below meth c Q K A b ad qm oj od i j cells slots) {x : Int32} (hix : ixBad n x) {y : Int32} (e1 : xs (i + 1) = x) (e2 : xs (i + 2) = y) : W p l e room_1 s m args below meth c H locs cells slots Q (F0 m 771 ls []) := by
  obtain ⟨hx, hb, hml, hown, hts, hG, hX, hbl, hbA, hL, hlt⟩ := h0
  have hok := hIv.ok
  have hn30 := hIv.1
  refine lv_aload_n hx hb dL_law_771 rfl (lv_at hl 1 rfl) ?_
  refine lv_aload_n hx hb dL_law_772 rfl (lv_at hl 0 rfl) ?_
  refine lv_iload hx hb dL_law_773 (lv_at hl 5 rfl) ?_
  refine lv_iconst (v := 1) hx hb dL_law_775 (by decide) ?_
  refine lv_iadd hx hb dL_law_776 ?_
  refine lsld (z := x) hx hb hX hbl hbA hS (nI_add i 1) (by omega) (by omega) e1 dL_law_777 ?_
  refine lv_aload_n hx hb dL_law_778 rfl (lv_at hl 0 rfl) ?_
  refine lv_iload hx hb dL_law_779 (lv_at hl 5 rfl) ?_
  refine lv_iconst (v := 2) hx hb dL_law_781 (by decide) ?_
  refine lv_iadd hx hb dL_law_782 ?_
  refine lsld (z := y) hx hb hX hbl hbA hS (nI_add i 2) (by omega) (by omega) e2 dL_law_783 ?_
  refine lv_aload_n hx hb dL_law_784 rfl (lv_at hl 3 rfl) ?_
  have hP := P_perm hP pmJ
  have hD := D_perm hD pmJ
  refine kf_i (W2 := (od, oD K gd) :: Mfix K qm td (nI n) th M X) (vx_runSW (As := [.ref (ad 0), .int x, .int y, .ref oj]) (rest := []) ⟨hx, hb, hml, hown, hts⟩ (h_offer_tb hE hlt hix) (vx_cwSW 4 hts gL_law_L_offer rfl rfl rfl (by decide +kernel) ⟨(Nat.le_of_ble_eq_true rfl), (Nat.le_of_ble_eq_true rfl)⟩) (lps hG hP hD hS) rfl rfl hl.1 rfl (lv_room (Nat.le_of_ble_eq_true rfl)) dL_law_785 ⟨(by show _ ≤ 601024; omega), (by show _ ≤ 7293034; omega)⟩) hS hP hD (fun r w H locs hp hP hD hS => ?_)
  obtain ⟨hr, w2, hw, hE⟩ := hp
  subst hw
  subst hr
  have hP := P_perm hP pmJ'
  have hD := D_perm hD pmJ'
  refine lv_istore (lv' := [(6, .int 1), (0, .ref b), (1, .ref (ad 0)), (2, .ref (qm 0)), (3, .ref oj), (4, .ref od), (5, .int (nI i))]) hx hb dL_law_788 hl (by decide) rfl (fun ls hl => ?_)
  refine lv_aload_n hx hb dL_law_790 rfl (lv_at hl 3 rfl) ?_
  refine lv_aload_n hx hb dL_law_791 rfl (lv_at hl 1 rfl) ?_
  refine lv_iload hx hb dL_law_792 (lv_at hl 6 rfl) ?_
  refine lv_iconst (v := 1) hx hb dL_law_794 (by decide) ?_
  refine lv_iadd hx hb dL_law_795 ?_
  refine lsld (z := x) hx hb hX hbl hbA hS (nI_add i 1) (by omega) (by omega) e1 dL_law_796 ?_
  refine lv_aload_n hx hb dL_law_797 rfl (lv_at hl 1 rfl) ?_
  refine lv_iload hx hb dL_law_798 (lv_at hl 6 rfl) ?_
  refine lv_iconst (v := 2) hx hb dL_law_800 (by decide) ?_
  refine lv_iadd hx hb dL_law_801 ?_
  refine lsld (z := y) hx hb hX hbl hbA hS (nI_add i 2) (by omega) (by omega) e2 dL_law_802 ?_
  have hP := P_perm hP pmM
  have hD := D_perm hD pmM
  refine kf_i (W2 := w2 ++ [(oj, oJ K g), (od, oD K gd)]) (va_runV (As := [.int x, .int y]) (rest := []) ⟨hx, hb, hml, hown, hts⟩ (c_X2_offer_1 hn30 hix) (cwV 2 hts gL_law_X2_offer rfl rfl rfl (by decide +kernel) ⟨(Nat.le_of_ble_eq_true rfl), (Nat.le_of_ble_eq_true rfl)⟩) (lpv (q0 := 0) hG hP hD hS rfl rfl) rfl rfl hl.1 rfl (lv_room (Nat.le_of_ble_eq_true rfl)) dL_law_803 ⟨(by show _ ≤ 601024; omega), (by show _ ≤ 7293034; omega)⟩) hS hP hD (fun r803 w9 H locs hp hP hD hS => ?_)
  subst hp
  have hP := P_perm hP pmM'
  have hD := D_perm hD pmM'
  refine lv_istore (lv' := [(7, .int r803), (6, .int 1), (0, .ref b), (1, .ref (ad 0)), (2, .ref (qm 0)), (3, .ref oj), (4, .ref od), (5, .int (nI i))]) hx hb dL_law_806 hl (by decide) rfl (fun ls hl => ?_)
  refine lv_aload_n hx hb dL_law_808 rfl (lv_at hl 4 rfl) ?_
  have hP := P_perm hP pmM
  have hD := D_perm hD pmM
  refine kf_i (W2 := w2 ++ [(oj, oJ K g), (od, oD K gd)]) (va_runV (As := []) (rest := []) ⟨hx, hb, hml, hown, hts⟩ (c_X2_thrown) (cwV 0 hts gL_law_X2_thrown rfl rfl rfl (by decide +kernel) ⟨(Nat.le_of_ble_eq_true rfl), (Nat.le_of_ble_eq_true rfl)⟩) (lpv (q0 := 0) hG hP hD hS rfl rfl) rfl rfl hl.1 rfl (lv_room (Nat.le_of_ble_eq_true rfl)) dL_law_809 ⟨(by show _ ≤ 601024; omega), (by show _ ≤ 7293034; omega)⟩) hS hP hD (fun r809 w9 H locs hp hP hD hS => ?_)
  obtain ⟨hr, hw⟩ := hp
  subst hw
  subst hr
  have hP := P_perm hP pmM'
  have hD := D_perm hD pmM'
  refine lv_iload hx hb dL_law_812 (lv_at hl 1 rfl) ?_
  refine lv_icmp_eq (tgt := 819) hx hb dL_law_814 (by decide) (fun h814 => ?_) (fun h814 => False.elim (h814 rfl))
  refine lv_iload hx hb dL_law_819 (lv_at hl 1 rfl) ?_
  refine lv_if_ne (tgt := 836) hx hb dL_law_821 (by decide) (fun h821 => ?_) (fun h821 => False.elim (absurd h821 (by decide)))
  refine lv_goto (tgt := 1346) hx hb dL_law_836 (by decide) ?_
  exact W.widen (k := cells + 31) (n := slots + 1806) (by omega) (by omega) (kk _ _ _ _ _ _ _ _ _ H locs ls hE (hIv.up) hP hD hS (lv_sub hl [2, 3, 4, 5, 6, 7] rfl))
set_option maxHeartbeats 4000000 in
set_option maxRecDepth 100000 in
theorem q_offer_tr {p : Program} {l : Launch} {e : Env} {s : State} {m : MethodId} {args : Array Value} {below : List Frame} {meth : Method} {c : Code} {H : Heap} {locs : List Loc} {cells slots : Nat} {Q : State → Prop} {ls : Array Slot} {K : Ks} {A : Nat → Prop} {ad bad qm : Nat → Nat} {td th : Int32} {n : Nat} {M X : Nat → Nat → Int32} {w : va_W} {oj od : Nat} {g : Nat → Int64} {gd : Nat → UInt64} {b L i j : Nat} {xs : Nat → Int32} (h0 : LSt p l s m args c K A b L xs) (hE : DkE K ad bad td n M w) (hIv : Iv j td n M) (hP : va_P K.1 kCl (CW K qm oj od td n th M X w g gd) H) (hD : va_D A (CW K qm oj od td n th M X w g gd)) (hS : va_S A s.heap H locs) (hl : lv_has ls 8 [(0, .ref b), (1, .ref (ad 0)), (2, .ref (qm 0)), (3, .ref oj), (4, .ref od), (5, .int (nI i))]) (hi : i + 4 < L) (hcl : cells + 31 ≤ 601024) (hsl : slots + 1806 ≤ 7293034) (hj : j ≤ 100000) (kk : LEnd p l e s m args below meth c Q K A b ad qm oj od i j cells slots) {u : Nat} (hu : u < n) {y : Int32} (hy : ¬ inR 0 5000 y) (e1 : xs (i + 1) = nI u) (e2 : xs (i + 2) = y) : W p l e room_1 s m args below meth c H locs cells slots Q (F0 m 771 ls []) := by
  obtain ⟨hx, hb, hml, hown, hts, hG, hX, hbl, hbA, hL, hlt⟩ := h0
  have hok := hIv.ok
  have hn30 := hIv.1
  refine lv_aload_n hx hb dL_law_771 rfl (lv_at hl 1 rfl) ?_
  refine lv_aload_n hx hb dL_law_772 rfl (lv_at hl 0 rfl) ?_
  refine lv_iload hx hb dL_law_773 (lv_at hl 5 rfl) ?_
  refine lv_iconst (v := 1) hx hb dL_law_775 (by decide) ?_
  refine lv_iadd hx hb dL_law_776 ?_
  refine lsld (z := nI u) hx hb hX hbl hbA hS (nI_add i 1) (by omega) (by omega) e1 dL_law_777 ?_
  refine lv_aload_n hx hb dL_law_778 rfl (lv_at hl 0 rfl) ?_
  refine lv_iload hx hb dL_law_779 (lv_at hl 5 rfl) ?_
  refine lv_iconst (v := 2) hx hb dL_law_781 (by decide) ?_
  refine lv_iadd hx hb dL_law_782 ?_
  refine lsld (z := y) hx hb hX hbl hbA hS (nI_add i 2) (by omega) (by omega) e2 dL_law_783 ?_
  refine lv_aload_n hx hb dL_law_784 rfl (lv_at hl 3 rfl) ?_
  have hP := P_perm hP pmJ
  have hD := D_perm hD pmJ
  refine kf_i (W2 := (od, oD K gd) :: Mfix K qm td (nI n) th M X) (vx_runSW (As := [.ref (ad 0), .int (nI u), .int y, .ref oj]) (rest := []) ⟨hx, hb, hml, hown, hts⟩ (h_offer_tr hE hlt hu hy) (vx_cwSW 4 hts gL_law_L_offer rfl rfl rfl (by decide +kernel) ⟨(Nat.le_of_ble_eq_true rfl), (Nat.le_of_ble_eq_true rfl)⟩) (lps hG hP hD hS) rfl rfl hl.1 rfl (lv_room (Nat.le_of_ble_eq_true rfl)) dL_law_785 ⟨(by show _ ≤ 601024; omega), (by show _ ≤ 7293034; omega)⟩) hS hP hD (fun r w H locs hp hP hD hS => ?_)
  obtain ⟨hr, w2, hw, hE⟩ := hp
  subst hw
  subst hr
  have hP := P_perm hP pmJ'
  have hD := D_perm hD pmJ'
  refine lv_istore (lv' := [(6, .int 2), (0, .ref b), (1, .ref (ad 0)), (2, .ref (qm 0)), (3, .ref oj), (4, .ref od), (5, .int (nI i))]) hx hb dL_law_788 hl (by decide) rfl (fun ls hl => ?_)
  refine lv_aload_n hx hb dL_law_790 rfl (lv_at hl 3 rfl) ?_
  refine lv_aload_n hx hb dL_law_791 rfl (lv_at hl 1 rfl) ?_
  refine lv_iload hx hb dL_law_792 (lv_at hl 6 rfl) ?_
  refine lv_iconst (v := 1) hx hb dL_law_794 (by decide) ?_
  refine lv_iadd hx hb dL_law_795 ?_
  refine lsld (z := nI u) hx hb hX hbl hbA hS (nI_add i 1) (by omega) (by omega) e1 dL_law_796 ?_
  refine lv_aload_n hx hb dL_law_797 rfl (lv_at hl 1 rfl) ?_
  refine lv_iload hx hb dL_law_798 (lv_at hl 6 rfl) ?_
  refine lv_iconst (v := 2) hx hb dL_law_800 (by decide) ?_
  refine lv_iadd hx hb dL_law_801 ?_
  refine lsld (z := y) hx hb hX hbl hbA hS (nI_add i 2) (by omega) (by omega) e2 dL_law_802 ?_
  have hP := P_perm hP pmM
  have hD := D_perm hD pmM
  refine kf_i (W2 := w2 ++ [(oj, oJ K g), (od, oD K gd)]) (va_runV (As := [.int (nI u), .int y]) (rest := []) ⟨hx, hb, hml, hown, hts⟩ (c_X2_offer_2 hn30 hu hy) (cwV 2 hts gL_law_X2_offer rfl rfl rfl (by decide +kernel) ⟨(Nat.le_of_ble_eq_true rfl), (Nat.le_of_ble_eq_true rfl)⟩) (lpv (q0 := 0) hG hP hD hS rfl rfl) rfl rfl hl.1 rfl (lv_room (Nat.le_of_ble_eq_true rfl)) dL_law_803 ⟨(by show _ ≤ 601024; omega), (by show _ ≤ 7293034; omega)⟩) hS hP hD (fun r803 w9 H locs hp hP hD hS => ?_)
  subst hp
  have hP := P_perm hP pmM'
  have hD := D_perm hD pmM'
  refine lv_istore (lv' := [(7, .int r803), (6, .int 2), (0, .ref b), (1, .ref (ad 0)), (2, .ref (qm 0)), (3, .ref oj), (4, .ref od), (5, .int (nI i))]) hx hb dL_law_806 hl (by decide) rfl (fun ls hl => ?_)
  refine lv_aload_n hx hb dL_law_808 rfl (lv_at hl 4 rfl) ?_
  have hP := P_perm hP pmM
  have hD := D_perm hD pmM
  refine kf_i (W2 := w2 ++ [(oj, oJ K g), (od, oD K gd)]) (va_runV (As := []) (rest := []) ⟨hx, hb, hml, hown, hts⟩ (c_X2_thrown) (cwV 0 hts gL_law_X2_thrown rfl rfl rfl (by decide +kernel) ⟨(Nat.le_of_ble_eq_true rfl), (Nat.le_of_ble_eq_true rfl)⟩) (lpv (q0 := 0) hG hP hD hS rfl rfl) rfl rfl hl.1 rfl (lv_room (Nat.le_of_ble_eq_true rfl)) dL_law_809 ⟨(by show _ ≤ 601024; omega), (by show _ ≤ 7293034; omega)⟩) hS hP hD (fun r809 w9 H locs hp hP hD hS => ?_)
  obtain ⟨hr, hw⟩ := hp
  subst hw
  subst hr
  have hP := P_perm hP pmM'
  have hD := D_perm hD pmM'
  refine lv_iload hx hb dL_law_812 (lv_at hl 1 rfl) ?_
  refine lv_icmp_eq (tgt := 819) hx hb dL_law_814 (by decide) (fun h814 => ?_) (fun h814 => False.elim (h814 rfl))
  refine lv_iload hx hb dL_law_819 (lv_at hl 1 rfl) ?_
  refine lv_if_ne (tgt := 836) hx hb dL_law_821 (by decide) (fun h821 => ?_) (fun h821 => False.elim (absurd h821 (by decide)))
  refine lv_goto (tgt := 1346) hx hb dL_law_836 (by decide) ?_
  exact W.widen (k := cells + 31) (n := slots + 1806) (by omega) (by omega) (kk _ _ _ _ _ _ _ _ _ H locs ls hE (hIv.up) hP hD hS (lv_sub hl [2, 3, 4, 5, 6, 7] rfl))
set_option maxHeartbeats 4000000 in
set_option maxRecDepth 100000 in
theorem q_offer_tp {p : Program} {l : Launch} {e : Env} {s : State} {m : MethodId} {args : Array Value} {below : List Frame} {meth : Method} {c : Code} {H : Heap} {locs : List Loc} {cells slots : Nat} {Q : State → Prop} {ls : Array Slot} {K : Ks} {A : Nat → Prop} {ad bad qm : Nat → Nat} {td th : Int32} {n : Nat} {M X : Nat → Nat → Int32} {w : va_W} {oj od : Nat} {g : Nat → Int64} {gd : Nat → UInt64} {b L i j : Nat} {xs : Nat → Int32} (h0 : LSt p l s m args c K A b L xs) (hE : DkE K ad bad td n M w) (hIv : Iv j td n M) (hP : va_P K.1 kCl (CW K qm oj od td n th M X w g gd) H) (hD : va_D A (CW K qm oj od td n th M X w g gd)) (hS : va_S A s.heap H locs) (hl : lv_has ls 8 [(0, .ref b), (1, .ref (ad 0)), (2, .ref (qm 0)), (3, .ref oj), (4, .ref od), (5, .int (nI i))]) (hi : i + 4 < L) (hcl : cells + 31 ≤ 601024) (hsl : slots + 1806 ≤ 7293034) (hj : j ≤ 100000) (kk : LEnd p l e s m args below meth c Q K A b ad qm oj od i j cells slots) {u : Nat} (hu : u < n) {y : Int32} (hy : inR 0 5000 y) (hst : ¬ (M 6 u = 1 ∧ ¬ M 5 u ≤ td)) (e1 : xs (i + 1) = nI u) (e2 : xs (i + 2) = y) : W p l e room_1 s m args below meth c H locs cells slots Q (F0 m 771 ls []) := by
  obtain ⟨hx, hb, hml, hown, hts, hG, hX, hbl, hbA, hL, hlt⟩ := h0
  have hok := hIv.ok
  have hn30 := hIv.1
  refine lv_aload_n hx hb dL_law_771 rfl (lv_at hl 1 rfl) ?_
  refine lv_aload_n hx hb dL_law_772 rfl (lv_at hl 0 rfl) ?_
  refine lv_iload hx hb dL_law_773 (lv_at hl 5 rfl) ?_
  refine lv_iconst (v := 1) hx hb dL_law_775 (by decide) ?_
  refine lv_iadd hx hb dL_law_776 ?_
  refine lsld (z := nI u) hx hb hX hbl hbA hS (nI_add i 1) (by omega) (by omega) e1 dL_law_777 ?_
  refine lv_aload_n hx hb dL_law_778 rfl (lv_at hl 0 rfl) ?_
  refine lv_iload hx hb dL_law_779 (lv_at hl 5 rfl) ?_
  refine lv_iconst (v := 2) hx hb dL_law_781 (by decide) ?_
  refine lv_iadd hx hb dL_law_782 ?_
  refine lsld (z := y) hx hb hX hbl hbA hS (nI_add i 2) (by omega) (by omega) e2 dL_law_783 ?_
  refine lv_aload_n hx hb dL_law_784 rfl (lv_at hl 3 rfl) ?_
  have hP := P_perm hP pmJ
  have hD := D_perm hD pmJ
  refine kf_i (W2 := (od, oD K gd) :: Mfix K qm td (nI n) th M X) (vx_runSW (As := [.ref (ad 0), .int (nI u), .int y, .ref oj]) (rest := []) ⟨hx, hb, hml, hown, hts⟩ (h_offer_tp hE hlt hu hy hst) (vx_cwSW 4 hts gL_law_L_offer rfl rfl rfl (by decide +kernel) ⟨(Nat.le_of_ble_eq_true rfl), (Nat.le_of_ble_eq_true rfl)⟩) (lps hG hP hD hS) rfl rfl hl.1 rfl (lv_room (Nat.le_of_ble_eq_true rfl)) dL_law_785 ⟨(by show _ ≤ 601024; omega), (by show _ ≤ 7293034; omega)⟩) hS hP hD (fun r w H locs hp hP hD hS => ?_)
  obtain ⟨hr, w2, hw, hE⟩ := hp
  subst hw
  subst hr
  have hP := P_perm hP pmJ'
  have hD := D_perm hD pmJ'
  refine lv_istore (lv' := [(6, .int 3), (0, .ref b), (1, .ref (ad 0)), (2, .ref (qm 0)), (3, .ref oj), (4, .ref od), (5, .int (nI i))]) hx hb dL_law_788 hl (by decide) rfl (fun ls hl => ?_)
  refine lv_aload_n hx hb dL_law_790 rfl (lv_at hl 3 rfl) ?_
  refine lv_aload_n hx hb dL_law_791 rfl (lv_at hl 1 rfl) ?_
  refine lv_iload hx hb dL_law_792 (lv_at hl 6 rfl) ?_
  refine lv_iconst (v := 1) hx hb dL_law_794 (by decide) ?_
  refine lv_iadd hx hb dL_law_795 ?_
  refine lsld (z := nI u) hx hb hX hbl hbA hS (nI_add i 1) (by omega) (by omega) e1 dL_law_796 ?_
  refine lv_aload_n hx hb dL_law_797 rfl (lv_at hl 1 rfl) ?_
  refine lv_iload hx hb dL_law_798 (lv_at hl 6 rfl) ?_
  refine lv_iconst (v := 2) hx hb dL_law_800 (by decide) ?_
  refine lv_iadd hx hb dL_law_801 ?_
  refine lsld (z := y) hx hb hX hbl hbA hS (nI_add i 2) (by omega) (by omega) e2 dL_law_802 ?_
  have hP := P_perm hP pmM
  have hD := D_perm hD pmM
  refine kf_i (W2 := w2 ++ [(oj, oJ K g), (od, oD K gd)]) (va_runV (As := [.int (nI u), .int y]) (rest := []) ⟨hx, hb, hml, hown, hts⟩ (c_X2_offer_3 hn30 hu hy hst) (cwV 2 hts gL_law_X2_offer rfl rfl rfl (by decide +kernel) ⟨(Nat.le_of_ble_eq_true rfl), (Nat.le_of_ble_eq_true rfl)⟩) (lpv (q0 := 0) hG hP hD hS rfl rfl) rfl rfl hl.1 rfl (lv_room (Nat.le_of_ble_eq_true rfl)) dL_law_803 ⟨(by show _ ≤ 601024; omega), (by show _ ≤ 7293034; omega)⟩) hS hP hD (fun r803 w9 H locs hp hP hD hS => ?_)
  subst hp
  have hP := P_perm hP pmM'
  have hD := D_perm hD pmM'
  refine lv_istore (lv' := [(7, .int r803), (6, .int 3), (0, .ref b), (1, .ref (ad 0)), (2, .ref (qm 0)), (3, .ref oj), (4, .ref od), (5, .int (nI i))]) hx hb dL_law_806 hl (by decide) rfl (fun ls hl => ?_)
  refine lv_aload_n hx hb dL_law_808 rfl (lv_at hl 4 rfl) ?_
  have hP := P_perm hP pmM
  have hD := D_perm hD pmM
  refine kf_i (W2 := w2 ++ [(oj, oJ K g), (od, oD K gd)]) (va_runV (As := []) (rest := []) ⟨hx, hb, hml, hown, hts⟩ (c_X2_thrown) (cwV 0 hts gL_law_X2_thrown rfl rfl rfl (by decide +kernel) ⟨(Nat.le_of_ble_eq_true rfl), (Nat.le_of_ble_eq_true rfl)⟩) (lpv (q0 := 0) hG hP hD hS rfl rfl) rfl rfl hl.1 rfl (lv_room (Nat.le_of_ble_eq_true rfl)) dL_law_809 ⟨(by show _ ≤ 601024; omega), (by show _ ≤ 7293034; omega)⟩) hS hP hD (fun r809 w9 H locs hp hP hD hS => ?_)
  obtain ⟨hr, hw⟩ := hp
  subst hw
  subst hr
  have hP := P_perm hP pmM'
  have hD := D_perm hD pmM'
  refine lv_iload hx hb dL_law_812 (lv_at hl 1 rfl) ?_
  refine lv_icmp_eq (tgt := 819) hx hb dL_law_814 (by decide) (fun h814 => ?_) (fun h814 => False.elim (h814 rfl))
  refine lv_iload hx hb dL_law_819 (lv_at hl 1 rfl) ?_
  refine lv_if_ne (tgt := 836) hx hb dL_law_821 (by decide) (fun h821 => ?_) (fun h821 => False.elim (absurd h821 (by decide)))
  refine lv_goto (tgt := 1346) hx hb dL_law_836 (by decide) ?_
  exact W.widen (k := cells + 31) (n := slots + 1806) (by omega) (by omega) (kk _ _ _ _ _ _ _ _ _ H locs ls hE (hIv.up) hP hD hS (lv_sub hl [2, 3, 4, 5, 6, 7] rfl))
set_option maxHeartbeats 4000000 in
set_option maxRecDepth 100000 in
theorem q_offer {p : Program} {l : Launch} {e : Env} {s : State} {m : MethodId} {args : Array Value} {below : List Frame} {meth : Method} {c : Code} {H : Heap} {locs : List Loc} {cells slots : Nat} {Q : State → Prop} {ls : Array Slot} {K : Ks} {A : Nat → Prop} {ad bad qm : Nat → Nat} {td th : Int32} {n : Nat} {M X : Nat → Nat → Int32} {w : va_W} {oj od : Nat} {g : Nat → Int64} {gd : Nat → UInt64} {b L i j : Nat} {xs : Nat → Int32} (h0 : LSt p l s m args c K A b L xs) (hE : DkE K ad bad td n M w) (hIv : Iv j td n M) (hP : va_P K.1 kCl (CW K qm oj od td n th M X w g gd) H) (hD : va_D A (CW K qm oj od td n th M X w g gd)) (hS : va_S A s.heap H locs) (hl : lv_has ls 8 [(0, .ref b), (1, .ref (ad 0)), (2, .ref (qm 0)), (3, .ref oj), (4, .ref od), (5, .int (nI i))]) (hi : i + 4 < L) (hcl : cells + 31 ≤ 601024) (hsl : slots + 1806 ≤ 7293034) (hj : j ≤ 100000) (kk : LEnd p l e s m args below meth c Q K A b ad qm oj od i j cells slots) {u : Nat} (hu : u < n) {y : Int32} (hy : inR 0 5000 y) (hst : M 6 u = 1 ∧ ¬ M 5 u ≤ td) (e1 : xs (i + 1) = nI u) (e2 : xs (i + 2) = y) : W p l e room_1 s m args below meth c H locs cells slots Q (F0 m 771 ls []) := by
  obtain ⟨hx, hb, hml, hown, hts, hG, hX, hbl, hbA, hL, hlt⟩ := h0
  have hok := hIv.ok
  have hn30 := hIv.1
  refine lv_aload_n hx hb dL_law_771 rfl (lv_at hl 1 rfl) ?_
  refine lv_aload_n hx hb dL_law_772 rfl (lv_at hl 0 rfl) ?_
  refine lv_iload hx hb dL_law_773 (lv_at hl 5 rfl) ?_
  refine lv_iconst (v := 1) hx hb dL_law_775 (by decide) ?_
  refine lv_iadd hx hb dL_law_776 ?_
  refine lsld (z := nI u) hx hb hX hbl hbA hS (nI_add i 1) (by omega) (by omega) e1 dL_law_777 ?_
  refine lv_aload_n hx hb dL_law_778 rfl (lv_at hl 0 rfl) ?_
  refine lv_iload hx hb dL_law_779 (lv_at hl 5 rfl) ?_
  refine lv_iconst (v := 2) hx hb dL_law_781 (by decide) ?_
  refine lv_iadd hx hb dL_law_782 ?_
  refine lsld (z := y) hx hb hX hbl hbA hS (nI_add i 2) (by omega) (by omega) e2 dL_law_783 ?_
  refine lv_aload_n hx hb dL_law_784 rfl (lv_at hl 3 rfl) ?_
  have hP := P_perm hP pmJ
  have hD := D_perm hD pmJ
  refine kf_i (W2 := (od, oD K gd) :: Mfix K qm td (nI n) th M X) (vx_runSW (As := [.ref (ad 0), .int (nI u), .int y, .ref oj]) (rest := []) ⟨hx, hb, hml, hown, hts⟩ (h_offer hE hu hy hst) (vx_cwSW 4 hts gL_law_L_offer rfl rfl rfl (by decide +kernel) ⟨(Nat.le_of_ble_eq_true rfl), (Nat.le_of_ble_eq_true rfl)⟩) (lps hG hP hD hS) rfl rfl hl.1 rfl (lv_room (Nat.le_of_ble_eq_true rfl)) dL_law_785 ⟨(by show _ ≤ 601024; omega), (by show _ ≤ 7293034; omega)⟩) hS hP hD (fun r w H locs hp hP hD hS => ?_)
  obtain ⟨hr, w2, g1, hw, hg, hE⟩ := hp
  subst hw
  subst hr
  have hP := P_perm hP pmJ'
  have hD := D_perm hD pmJ'
  refine lv_istore (lv' := [(6, .int 0), (0, .ref b), (1, .ref (ad 0)), (2, .ref (qm 0)), (3, .ref oj), (4, .ref od), (5, .int (nI i))]) hx hb dL_law_788 hl (by decide) rfl (fun ls hl => ?_)
  refine lv_aload_n hx hb dL_law_790 rfl (lv_at hl 3 rfl) ?_
  refine lv_aload_n hx hb dL_law_791 rfl (lv_at hl 1 rfl) ?_
  refine lv_iload hx hb dL_law_792 (lv_at hl 6 rfl) ?_
  refine lv_iconst (v := 1) hx hb dL_law_794 (by decide) ?_
  refine lv_iadd hx hb dL_law_795 ?_
  refine lsld (z := nI u) hx hb hX hbl hbA hS (nI_add i 1) (by omega) (by omega) e1 dL_law_796 ?_
  refine lv_aload_n hx hb dL_law_797 rfl (lv_at hl 1 rfl) ?_
  refine lv_iload hx hb dL_law_798 (lv_at hl 6 rfl) ?_
  refine lv_iconst (v := 2) hx hb dL_law_800 (by decide) ?_
  refine lv_iadd hx hb dL_law_801 ?_
  refine lsld (z := y) hx hb hX hbl hbA hS (nI_add i 2) (by omega) (by omega) e2 dL_law_802 ?_
  have hP := P_perm hP pmM
  have hD := D_perm hD pmM
  refine kf_i (W2 := w2 ++ [(oj, oJ K g1), (od, oD K gd)]) (va_runV (As := [.int (nI u), .int y]) (rest := []) ⟨hx, hb, hml, hown, hts⟩ (c_X2_offer_ok hn30 hu hy hst) (cwV 2 hts gL_law_X2_offer rfl rfl rfl (by decide +kernel) ⟨(Nat.le_of_ble_eq_true rfl), (Nat.le_of_ble_eq_true rfl)⟩) (lpv (q0 := 0) hG hP hD hS rfl rfl) rfl rfl hl.1 rfl (lv_room (Nat.le_of_ble_eq_true rfl)) dL_law_803 ⟨(by show _ ≤ 601024; omega), (by show _ ≤ 7293034; omega)⟩) hS hP hD (fun r803 w9 H locs hp hP hD hS => ?_)
  obtain ⟨hr, hw⟩ := hp
  subst hw
  subst hr
  have hP := P_perm hP pmM'
  have hD := D_perm hD pmM'
  refine lv_istore (lv' := [(7, .int (price td (up2 M 7 u y) u)), (6, .int 0), (0, .ref b), (1, .ref (ad 0)), (2, .ref (qm 0)), (3, .ref oj), (4, .ref od), (5, .int (nI i))]) hx hb dL_law_806 hl (by decide) rfl (fun ls hl => ?_)
  refine lv_aload_n hx hb dL_law_808 rfl (lv_at hl 4 rfl) ?_
  have hP := P_perm hP pmM
  have hD := D_perm hD pmM
  refine kf_i (W2 := w2 ++ [(oj, oJ K g1), (od, oD K gd)]) (va_runV (As := []) (rest := []) ⟨hx, hb, hml, hown, hts⟩ (c_X2_thrown) (cwV 0 hts gL_law_X2_thrown rfl rfl rfl (by decide +kernel) ⟨(Nat.le_of_ble_eq_true rfl), (Nat.le_of_ble_eq_true rfl)⟩) (lpv (q0 := 0) hG hP hD hS rfl rfl) rfl rfl hl.1 rfl (lv_room (Nat.le_of_ble_eq_true rfl)) dL_law_809 ⟨(by show _ ≤ 601024; omega), (by show _ ≤ 7293034; omega)⟩) hS hP hD (fun r809 w9 H locs hp hP hD hS => ?_)
  obtain ⟨hr, hw⟩ := hp
  subst hw
  subst hr
  have hP := P_perm hP pmM'
  have hD := D_perm hD pmM'
  refine lv_iload hx hb dL_law_812 (lv_at hl 1 rfl) ?_
  refine lv_icmp_eq (tgt := 819) hx hb dL_law_814 (by decide) (fun h814 => ?_) (fun h814 => False.elim (h814 rfl))
  refine lv_iload hx hb dL_law_819 (lv_at hl 1 rfl) ?_
  refine lv_if_ne (tgt := 836) hx hb dL_law_821 (by decide) (fun h821 => False.elim (absurd rfl h821)) (fun h821 => ?_)
  refine lv_aload_n hx hb dL_law_824 rfl (lv_at hl 5 rfl) ?_
  refine lv_iconst (v := 0) hx hb dL_law_825 (by decide) ?_
  refine llald hx hb hG hP hg dL_law_826 ?_
  refine lv_iload hx hb dL_law_827 (lv_at hl 0 rfl) ?_
  refine lv_i2l (v := ((price td (up2 M 7 u y) u) : Int32).toInt64) hx hb dL_law_829 rfl ?_
  refine llcmp hx hb dL_law_830 ?_
  refine lv_if_eq (tgt := 836) hx hb dL_law_831 (by decide) (fun h831 => ?_) (fun h831 => False.elim (absurd rfl h831))
  refine lv_goto (tgt := 1346) hx hb dL_law_836 (by decide) ?_
  exact W.widen (k := cells + 31) (n := slots + 1806) (by omega) (by omega) (kk _ _ _ _ _ _ _ _ _ H locs ls hE ((hIv.one hu (Or.inr (Or.inr (Or.inr (Or.inl ⟨rfl, Or.inr (inR_I.mp hy)⟩))))).up) hP hD hS (lv_sub hl [2, 3, 4, 5, 6, 7] rfl))
set_option maxHeartbeats 4000000 in
set_option maxRecDepth 100000 in
theorem q_takeBack_tb {p : Program} {l : Launch} {e : Env} {s : State} {m : MethodId} {args : Array Value} {below : List Frame} {meth : Method} {c : Code} {H : Heap} {locs : List Loc} {cells slots : Nat} {Q : State → Prop} {ls : Array Slot} {K : Ks} {A : Nat → Prop} {ad bad qm : Nat → Nat} {td th : Int32} {n : Nat} {M X : Nat → Nat → Int32} {w : va_W} {oj od : Nat} {g : Nat → Int64} {gd : Nat → UInt64} {b L i j : Nat} {xs : Nat → Int32} (h0 : LSt p l s m args c K A b L xs) (hE : DkE K ad bad td n M w) (hIv : Iv j td n M) (hP : va_P K.1 kCl (CW K qm oj od td n th M X w g gd) H) (hD : va_D A (CW K qm oj od td n th M X w g gd)) (hS : va_S A s.heap H locs) (hl : lv_has ls 8 [(0, .ref b), (1, .ref (ad 0)), (2, .ref (qm 0)), (3, .ref oj), (4, .ref od), (5, .int (nI i))]) (hi : i + 4 < L) (hcl : cells + 31 ≤ 601024) (hsl : slots + 1806 ≤ 7293034) (hj : j ≤ 100000) (kk : LEnd p l e s m args below meth c Q K A b ad qm oj od i j cells slots) {x : Int32} (hix : ixBad n x) (e1 : xs (i + 1) = x) : W p l e room_1 s m args below meth c H locs cells slots Q (F0 m 839 ls []) := by
  obtain ⟨hx, hb, hml, hown, hts, hG, hX, hbl, hbA, hL, hlt⟩ := h0
  have hok := hIv.ok
  have hn30 := hIv.1
  refine lv_aload_n hx hb dL_law_839 rfl (lv_at hl 1 rfl) ?_
  refine lv_aload_n hx hb dL_law_840 rfl (lv_at hl 0 rfl) ?_
  refine lv_iload hx hb dL_law_841 (lv_at hl 5 rfl) ?_
  refine lv_iconst (v := 1) hx hb dL_law_843 (by decide) ?_
  refine lv_iadd hx hb dL_law_844 ?_
  refine lsld (z := x) hx hb hX hbl hbA hS (nI_add i 1) (by omega) (by omega) e1 dL_law_845 ?_
  refine lv_aload_n hx hb dL_law_846 rfl (lv_at hl 3 rfl) ?_
  have hP := P_perm hP pmJ
  have hD := D_perm hD pmJ
  refine kf_i (W2 := (od, oD K gd) :: Mfix K qm td (nI n) th M X) (vx_runSW (As := [.ref (ad 0), .int x, .ref oj]) (rest := []) ⟨hx, hb, hml, hown, hts⟩ (h_takeBack_tb hE hlt hix) (vx_cwSW 3 hts gL_law_L_takeBack rfl rfl rfl (by decide +kernel) ⟨(Nat.le_of_ble_eq_true rfl), (Nat.le_of_ble_eq_true rfl)⟩) (lps hG hP hD hS) rfl rfl hl.1 rfl (lv_room (Nat.le_of_ble_eq_true rfl)) dL_law_847 ⟨(by show _ ≤ 601024; omega), (by show _ ≤ 7293034; omega)⟩) hS hP hD (fun r w H locs hp hP hD hS => ?_)
  obtain ⟨hr, w2, hw, hE⟩ := hp
  subst hw
  subst hr
  have hP := P_perm hP pmJ'
  have hD := D_perm hD pmJ'
  refine lv_istore (lv' := [(6, .int 1), (0, .ref b), (1, .ref (ad 0)), (2, .ref (qm 0)), (3, .ref oj), (4, .ref od), (5, .int (nI i))]) hx hb dL_law_850 hl (by decide) rfl (fun ls hl => ?_)
  refine lv_aload_n hx hb dL_law_852 rfl (lv_at hl 3 rfl) ?_
  refine lv_aload_n hx hb dL_law_853 rfl (lv_at hl 1 rfl) ?_
  refine lv_iload hx hb dL_law_854 (lv_at hl 6 rfl) ?_
  refine lv_iconst (v := 1) hx hb dL_law_856 (by decide) ?_
  refine lv_iadd hx hb dL_law_857 ?_
  refine lsld (z := x) hx hb hX hbl hbA hS (nI_add i 1) (by omega) (by omega) e1 dL_law_858 ?_
  have hP := P_perm hP pmM
  have hD := D_perm hD pmM
  refine kf_i (W2 := w2 ++ [(oj, oJ K g), (od, oD K gd)]) (va_runV (As := [.int x]) (rest := []) ⟨hx, hb, hml, hown, hts⟩ (c_X2_takeBack_1 hn30 hix) (cwV 1 hts gL_law_X2_takeBack rfl rfl rfl (by decide +kernel) ⟨(Nat.le_of_ble_eq_true rfl), (Nat.le_of_ble_eq_true rfl)⟩) (lpv (q0 := 0) hG hP hD hS rfl rfl) rfl rfl hl.1 rfl (lv_room (Nat.le_of_ble_eq_true rfl)) dL_law_859 ⟨(by show _ ≤ 601024; omega), (by show _ ≤ 7293034; omega)⟩) hS hP hD (fun r859 w9 H locs hp hP hD hS => ?_)
  subst hp
  have hP := P_perm hP pmM'
  have hD := D_perm hD pmM'
  refine lv_istore (lv' := [(7, .int r859), (6, .int 1), (0, .ref b), (1, .ref (ad 0)), (2, .ref (qm 0)), (3, .ref oj), (4, .ref od), (5, .int (nI i))]) hx hb dL_law_862 hl (by decide) rfl (fun ls hl => ?_)
  refine lv_aload_n hx hb dL_law_864 rfl (lv_at hl 4 rfl) ?_
  have hP := P_perm hP pmM
  have hD := D_perm hD pmM
  refine kf_i (W2 := w2 ++ [(oj, oJ K g), (od, oD K gd)]) (va_runV (As := []) (rest := []) ⟨hx, hb, hml, hown, hts⟩ (c_X2_thrown) (cwV 0 hts gL_law_X2_thrown rfl rfl rfl (by decide +kernel) ⟨(Nat.le_of_ble_eq_true rfl), (Nat.le_of_ble_eq_true rfl)⟩) (lpv (q0 := 0) hG hP hD hS rfl rfl) rfl rfl hl.1 rfl (lv_room (Nat.le_of_ble_eq_true rfl)) dL_law_865 ⟨(by show _ ≤ 601024; omega), (by show _ ≤ 7293034; omega)⟩) hS hP hD (fun r865 w9 H locs hp hP hD hS => ?_)
  obtain ⟨hr, hw⟩ := hp
  subst hw
  subst hr
  have hP := P_perm hP pmM'
  have hD := D_perm hD pmM'
  refine lv_iload hx hb dL_law_868 (lv_at hl 1 rfl) ?_
  refine lv_icmp_eq (tgt := 875) hx hb dL_law_870 (by decide) (fun h870 => ?_) (fun h870 => False.elim (h870 rfl))
  refine lv_iload hx hb dL_law_875 (lv_at hl 1 rfl) ?_
  refine lv_if_ne (tgt := 892) hx hb dL_law_877 (by decide) (fun h877 => ?_) (fun h877 => False.elim (absurd h877 (by decide)))
  refine lv_goto (tgt := 1346) hx hb dL_law_892 (by decide) ?_
  exact W.widen (k := cells + 31) (n := slots + 1806) (by omega) (by omega) (kk _ _ _ _ _ _ _ _ _ H locs ls hE (hIv.up) hP hD hS (lv_sub hl [2, 3, 4, 5, 6, 7] rfl))
set_option maxHeartbeats 4000000 in
set_option maxRecDepth 100000 in
theorem q_takeBack_tp {p : Program} {l : Launch} {e : Env} {s : State} {m : MethodId} {args : Array Value} {below : List Frame} {meth : Method} {c : Code} {H : Heap} {locs : List Loc} {cells slots : Nat} {Q : State → Prop} {ls : Array Slot} {K : Ks} {A : Nat → Prop} {ad bad qm : Nat → Nat} {td th : Int32} {n : Nat} {M X : Nat → Nat → Int32} {w : va_W} {oj od : Nat} {g : Nat → Int64} {gd : Nat → UInt64} {b L i j : Nat} {xs : Nat → Int32} (h0 : LSt p l s m args c K A b L xs) (hE : DkE K ad bad td n M w) (hIv : Iv j td n M) (hP : va_P K.1 kCl (CW K qm oj od td n th M X w g gd) H) (hD : va_D A (CW K qm oj od td n th M X w g gd)) (hS : va_S A s.heap H locs) (hl : lv_has ls 8 [(0, .ref b), (1, .ref (ad 0)), (2, .ref (qm 0)), (3, .ref oj), (4, .ref od), (5, .int (nI i))]) (hi : i + 4 < L) (hcl : cells + 31 ≤ 601024) (hsl : slots + 1806 ≤ 7293034) (hj : j ≤ 100000) (kk : LEnd p l e s m args below meth c Q K A b ad qm oj od i j cells slots) {u : Nat} (hu : u < n) (hst : ¬ (¬ M 7 u = -1 ∧ ¬ (M 6 u = 3 ∨ M 6 u = 4))) (hst2 : ¬ (¬ M 7 u = -1 ∧ M 6 u < 3)) (e1 : xs (i + 1) = nI u) : W p l e room_1 s m args below meth c H locs cells slots Q (F0 m 839 ls []) := by
  obtain ⟨hx, hb, hml, hown, hts, hG, hX, hbl, hbA, hL, hlt⟩ := h0
  have hok := hIv.ok
  have hn30 := hIv.1
  refine lv_aload_n hx hb dL_law_839 rfl (lv_at hl 1 rfl) ?_
  refine lv_aload_n hx hb dL_law_840 rfl (lv_at hl 0 rfl) ?_
  refine lv_iload hx hb dL_law_841 (lv_at hl 5 rfl) ?_
  refine lv_iconst (v := 1) hx hb dL_law_843 (by decide) ?_
  refine lv_iadd hx hb dL_law_844 ?_
  refine lsld (z := nI u) hx hb hX hbl hbA hS (nI_add i 1) (by omega) (by omega) e1 dL_law_845 ?_
  refine lv_aload_n hx hb dL_law_846 rfl (lv_at hl 3 rfl) ?_
  have hP := P_perm hP pmJ
  have hD := D_perm hD pmJ
  refine kf_i (W2 := (od, oD K gd) :: Mfix K qm td (nI n) th M X) (vx_runSW (As := [.ref (ad 0), .int (nI u), .ref oj]) (rest := []) ⟨hx, hb, hml, hown, hts⟩ (h_takeBack_tp hE hlt hu hst) (vx_cwSW 3 hts gL_law_L_takeBack rfl rfl rfl (by decide +kernel) ⟨(Nat.le_of_ble_eq_true rfl), (Nat.le_of_ble_eq_true rfl)⟩) (lps hG hP hD hS) rfl rfl hl.1 rfl (lv_room (Nat.le_of_ble_eq_true rfl)) dL_law_847 ⟨(by show _ ≤ 601024; omega), (by show _ ≤ 7293034; omega)⟩) hS hP hD (fun r w H locs hp hP hD hS => ?_)
  obtain ⟨hr, w2, hw, hE⟩ := hp
  subst hw
  subst hr
  have hP := P_perm hP pmJ'
  have hD := D_perm hD pmJ'
  refine lv_istore (lv' := [(6, .int 2), (0, .ref b), (1, .ref (ad 0)), (2, .ref (qm 0)), (3, .ref oj), (4, .ref od), (5, .int (nI i))]) hx hb dL_law_850 hl (by decide) rfl (fun ls hl => ?_)
  refine lv_aload_n hx hb dL_law_852 rfl (lv_at hl 3 rfl) ?_
  refine lv_aload_n hx hb dL_law_853 rfl (lv_at hl 1 rfl) ?_
  refine lv_iload hx hb dL_law_854 (lv_at hl 6 rfl) ?_
  refine lv_iconst (v := 1) hx hb dL_law_856 (by decide) ?_
  refine lv_iadd hx hb dL_law_857 ?_
  refine lsld (z := nI u) hx hb hX hbl hbA hS (nI_add i 1) (by omega) (by omega) e1 dL_law_858 ?_
  have hP := P_perm hP pmM
  have hD := D_perm hD pmM
  refine kf_i (W2 := w2 ++ [(oj, oJ K g), (od, oD K gd)]) (va_runV (As := [.int (nI u)]) (rest := []) ⟨hx, hb, hml, hown, hts⟩ (c_X2_takeBack_2 hn30 hu hst2) (cwV 1 hts gL_law_X2_takeBack rfl rfl rfl (by decide +kernel) ⟨(Nat.le_of_ble_eq_true rfl), (Nat.le_of_ble_eq_true rfl)⟩) (lpv (q0 := 0) hG hP hD hS rfl rfl) rfl rfl hl.1 rfl (lv_room (Nat.le_of_ble_eq_true rfl)) dL_law_859 ⟨(by show _ ≤ 601024; omega), (by show _ ≤ 7293034; omega)⟩) hS hP hD (fun r859 w9 H locs hp hP hD hS => ?_)
  subst hp
  have hP := P_perm hP pmM'
  have hD := D_perm hD pmM'
  refine lv_istore (lv' := [(7, .int r859), (6, .int 2), (0, .ref b), (1, .ref (ad 0)), (2, .ref (qm 0)), (3, .ref oj), (4, .ref od), (5, .int (nI i))]) hx hb dL_law_862 hl (by decide) rfl (fun ls hl => ?_)
  refine lv_aload_n hx hb dL_law_864 rfl (lv_at hl 4 rfl) ?_
  have hP := P_perm hP pmM
  have hD := D_perm hD pmM
  refine kf_i (W2 := w2 ++ [(oj, oJ K g), (od, oD K gd)]) (va_runV (As := []) (rest := []) ⟨hx, hb, hml, hown, hts⟩ (c_X2_thrown) (cwV 0 hts gL_law_X2_thrown rfl rfl rfl (by decide +kernel) ⟨(Nat.le_of_ble_eq_true rfl), (Nat.le_of_ble_eq_true rfl)⟩) (lpv (q0 := 0) hG hP hD hS rfl rfl) rfl rfl hl.1 rfl (lv_room (Nat.le_of_ble_eq_true rfl)) dL_law_865 ⟨(by show _ ≤ 601024; omega), (by show _ ≤ 7293034; omega)⟩) hS hP hD (fun r865 w9 H locs hp hP hD hS => ?_)
  obtain ⟨hr, hw⟩ := hp
  subst hw
  subst hr
  have hP := P_perm hP pmM'
  have hD := D_perm hD pmM'
  refine lv_iload hx hb dL_law_868 (lv_at hl 1 rfl) ?_
  refine lv_icmp_eq (tgt := 875) hx hb dL_law_870 (by decide) (fun h870 => ?_) (fun h870 => False.elim (h870 rfl))
  refine lv_iload hx hb dL_law_875 (lv_at hl 1 rfl) ?_
  refine lv_if_ne (tgt := 892) hx hb dL_law_877 (by decide) (fun h877 => ?_) (fun h877 => False.elim (absurd h877 (by decide)))
  refine lv_goto (tgt := 1346) hx hb dL_law_892 (by decide) ?_
  exact W.widen (k := cells + 31) (n := slots + 1806) (by omega) (by omega) (kk _ _ _ _ _ _ _ _ _ H locs ls hE (hIv.up) hP hD hS (lv_sub hl [2, 3, 4, 5, 6, 7] rfl))
set_option maxHeartbeats 4000000 in
set_option maxRecDepth 100000 in
theorem q_takeBack {p : Program} {l : Launch} {e : Env} {s : State} {m : MethodId} {args : Array Value} {below : List Frame} {meth : Method} {c : Code} {H : Heap} {locs : List Loc} {cells slots : Nat} {Q : State → Prop} {ls : Array Slot} {K : Ks} {A : Nat → Prop} {ad bad qm : Nat → Nat} {td th : Int32} {n : Nat} {M X : Nat → Nat → Int32} {w : va_W} {oj od : Nat} {g : Nat → Int64} {gd : Nat → UInt64} {b L i j : Nat} {xs : Nat → Int32} (h0 : LSt p l s m args c K A b L xs) (hE : DkE K ad bad td n M w) (hIv : Iv j td n M) (hP : va_P K.1 kCl (CW K qm oj od td n th M X w g gd) H) (hD : va_D A (CW K qm oj od td n th M X w g gd)) (hS : va_S A s.heap H locs) (hl : lv_has ls 8 [(0, .ref b), (1, .ref (ad 0)), (2, .ref (qm 0)), (3, .ref oj), (4, .ref od), (5, .int (nI i))]) (hi : i + 4 < L) (hcl : cells + 31 ≤ 601024) (hsl : slots + 1806 ≤ 7293034) (hj : j ≤ 100000) (kk : LEnd p l e s m args below meth c Q K A b ad qm oj od i j cells slots) {u : Nat} (hu : u < n) (hst : ¬ M 7 u = -1 ∧ ¬ (M 6 u = 3 ∨ M 6 u = 4)) (hst2 : ¬ M 7 u = -1 ∧ M 6 u < 3) (e1 : xs (i + 1) = nI u) : W p l e room_1 s m args below meth c H locs cells slots Q (F0 m 839 ls []) := by
  obtain ⟨hx, hb, hml, hown, hts, hG, hX, hbl, hbA, hL, hlt⟩ := h0
  have hok := hIv.ok
  have hn30 := hIv.1
  refine lv_aload_n hx hb dL_law_839 rfl (lv_at hl 1 rfl) ?_
  refine lv_aload_n hx hb dL_law_840 rfl (lv_at hl 0 rfl) ?_
  refine lv_iload hx hb dL_law_841 (lv_at hl 5 rfl) ?_
  refine lv_iconst (v := 1) hx hb dL_law_843 (by decide) ?_
  refine lv_iadd hx hb dL_law_844 ?_
  refine lsld (z := nI u) hx hb hX hbl hbA hS (nI_add i 1) (by omega) (by omega) e1 dL_law_845 ?_
  refine lv_aload_n hx hb dL_law_846 rfl (lv_at hl 3 rfl) ?_
  have hP := P_perm hP pmJ
  have hD := D_perm hD pmJ
  refine kf_i (W2 := (od, oD K gd) :: Mfix K qm td (nI n) th M X) (vx_runSW (As := [.ref (ad 0), .int (nI u), .ref oj]) (rest := []) ⟨hx, hb, hml, hown, hts⟩ (h_takeBack hE hu hst) (vx_cwSW 3 hts gL_law_L_takeBack rfl rfl rfl (by decide +kernel) ⟨(Nat.le_of_ble_eq_true rfl), (Nat.le_of_ble_eq_true rfl)⟩) (lps hG hP hD hS) rfl rfl hl.1 rfl (lv_room (Nat.le_of_ble_eq_true rfl)) dL_law_847 ⟨(by show _ ≤ 601024; omega), (by show _ ≤ 7293034; omega)⟩) hS hP hD (fun r w H locs hp hP hD hS => ?_)
  obtain ⟨hr, w2, g1, hw, hg, hE⟩ := hp
  subst hw
  subst hr
  have hP := P_perm hP pmJ'
  have hD := D_perm hD pmJ'
  refine lv_istore (lv' := [(6, .int 0), (0, .ref b), (1, .ref (ad 0)), (2, .ref (qm 0)), (3, .ref oj), (4, .ref od), (5, .int (nI i))]) hx hb dL_law_850 hl (by decide) rfl (fun ls hl => ?_)
  refine lv_aload_n hx hb dL_law_852 rfl (lv_at hl 3 rfl) ?_
  refine lv_aload_n hx hb dL_law_853 rfl (lv_at hl 1 rfl) ?_
  refine lv_iload hx hb dL_law_854 (lv_at hl 6 rfl) ?_
  refine lv_iconst (v := 1) hx hb dL_law_856 (by decide) ?_
  refine lv_iadd hx hb dL_law_857 ?_
  refine lsld (z := nI u) hx hb hX hbl hbA hS (nI_add i 1) (by omega) (by omega) e1 dL_law_858 ?_
  have hP := P_perm hP pmM
  have hD := D_perm hD pmM
  refine kf_i (W2 := w2 ++ [(oj, oJ K g1), (od, oD K gd)]) (va_runV (As := [.int (nI u)]) (rest := []) ⟨hx, hb, hml, hown, hts⟩ (c_X2_takeBack_ok hn30 hu hst2) (cwV 1 hts gL_law_X2_takeBack rfl rfl rfl (by decide +kernel) ⟨(Nat.le_of_ble_eq_true rfl), (Nat.le_of_ble_eq_true rfl)⟩) (lpv (q0 := 0) hG hP hD hS rfl rfl) rfl rfl hl.1 rfl (lv_room (Nat.le_of_ble_eq_true rfl)) dL_law_859 ⟨(by show _ ≤ 601024; omega), (by show _ ≤ 7293034; omega)⟩) hS hP hD (fun r859 w9 H locs hp hP hD hS => ?_)
  obtain ⟨hr, hw⟩ := hp
  subst hw
  subst hr
  have hP := P_perm hP pmM'
  have hD := D_perm hD pmM'
  refine lv_istore (lv' := [(7, .int (M 7 u)), (6, .int 0), (0, .ref b), (1, .ref (ad 0)), (2, .ref (qm 0)), (3, .ref oj), (4, .ref od), (5, .int (nI i))]) hx hb dL_law_862 hl (by decide) rfl (fun ls hl => ?_)
  refine lv_aload_n hx hb dL_law_864 rfl (lv_at hl 4 rfl) ?_
  have hP := P_perm hP pmM
  have hD := D_perm hD pmM
  refine kf_i (W2 := w2 ++ [(oj, oJ K g1), (od, oD K gd)]) (va_runV (As := []) (rest := []) ⟨hx, hb, hml, hown, hts⟩ (c_X2_thrown) (cwV 0 hts gL_law_X2_thrown rfl rfl rfl (by decide +kernel) ⟨(Nat.le_of_ble_eq_true rfl), (Nat.le_of_ble_eq_true rfl)⟩) (lpv (q0 := 0) hG hP hD hS rfl rfl) rfl rfl hl.1 rfl (lv_room (Nat.le_of_ble_eq_true rfl)) dL_law_865 ⟨(by show _ ≤ 601024; omega), (by show _ ≤ 7293034; omega)⟩) hS hP hD (fun r865 w9 H locs hp hP hD hS => ?_)
  obtain ⟨hr, hw⟩ := hp
  subst hw
  subst hr
  have hP := P_perm hP pmM'
  have hD := D_perm hD pmM'
  refine lv_iload hx hb dL_law_868 (lv_at hl 1 rfl) ?_
  refine lv_icmp_eq (tgt := 875) hx hb dL_law_870 (by decide) (fun h870 => ?_) (fun h870 => False.elim (h870 rfl))
  refine lv_iload hx hb dL_law_875 (lv_at hl 1 rfl) ?_
  refine lv_if_ne (tgt := 892) hx hb dL_law_877 (by decide) (fun h877 => False.elim (absurd rfl h877)) (fun h877 => ?_)
  refine lv_aload_n hx hb dL_law_880 rfl (lv_at hl 5 rfl) ?_
  refine lv_iconst (v := 0) hx hb dL_law_881 (by decide) ?_
  refine llald hx hb hG hP hg dL_law_882 ?_
  refine lv_iload hx hb dL_law_883 (lv_at hl 0 rfl) ?_
  refine lv_i2l (v := ((M 7 u) : Int32).toInt64) hx hb dL_law_885 rfl ?_
  refine llcmp hx hb dL_law_886 ?_
  refine lv_if_eq (tgt := 892) hx hb dL_law_887 (by decide) (fun h887 => ?_) (fun h887 => False.elim (absurd rfl h887))
  refine lv_goto (tgt := 1346) hx hb dL_law_892 (by decide) ?_
  exact W.widen (k := cells + 31) (n := slots + 1806) (by omega) (by omega) (kk _ _ _ _ _ _ _ _ _ H locs ls hE ((hIv.one hu (Or.inr (Or.inr (Or.inr (Or.inl ⟨rfl, Or.inl rfl⟩))))).up) hP hD hS (lv_sub hl [2, 3, 4, 5, 6, 7] rfl))
set_option maxHeartbeats 4000000 in
set_option maxRecDepth 100000 in
theorem q_plan_tb {p : Program} {l : Launch} {e : Env} {s : State} {m : MethodId} {args : Array Value} {below : List Frame} {meth : Method} {c : Code} {H : Heap} {locs : List Loc} {cells slots : Nat} {Q : State → Prop} {ls : Array Slot} {K : Ks} {A : Nat → Prop} {ad bad qm : Nat → Nat} {td th : Int32} {n : Nat} {M X : Nat → Nat → Int32} {w : va_W} {oj od : Nat} {g : Nat → Int64} {gd : Nat → UInt64} {b L i j : Nat} {xs : Nat → Int32} (h0 : LSt p l s m args c K A b L xs) (hE : DkE K ad bad td n M w) (hIv : Iv j td n M) (hP : va_P K.1 kCl (CW K qm oj od td n th M X w g gd) H) (hD : va_D A (CW K qm oj od td n th M X w g gd)) (hS : va_S A s.heap H locs) (hl : lv_has ls 8 [(0, .ref b), (1, .ref (ad 0)), (2, .ref (qm 0)), (3, .ref oj), (4, .ref od), (5, .int (nI i))]) (hi : i + 4 < L) (hcl : cells + 31 ≤ 601024) (hsl : slots + 1806 ≤ 7293034) (hj : j ≤ 100000) (kk : LEnd p l e s m args below meth c Q K A b ad qm oj od i j cells slots) {x : Int32} (hx4 : ixBad 4 x) (e1 : xs (i + 1) = x) : W p l e room_1 s m args below meth c H locs cells slots Q (F0 m 895 ls []) := by
  obtain ⟨hx, hb, hml, hown, hts, hG, hX, hbl, hbA, hL, hlt⟩ := h0
  have hok := hIv.ok
  have hn30 := hIv.1
  refine lv_aload_n hx hb dL_law_895 rfl (lv_at hl 1 rfl) ?_
  refine lv_aload_n hx hb dL_law_896 rfl (lv_at hl 0 rfl) ?_
  refine lv_iload hx hb dL_law_897 (lv_at hl 5 rfl) ?_
  refine lv_iconst (v := 1) hx hb dL_law_899 (by decide) ?_
  refine lv_iadd hx hb dL_law_900 ?_
  refine lsld (z := x) hx hb hX hbl hbA hS (nI_add i 1) (by omega) (by omega) e1 dL_law_901 ?_
  refine lv_aload_n hx hb dL_law_902 rfl (lv_at hl 3 rfl) ?_
  have hP := P_perm hP pmJ
  have hD := D_perm hD pmJ
  refine kf_i (W2 := (od, oD K gd) :: Mfix K qm td (nI n) th M X) (vx_runSW (As := [.ref (ad 0), .int x, .ref oj]) (rest := []) ⟨hx, hb, hml, hown, hts⟩ (h_plan_tb hE hlt hx4) (vx_cwSW 3 hts gL_law_L_plan rfl rfl rfl (by decide +kernel) ⟨(Nat.le_of_ble_eq_true rfl), (Nat.le_of_ble_eq_true rfl)⟩) (lps hG hP hD hS) rfl rfl hl.1 rfl (lv_room (Nat.le_of_ble_eq_true rfl)) dL_law_903 ⟨(by show _ ≤ 601024; omega), (by show _ ≤ 7293034; omega)⟩) hS hP hD (fun r w H locs hp hP hD hS => ?_)
  obtain ⟨hr, w2, hw, hE⟩ := hp
  subst hw
  subst hr
  have hP := P_perm hP pmJ'
  have hD := D_perm hD pmJ'
  refine lv_istore (lv' := [(6, .int 1), (0, .ref b), (1, .ref (ad 0)), (2, .ref (qm 0)), (3, .ref oj), (4, .ref od), (5, .int (nI i))]) hx hb dL_law_906 hl (by decide) rfl (fun ls hl => ?_)
  refine lv_aload_n hx hb dL_law_908 rfl (lv_at hl 3 rfl) ?_
  refine lv_aload_n hx hb dL_law_909 rfl (lv_at hl 1 rfl) ?_
  refine lv_iload hx hb dL_law_910 (lv_at hl 6 rfl) ?_
  refine lv_iconst (v := 1) hx hb dL_law_912 (by decide) ?_
  refine lv_iadd hx hb dL_law_913 ?_
  refine lsld (z := x) hx hb hX hbl hbA hS (nI_add i 1) (by omega) (by omega) e1 dL_law_914 ?_
  have hP := P_perm hP pmM
  have hD := D_perm hD pmM
  refine kf_i (W2 := w2 ++ [(oj, oJ K g), (od, oD K gd)]) (va_runV (As := [.int x]) (rest := []) ⟨hx, hb, hml, hown, hts⟩ (c_X2_plan_1 hx4) (cwV 1 hts gL_law_X2_plan rfl rfl rfl (by decide +kernel) ⟨(Nat.le_of_ble_eq_true rfl), (Nat.le_of_ble_eq_true rfl)⟩) (lpv (q0 := 0) hG hP hD hS rfl rfl) rfl rfl hl.1 rfl (lv_room (Nat.le_of_ble_eq_true rfl)) dL_law_915 ⟨(by show _ ≤ 601024; omega), (by show _ ≤ 7293034; omega)⟩) hS hP hD (fun r915 w9 H locs hp hP hD hS => ?_)
  subst hp
  have hP := P_perm hP pmM'
  have hD := D_perm hD pmM'
  refine lv_istore (lv' := [(7, .int r915), (6, .int 1), (0, .ref b), (1, .ref (ad 0)), (2, .ref (qm 0)), (3, .ref oj), (4, .ref od), (5, .int (nI i))]) hx hb dL_law_918 hl (by decide) rfl (fun ls hl => ?_)
  refine lv_aload_n hx hb dL_law_920 rfl (lv_at hl 4 rfl) ?_
  have hP := P_perm hP pmM
  have hD := D_perm hD pmM
  refine kf_i (W2 := w2 ++ [(oj, oJ K g), (od, oD K gd)]) (va_runV (As := []) (rest := []) ⟨hx, hb, hml, hown, hts⟩ (c_X2_thrown) (cwV 0 hts gL_law_X2_thrown rfl rfl rfl (by decide +kernel) ⟨(Nat.le_of_ble_eq_true rfl), (Nat.le_of_ble_eq_true rfl)⟩) (lpv (q0 := 0) hG hP hD hS rfl rfl) rfl rfl hl.1 rfl (lv_room (Nat.le_of_ble_eq_true rfl)) dL_law_921 ⟨(by show _ ≤ 601024; omega), (by show _ ≤ 7293034; omega)⟩) hS hP hD (fun r921 w9 H locs hp hP hD hS => ?_)
  obtain ⟨hr, hw⟩ := hp
  subst hw
  subst hr
  have hP := P_perm hP pmM'
  have hD := D_perm hD pmM'
  refine lv_iload hx hb dL_law_924 (lv_at hl 1 rfl) ?_
  refine lv_icmp_eq (tgt := 931) hx hb dL_law_926 (by decide) (fun h926 => ?_) (fun h926 => False.elim (h926 rfl))
  refine lv_iload hx hb dL_law_931 (lv_at hl 1 rfl) ?_
  refine lv_if_ne (tgt := 948) hx hb dL_law_933 (by decide) (fun h933 => ?_) (fun h933 => False.elim (absurd h933 (by decide)))
  refine lv_goto (tgt := 1346) hx hb dL_law_948 (by decide) ?_
  exact W.widen (k := cells + 31) (n := slots + 1806) (by omega) (by omega) (kk _ _ _ _ _ _ _ _ _ H locs ls hE (hIv.up) hP hD hS (lv_sub hl [2, 3, 4, 5, 6, 7] rfl))
set_option maxHeartbeats 4000000 in
set_option maxRecDepth 100000 in
theorem q_plan {p : Program} {l : Launch} {e : Env} {s : State} {m : MethodId} {args : Array Value} {below : List Frame} {meth : Method} {c : Code} {H : Heap} {locs : List Loc} {cells slots : Nat} {Q : State → Prop} {ls : Array Slot} {K : Ks} {A : Nat → Prop} {ad bad qm : Nat → Nat} {td th : Int32} {n : Nat} {M X : Nat → Nat → Int32} {w : va_W} {oj od : Nat} {g : Nat → Int64} {gd : Nat → UInt64} {b L i j : Nat} {xs : Nat → Int32} (h0 : LSt p l s m args c K A b L xs) (hE : DkE K ad bad td n M w) (hIv : Iv j td n M) (hP : va_P K.1 kCl (CW K qm oj od td n th M X w g gd) H) (hD : va_D A (CW K qm oj od td n th M X w g gd)) (hS : va_S A s.heap H locs) (hl : lv_has ls 8 [(0, .ref b), (1, .ref (ad 0)), (2, .ref (qm 0)), (3, .ref oj), (4, .ref od), (5, .int (nI i))]) (hi : i + 4 < L) (hcl : cells + 31 ≤ 601024) (hsl : slots + 1806 ≤ 7293034) (hj : j ≤ 100000) (kk : LEnd p l e s m args below meth c Q K A b ad qm oj od i j cells slots) {v : Nat} (hx4 : v < 4) (e1 : xs (i + 1) = nI v) : W p l e room_1 s m args below meth c H locs cells slots Q (F0 m 895 ls []) := by
  obtain ⟨hx, hb, hml, hown, hts, hG, hX, hbl, hbA, hL, hlt⟩ := h0
  have hok := hIv.ok
  have hn30 := hIv.1
  refine lv_aload_n hx hb dL_law_895 rfl (lv_at hl 1 rfl) ?_
  refine lv_aload_n hx hb dL_law_896 rfl (lv_at hl 0 rfl) ?_
  refine lv_iload hx hb dL_law_897 (lv_at hl 5 rfl) ?_
  refine lv_iconst (v := 1) hx hb dL_law_899 (by decide) ?_
  refine lv_iadd hx hb dL_law_900 ?_
  refine lsld (z := nI v) hx hb hX hbl hbA hS (nI_add i 1) (by omega) (by omega) e1 dL_law_901 ?_
  refine lv_aload_n hx hb dL_law_902 rfl (lv_at hl 3 rfl) ?_
  have hP := P_perm hP pmJ
  have hD := D_perm hD pmJ
  refine kf_i (W2 := (od, oD K gd) :: Mfix K qm td (nI n) th M X) (vx_runSW (As := [.ref (ad 0), .int (nI v), .ref oj]) (rest := []) ⟨hx, hb, hml, hown, hts⟩ (h_plan hE hx4 hok) (vx_cwSW 3 hts gL_law_L_plan rfl rfl rfl (by decide +kernel) ⟨(Nat.le_of_ble_eq_true rfl), (Nat.le_of_ble_eq_true rfl)⟩) (lps hG hP hD hS) rfl rfl hl.1 rfl (lv_room (Nat.le_of_ble_eq_true rfl)) dL_law_903 ⟨(by show _ ≤ 601024; omega), (by show _ ≤ 7293034; omega)⟩) hS hP hD (fun r w H locs hp hP hD hS => ?_)
  obtain ⟨hr, w2, g1, hw, hg, hE⟩ := hp
  subst hw
  subst hr
  have hP := P_perm hP pmJ'
  have hD := D_perm hD pmJ'
  refine lv_istore (lv' := [(6, .int 0), (0, .ref b), (1, .ref (ad 0)), (2, .ref (qm 0)), (3, .ref oj), (4, .ref od), (5, .int (nI i))]) hx hb dL_law_906 hl (by decide) rfl (fun ls hl => ?_)
  refine lv_aload_n hx hb dL_law_908 rfl (lv_at hl 3 rfl) ?_
  refine lv_aload_n hx hb dL_law_909 rfl (lv_at hl 1 rfl) ?_
  refine lv_iload hx hb dL_law_910 (lv_at hl 6 rfl) ?_
  refine lv_iconst (v := 1) hx hb dL_law_912 (by decide) ?_
  refine lv_iadd hx hb dL_law_913 ?_
  refine lsld (z := nI v) hx hb hX hbl hbA hS (nI_add i 1) (by omega) (by omega) e1 dL_law_914 ?_
  have hP := P_perm hP pmM
  have hD := D_perm hD pmM
  refine kf_i (W2 := w2 ++ [(oj, oJ K g1), (od, oD K gd)]) (va_runV (As := [.int (nI v)]) (rest := []) ⟨hx, hb, hml, hown, hts⟩ (c_X2_plan_ok (L := (gaL td M v n)) hn30 hx4 hok hLn ch_0 (fun k hk => ch_s hk)) (cwV 1 hts gL_law_X2_plan rfl rfl rfl (by decide +kernel) ⟨(Nat.le_of_ble_eq_true rfl), (Nat.le_of_ble_eq_true rfl)⟩) (lpv (q0 := 0) hG hP hD hS rfl rfl) rfl rfl hl.1 rfl (lv_room (Nat.le_of_ble_eq_true rfl)) dL_law_915 ⟨(by show _ ≤ 601024; omega), (by show _ ≤ 7293034; omega)⟩) hS hP hD (fun r915 w9 H locs hp hP hD hS => ?_)
  obtain ⟨hr, hw⟩ := hp
  subst hw
  rw [← plan_eq hn30 hok] at hr
  subst hr
  have hP := P_perm hP pmM'
  have hD := D_perm hD pmM'
  refine lv_istore (lv' := [(7, .int (acC td n M v)), (6, .int 0), (0, .ref b), (1, .ref (ad 0)), (2, .ref (qm 0)), (3, .ref oj), (4, .ref od), (5, .int (nI i))]) hx hb dL_law_918 hl (by decide) rfl (fun ls hl => ?_)
  refine lv_aload_n hx hb dL_law_920 rfl (lv_at hl 4 rfl) ?_
  have hP := P_perm hP pmM
  have hD := D_perm hD pmM
  refine kf_i (W2 := w2 ++ [(oj, oJ K g1), (od, oD K gd)]) (va_runV (As := []) (rest := []) ⟨hx, hb, hml, hown, hts⟩ (c_X2_thrown) (cwV 0 hts gL_law_X2_thrown rfl rfl rfl (by decide +kernel) ⟨(Nat.le_of_ble_eq_true rfl), (Nat.le_of_ble_eq_true rfl)⟩) (lpv (q0 := 0) hG hP hD hS rfl rfl) rfl rfl hl.1 rfl (lv_room (Nat.le_of_ble_eq_true rfl)) dL_law_921 ⟨(by show _ ≤ 601024; omega), (by show _ ≤ 7293034; omega)⟩) hS hP hD (fun r921 w9 H locs hp hP hD hS => ?_)
  obtain ⟨hr, hw⟩ := hp
  subst hw
  subst hr
  have hP := P_perm hP pmM'
  have hD := D_perm hD pmM'
  refine lv_iload hx hb dL_law_924 (lv_at hl 1 rfl) ?_
  refine lv_icmp_eq (tgt := 931) hx hb dL_law_926 (by decide) (fun h926 => ?_) (fun h926 => False.elim (h926 rfl))
  refine lv_iload hx hb dL_law_931 (lv_at hl 1 rfl) ?_
  refine lv_if_ne (tgt := 948) hx hb dL_law_933 (by decide) (fun h933 => False.elim (absurd rfl h933)) (fun h933 => ?_)
  refine lv_aload_n hx hb dL_law_936 rfl (lv_at hl 5 rfl) ?_
  refine lv_iconst (v := 0) hx hb dL_law_937 (by decide) ?_
  refine llald hx hb hG hP hg dL_law_938 ?_
  refine lv_iload hx hb dL_law_939 (lv_at hl 0 rfl) ?_
  refine lv_i2l (v := ((acC td n M v) : Int32).toInt64) hx hb dL_law_941 rfl ?_
  refine llcmp hx hb dL_law_942 ?_
  refine lv_if_eq (tgt := 948) hx hb dL_law_943 (by decide) (fun h943 => ?_) (fun h943 => False.elim (absurd rfl h943))
  refine lv_goto (tgt := 1346) hx hb dL_law_948 (by decide) ?_
  exact W.widen (k := cells + 31) (n := slots + 1806) (by omega) (by omega) (kk _ _ _ _ _ _ _ _ _ H locs ls hE (hIv.up) hP hD hS (lv_sub hl [2, 3, 4, 5, 6, 7] rfl))
set_option maxHeartbeats 4000000 in
set_option maxRecDepth 100000 in
theorem q_clear_tb {p : Program} {l : Launch} {e : Env} {s : State} {m : MethodId} {args : Array Value} {below : List Frame} {meth : Method} {c : Code} {H : Heap} {locs : List Loc} {cells slots : Nat} {Q : State → Prop} {ls : Array Slot} {K : Ks} {A : Nat → Prop} {ad bad qm : Nat → Nat} {td th : Int32} {n : Nat} {M X : Nat → Nat → Int32} {w : va_W} {oj od : Nat} {g : Nat → Int64} {gd : Nat → UInt64} {b L i j : Nat} {xs : Nat → Int32} (h0 : LSt p l s m args c K A b L xs) (hE : DkE K ad bad td n M w) (hIv : Iv j td n M) (hP : va_P K.1 kCl (CW K qm oj od td n th M X w g gd) H) (hD : va_D A (CW K qm oj od td n th M X w g gd)) (hS : va_S A s.heap H locs) (hl : lv_has ls 8 [(0, .ref b), (1, .ref (ad 0)), (2, .ref (qm 0)), (3, .ref oj), (4, .ref od), (5, .int (nI i))]) (hi : i + 4 < L) (hcl : cells + 31 ≤ 601024) (hsl : slots + 1806 ≤ 7293034) (hj : j ≤ 100000) (kk : LEnd p l e s m args below meth c Q K A b ad qm oj od i j cells slots) {x : Int32} (hx4 : ixBad 4 x) (e1 : xs (i + 1) = x) : W p l e room_1 s m args below meth c H locs cells slots Q (F0 m 951 ls []) := by
  obtain ⟨hx, hb, hml, hown, hts, hG, hX, hbl, hbA, hL, hlt⟩ := h0
  have hok := hIv.ok
  have hn30 := hIv.1
  refine lv_aload_n hx hb dL_law_951 rfl (lv_at hl 1 rfl) ?_
  refine lv_aload_n hx hb dL_law_952 rfl (lv_at hl 0 rfl) ?_
  refine lv_iload hx hb dL_law_953 (lv_at hl 5 rfl) ?_
  refine lv_iconst (v := 1) hx hb dL_law_955 (by decide) ?_
  refine lv_iadd hx hb dL_law_956 ?_
  refine lsld (z := x) hx hb hX hbl hbA hS (nI_add i 1) (by omega) (by omega) e1 dL_law_957 ?_
  refine lv_aload_n hx hb dL_law_958 rfl (lv_at hl 3 rfl) ?_
  have hP := P_perm hP pmJ
  have hD := D_perm hD pmJ
  refine kf_i (W2 := (od, oD K gd) :: Mfix K qm td (nI n) th M X) (vx_runSW (As := [.ref (ad 0), .int x, .ref oj]) (rest := []) ⟨hx, hb, hml, hown, hts⟩ (h_clear_tb hE hlt hx4) (vx_cwSW 3 hts gL_law_L_clear rfl rfl rfl (by decide +kernel) ⟨(Nat.le_of_ble_eq_true rfl), (Nat.le_of_ble_eq_true rfl)⟩) (lps hG hP hD hS) rfl rfl hl.1 rfl (lv_room (Nat.le_of_ble_eq_true rfl)) dL_law_959 ⟨(by show _ ≤ 601024; omega), (by show _ ≤ 7293034; omega)⟩) hS hP hD (fun r w H locs hp hP hD hS => ?_)
  obtain ⟨hr, w2, hw, hE⟩ := hp
  subst hw
  subst hr
  have hP := P_perm hP pmJ'
  have hD := D_perm hD pmJ'
  refine lv_istore (lv' := [(6, .int 1), (0, .ref b), (1, .ref (ad 0)), (2, .ref (qm 0)), (3, .ref oj), (4, .ref od), (5, .int (nI i))]) hx hb dL_law_962 hl (by decide) rfl (fun ls hl => ?_)
  refine lv_aload_n hx hb dL_law_964 rfl (lv_at hl 3 rfl) ?_
  refine lv_aload_n hx hb dL_law_965 rfl (lv_at hl 1 rfl) ?_
  refine lv_iload hx hb dL_law_966 (lv_at hl 6 rfl) ?_
  refine lv_iconst (v := 1) hx hb dL_law_968 (by decide) ?_
  refine lv_iadd hx hb dL_law_969 ?_
  refine lsld (z := x) hx hb hX hbl hbA hS (nI_add i 1) (by omega) (by omega) e1 dL_law_970 ?_
  have hP := P_perm hP pmM
  have hD := D_perm hD pmM
  refine kf_i (W2 := w2 ++ [(oj, oJ K g), (od, oD K gd)]) (va_runV (As := [.int x]) (rest := []) ⟨hx, hb, hml, hown, hts⟩ (c_X2_clear_1 hx4) (cwV 1 hts gL_law_X2_clear rfl rfl rfl (by decide +kernel) ⟨(Nat.le_of_ble_eq_true rfl), (Nat.le_of_ble_eq_true rfl)⟩) (lpv (q0 := 0) hG hP hD hS rfl rfl) rfl rfl hl.1 rfl (lv_room (Nat.le_of_ble_eq_true rfl)) dL_law_971 ⟨(by show _ ≤ 601024; omega), (by show _ ≤ 7293034; omega)⟩) hS hP hD (fun r971 w9 H locs hp hP hD hS => ?_)
  subst hp
  have hP := P_perm hP pmM'
  have hD := D_perm hD pmM'
  refine lv_istore (lv' := [(7, .int r971), (6, .int 1), (0, .ref b), (1, .ref (ad 0)), (2, .ref (qm 0)), (3, .ref oj), (4, .ref od), (5, .int (nI i))]) hx hb dL_law_974 hl (by decide) rfl (fun ls hl => ?_)
  refine lv_aload_n hx hb dL_law_976 rfl (lv_at hl 4 rfl) ?_
  have hP := P_perm hP pmM
  have hD := D_perm hD pmM
  refine kf_i (W2 := w2 ++ [(oj, oJ K g), (od, oD K gd)]) (va_runV (As := []) (rest := []) ⟨hx, hb, hml, hown, hts⟩ (c_X2_thrown) (cwV 0 hts gL_law_X2_thrown rfl rfl rfl (by decide +kernel) ⟨(Nat.le_of_ble_eq_true rfl), (Nat.le_of_ble_eq_true rfl)⟩) (lpv (q0 := 0) hG hP hD hS rfl rfl) rfl rfl hl.1 rfl (lv_room (Nat.le_of_ble_eq_true rfl)) dL_law_977 ⟨(by show _ ≤ 601024; omega), (by show _ ≤ 7293034; omega)⟩) hS hP hD (fun r977 w9 H locs hp hP hD hS => ?_)
  obtain ⟨hr, hw⟩ := hp
  subst hw
  subst hr
  have hP := P_perm hP pmM'
  have hD := D_perm hD pmM'
  refine lv_iload hx hb dL_law_980 (lv_at hl 1 rfl) ?_
  refine lv_icmp_eq (tgt := 987) hx hb dL_law_982 (by decide) (fun h982 => ?_) (fun h982 => False.elim (h982 rfl))
  refine lv_iload hx hb dL_law_987 (lv_at hl 1 rfl) ?_
  refine lv_if_ne (tgt := 1004) hx hb dL_law_989 (by decide) (fun h989 => ?_) (fun h989 => False.elim (absurd h989 (by decide)))
  refine lv_goto (tgt := 1346) hx hb dL_law_1004 (by decide) ?_
  exact W.widen (k := cells + 31) (n := slots + 1806) (by omega) (by omega) (kk _ _ _ _ _ _ _ _ _ H locs ls hE (hIv.up) hP hD hS (lv_sub hl [2, 3, 4, 5, 6, 7] rfl))
set_option maxHeartbeats 4000000 in
set_option maxRecDepth 100000 in
theorem q_clear {p : Program} {l : Launch} {e : Env} {s : State} {m : MethodId} {args : Array Value} {below : List Frame} {meth : Method} {c : Code} {H : Heap} {locs : List Loc} {cells slots : Nat} {Q : State → Prop} {ls : Array Slot} {K : Ks} {A : Nat → Prop} {ad bad qm : Nat → Nat} {td th : Int32} {n : Nat} {M X : Nat → Nat → Int32} {w : va_W} {oj od : Nat} {g : Nat → Int64} {gd : Nat → UInt64} {b L i j : Nat} {xs : Nat → Int32} (h0 : LSt p l s m args c K A b L xs) (hE : DkE K ad bad td n M w) (hIv : Iv j td n M) (hP : va_P K.1 kCl (CW K qm oj od td n th M X w g gd) H) (hD : va_D A (CW K qm oj od td n th M X w g gd)) (hS : va_S A s.heap H locs) (hl : lv_has ls 8 [(0, .ref b), (1, .ref (ad 0)), (2, .ref (qm 0)), (3, .ref oj), (4, .ref od), (5, .int (nI i))]) (hi : i + 4 < L) (hcl : cells + 31 ≤ 601024) (hsl : slots + 1806 ≤ 7293034) (hj : j ≤ 100000) (kk : LEnd p l e s m args below meth c Q K A b ad qm oj od i j cells slots) {v : Nat} (hx4 : v < 4) (e1 : xs (i + 1) = nI v) : W p l e room_1 s m args below meth c H locs cells slots Q (F0 m 951 ls []) := by
  obtain ⟨hx, hb, hml, hown, hts, hG, hX, hbl, hbA, hL, hlt⟩ := h0
  have hok := hIv.ok
  have hn30 := hIv.1
  refine lv_aload_n hx hb dL_law_951 rfl (lv_at hl 1 rfl) ?_
  refine lv_aload_n hx hb dL_law_952 rfl (lv_at hl 0 rfl) ?_
  refine lv_iload hx hb dL_law_953 (lv_at hl 5 rfl) ?_
  refine lv_iconst (v := 1) hx hb dL_law_955 (by decide) ?_
  refine lv_iadd hx hb dL_law_956 ?_
  refine lsld (z := nI v) hx hb hX hbl hbA hS (nI_add i 1) (by omega) (by omega) e1 dL_law_957 ?_
  refine lv_aload_n hx hb dL_law_958 rfl (lv_at hl 3 rfl) ?_
  have hP := P_perm hP pmJ
  have hD := D_perm hD pmJ
  refine kf_i (W2 := (od, oD K gd) :: Mfix K qm td (nI n) th M X) (vx_runSW (As := [.ref (ad 0), .int (nI v), .ref oj]) (rest := []) ⟨hx, hb, hml, hown, hts⟩ (h_clear hE hx4 hok) (vx_cwSW 3 hts gL_law_L_clear rfl rfl rfl (by decide +kernel) ⟨(Nat.le_of_ble_eq_true rfl), (Nat.le_of_ble_eq_true rfl)⟩) (lps hG hP hD hS) rfl rfl hl.1 rfl (lv_room (Nat.le_of_ble_eq_true rfl)) dL_law_959 ⟨(by show _ ≤ 601024; omega), (by show _ ≤ 7293034; omega)⟩) hS hP hD (fun r w H locs hp hP hD hS => ?_)
  obtain ⟨hr, w2, g1, hw, hg, hE⟩ := hp
  subst hw
  subst hr
  rw [clear_eq (X := X) hn30 hx4 hok _ (Nat.le_refl _)] at hg hE
  have hP := P_perm hP pmJ'
  have hD := D_perm hD pmJ'
  refine lv_istore (lv' := [(6, .int 0), (0, .ref b), (1, .ref (ad 0)), (2, .ref (qm 0)), (3, .ref oj), (4, .ref od), (5, .int (nI i))]) hx hb dL_law_962 hl (by decide) rfl (fun ls hl => ?_)
  refine lv_aload_n hx hb dL_law_964 rfl (lv_at hl 3 rfl) ?_
  refine lv_aload_n hx hb dL_law_965 rfl (lv_at hl 1 rfl) ?_
  refine lv_iload hx hb dL_law_966 (lv_at hl 6 rfl) ?_
  refine lv_iconst (v := 1) hx hb dL_law_968 (by decide) ?_
  refine lv_iadd hx hb dL_law_969 ?_
  refine lsld (z := nI v) hx hb hX hbl hbA hS (nI_add i 1) (by omega) (by omega) e1 dL_law_970 ?_
  have hP := P_perm hP pmM
  have hD := D_perm hD pmM
  refine kf_i (W2 := w2 ++ [(oj, oJ K g1), (od, oD K gd)]) (va_runV (As := [.int (nI v)]) (rest := []) ⟨hx, hb, hml, hown, hts⟩ (c_X2_clear_ok (L := (gaL td M v n)) hn30 hx4 hok hLn ch_0 (fun k hk => ch_s hk) (fun k hk => ch_1 hk)) (cwV 1 hts gL_law_X2_clear rfl rfl rfl (by decide +kernel) ⟨(Nat.le_of_ble_eq_true rfl), (Nat.le_of_ble_eq_true rfl)⟩) (lpv (q0 := 0) hG hP hD hS rfl rfl) rfl rfl hl.1 rfl (lv_room (Nat.le_of_ble_eq_true rfl)) dL_law_971 ⟨(by show _ ≤ 601024; omega), (by show _ ≤ 7293034; omega)⟩) hS hP hD (fun r971 w9 H locs hp hP hD hS => ?_)
  obtain ⟨hr, hw⟩ := hp
  subst hw
  subst hr
  have hP := P_perm hP pmM'
  have hD := D_perm hD pmM'
  refine lv_istore (lv' := [(7, .int ((clR td M (gaL td M v n) v ((plS td n M (gaL td M v n) v X (gaL td M v n).length).2) (gaL td M v n).length).2)), (6, .int 0), (0, .ref b), (1, .ref (ad 0)), (2, .ref (qm 0)), (3, .ref oj), (4, .ref od), (5, .int (nI i))]) hx hb dL_law_974 hl (by decide) rfl (fun ls hl => ?_)
  refine lv_aload_n hx hb dL_law_976 rfl (lv_at hl 4 rfl) ?_
  have hP := P_perm hP pmM
  have hD := D_perm hD pmM
  refine kf_i (W2 := w2 ++ [(oj, oJ K g1), (od, oD K gd)]) (va_runV (As := []) (rest := []) ⟨hx, hb, hml, hown, hts⟩ (c_X2_thrown) (cwV 0 hts gL_law_X2_thrown rfl rfl rfl (by decide +kernel) ⟨(Nat.le_of_ble_eq_true rfl), (Nat.le_of_ble_eq_true rfl)⟩) (lpv (q0 := 0) hG hP hD hS rfl rfl) rfl rfl hl.1 rfl (lv_room (Nat.le_of_ble_eq_true rfl)) dL_law_977 ⟨(by show _ ≤ 601024; omega), (by show _ ≤ 7293034; omega)⟩) hS hP hD (fun r977 w9 H locs hp hP hD hS => ?_)
  obtain ⟨hr, hw⟩ := hp
  subst hw
  subst hr
  have hP := P_perm hP pmM'
  have hD := D_perm hD pmM'
  refine lv_iload hx hb dL_law_980 (lv_at hl 1 rfl) ?_
  refine lv_icmp_eq (tgt := 987) hx hb dL_law_982 (by decide) (fun h982 => ?_) (fun h982 => False.elim (h982 rfl))
  refine lv_iload hx hb dL_law_987 (lv_at hl 1 rfl) ?_
  refine lv_if_ne (tgt := 1004) hx hb dL_law_989 (by decide) (fun h989 => False.elim (absurd rfl h989)) (fun h989 => ?_)
  refine lv_aload_n hx hb dL_law_992 rfl (lv_at hl 5 rfl) ?_
  refine lv_iconst (v := 0) hx hb dL_law_993 (by decide) ?_
  refine llald hx hb hG hP hg dL_law_994 ?_
  refine lv_iload hx hb dL_law_995 (lv_at hl 0 rfl) ?_
  refine lv_i2l (v := (((clR td M (gaL td M v n) v ((plS td n M (gaL td M v n) v X (gaL td M v n).length).2) (gaL td M v n).length).2) : Int32).toInt64) hx hb dL_law_997 rfl ?_
  refine llcmp hx hb dL_law_998 ?_
  refine lv_if_eq (tgt := 1004) hx hb dL_law_999 (by decide) (fun h999 => ?_) (fun h999 => False.elim (absurd rfl h999))
  refine lv_goto (tgt := 1346) hx hb dL_law_1004 (by decide) ?_
  exact W.widen (k := cells + 31) (n := slots + 1806) (by omega) (by omega) (kk _ _ _ _ _ _ _ _ _ H locs ls hE ((hIv.cl hLn _ (Nat.le_refl _)).up) hP hD hS (lv_sub hl [2, 3, 4, 5, 6, 7] rfl))
set_option maxHeartbeats 4000000 in
set_option maxRecDepth 100000 in
theorem q_most_tb {p : Program} {l : Launch} {e : Env} {s : State} {m : MethodId} {args : Array Value} {below : List Frame} {meth : Method} {c : Code} {H : Heap} {locs : List Loc} {cells slots : Nat} {Q : State → Prop} {ls : Array Slot} {K : Ks} {A : Nat → Prop} {ad bad qm : Nat → Nat} {td th : Int32} {n : Nat} {M X : Nat → Nat → Int32} {w : va_W} {oj od : Nat} {g : Nat → Int64} {gd : Nat → UInt64} {b L i j : Nat} {xs : Nat → Int32} (h0 : LSt p l s m args c K A b L xs) (hE : DkE K ad bad td n M w) (hIv : Iv j td n M) (hP : va_P K.1 kCl (CW K qm oj od td n th M X w g gd) H) (hD : va_D A (CW K qm oj od td n th M X w g gd)) (hS : va_S A s.heap H locs) (hl : lv_has ls 8 [(0, .ref b), (1, .ref (ad 0)), (2, .ref (qm 0)), (3, .ref oj), (4, .ref od), (5, .int (nI i))]) (hi : i + 4 < L) (hcl : cells + 31 ≤ 601024) (hsl : slots + 1806 ≤ 7293034) (hj : j ≤ 100000) (kk : LEnd p l e s m args below meth c Q K A b ad qm oj od i j cells slots) {x : Int32} (hx4 : ixBad 4 x) (e1 : xs (i + 1) = x) : W p l e room_1 s m args below meth c H locs cells slots Q (F0 m 1007 ls []) := by
  obtain ⟨hx, hb, hml, hown, hts, hG, hX, hbl, hbA, hL, hlt⟩ := h0
  have hok := hIv.ok
  have hn30 := hIv.1
  refine lv_aload_n hx hb dL_law_1007 rfl (lv_at hl 1 rfl) ?_
  refine lv_aload_n hx hb dL_law_1008 rfl (lv_at hl 0 rfl) ?_
  refine lv_iload hx hb dL_law_1009 (lv_at hl 5 rfl) ?_
  refine lv_iconst (v := 1) hx hb dL_law_1011 (by decide) ?_
  refine lv_iadd hx hb dL_law_1012 ?_
  refine lsld (z := x) hx hb hX hbl hbA hS (nI_add i 1) (by omega) (by omega) e1 dL_law_1013 ?_
  refine lv_aload_n hx hb dL_law_1014 rfl (lv_at hl 3 rfl) ?_
  have hP := P_perm hP pmJ
  have hD := D_perm hD pmJ
  refine kf_i (W2 := (od, oD K gd) :: Mfix K qm td (nI n) th M X) (vx_runSW (As := [.ref (ad 0), .int x, .ref oj]) (rest := []) ⟨hx, hb, hml, hown, hts⟩ (h_most_tb hE hlt hx4) (vx_cwSW 3 hts gL_law_L_most rfl rfl rfl (by decide +kernel) ⟨(Nat.le_of_ble_eq_true rfl), (Nat.le_of_ble_eq_true rfl)⟩) (lps hG hP hD hS) rfl rfl hl.1 rfl (lv_room (Nat.le_of_ble_eq_true rfl)) dL_law_1015 ⟨(by show _ ≤ 601024; omega), (by show _ ≤ 7293034; omega)⟩) hS hP hD (fun r w H locs hp hP hD hS => ?_)
  obtain ⟨hr, w2, hw, hE⟩ := hp
  subst hw
  subst hr
  have hP := P_perm hP pmJ'
  have hD := D_perm hD pmJ'
  refine lv_istore (lv' := [(6, .int 1), (0, .ref b), (1, .ref (ad 0)), (2, .ref (qm 0)), (3, .ref oj), (4, .ref od), (5, .int (nI i))]) hx hb dL_law_1018 hl (by decide) rfl (fun ls hl => ?_)
  refine lv_aload_n hx hb dL_law_1020 rfl (lv_at hl 3 rfl) ?_
  refine lv_aload_n hx hb dL_law_1021 rfl (lv_at hl 1 rfl) ?_
  refine lv_iload hx hb dL_law_1022 (lv_at hl 6 rfl) ?_
  refine lv_iconst (v := 1) hx hb dL_law_1024 (by decide) ?_
  refine lv_iadd hx hb dL_law_1025 ?_
  refine lsld (z := x) hx hb hX hbl hbA hS (nI_add i 1) (by omega) (by omega) e1 dL_law_1026 ?_
  have hP := P_perm hP pmM
  have hD := D_perm hD pmM
  refine kf_i (W2 := w2 ++ [(oj, oJ K g), (od, oD K gd)]) (va_runV (As := [.int x]) (rest := []) ⟨hx, hb, hml, hown, hts⟩ (c_X2_most_1 hx4) (cwV 1 hts gL_law_X2_most rfl rfl rfl (by decide +kernel) ⟨(Nat.le_of_ble_eq_true rfl), (Nat.le_of_ble_eq_true rfl)⟩) (lpv (q0 := 0) hG hP hD hS rfl rfl) rfl rfl hl.1 rfl (lv_room (Nat.le_of_ble_eq_true rfl)) dL_law_1027 ⟨(by show _ ≤ 601024; omega), (by show _ ≤ 7293034; omega)⟩) hS hP hD (fun r1027 w9 H locs hp hP hD hS => ?_)
  subst hp
  have hP := P_perm hP pmM'
  have hD := D_perm hD pmM'
  refine lv_istore (lv' := [(7, .int r1027), (6, .int 1), (0, .ref b), (1, .ref (ad 0)), (2, .ref (qm 0)), (3, .ref oj), (4, .ref od), (5, .int (nI i))]) hx hb dL_law_1030 hl (by decide) rfl (fun ls hl => ?_)
  refine lv_aload_n hx hb dL_law_1032 rfl (lv_at hl 4 rfl) ?_
  have hP := P_perm hP pmM
  have hD := D_perm hD pmM
  refine kf_i (W2 := w2 ++ [(oj, oJ K g), (od, oD K gd)]) (va_runV (As := []) (rest := []) ⟨hx, hb, hml, hown, hts⟩ (c_X2_thrown) (cwV 0 hts gL_law_X2_thrown rfl rfl rfl (by decide +kernel) ⟨(Nat.le_of_ble_eq_true rfl), (Nat.le_of_ble_eq_true rfl)⟩) (lpv (q0 := 0) hG hP hD hS rfl rfl) rfl rfl hl.1 rfl (lv_room (Nat.le_of_ble_eq_true rfl)) dL_law_1033 ⟨(by show _ ≤ 601024; omega), (by show _ ≤ 7293034; omega)⟩) hS hP hD (fun r1033 w9 H locs hp hP hD hS => ?_)
  obtain ⟨hr, hw⟩ := hp
  subst hw
  subst hr
  have hP := P_perm hP pmM'
  have hD := D_perm hD pmM'
  refine lv_iload hx hb dL_law_1036 (lv_at hl 1 rfl) ?_
  refine lv_icmp_eq (tgt := 1043) hx hb dL_law_1038 (by decide) (fun h1038 => ?_) (fun h1038 => False.elim (h1038 rfl))
  refine lv_iload hx hb dL_law_1043 (lv_at hl 1 rfl) ?_
  refine lv_if_ne (tgt := 1060) hx hb dL_law_1045 (by decide) (fun h1045 => ?_) (fun h1045 => False.elim (absurd h1045 (by decide)))
  refine lv_goto (tgt := 1346) hx hb dL_law_1060 (by decide) ?_
  exact W.widen (k := cells + 31) (n := slots + 1806) (by omega) (by omega) (kk _ _ _ _ _ _ _ _ _ H locs ls hE (hIv.up) hP hD hS (lv_sub hl [2, 3, 4, 5, 6, 7] rfl))
set_option maxHeartbeats 4000000 in
set_option maxRecDepth 100000 in
theorem q_most_tp {p : Program} {l : Launch} {e : Env} {s : State} {m : MethodId} {args : Array Value} {below : List Frame} {meth : Method} {c : Code} {H : Heap} {locs : List Loc} {cells slots : Nat} {Q : State → Prop} {ls : Array Slot} {K : Ks} {A : Nat → Prop} {ad bad qm : Nat → Nat} {td th : Int32} {n : Nat} {M X : Nat → Nat → Int32} {w : va_W} {oj od : Nat} {g : Nat → Int64} {gd : Nat → UInt64} {b L i j : Nat} {xs : Nat → Int32} (h0 : LSt p l s m args c K A b L xs) (hE : DkE K ad bad td n M w) (hIv : Iv j td n M) (hP : va_P K.1 kCl (CW K qm oj od td n th M X w g gd) H) (hD : va_D A (CW K qm oj od td n th M X w g gd)) (hS : va_S A s.heap H locs) (hl : lv_has ls 8 [(0, .ref b), (1, .ref (ad 0)), (2, .ref (qm 0)), (3, .ref oj), (4, .ref od), (5, .int (nI i))]) (hi : i + 4 < L) (hcl : cells + 31 ≤ 601024) (hsl : slots + 1806 ≤ 7293034) (hj : j ≤ 100000) (kk : LEnd p l e s m args below meth c Q K A b ad qm oj od i j cells slots) {v : Nat} (hx4 : v < 4) (hk12 : 12 < (gaL td M v n).length) (e1 : xs (i + 1) = nI v) : W p l e room_1 s m args below meth c H locs cells slots Q (F0 m 1007 ls []) := by
  obtain ⟨hx, hb, hml, hown, hts, hG, hX, hbl, hbA, hL, hlt⟩ := h0
  have hok := hIv.ok
  have hn30 := hIv.1
  refine lv_aload_n hx hb dL_law_1007 rfl (lv_at hl 1 rfl) ?_
  refine lv_aload_n hx hb dL_law_1008 rfl (lv_at hl 0 rfl) ?_
  refine lv_iload hx hb dL_law_1009 (lv_at hl 5 rfl) ?_
  refine lv_iconst (v := 1) hx hb dL_law_1011 (by decide) ?_
  refine lv_iadd hx hb dL_law_1012 ?_
  refine lsld (z := nI v) hx hb hX hbl hbA hS (nI_add i 1) (by omega) (by omega) e1 dL_law_1013 ?_
  refine lv_aload_n hx hb dL_law_1014 rfl (lv_at hl 3 rfl) ?_
  have hP := P_perm hP pmJ
  have hD := D_perm hD pmJ
  refine kf_i (W2 := (od, oD K gd) :: Mfix K qm td (nI n) th M X) (vx_runSW (As := [.ref (ad 0), .int (nI v), .ref oj]) (rest := []) ⟨hx, hb, hml, hown, hts⟩ (h_most_tp hE hlt hx4 hk12) (vx_cwSW 3 hts gL_law_L_most rfl rfl rfl (by decide +kernel) ⟨(Nat.le_of_ble_eq_true rfl), (Nat.le_of_ble_eq_true rfl)⟩) (lps hG hP hD hS) rfl rfl hl.1 rfl (lv_room (Nat.le_of_ble_eq_true rfl)) dL_law_1015 ⟨(by show _ ≤ 601024; omega), (by show _ ≤ 7293034; omega)⟩) hS hP hD (fun r w H locs hp hP hD hS => ?_)
  obtain ⟨hr, w2, hw, hE⟩ := hp
  subst hw
  subst hr
  have hP := P_perm hP pmJ'
  have hD := D_perm hD pmJ'
  refine lv_istore (lv' := [(6, .int 2), (0, .ref b), (1, .ref (ad 0)), (2, .ref (qm 0)), (3, .ref oj), (4, .ref od), (5, .int (nI i))]) hx hb dL_law_1018 hl (by decide) rfl (fun ls hl => ?_)
  refine lv_aload_n hx hb dL_law_1020 rfl (lv_at hl 3 rfl) ?_
  refine lv_aload_n hx hb dL_law_1021 rfl (lv_at hl 1 rfl) ?_
  refine lv_iload hx hb dL_law_1022 (lv_at hl 6 rfl) ?_
  refine lv_iconst (v := 1) hx hb dL_law_1024 (by decide) ?_
  refine lv_iadd hx hb dL_law_1025 ?_
  refine lsld (z := nI v) hx hb hX hbl hbA hS (nI_add i 1) (by omega) (by omega) e1 dL_law_1026 ?_
  have hP := P_perm hP pmM
  have hD := D_perm hD pmM
  refine kf_i (W2 := w2 ++ [(oj, oJ K g), (od, oD K gd)]) (va_runV (As := [.int (nI v)]) (rest := []) ⟨hx, hb, hml, hown, hts⟩ (c_X2_most_2 hn30 hx4 (by rw [← ga_len]; exact hk12)) (cwV 1 hts gL_law_X2_most rfl rfl rfl (by decide +kernel) ⟨(Nat.le_of_ble_eq_true rfl), (Nat.le_of_ble_eq_true rfl)⟩) (lpv (q0 := 0) hG hP hD hS rfl rfl) rfl rfl hl.1 rfl (lv_room (Nat.le_of_ble_eq_true rfl)) dL_law_1027 ⟨(by show _ ≤ 601024; omega), (by show _ ≤ 7293034; omega)⟩) hS hP hD (fun r1027 w9 H locs hp hP hD hS => ?_)
  subst hp
  have hP := P_perm hP pmM'
  have hD := D_perm hD pmM'
  refine lv_istore (lv' := [(7, .int r1027), (6, .int 2), (0, .ref b), (1, .ref (ad 0)), (2, .ref (qm 0)), (3, .ref oj), (4, .ref od), (5, .int (nI i))]) hx hb dL_law_1030 hl (by decide) rfl (fun ls hl => ?_)
  refine lv_aload_n hx hb dL_law_1032 rfl (lv_at hl 4 rfl) ?_
  have hP := P_perm hP pmM
  have hD := D_perm hD pmM
  refine kf_i (W2 := w2 ++ [(oj, oJ K g), (od, oD K gd)]) (va_runV (As := []) (rest := []) ⟨hx, hb, hml, hown, hts⟩ (c_X2_thrown) (cwV 0 hts gL_law_X2_thrown rfl rfl rfl (by decide +kernel) ⟨(Nat.le_of_ble_eq_true rfl), (Nat.le_of_ble_eq_true rfl)⟩) (lpv (q0 := 0) hG hP hD hS rfl rfl) rfl rfl hl.1 rfl (lv_room (Nat.le_of_ble_eq_true rfl)) dL_law_1033 ⟨(by show _ ≤ 601024; omega), (by show _ ≤ 7293034; omega)⟩) hS hP hD (fun r1033 w9 H locs hp hP hD hS => ?_)
  obtain ⟨hr, hw⟩ := hp
  subst hw
  subst hr
  have hP := P_perm hP pmM'
  have hD := D_perm hD pmM'
  refine lv_iload hx hb dL_law_1036 (lv_at hl 1 rfl) ?_
  refine lv_icmp_eq (tgt := 1043) hx hb dL_law_1038 (by decide) (fun h1038 => ?_) (fun h1038 => False.elim (h1038 rfl))
  refine lv_iload hx hb dL_law_1043 (lv_at hl 1 rfl) ?_
  refine lv_if_ne (tgt := 1060) hx hb dL_law_1045 (by decide) (fun h1045 => ?_) (fun h1045 => False.elim (absurd h1045 (by decide)))
  refine lv_goto (tgt := 1346) hx hb dL_law_1060 (by decide) ?_
  exact W.widen (k := cells + 31) (n := slots + 1806) (by omega) (by omega) (kk _ _ _ _ _ _ _ _ _ H locs ls hE (hIv.up) hP hD hS (lv_sub hl [2, 3, 4, 5, 6, 7] rfl))
set_option maxHeartbeats 4000000 in
set_option maxRecDepth 100000 in
theorem q_most {p : Program} {l : Launch} {e : Env} {s : State} {m : MethodId} {args : Array Value} {below : List Frame} {meth : Method} {c : Code} {H : Heap} {locs : List Loc} {cells slots : Nat} {Q : State → Prop} {ls : Array Slot} {K : Ks} {A : Nat → Prop} {ad bad qm : Nat → Nat} {td th : Int32} {n : Nat} {M X : Nat → Nat → Int32} {w : va_W} {oj od : Nat} {g : Nat → Int64} {gd : Nat → UInt64} {b L i j : Nat} {xs : Nat → Int32} (h0 : LSt p l s m args c K A b L xs) (hE : DkE K ad bad td n M w) (hIv : Iv j td n M) (hP : va_P K.1 kCl (CW K qm oj od td n th M X w g gd) H) (hD : va_D A (CW K qm oj od td n th M X w g gd)) (hS : va_S A s.heap H locs) (hl : lv_has ls 8 [(0, .ref b), (1, .ref (ad 0)), (2, .ref (qm 0)), (3, .ref oj), (4, .ref od), (5, .int (nI i))]) (hi : i + 4 < L) (hcl : cells + 31 ≤ 601024) (hsl : slots + 1806 ≤ 7293034) (hj : j ≤ 100000) (kk : LEnd p l e s m args below meth c Q K A b ad qm oj od i j cells slots) {v : Nat} (hx4 : v < 4) (hk12 : (gaL td M v n).length ≤ 12) (e1 : xs (i + 1) = nI v) : W p l e room_1 s m args below meth c H locs cells slots Q (F0 m 1007 ls []) := by
  obtain ⟨hx, hb, hml, hown, hts, hG, hX, hbl, hbA, hL, hlt⟩ := h0
  have hok := hIv.ok
  have hn30 := hIv.1
  refine lv_aload_n hx hb dL_law_1007 rfl (lv_at hl 1 rfl) ?_
  refine lv_aload_n hx hb dL_law_1008 rfl (lv_at hl 0 rfl) ?_
  refine lv_iload hx hb dL_law_1009 (lv_at hl 5 rfl) ?_
  refine lv_iconst (v := 1) hx hb dL_law_1011 (by decide) ?_
  refine lv_iadd hx hb dL_law_1012 ?_
  refine lsld (z := nI v) hx hb hX hbl hbA hS (nI_add i 1) (by omega) (by omega) e1 dL_law_1013 ?_
  refine lv_aload_n hx hb dL_law_1014 rfl (lv_at hl 3 rfl) ?_
  have hP := P_perm hP pmJ
  have hD := D_perm hD pmJ
  refine kf_i (W2 := (od, oD K gd) :: Mfix K qm td (nI n) th M X) (vx_runSW (As := [.ref (ad 0), .int (nI v), .ref oj]) (rest := []) ⟨hx, hb, hml, hown, hts⟩ (h_most hE hx4 hk12 hok) (vx_cwSW 3 hts gL_law_L_most rfl rfl rfl (by decide +kernel) ⟨(Nat.le_of_ble_eq_true rfl), (Nat.le_of_ble_eq_true rfl)⟩) (lps hG hP hD hS) rfl rfl hl.1 rfl (lv_room (Nat.le_of_ble_eq_true rfl)) dL_law_1015 ⟨(by show _ ≤ 601024; omega), (by show _ ≤ 7293034; omega)⟩) hS hP hD (fun r w H locs hp hP hD hS => ?_)
  obtain ⟨hr, w2, g1, rm, hw, hg, hE⟩ := hp
  subst hw
  subst hr
  rw [most_eq hok hk12 (hIv.offer hj)] at hg
  have hP := P_perm hP pmJ'
  have hD := D_perm hD pmJ'
  refine lv_istore (lv' := [(6, .int 0), (0, .ref b), (1, .ref (ad 0)), (2, .ref (qm 0)), (3, .ref oj), (4, .ref od), (5, .int (nI i))]) hx hb dL_law_1018 hl (by decide) rfl (fun ls hl => ?_)
  refine lv_aload_n hx hb dL_law_1020 rfl (lv_at hl 3 rfl) ?_
  refine lv_aload_n hx hb dL_law_1021 rfl (lv_at hl 1 rfl) ?_
  refine lv_iload hx hb dL_law_1022 (lv_at hl 6 rfl) ?_
  refine lv_iconst (v := 1) hx hb dL_law_1024 (by decide) ?_
  refine lv_iadd hx hb dL_law_1025 ?_
  refine lsld (z := nI v) hx hb hX hbl hbA hS (nI_add i 1) (by omega) (by omega) e1 dL_law_1026 ?_
  have hP := P_perm hP pmM
  have hD := D_perm hD pmM
  refine kf_i (W2 := w2 ++ [(oj, oJ K g1), (od, oD K gd)]) (va_runV (As := [.int (nI v)]) (rest := []) ⟨hx, hb, hml, hown, hts⟩ (c_X2_most_ok hn30 hx4 hok (by rw [← ga_len]; exact hk12)) (cwV 1 hts gL_law_X2_most rfl rfl rfl (by decide +kernel) ⟨(Nat.le_of_ble_eq_true rfl), (Nat.le_of_ble_eq_true rfl)⟩) (lpv (q0 := 0) hG hP hD hS rfl rfl) rfl rfl hl.1 rfl (lv_room (Nat.le_of_ble_eq_true rfl)) dL_law_1027 ⟨(by show _ ≤ 601024; omega), (by show _ ≤ 7293034; omega)⟩) hS hP hD (fun r1027 w9 H locs hp hP hD hS => ?_)
  obtain ⟨hr, X1, hw⟩ := hp
  subst hw
  subst hr
  have hP := P_perm hP pmM'
  have hD := D_perm hD pmM'
  refine lv_istore (lv' := [(7, .int (bmS (brR td n M v (ofL td M v n) (fun _ => 0)) (2 ^ (ofL td M v n).length - 1))), (6, .int 0), (0, .ref b), (1, .ref (ad 0)), (2, .ref (qm 0)), (3, .ref oj), (4, .ref od), (5, .int (nI i))]) hx hb dL_law_1030 hl (by decide) rfl (fun ls hl => ?_)
  refine lv_aload_n hx hb dL_law_1032 rfl (lv_at hl 4 rfl) ?_
  have hP := P_perm hP pmM
  have hD := D_perm hD pmM
  refine kf_i (W2 := w2 ++ [(oj, oJ K g1), (od, oD K gd)]) (va_runV (As := []) (rest := []) ⟨hx, hb, hml, hown, hts⟩ (c_X2_thrown) (cwV 0 hts gL_law_X2_thrown rfl rfl rfl (by decide +kernel) ⟨(Nat.le_of_ble_eq_true rfl), (Nat.le_of_ble_eq_true rfl)⟩) (lpv (q0 := 0) hG hP hD hS rfl rfl) rfl rfl hl.1 rfl (lv_room (Nat.le_of_ble_eq_true rfl)) dL_law_1033 ⟨(by show _ ≤ 601024; omega), (by show _ ≤ 7293034; omega)⟩) hS hP hD (fun r1033 w9 H locs hp hP hD hS => ?_)
  obtain ⟨hr, hw⟩ := hp
  subst hw
  subst hr
  have hP := P_perm hP pmM'
  have hD := D_perm hD pmM'
  refine lv_iload hx hb dL_law_1036 (lv_at hl 1 rfl) ?_
  refine lv_icmp_eq (tgt := 1043) hx hb dL_law_1038 (by decide) (fun h1038 => ?_) (fun h1038 => False.elim (h1038 rfl))
  refine lv_iload hx hb dL_law_1043 (lv_at hl 1 rfl) ?_
  refine lv_if_ne (tgt := 1060) hx hb dL_law_1045 (by decide) (fun h1045 => False.elim (absurd rfl h1045)) (fun h1045 => ?_)
  refine lv_aload_n hx hb dL_law_1048 rfl (lv_at hl 5 rfl) ?_
  refine lv_iconst (v := 0) hx hb dL_law_1049 (by decide) ?_
  refine llald hx hb hG hP hg dL_law_1050 ?_
  refine lv_iload hx hb dL_law_1051 (lv_at hl 0 rfl) ?_
  refine lv_i2l (v := ((bmS (brR td n M v (ofL td M v n) (fun _ => 0)) (2 ^ (ofL td M v n).length - 1)) : Int32).toInt64) hx hb dL_law_1053 rfl ?_
  refine llcmp hx hb dL_law_1054 ?_
  refine lv_if_eq (tgt := 1060) hx hb dL_law_1055 (by decide) (fun h1055 => ?_) (fun h1055 => False.elim (absurd rfl h1055))
  refine lv_goto (tgt := 1346) hx hb dL_law_1060 (by decide) ?_
  exact W.widen (k := cells + 31) (n := slots + 1806) (by omega) (by omega) (kk _ _ _ _ _ _ _ _ _ H locs ls hE (hIv.up) hP hD hS (lv_sub hl [2, 3, 4, 5, 6, 7] rfl))
set_option maxHeartbeats 4000000 in
set_option maxRecDepth 100000 in
theorem q_left_tb {p : Program} {l : Launch} {e : Env} {s : State} {m : MethodId} {args : Array Value} {below : List Frame} {meth : Method} {c : Code} {H : Heap} {locs : List Loc} {cells slots : Nat} {Q : State → Prop} {ls : Array Slot} {K : Ks} {A : Nat → Prop} {ad bad qm : Nat → Nat} {td th : Int32} {n : Nat} {M X : Nat → Nat → Int32} {w : va_W} {oj od : Nat} {g : Nat → Int64} {gd : Nat → UInt64} {b L i j : Nat} {xs : Nat → Int32} (h0 : LSt p l s m args c K A b L xs) (hE : DkE K ad bad td n M w) (hIv : Iv j td n M) (hP : va_P K.1 kCl (CW K qm oj od td n th M X w g gd) H) (hD : va_D A (CW K qm oj od td n th M X w g gd)) (hS : va_S A s.heap H locs) (hl : lv_has ls 8 [(0, .ref b), (1, .ref (ad 0)), (2, .ref (qm 0)), (3, .ref oj), (4, .ref od), (5, .int (nI i))]) (hi : i + 4 < L) (hcl : cells + 31 ≤ 601024) (hsl : slots + 1806 ≤ 7293034) (hj : j ≤ 100000) (kk : LEnd p l e s m args below meth c Q K A b ad qm oj od i j cells slots) {x y : Int32} (hx4 : ixBad 4 x) (e1 : xs (i + 1) = x) (e2 : xs (i + 2) = y) : W p l e room_1 s m args below meth c H locs cells slots Q (F0 m 1063 ls []) := by
  obtain ⟨hx, hb, hml, hown, hts, hG, hX, hbl, hbA, hL, hlt⟩ := h0
  have hok := hIv.ok
  have hn30 := hIv.1
  refine lv_aload_n hx hb dL_law_1063 rfl (lv_at hl 1 rfl) ?_
  refine lv_aload_n hx hb dL_law_1064 rfl (lv_at hl 0 rfl) ?_
  refine lv_iload hx hb dL_law_1065 (lv_at hl 5 rfl) ?_
  refine lv_iconst (v := 1) hx hb dL_law_1067 (by decide) ?_
  refine lv_iadd hx hb dL_law_1068 ?_
  refine lsld (z := x) hx hb hX hbl hbA hS (nI_add i 1) (by omega) (by omega) e1 dL_law_1069 ?_
  refine lv_aload_n hx hb dL_law_1070 rfl (lv_at hl 0 rfl) ?_
  refine lv_iload hx hb dL_law_1071 (lv_at hl 5 rfl) ?_
  refine lv_iconst (v := 2) hx hb dL_law_1073 (by decide) ?_
  refine lv_iadd hx hb dL_law_1074 ?_
  refine lsld (z := y) hx hb hX hbl hbA hS (nI_add i 2) (by omega) (by omega) e2 dL_law_1075 ?_
  refine lv_aload_n hx hb dL_law_1076 rfl (lv_at hl 3 rfl) ?_
  have hP := P_perm hP pmJ
  have hD := D_perm hD pmJ
  refine kf_i (W2 := (od, oD K gd) :: Mfix K qm td (nI n) th M X) (vx_runSW (As := [.ref (ad 0), .int x, .int y, .ref oj]) (rest := []) ⟨hx, hb, hml, hown, hts⟩ (h_left_tb hE hlt hx4) (vx_cwSW 4 hts gL_law_L_left rfl rfl rfl (by decide +kernel) ⟨(Nat.le_of_ble_eq_true rfl), (Nat.le_of_ble_eq_true rfl)⟩) (lps hG hP hD hS) rfl rfl hl.1 rfl (lv_room (Nat.le_of_ble_eq_true rfl)) dL_law_1077 ⟨(by show _ ≤ 601024; omega), (by show _ ≤ 7293034; omega)⟩) hS hP hD (fun r w H locs hp hP hD hS => ?_)
  obtain ⟨hr, w2, hw, hE⟩ := hp
  subst hw
  subst hr
  have hP := P_perm hP pmJ'
  have hD := D_perm hD pmJ'
  refine lv_istore (lv' := [(6, .int 1), (0, .ref b), (1, .ref (ad 0)), (2, .ref (qm 0)), (3, .ref oj), (4, .ref od), (5, .int (nI i))]) hx hb dL_law_1080 hl (by decide) rfl (fun ls hl => ?_)
  refine lv_aload_n hx hb dL_law_1082 rfl (lv_at hl 3 rfl) ?_
  refine lv_aload_n hx hb dL_law_1083 rfl (lv_at hl 1 rfl) ?_
  refine lv_iload hx hb dL_law_1084 (lv_at hl 6 rfl) ?_
  refine lv_iconst (v := 1) hx hb dL_law_1086 (by decide) ?_
  refine lv_iadd hx hb dL_law_1087 ?_
  refine lsld (z := x) hx hb hX hbl hbA hS (nI_add i 1) (by omega) (by omega) e1 dL_law_1088 ?_
  refine lv_aload_n hx hb dL_law_1089 rfl (lv_at hl 1 rfl) ?_
  refine lv_iload hx hb dL_law_1090 (lv_at hl 6 rfl) ?_
  refine lv_iconst (v := 2) hx hb dL_law_1092 (by decide) ?_
  refine lv_iadd hx hb dL_law_1093 ?_
  refine lsld (z := y) hx hb hX hbl hbA hS (nI_add i 2) (by omega) (by omega) e2 dL_law_1094 ?_
  have hP := P_perm hP pmM
  have hD := D_perm hD pmM
  refine kf_i (W2 := w2 ++ [(oj, oJ K g), (od, oD K gd)]) (va_runV (As := [.int x, .int y]) (rest := []) ⟨hx, hb, hml, hown, hts⟩ (c_X2_left_1b hx4) (cwV 2 hts gL_law_X2_left rfl rfl rfl (by decide +kernel) ⟨(Nat.le_of_ble_eq_true rfl), (Nat.le_of_ble_eq_true rfl)⟩) (lpv (q0 := 0) hG hP hD hS rfl rfl) rfl rfl hl.1 rfl (lv_room (Nat.le_of_ble_eq_true rfl)) dL_law_1095 ⟨(by show _ ≤ 601024; omega), (by show _ ≤ 7293034; omega)⟩) hS hP hD (fun r1095 w9 H locs hp hP hD hS => ?_)
  subst hp
  have hP := P_perm hP pmM'
  have hD := D_perm hD pmM'
  refine lv_istore (lv' := [(7, .int r1095), (6, .int 1), (0, .ref b), (1, .ref (ad 0)), (2, .ref (qm 0)), (3, .ref oj), (4, .ref od), (5, .int (nI i))]) hx hb dL_law_1098 hl (by decide) rfl (fun ls hl => ?_)
  refine lv_aload_n hx hb dL_law_1100 rfl (lv_at hl 4 rfl) ?_
  have hP := P_perm hP pmM
  have hD := D_perm hD pmM
  refine kf_i (W2 := w2 ++ [(oj, oJ K g), (od, oD K gd)]) (va_runV (As := []) (rest := []) ⟨hx, hb, hml, hown, hts⟩ (c_X2_thrown) (cwV 0 hts gL_law_X2_thrown rfl rfl rfl (by decide +kernel) ⟨(Nat.le_of_ble_eq_true rfl), (Nat.le_of_ble_eq_true rfl)⟩) (lpv (q0 := 0) hG hP hD hS rfl rfl) rfl rfl hl.1 rfl (lv_room (Nat.le_of_ble_eq_true rfl)) dL_law_1101 ⟨(by show _ ≤ 601024; omega), (by show _ ≤ 7293034; omega)⟩) hS hP hD (fun r1101 w9 H locs hp hP hD hS => ?_)
  obtain ⟨hr, hw⟩ := hp
  subst hw
  subst hr
  have hP := P_perm hP pmM'
  have hD := D_perm hD pmM'
  refine lv_iload hx hb dL_law_1104 (lv_at hl 1 rfl) ?_
  refine lv_icmp_eq (tgt := 1111) hx hb dL_law_1106 (by decide) (fun h1106 => ?_) (fun h1106 => False.elim (h1106 rfl))
  refine lv_iload hx hb dL_law_1111 (lv_at hl 1 rfl) ?_
  refine lv_if_ne (tgt := 1128) hx hb dL_law_1113 (by decide) (fun h1113 => ?_) (fun h1113 => False.elim (absurd h1113 (by decide)))
  refine lv_goto (tgt := 1346) hx hb dL_law_1128 (by decide) ?_
  exact W.widen (k := cells + 31) (n := slots + 1806) (by omega) (by omega) (kk _ _ _ _ _ _ _ _ _ H locs ls hE (hIv.up) hP hD hS (lv_sub hl [2, 3, 4, 5, 6, 7] rfl))
set_option maxHeartbeats 4000000 in
set_option maxRecDepth 100000 in
theorem q_left_ts {p : Program} {l : Launch} {e : Env} {s : State} {m : MethodId} {args : Array Value} {below : List Frame} {meth : Method} {c : Code} {H : Heap} {locs : List Loc} {cells slots : Nat} {Q : State → Prop} {ls : Array Slot} {K : Ks} {A : Nat → Prop} {ad bad qm : Nat → Nat} {td th : Int32} {n : Nat} {M X : Nat → Nat → Int32} {w : va_W} {oj od : Nat} {g : Nat → Int64} {gd : Nat → UInt64} {b L i j : Nat} {xs : Nat → Int32} (h0 : LSt p l s m args c K A b L xs) (hE : DkE K ad bad td n M w) (hIv : Iv j td n M) (hP : va_P K.1 kCl (CW K qm oj od td n th M X w g gd) H) (hD : va_D A (CW K qm oj od td n th M X w g gd)) (hS : va_S A s.heap H locs) (hl : lv_has ls 8 [(0, .ref b), (1, .ref (ad 0)), (2, .ref (qm 0)), (3, .ref oj), (4, .ref od), (5, .int (nI i))]) (hi : i + 4 < L) (hcl : cells + 31 ≤ 601024) (hsl : slots + 1806 ≤ 7293034) (hj : j ≤ 100000) (kk : LEnd p l e s m args below meth c Q K A b ad qm oj od i j cells slots) {v : Nat} {y : Int32} (hx4 : v < 4) (hx8 : ixBad 8 y) (e1 : xs (i + 1) = nI v) (e2 : xs (i + 2) = y) : W p l e room_1 s m args below meth c H locs cells slots Q (F0 m 1063 ls []) := by
  obtain ⟨hx, hb, hml, hown, hts, hG, hX, hbl, hbA, hL, hlt⟩ := h0
  have hok := hIv.ok
  have hn30 := hIv.1
  refine lv_aload_n hx hb dL_law_1063 rfl (lv_at hl 1 rfl) ?_
  refine lv_aload_n hx hb dL_law_1064 rfl (lv_at hl 0 rfl) ?_
  refine lv_iload hx hb dL_law_1065 (lv_at hl 5 rfl) ?_
  refine lv_iconst (v := 1) hx hb dL_law_1067 (by decide) ?_
  refine lv_iadd hx hb dL_law_1068 ?_
  refine lsld (z := nI v) hx hb hX hbl hbA hS (nI_add i 1) (by omega) (by omega) e1 dL_law_1069 ?_
  refine lv_aload_n hx hb dL_law_1070 rfl (lv_at hl 0 rfl) ?_
  refine lv_iload hx hb dL_law_1071 (lv_at hl 5 rfl) ?_
  refine lv_iconst (v := 2) hx hb dL_law_1073 (by decide) ?_
  refine lv_iadd hx hb dL_law_1074 ?_
  refine lsld (z := y) hx hb hX hbl hbA hS (nI_add i 2) (by omega) (by omega) e2 dL_law_1075 ?_
  refine lv_aload_n hx hb dL_law_1076 rfl (lv_at hl 3 rfl) ?_
  have hP := P_perm hP pmJ
  have hD := D_perm hD pmJ
  refine kf_i (W2 := (od, oD K gd) :: Mfix K qm td (nI n) th M X) (vx_runSW (As := [.ref (ad 0), .int (nI v), .int y, .ref oj]) (rest := []) ⟨hx, hb, hml, hown, hts⟩ (h_left_ts hE hlt hx4 hx8) (vx_cwSW 4 hts gL_law_L_left rfl rfl rfl (by decide +kernel) ⟨(Nat.le_of_ble_eq_true rfl), (Nat.le_of_ble_eq_true rfl)⟩) (lps hG hP hD hS) rfl rfl hl.1 rfl (lv_room (Nat.le_of_ble_eq_true rfl)) dL_law_1077 ⟨(by show _ ≤ 601024; omega), (by show _ ≤ 7293034; omega)⟩) hS hP hD (fun r w H locs hp hP hD hS => ?_)
  obtain ⟨hr, w2, hw, hE⟩ := hp
  subst hw
  subst hr
  have hP := P_perm hP pmJ'
  have hD := D_perm hD pmJ'
  refine lv_istore (lv' := [(6, .int 1), (0, .ref b), (1, .ref (ad 0)), (2, .ref (qm 0)), (3, .ref oj), (4, .ref od), (5, .int (nI i))]) hx hb dL_law_1080 hl (by decide) rfl (fun ls hl => ?_)
  refine lv_aload_n hx hb dL_law_1082 rfl (lv_at hl 3 rfl) ?_
  refine lv_aload_n hx hb dL_law_1083 rfl (lv_at hl 1 rfl) ?_
  refine lv_iload hx hb dL_law_1084 (lv_at hl 6 rfl) ?_
  refine lv_iconst (v := 1) hx hb dL_law_1086 (by decide) ?_
  refine lv_iadd hx hb dL_law_1087 ?_
  refine lsld (z := nI v) hx hb hX hbl hbA hS (nI_add i 1) (by omega) (by omega) e1 dL_law_1088 ?_
  refine lv_aload_n hx hb dL_law_1089 rfl (lv_at hl 1 rfl) ?_
  refine lv_iload hx hb dL_law_1090 (lv_at hl 6 rfl) ?_
  refine lv_iconst (v := 2) hx hb dL_law_1092 (by decide) ?_
  refine lv_iadd hx hb dL_law_1093 ?_
  refine lsld (z := y) hx hb hX hbl hbA hS (nI_add i 2) (by omega) (by omega) e2 dL_law_1094 ?_
  have hP := P_perm hP pmM
  have hD := D_perm hD pmM
  refine kf_i (W2 := w2 ++ [(oj, oJ K g), (od, oD K gd)]) (va_runV (As := [.int (nI v), .int y]) (rest := []) ⟨hx, hb, hml, hown, hts⟩ (c_X2_left_1s hx4 hx8) (cwV 2 hts gL_law_X2_left rfl rfl rfl (by decide +kernel) ⟨(Nat.le_of_ble_eq_true rfl), (Nat.le_of_ble_eq_true rfl)⟩) (lpv (q0 := 0) hG hP hD hS rfl rfl) rfl rfl hl.1 rfl (lv_room (Nat.le_of_ble_eq_true rfl)) dL_law_1095 ⟨(by show _ ≤ 601024; omega), (by show _ ≤ 7293034; omega)⟩) hS hP hD (fun r1095 w9 H locs hp hP hD hS => ?_)
  subst hp
  have hP := P_perm hP pmM'
  have hD := D_perm hD pmM'
  refine lv_istore (lv' := [(7, .int r1095), (6, .int 1), (0, .ref b), (1, .ref (ad 0)), (2, .ref (qm 0)), (3, .ref oj), (4, .ref od), (5, .int (nI i))]) hx hb dL_law_1098 hl (by decide) rfl (fun ls hl => ?_)
  refine lv_aload_n hx hb dL_law_1100 rfl (lv_at hl 4 rfl) ?_
  have hP := P_perm hP pmM
  have hD := D_perm hD pmM
  refine kf_i (W2 := w2 ++ [(oj, oJ K g), (od, oD K gd)]) (va_runV (As := []) (rest := []) ⟨hx, hb, hml, hown, hts⟩ (c_X2_thrown) (cwV 0 hts gL_law_X2_thrown rfl rfl rfl (by decide +kernel) ⟨(Nat.le_of_ble_eq_true rfl), (Nat.le_of_ble_eq_true rfl)⟩) (lpv (q0 := 0) hG hP hD hS rfl rfl) rfl rfl hl.1 rfl (lv_room (Nat.le_of_ble_eq_true rfl)) dL_law_1101 ⟨(by show _ ≤ 601024; omega), (by show _ ≤ 7293034; omega)⟩) hS hP hD (fun r1101 w9 H locs hp hP hD hS => ?_)
  obtain ⟨hr, hw⟩ := hp
  subst hw
  subst hr
  have hP := P_perm hP pmM'
  have hD := D_perm hD pmM'
  refine lv_iload hx hb dL_law_1104 (lv_at hl 1 rfl) ?_
  refine lv_icmp_eq (tgt := 1111) hx hb dL_law_1106 (by decide) (fun h1106 => ?_) (fun h1106 => False.elim (h1106 rfl))
  refine lv_iload hx hb dL_law_1111 (lv_at hl 1 rfl) ?_
  refine lv_if_ne (tgt := 1128) hx hb dL_law_1113 (by decide) (fun h1113 => ?_) (fun h1113 => False.elim (absurd h1113 (by decide)))
  refine lv_goto (tgt := 1346) hx hb dL_law_1128 (by decide) ?_
  exact W.widen (k := cells + 31) (n := slots + 1806) (by omega) (by omega) (kk _ _ _ _ _ _ _ _ _ H locs ls hE (hIv.up) hP hD hS (lv_sub hl [2, 3, 4, 5, 6, 7] rfl))
set_option maxHeartbeats 4000000 in
set_option maxRecDepth 100000 in
theorem q_left {p : Program} {l : Launch} {e : Env} {s : State} {m : MethodId} {args : Array Value} {below : List Frame} {meth : Method} {c : Code} {H : Heap} {locs : List Loc} {cells slots : Nat} {Q : State → Prop} {ls : Array Slot} {K : Ks} {A : Nat → Prop} {ad bad qm : Nat → Nat} {td th : Int32} {n : Nat} {M X : Nat → Nat → Int32} {w : va_W} {oj od : Nat} {g : Nat → Int64} {gd : Nat → UInt64} {b L i j : Nat} {xs : Nat → Int32} (h0 : LSt p l s m args c K A b L xs) (hE : DkE K ad bad td n M w) (hIv : Iv j td n M) (hP : va_P K.1 kCl (CW K qm oj od td n th M X w g gd) H) (hD : va_D A (CW K qm oj od td n th M X w g gd)) (hS : va_S A s.heap H locs) (hl : lv_has ls 8 [(0, .ref b), (1, .ref (ad 0)), (2, .ref (qm 0)), (3, .ref oj), (4, .ref od), (5, .int (nI i))]) (hi : i + 4 < L) (hcl : cells + 31 ≤ 601024) (hsl : slots + 1806 ≤ 7293034) (hj : j ≤ 100000) (kk : LEnd p l e s m args below meth c Q K A b ad qm oj od i j cells slots) {v u : Nat} (hx4 : v < 4) (hx8 : u < 8) (e1 : xs (i + 1) = nI v) (e2 : xs (i + 2) = nI u) : W p l e room_1 s m args below meth c H locs cells slots Q (F0 m 1063 ls []) := by
  obtain ⟨hx, hb, hml, hown, hts, hG, hX, hbl, hbA, hL, hlt⟩ := h0
  have hok := hIv.ok
  have hn30 := hIv.1
  refine lv_aload_n hx hb dL_law_1063 rfl (lv_at hl 1 rfl) ?_
  refine lv_aload_n hx hb dL_law_1064 rfl (lv_at hl 0 rfl) ?_
  refine lv_iload hx hb dL_law_1065 (lv_at hl 5 rfl) ?_
  refine lv_iconst (v := 1) hx hb dL_law_1067 (by decide) ?_
  refine lv_iadd hx hb dL_law_1068 ?_
  refine lsld (z := nI v) hx hb hX hbl hbA hS (nI_add i 1) (by omega) (by omega) e1 dL_law_1069 ?_
  refine lv_aload_n hx hb dL_law_1070 rfl (lv_at hl 0 rfl) ?_
  refine lv_iload hx hb dL_law_1071 (lv_at hl 5 rfl) ?_
  refine lv_iconst (v := 2) hx hb dL_law_1073 (by decide) ?_
  refine lv_iadd hx hb dL_law_1074 ?_
  refine lsld (z := nI u) hx hb hX hbl hbA hS (nI_add i 2) (by omega) (by omega) e2 dL_law_1075 ?_
  refine lv_aload_n hx hb dL_law_1076 rfl (lv_at hl 3 rfl) ?_
  have hP := P_perm hP pmJ
  have hD := D_perm hD pmJ
  refine kf_i (W2 := (od, oD K gd) :: Mfix K qm td (nI n) th M X) (vx_runSW (As := [.ref (ad 0), .int (nI v), .int (nI u), .ref oj]) (rest := []) ⟨hx, hb, hml, hown, hts⟩ (h_left hE hx4 hx8) (vx_cwSW 4 hts gL_law_L_left rfl rfl rfl (by decide +kernel) ⟨(Nat.le_of_ble_eq_true rfl), (Nat.le_of_ble_eq_true rfl)⟩) (lps hG hP hD hS) rfl rfl hl.1 rfl (lv_room (Nat.le_of_ble_eq_true rfl)) dL_law_1077 ⟨(by show _ ≤ 601024; omega), (by show _ ≤ 7293034; omega)⟩) hS hP hD (fun r w H locs hp hP hD hS => ?_)
  obtain ⟨hr, w2, g1, hw, hg, hE⟩ := hp
  subst hw
  subst hr
  have hP := P_perm hP pmJ'
  have hD := D_perm hD pmJ'
  refine lv_istore (lv' := [(6, .int 0), (0, .ref b), (1, .ref (ad 0)), (2, .ref (qm 0)), (3, .ref oj), (4, .ref od), (5, .int (nI i))]) hx hb dL_law_1080 hl (by decide) rfl (fun ls hl => ?_)
  refine lv_aload_n hx hb dL_law_1082 rfl (lv_at hl 3 rfl) ?_
  refine lv_aload_n hx hb dL_law_1083 rfl (lv_at hl 1 rfl) ?_
  refine lv_iload hx hb dL_law_1084 (lv_at hl 6 rfl) ?_
  refine lv_iconst (v := 1) hx hb dL_law_1086 (by decide) ?_
  refine lv_iadd hx hb dL_law_1087 ?_
  refine lsld (z := nI v) hx hb hX hbl hbA hS (nI_add i 1) (by omega) (by omega) e1 dL_law_1088 ?_
  refine lv_aload_n hx hb dL_law_1089 rfl (lv_at hl 1 rfl) ?_
  refine lv_iload hx hb dL_law_1090 (lv_at hl 6 rfl) ?_
  refine lv_iconst (v := 2) hx hb dL_law_1092 (by decide) ?_
  refine lv_iadd hx hb dL_law_1093 ?_
  refine lsld (z := nI u) hx hb hX hbl hbA hS (nI_add i 2) (by omega) (by omega) e2 dL_law_1094 ?_
  have hP := P_perm hP pmM
  have hD := D_perm hD pmM
  refine kf_i (W2 := w2 ++ [(oj, oJ K g1), (od, oD K gd)]) (va_runV (As := [.int (nI v), .int (nI u)]) (rest := []) ⟨hx, hb, hml, hown, hts⟩ (c_X2_left_ok hn30 hx4 hx8) (cwV 2 hts gL_law_X2_left rfl rfl rfl (by decide +kernel) ⟨(Nat.le_of_ble_eq_true rfl), (Nat.le_of_ble_eq_true rfl)⟩) (lpv (q0 := 0) hG hP hD hS rfl rfl) rfl rfl hl.1 rfl (lv_room (Nat.le_of_ble_eq_true rfl)) dL_law_1095 ⟨(by show _ ≤ 601024; omega), (by show _ ≤ 7293034; omega)⟩) hS hP hD (fun r1095 w9 H locs hp hP hD hS => ?_)
  obtain ⟨hr, hw⟩ := hp
  subst hw
  subst hr
  have hP := P_perm hP pmM'
  have hD := D_perm hD pmM'
  refine lv_istore (lv' := [(7, .int (loM td M v u n)), (6, .int 0), (0, .ref b), (1, .ref (ad 0)), (2, .ref (qm 0)), (3, .ref oj), (4, .ref od), (5, .int (nI i))]) hx hb dL_law_1098 hl (by decide) rfl (fun ls hl => ?_)
  refine lv_aload_n hx hb dL_law_1100 rfl (lv_at hl 4 rfl) ?_
  have hP := P_perm hP pmM
  have hD := D_perm hD pmM
  refine kf_i (W2 := w2 ++ [(oj, oJ K g1), (od, oD K gd)]) (va_runV (As := []) (rest := []) ⟨hx, hb, hml, hown, hts⟩ (c_X2_thrown) (cwV 0 hts gL_law_X2_thrown rfl rfl rfl (by decide +kernel) ⟨(Nat.le_of_ble_eq_true rfl), (Nat.le_of_ble_eq_true rfl)⟩) (lpv (q0 := 0) hG hP hD hS rfl rfl) rfl rfl hl.1 rfl (lv_room (Nat.le_of_ble_eq_true rfl)) dL_law_1101 ⟨(by show _ ≤ 601024; omega), (by show _ ≤ 7293034; omega)⟩) hS hP hD (fun r1101 w9 H locs hp hP hD hS => ?_)
  obtain ⟨hr, hw⟩ := hp
  subst hw
  subst hr
  have hP := P_perm hP pmM'
  have hD := D_perm hD pmM'
  refine lv_iload hx hb dL_law_1104 (lv_at hl 1 rfl) ?_
  refine lv_icmp_eq (tgt := 1111) hx hb dL_law_1106 (by decide) (fun h1106 => ?_) (fun h1106 => False.elim (h1106 rfl))
  refine lv_iload hx hb dL_law_1111 (lv_at hl 1 rfl) ?_
  refine lv_if_ne (tgt := 1128) hx hb dL_law_1113 (by decide) (fun h1113 => False.elim (absurd rfl h1113)) (fun h1113 => ?_)
  refine lv_aload_n hx hb dL_law_1116 rfl (lv_at hl 5 rfl) ?_
  refine lv_iconst (v := 0) hx hb dL_law_1117 (by decide) ?_
  refine llald hx hb hG hP hg dL_law_1118 ?_
  refine lv_iload hx hb dL_law_1119 (lv_at hl 0 rfl) ?_
  refine lv_i2l (v := ((loM td M v u n) : Int32).toInt64) hx hb dL_law_1121 rfl ?_
  refine llcmp hx hb dL_law_1122 ?_
  refine lv_if_eq (tgt := 1128) hx hb dL_law_1123 (by decide) (fun h1123 => ?_) (fun h1123 => False.elim (absurd rfl h1123))
  refine lv_goto (tgt := 1346) hx hb dL_law_1128 (by decide) ?_
  exact W.widen (k := cells + 31) (n := slots + 1806) (by omega) (by omega) (kk _ _ _ _ _ _ _ _ _ H locs ls hE (hIv.up) hP hD hS (lv_sub hl [2, 3, 4, 5, 6, 7] rfl))
set_option maxHeartbeats 4000000 in
set_option maxRecDepth 100000 in
theorem q_claim_tb {p : Program} {l : Launch} {e : Env} {s : State} {m : MethodId} {args : Array Value} {below : List Frame} {meth : Method} {c : Code} {H : Heap} {locs : List Loc} {cells slots : Nat} {Q : State → Prop} {ls : Array Slot} {K : Ks} {A : Nat → Prop} {ad bad qm : Nat → Nat} {td th : Int32} {n : Nat} {M X : Nat → Nat → Int32} {w : va_W} {oj od : Nat} {g : Nat → Int64} {gd : Nat → UInt64} {b L i j : Nat} {xs : Nat → Int32} (h0 : LSt p l s m args c K A b L xs) (hE : DkE K ad bad td n M w) (hIv : Iv j td n M) (hP : va_P K.1 kCl (CW K qm oj od td n th M X w g gd) H) (hD : va_D A (CW K qm oj od td n th M X w g gd)) (hS : va_S A s.heap H locs) (hl : lv_has ls 8 [(0, .ref b), (1, .ref (ad 0)), (2, .ref (qm 0)), (3, .ref oj), (4, .ref od), (5, .int (nI i))]) (hi : i + 4 < L) (hcl : cells + 31 ≤ 601024) (hsl : slots + 1806 ≤ 7293034) (hj : j ≤ 100000) (kk : LEnd p l e s m args below meth c Q K A b ad qm oj od i j cells slots) {x y : Int32} (hx4 : ixBad 4 x) (e1 : xs (i + 1) = x) (e2 : xs (i + 2) = y) : W p l e room_1 s m args below meth c H locs cells slots Q (F0 m 1131 ls []) := by
  obtain ⟨hx, hb, hml, hown, hts, hG, hX, hbl, hbA, hL, hlt⟩ := h0
  have hok := hIv.ok
  have hn30 := hIv.1
  refine lv_aload_n hx hb dL_law_1131 rfl (lv_at hl 1 rfl) ?_
  refine lv_aload_n hx hb dL_law_1132 rfl (lv_at hl 0 rfl) ?_
  refine lv_iload hx hb dL_law_1133 (lv_at hl 5 rfl) ?_
  refine lv_iconst (v := 1) hx hb dL_law_1135 (by decide) ?_
  refine lv_iadd hx hb dL_law_1136 ?_
  refine lsld (z := x) hx hb hX hbl hbA hS (nI_add i 1) (by omega) (by omega) e1 dL_law_1137 ?_
  refine lv_aload_n hx hb dL_law_1138 rfl (lv_at hl 0 rfl) ?_
  refine lv_iload hx hb dL_law_1139 (lv_at hl 5 rfl) ?_
  refine lv_iconst (v := 2) hx hb dL_law_1141 (by decide) ?_
  refine lv_iadd hx hb dL_law_1142 ?_
  refine lsld (z := y) hx hb hX hbl hbA hS (nI_add i 2) (by omega) (by omega) e2 dL_law_1143 ?_
  refine lv_aload_n hx hb dL_law_1144 rfl (lv_at hl 3 rfl) ?_
  have hP := P_perm hP pmJ
  have hD := D_perm hD pmJ
  refine kf_i (W2 := (od, oD K gd) :: Mfix K qm td (nI n) th M X) (vx_runSW (As := [.ref (ad 0), .int x, .int y, .ref oj]) (rest := []) ⟨hx, hb, hml, hown, hts⟩ (h_claim_tb hE hlt hx4) (vx_cwSW 4 hts gL_law_L_claim rfl rfl rfl (by decide +kernel) ⟨(Nat.le_of_ble_eq_true rfl), (Nat.le_of_ble_eq_true rfl)⟩) (lps hG hP hD hS) rfl rfl hl.1 rfl (lv_room (Nat.le_of_ble_eq_true rfl)) dL_law_1145 ⟨(by show _ ≤ 601024; omega), (by show _ ≤ 7293034; omega)⟩) hS hP hD (fun r w H locs hp hP hD hS => ?_)
  obtain ⟨hr, w2, hw, hE⟩ := hp
  subst hw
  subst hr
  have hP := P_perm hP pmJ'
  have hD := D_perm hD pmJ'
  refine lv_istore (lv' := [(6, .int 1), (0, .ref b), (1, .ref (ad 0)), (2, .ref (qm 0)), (3, .ref oj), (4, .ref od), (5, .int (nI i))]) hx hb dL_law_1148 hl (by decide) rfl (fun ls hl => ?_)
  refine lv_aload_n hx hb dL_law_1150 rfl (lv_at hl 3 rfl) ?_
  refine lv_aload_n hx hb dL_law_1151 rfl (lv_at hl 1 rfl) ?_
  refine lv_iload hx hb dL_law_1152 (lv_at hl 6 rfl) ?_
  refine lv_iconst (v := 1) hx hb dL_law_1154 (by decide) ?_
  refine lv_iadd hx hb dL_law_1155 ?_
  refine lsld (z := x) hx hb hX hbl hbA hS (nI_add i 1) (by omega) (by omega) e1 dL_law_1156 ?_
  refine lv_aload_n hx hb dL_law_1157 rfl (lv_at hl 1 rfl) ?_
  refine lv_iload hx hb dL_law_1158 (lv_at hl 6 rfl) ?_
  refine lv_iconst (v := 2) hx hb dL_law_1160 (by decide) ?_
  refine lv_iadd hx hb dL_law_1161 ?_
  refine lsld (z := y) hx hb hX hbl hbA hS (nI_add i 2) (by omega) (by omega) e2 dL_law_1162 ?_
  have hP := P_perm hP pmM
  have hD := D_perm hD pmM
  refine kf_i (W2 := w2 ++ [(oj, oJ K g), (od, oD K gd)]) (va_runV (As := [.int x, .int y]) (rest := []) ⟨hx, hb, hml, hown, hts⟩ (c_X2_claim_1b hx4) (cwV 2 hts gL_law_X2_claim rfl rfl rfl (by decide +kernel) ⟨(Nat.le_of_ble_eq_true rfl), (Nat.le_of_ble_eq_true rfl)⟩) (lpv (q0 := 0) hG hP hD hS rfl rfl) rfl rfl hl.1 rfl (lv_room (Nat.le_of_ble_eq_true rfl)) dL_law_1163 ⟨(by show _ ≤ 601024; omega), (by show _ ≤ 7293034; omega)⟩) hS hP hD (fun r1163 w9 H locs hp hP hD hS => ?_)
  subst hp
  have hP := P_perm hP pmM'
  have hD := D_perm hD pmM'
  refine lv_istore (lv' := [(7, .int r1163), (6, .int 1), (0, .ref b), (1, .ref (ad 0)), (2, .ref (qm 0)), (3, .ref oj), (4, .ref od), (5, .int (nI i))]) hx hb dL_law_1166 hl (by decide) rfl (fun ls hl => ?_)
  refine lv_aload_n hx hb dL_law_1168 rfl (lv_at hl 4 rfl) ?_
  have hP := P_perm hP pmM
  have hD := D_perm hD pmM
  refine kf_i (W2 := w2 ++ [(oj, oJ K g), (od, oD K gd)]) (va_runV (As := []) (rest := []) ⟨hx, hb, hml, hown, hts⟩ (c_X2_thrown) (cwV 0 hts gL_law_X2_thrown rfl rfl rfl (by decide +kernel) ⟨(Nat.le_of_ble_eq_true rfl), (Nat.le_of_ble_eq_true rfl)⟩) (lpv (q0 := 0) hG hP hD hS rfl rfl) rfl rfl hl.1 rfl (lv_room (Nat.le_of_ble_eq_true rfl)) dL_law_1169 ⟨(by show _ ≤ 601024; omega), (by show _ ≤ 7293034; omega)⟩) hS hP hD (fun r1169 w9 H locs hp hP hD hS => ?_)
  obtain ⟨hr, hw⟩ := hp
  subst hw
  subst hr
  have hP := P_perm hP pmM'
  have hD := D_perm hD pmM'
  refine lv_iload hx hb dL_law_1172 (lv_at hl 1 rfl) ?_
  refine lv_icmp_eq (tgt := 1179) hx hb dL_law_1174 (by decide) (fun h1174 => ?_) (fun h1174 => False.elim (h1174 rfl))
  refine lv_iload hx hb dL_law_1179 (lv_at hl 1 rfl) ?_
  refine lv_if_ne (tgt := 1196) hx hb dL_law_1181 (by decide) (fun h1181 => ?_) (fun h1181 => False.elim (absurd h1181 (by decide)))
  refine lv_goto (tgt := 1346) hx hb dL_law_1196 (by decide) ?_
  exact W.widen (k := cells + 31) (n := slots + 1806) (by omega) (by omega) (kk _ _ _ _ _ _ _ _ _ H locs ls hE (hIv.up) hP hD hS (lv_sub hl [2, 3, 4, 5, 6, 7] rfl))
set_option maxHeartbeats 4000000 in
set_option maxRecDepth 100000 in
theorem q_claim_ts {p : Program} {l : Launch} {e : Env} {s : State} {m : MethodId} {args : Array Value} {below : List Frame} {meth : Method} {c : Code} {H : Heap} {locs : List Loc} {cells slots : Nat} {Q : State → Prop} {ls : Array Slot} {K : Ks} {A : Nat → Prop} {ad bad qm : Nat → Nat} {td th : Int32} {n : Nat} {M X : Nat → Nat → Int32} {w : va_W} {oj od : Nat} {g : Nat → Int64} {gd : Nat → UInt64} {b L i j : Nat} {xs : Nat → Int32} (h0 : LSt p l s m args c K A b L xs) (hE : DkE K ad bad td n M w) (hIv : Iv j td n M) (hP : va_P K.1 kCl (CW K qm oj od td n th M X w g gd) H) (hD : va_D A (CW K qm oj od td n th M X w g gd)) (hS : va_S A s.heap H locs) (hl : lv_has ls 8 [(0, .ref b), (1, .ref (ad 0)), (2, .ref (qm 0)), (3, .ref oj), (4, .ref od), (5, .int (nI i))]) (hi : i + 4 < L) (hcl : cells + 31 ≤ 601024) (hsl : slots + 1806 ≤ 7293034) (hj : j ≤ 100000) (kk : LEnd p l e s m args below meth c Q K A b ad qm oj od i j cells slots) {v : Nat} {y : Int32} (hx4 : v < 4) (hx8 : ixBad 8 y) (e1 : xs (i + 1) = nI v) (e2 : xs (i + 2) = y) : W p l e room_1 s m args below meth c H locs cells slots Q (F0 m 1131 ls []) := by
  obtain ⟨hx, hb, hml, hown, hts, hG, hX, hbl, hbA, hL, hlt⟩ := h0
  have hok := hIv.ok
  have hn30 := hIv.1
  refine lv_aload_n hx hb dL_law_1131 rfl (lv_at hl 1 rfl) ?_
  refine lv_aload_n hx hb dL_law_1132 rfl (lv_at hl 0 rfl) ?_
  refine lv_iload hx hb dL_law_1133 (lv_at hl 5 rfl) ?_
  refine lv_iconst (v := 1) hx hb dL_law_1135 (by decide) ?_
  refine lv_iadd hx hb dL_law_1136 ?_
  refine lsld (z := nI v) hx hb hX hbl hbA hS (nI_add i 1) (by omega) (by omega) e1 dL_law_1137 ?_
  refine lv_aload_n hx hb dL_law_1138 rfl (lv_at hl 0 rfl) ?_
  refine lv_iload hx hb dL_law_1139 (lv_at hl 5 rfl) ?_
  refine lv_iconst (v := 2) hx hb dL_law_1141 (by decide) ?_
  refine lv_iadd hx hb dL_law_1142 ?_
  refine lsld (z := y) hx hb hX hbl hbA hS (nI_add i 2) (by omega) (by omega) e2 dL_law_1143 ?_
  refine lv_aload_n hx hb dL_law_1144 rfl (lv_at hl 3 rfl) ?_
  have hP := P_perm hP pmJ
  have hD := D_perm hD pmJ
  refine kf_i (W2 := (od, oD K gd) :: Mfix K qm td (nI n) th M X) (vx_runSW (As := [.ref (ad 0), .int (nI v), .int y, .ref oj]) (rest := []) ⟨hx, hb, hml, hown, hts⟩ (h_claim_ts hE hlt hx4 hx8) (vx_cwSW 4 hts gL_law_L_claim rfl rfl rfl (by decide +kernel) ⟨(Nat.le_of_ble_eq_true rfl), (Nat.le_of_ble_eq_true rfl)⟩) (lps hG hP hD hS) rfl rfl hl.1 rfl (lv_room (Nat.le_of_ble_eq_true rfl)) dL_law_1145 ⟨(by show _ ≤ 601024; omega), (by show _ ≤ 7293034; omega)⟩) hS hP hD (fun r w H locs hp hP hD hS => ?_)
  obtain ⟨hr, w2, hw, hE⟩ := hp
  subst hw
  subst hr
  have hP := P_perm hP pmJ'
  have hD := D_perm hD pmJ'
  refine lv_istore (lv' := [(6, .int 1), (0, .ref b), (1, .ref (ad 0)), (2, .ref (qm 0)), (3, .ref oj), (4, .ref od), (5, .int (nI i))]) hx hb dL_law_1148 hl (by decide) rfl (fun ls hl => ?_)
  refine lv_aload_n hx hb dL_law_1150 rfl (lv_at hl 3 rfl) ?_
  refine lv_aload_n hx hb dL_law_1151 rfl (lv_at hl 1 rfl) ?_
  refine lv_iload hx hb dL_law_1152 (lv_at hl 6 rfl) ?_
  refine lv_iconst (v := 1) hx hb dL_law_1154 (by decide) ?_
  refine lv_iadd hx hb dL_law_1155 ?_
  refine lsld (z := nI v) hx hb hX hbl hbA hS (nI_add i 1) (by omega) (by omega) e1 dL_law_1156 ?_
  refine lv_aload_n hx hb dL_law_1157 rfl (lv_at hl 1 rfl) ?_
  refine lv_iload hx hb dL_law_1158 (lv_at hl 6 rfl) ?_
  refine lv_iconst (v := 2) hx hb dL_law_1160 (by decide) ?_
  refine lv_iadd hx hb dL_law_1161 ?_
  refine lsld (z := y) hx hb hX hbl hbA hS (nI_add i 2) (by omega) (by omega) e2 dL_law_1162 ?_
  have hP := P_perm hP pmM
  have hD := D_perm hD pmM
  refine kf_i (W2 := w2 ++ [(oj, oJ K g), (od, oD K gd)]) (va_runV (As := [.int (nI v), .int y]) (rest := []) ⟨hx, hb, hml, hown, hts⟩ (c_X2_claim_1s hx4 hx8) (cwV 2 hts gL_law_X2_claim rfl rfl rfl (by decide +kernel) ⟨(Nat.le_of_ble_eq_true rfl), (Nat.le_of_ble_eq_true rfl)⟩) (lpv (q0 := 0) hG hP hD hS rfl rfl) rfl rfl hl.1 rfl (lv_room (Nat.le_of_ble_eq_true rfl)) dL_law_1163 ⟨(by show _ ≤ 601024; omega), (by show _ ≤ 7293034; omega)⟩) hS hP hD (fun r1163 w9 H locs hp hP hD hS => ?_)
  subst hp
  have hP := P_perm hP pmM'
  have hD := D_perm hD pmM'
  refine lv_istore (lv' := [(7, .int r1163), (6, .int 1), (0, .ref b), (1, .ref (ad 0)), (2, .ref (qm 0)), (3, .ref oj), (4, .ref od), (5, .int (nI i))]) hx hb dL_law_1166 hl (by decide) rfl (fun ls hl => ?_)
  refine lv_aload_n hx hb dL_law_1168 rfl (lv_at hl 4 rfl) ?_
  have hP := P_perm hP pmM
  have hD := D_perm hD pmM
  refine kf_i (W2 := w2 ++ [(oj, oJ K g), (od, oD K gd)]) (va_runV (As := []) (rest := []) ⟨hx, hb, hml, hown, hts⟩ (c_X2_thrown) (cwV 0 hts gL_law_X2_thrown rfl rfl rfl (by decide +kernel) ⟨(Nat.le_of_ble_eq_true rfl), (Nat.le_of_ble_eq_true rfl)⟩) (lpv (q0 := 0) hG hP hD hS rfl rfl) rfl rfl hl.1 rfl (lv_room (Nat.le_of_ble_eq_true rfl)) dL_law_1169 ⟨(by show _ ≤ 601024; omega), (by show _ ≤ 7293034; omega)⟩) hS hP hD (fun r1169 w9 H locs hp hP hD hS => ?_)
  obtain ⟨hr, hw⟩ := hp
  subst hw
  subst hr
  have hP := P_perm hP pmM'
  have hD := D_perm hD pmM'
  refine lv_iload hx hb dL_law_1172 (lv_at hl 1 rfl) ?_
  refine lv_icmp_eq (tgt := 1179) hx hb dL_law_1174 (by decide) (fun h1174 => ?_) (fun h1174 => False.elim (h1174 rfl))
  refine lv_iload hx hb dL_law_1179 (lv_at hl 1 rfl) ?_
  refine lv_if_ne (tgt := 1196) hx hb dL_law_1181 (by decide) (fun h1181 => ?_) (fun h1181 => False.elim (absurd h1181 (by decide)))
  refine lv_goto (tgt := 1346) hx hb dL_law_1196 (by decide) ?_
  exact W.widen (k := cells + 31) (n := slots + 1806) (by omega) (by omega) (kk _ _ _ _ _ _ _ _ _ H locs ls hE (hIv.up) hP hD hS (lv_sub hl [2, 3, 4, 5, 6, 7] rfl))
set_option maxHeartbeats 4000000 in
set_option maxRecDepth 100000 in
theorem q_claim {p : Program} {l : Launch} {e : Env} {s : State} {m : MethodId} {args : Array Value} {below : List Frame} {meth : Method} {c : Code} {H : Heap} {locs : List Loc} {cells slots : Nat} {Q : State → Prop} {ls : Array Slot} {K : Ks} {A : Nat → Prop} {ad bad qm : Nat → Nat} {td th : Int32} {n : Nat} {M X : Nat → Nat → Int32} {w : va_W} {oj od : Nat} {g : Nat → Int64} {gd : Nat → UInt64} {b L i j : Nat} {xs : Nat → Int32} (h0 : LSt p l s m args c K A b L xs) (hE : DkE K ad bad td n M w) (hIv : Iv j td n M) (hP : va_P K.1 kCl (CW K qm oj od td n th M X w g gd) H) (hD : va_D A (CW K qm oj od td n th M X w g gd)) (hS : va_S A s.heap H locs) (hl : lv_has ls 8 [(0, .ref b), (1, .ref (ad 0)), (2, .ref (qm 0)), (3, .ref oj), (4, .ref od), (5, .int (nI i))]) (hi : i + 4 < L) (hcl : cells + 31 ≤ 601024) (hsl : slots + 1806 ≤ 7293034) (hj : j ≤ 100000) (kk : LEnd p l e s m args below meth c Q K A b ad qm oj od i j cells slots) {v u : Nat} (hx4 : v < 4) (hx8 : u < 8) (e1 : xs (i + 1) = nI v) (e2 : xs (i + 2) = nI u) : W p l e room_1 s m args below meth c H locs cells slots Q (F0 m 1131 ls []) := by
  obtain ⟨hx, hb, hml, hown, hts, hG, hX, hbl, hbA, hL, hlt⟩ := h0
  have hok := hIv.ok
  have hn30 := hIv.1
  refine lv_aload_n hx hb dL_law_1131 rfl (lv_at hl 1 rfl) ?_
  refine lv_aload_n hx hb dL_law_1132 rfl (lv_at hl 0 rfl) ?_
  refine lv_iload hx hb dL_law_1133 (lv_at hl 5 rfl) ?_
  refine lv_iconst (v := 1) hx hb dL_law_1135 (by decide) ?_
  refine lv_iadd hx hb dL_law_1136 ?_
  refine lsld (z := nI v) hx hb hX hbl hbA hS (nI_add i 1) (by omega) (by omega) e1 dL_law_1137 ?_
  refine lv_aload_n hx hb dL_law_1138 rfl (lv_at hl 0 rfl) ?_
  refine lv_iload hx hb dL_law_1139 (lv_at hl 5 rfl) ?_
  refine lv_iconst (v := 2) hx hb dL_law_1141 (by decide) ?_
  refine lv_iadd hx hb dL_law_1142 ?_
  refine lsld (z := nI u) hx hb hX hbl hbA hS (nI_add i 2) (by omega) (by omega) e2 dL_law_1143 ?_
  refine lv_aload_n hx hb dL_law_1144 rfl (lv_at hl 3 rfl) ?_
  have hP := P_perm hP pmJ
  have hD := D_perm hD pmJ
  refine kf_i (W2 := (od, oD K gd) :: Mfix K qm td (nI n) th M X) (vx_runSW (As := [.ref (ad 0), .int (nI v), .int (nI u), .ref oj]) (rest := []) ⟨hx, hb, hml, hown, hts⟩ (h_claim hE hx4 hx8) (vx_cwSW 4 hts gL_law_L_claim rfl rfl rfl (by decide +kernel) ⟨(Nat.le_of_ble_eq_true rfl), (Nat.le_of_ble_eq_true rfl)⟩) (lps hG hP hD hS) rfl rfl hl.1 rfl (lv_room (Nat.le_of_ble_eq_true rfl)) dL_law_1145 ⟨(by show _ ≤ 601024; omega), (by show _ ≤ 7293034; omega)⟩) hS hP hD (fun r w H locs hp hP hD hS => ?_)
  obtain ⟨hr, w2, g1, hw, hg, hE⟩ := hp
  subst hw
  subst hr
  have hP := P_perm hP pmJ'
  have hD := D_perm hD pmJ'
  refine lv_istore (lv' := [(6, .int 0), (0, .ref b), (1, .ref (ad 0)), (2, .ref (qm 0)), (3, .ref oj), (4, .ref od), (5, .int (nI i))]) hx hb dL_law_1148 hl (by decide) rfl (fun ls hl => ?_)
  refine lv_aload_n hx hb dL_law_1150 rfl (lv_at hl 3 rfl) ?_
  refine lv_aload_n hx hb dL_law_1151 rfl (lv_at hl 1 rfl) ?_
  refine lv_iload hx hb dL_law_1152 (lv_at hl 6 rfl) ?_
  refine lv_iconst (v := 1) hx hb dL_law_1154 (by decide) ?_
  refine lv_iadd hx hb dL_law_1155 ?_
  refine lsld (z := nI v) hx hb hX hbl hbA hS (nI_add i 1) (by omega) (by omega) e1 dL_law_1156 ?_
  refine lv_aload_n hx hb dL_law_1157 rfl (lv_at hl 1 rfl) ?_
  refine lv_iload hx hb dL_law_1158 (lv_at hl 6 rfl) ?_
  refine lv_iconst (v := 2) hx hb dL_law_1160 (by decide) ?_
  refine lv_iadd hx hb dL_law_1161 ?_
  refine lsld (z := nI u) hx hb hX hbl hbA hS (nI_add i 2) (by omega) (by omega) e2 dL_law_1162 ?_
  have hP := P_perm hP pmM
  have hD := D_perm hD pmM
  refine kf_i (W2 := w2 ++ [(oj, oJ K g1), (od, oD K gd)]) (va_runV (As := [.int (nI v), .int (nI u)]) (rest := []) ⟨hx, hb, hml, hown, hts⟩ (c_X2_claim_ok hx4 hx8) (cwV 2 hts gL_law_X2_claim rfl rfl rfl (by decide +kernel) ⟨(Nat.le_of_ble_eq_true rfl), (Nat.le_of_ble_eq_true rfl)⟩) (lpv (q0 := 0) hG hP hD hS rfl rfl) rfl rfl hl.1 rfl (lv_room (Nat.le_of_ble_eq_true rfl)) dL_law_1163 ⟨(by show _ ≤ 601024; omega), (by show _ ≤ 7293034; omega)⟩) hS hP hD (fun r1163 w9 H locs hp hP hD hS => ?_)
  obtain ⟨hr, hw⟩ := hp
  subst hw
  subst hr
  have hP := P_perm hP pmM'
  have hD := D_perm hD pmM'
  refine lv_istore (lv' := [(7, .int (M 13 (8 * v + u))), (6, .int 0), (0, .ref b), (1, .ref (ad 0)), (2, .ref (qm 0)), (3, .ref oj), (4, .ref od), (5, .int (nI i))]) hx hb dL_law_1166 hl (by decide) rfl (fun ls hl => ?_)
  refine lv_aload_n hx hb dL_law_1168 rfl (lv_at hl 4 rfl) ?_
  have hP := P_perm hP pmM
  have hD := D_perm hD pmM
  refine kf_i (W2 := w2 ++ [(oj, oJ K g1), (od, oD K gd)]) (va_runV (As := []) (rest := []) ⟨hx, hb, hml, hown, hts⟩ (c_X2_thrown) (cwV 0 hts gL_law_X2_thrown rfl rfl rfl (by decide +kernel) ⟨(Nat.le_of_ble_eq_true rfl), (Nat.le_of_ble_eq_true rfl)⟩) (lpv (q0 := 0) hG hP hD hS rfl rfl) rfl rfl hl.1 rfl (lv_room (Nat.le_of_ble_eq_true rfl)) dL_law_1169 ⟨(by show _ ≤ 601024; omega), (by show _ ≤ 7293034; omega)⟩) hS hP hD (fun r1169 w9 H locs hp hP hD hS => ?_)
  obtain ⟨hr, hw⟩ := hp
  subst hw
  subst hr
  have hP := P_perm hP pmM'
  have hD := D_perm hD pmM'
  refine lv_iload hx hb dL_law_1172 (lv_at hl 1 rfl) ?_
  refine lv_icmp_eq (tgt := 1179) hx hb dL_law_1174 (by decide) (fun h1174 => ?_) (fun h1174 => False.elim (h1174 rfl))
  refine lv_iload hx hb dL_law_1179 (lv_at hl 1 rfl) ?_
  refine lv_if_ne (tgt := 1196) hx hb dL_law_1181 (by decide) (fun h1181 => False.elim (absurd rfl h1181)) (fun h1181 => ?_)
  refine lv_aload_n hx hb dL_law_1184 rfl (lv_at hl 5 rfl) ?_
  refine lv_iconst (v := 0) hx hb dL_law_1185 (by decide) ?_
  refine llald hx hb hG hP hg dL_law_1186 ?_
  refine lv_iload hx hb dL_law_1187 (lv_at hl 0 rfl) ?_
  refine lv_i2l (v := ((M 13 (8 * v + u)) : Int32).toInt64) hx hb dL_law_1189 rfl ?_
  refine llcmp hx hb dL_law_1190 ?_
  refine lv_if_eq (tgt := 1196) hx hb dL_law_1191 (by decide) (fun h1191 => ?_) (fun h1191 => False.elim (absurd rfl h1191))
  refine lv_goto (tgt := 1346) hx hb dL_law_1196 (by decide) ?_
  exact W.widen (k := cells + 31) (n := slots + 1806) (by omega) (by omega) (kk _ _ _ _ _ _ _ _ _ H locs ls hE (hIv.up) hP hD hS (lv_sub hl [2, 3, 4, 5, 6, 7] rfl))
set_option maxHeartbeats 4000000 in
set_option maxRecDepth 100000 in
theorem q_averageDiscount_tb {p : Program} {l : Launch} {e : Env} {s : State} {m : MethodId} {args : Array Value} {below : List Frame} {meth : Method} {c : Code} {H : Heap} {locs : List Loc} {cells slots : Nat} {Q : State → Prop} {ls : Array Slot} {K : Ks} {A : Nat → Prop} {ad bad qm : Nat → Nat} {td th : Int32} {n : Nat} {M X : Nat → Nat → Int32} {w : va_W} {oj od : Nat} {g : Nat → Int64} {gd : Nat → UInt64} {b L i j : Nat} {xs : Nat → Int32} (h0 : LSt p l s m args c K A b L xs) (hE : DkE K ad bad td n M w) (hIv : Iv j td n M) (hP : va_P K.1 kCl (CW K qm oj od td n th M X w g gd) H) (hD : va_D A (CW K qm oj od td n th M X w g gd)) (hS : va_S A s.heap H locs) (hl : lv_has ls 8 [(0, .ref b), (1, .ref (ad 0)), (2, .ref (qm 0)), (3, .ref oj), (4, .ref od), (5, .int (nI i))]) (hi : i + 4 < L) (hcl : cells + 31 ≤ 601024) (hsl : slots + 1806 ≤ 7293034) (hj : j ≤ 100000) (kk : LEnd p l e s m args below meth c Q K A b ad qm oj od i j cells slots) {x : Int32} (hx4 : ixBad 4 x) (e1 : xs (i + 1) = x) : W p l e room_1 s m args below meth c H locs cells slots Q (F0 m 1199 ls []) := by
  obtain ⟨hx, hb, hml, hown, hts, hG, hX, hbl, hbA, hL, hlt⟩ := h0
  have hok := hIv.ok
  have hn30 := hIv.1
  refine lv_aload_n hx hb dL_law_1199 rfl (lv_at hl 1 rfl) ?_
  refine lv_aload_n hx hb dL_law_1200 rfl (lv_at hl 0 rfl) ?_
  refine lv_iload hx hb dL_law_1201 (lv_at hl 5 rfl) ?_
  refine lv_iconst (v := 1) hx hb dL_law_1203 (by decide) ?_
  refine lv_iadd hx hb dL_law_1204 ?_
  refine lsld (z := x) hx hb hX hbl hbA hS (nI_add i 1) (by omega) (by omega) e1 dL_law_1205 ?_
  refine lv_aload hx hb dL_law_1206 (lv_at hl 4 rfl) ?_
  have hP := P_perm hP pmD
  have hD := D_perm hD pmD
  refine kf_i (W2 := (oj, oJ K g) :: Mfix K qm td (nI n) th M X) (vx_runSW (As := [.ref (ad 0), .int x, .ref od]) (rest := []) ⟨hx, hb, hml, hown, hts⟩ (h_averageDiscount_tb hE hlt hx4) (vx_cwSW 3 hts gL_law_L_averageDiscount rfl rfl rfl (by decide +kernel) ⟨(Nat.le_of_ble_eq_true rfl), (Nat.le_of_ble_eq_true rfl)⟩) (lps hG hP hD hS) rfl rfl hl.1 rfl (lv_room (Nat.le_of_ble_eq_true rfl)) dL_law_1208 ⟨(by show _ ≤ 601024; omega), (by show _ ≤ 7293034; omega)⟩) hS hP hD (fun r w H locs hp hP hD hS => ?_)
  obtain ⟨hr, w2, hw, hE⟩ := hp
  subst hw
  subst hr
  have hP := P_perm hP pmD'
  have hD := D_perm hD pmD'
  refine lv_istore (lv' := [(6, .int 1), (0, .ref b), (1, .ref (ad 0)), (2, .ref (qm 0)), (3, .ref oj), (4, .ref od), (5, .int (nI i))]) hx hb dL_law_1211 hl (by decide) rfl (fun ls hl => ?_)
  refine lv_aload_n hx hb dL_law_1213 rfl (lv_at hl 3 rfl) ?_
  refine lv_aload_n hx hb dL_law_1214 rfl (lv_at hl 1 rfl) ?_
  refine lv_iload hx hb dL_law_1215 (lv_at hl 6 rfl) ?_
  refine lv_iconst (v := 1) hx hb dL_law_1217 (by decide) ?_
  refine lv_iadd hx hb dL_law_1218 ?_
  refine lsld (z := x) hx hb hX hbl hbA hS (nI_add i 1) (by omega) (by omega) e1 dL_law_1219 ?_
  have hP := P_perm hP pmM
  have hD := D_perm hD pmM
  refine kf_f (W2 := w2 ++ [(oj, oJ K g), (od, oD K gd)]) (va_runV (As := [.int x]) (rest := []) ⟨hx, hb, hml, hown, hts⟩ (c_X2_averageDiscount_1 hx4) (cwV 1 hts gL_law_X2_averageDiscount rfl rfl rfl (by decide +kernel) ⟨(Nat.le_of_ble_eq_true rfl), (Nat.le_of_ble_eq_true rfl)⟩) (lpv (q0 := 0) hG hP hD hS rfl rfl) rfl rfl hl.1 rfl (lv_room (Nat.le_of_ble_eq_true rfl)) dL_law_1220 ⟨(by show _ ≤ 601024; omega), (by show _ ≤ 7293034; omega)⟩) hS hP hD (fun r1220 w9 H locs hp hP hD hS => ?_)
  subst hp
  have hP := P_perm hP pmM'
  have hD := D_perm hD pmM'
  refine lv_fstore (lv' := [(7, .float r1220), (6, .int 1), (0, .ref b), (1, .ref (ad 0)), (2, .ref (qm 0)), (3, .ref oj), (4, .ref od), (5, .int (nI i))]) hx hb dL_law_1223 hl (by decide) rfl (fun ls hl => ?_)
  refine lv_aload_n hx hb dL_law_1225 rfl (lv_at hl 4 rfl) ?_
  have hP := P_perm hP pmM
  have hD := D_perm hD pmM
  refine kf_i (W2 := w2 ++ [(oj, oJ K g), (od, oD K gd)]) (va_runV (As := []) (rest := []) ⟨hx, hb, hml, hown, hts⟩ (c_X2_thrown) (cwV 0 hts gL_law_X2_thrown rfl rfl rfl (by decide +kernel) ⟨(Nat.le_of_ble_eq_true rfl), (Nat.le_of_ble_eq_true rfl)⟩) (lpv (q0 := 0) hG hP hD hS rfl rfl) rfl rfl hl.1 rfl (lv_room (Nat.le_of_ble_eq_true rfl)) dL_law_1226 ⟨(by show _ ≤ 601024; omega), (by show _ ≤ 7293034; omega)⟩) hS hP hD (fun r1226 w9 H locs hp hP hD hS => ?_)
  obtain ⟨hr, hw⟩ := hp
  subst hw
  subst hr
  have hP := P_perm hP pmM'
  have hD := D_perm hD pmM'
  refine lv_iload hx hb dL_law_1229 (lv_at hl 1 rfl) ?_
  refine lv_icmp_eq (tgt := 1236) hx hb dL_law_1231 (by decide) (fun h1231 => ?_) (fun h1231 => False.elim (h1231 rfl))
  refine lv_iload hx hb dL_law_1236 (lv_at hl 1 rfl) ?_
  refine lv_if_ne (tgt := 1274) hx hb dL_law_1238 (by decide) (fun h1238 => ?_) (fun h1238 => False.elim (absurd h1238 (by decide)))
  refine lv_goto (tgt := 1346) hx hb dL_law_1274 (by decide) ?_
  exact W.widen (k := cells + 31) (n := slots + 1806) (by omega) (by omega) (kk _ _ _ _ _ _ _ _ _ H locs ls hE (hIv.up) hP hD hS (lv_sub hl [2, 3, 4, 5, 6, 7] rfl))
set_option maxHeartbeats 4000000 in
set_option maxRecDepth 100000 in
theorem q_averageDiscount_tp {p : Program} {l : Launch} {e : Env} {s : State} {m : MethodId} {args : Array Value} {below : List Frame} {meth : Method} {c : Code} {H : Heap} {locs : List Loc} {cells slots : Nat} {Q : State → Prop} {ls : Array Slot} {K : Ks} {A : Nat → Prop} {ad bad qm : Nat → Nat} {td th : Int32} {n : Nat} {M X : Nat → Nat → Int32} {w : va_W} {oj od : Nat} {g : Nat → Int64} {gd : Nat → UInt64} {b L i j : Nat} {xs : Nat → Int32} (h0 : LSt p l s m args c K A b L xs) (hE : DkE K ad bad td n M w) (hIv : Iv j td n M) (hP : va_P K.1 kCl (CW K qm oj od td n th M X w g gd) H) (hD : va_D A (CW K qm oj od td n th M X w g gd)) (hS : va_S A s.heap H locs) (hl : lv_has ls 8 [(0, .ref b), (1, .ref (ad 0)), (2, .ref (qm 0)), (3, .ref oj), (4, .ref od), (5, .int (nI i))]) (hi : i + 4 < L) (hcl : cells + 31 ≤ 601024) (hsl : slots + 1806 ≤ 7293034) (hj : j ≤ 100000) (kk : LEnd p l e s m args below meth c Q K A b ad qm oj od i j cells slots) {v : Nat} (hx4 : v < 4) (hz : adA M v n = 0) (e1 : xs (i + 1) = nI v) : W p l e room_1 s m args below meth c H locs cells slots Q (F0 m 1199 ls []) := by
  obtain ⟨hx, hb, hml, hown, hts, hG, hX, hbl, hbA, hL, hlt⟩ := h0
  have hok := hIv.ok
  have hn30 := hIv.1
  refine lv_aload_n hx hb dL_law_1199 rfl (lv_at hl 1 rfl) ?_
  refine lv_aload_n hx hb dL_law_1200 rfl (lv_at hl 0 rfl) ?_
  refine lv_iload hx hb dL_law_1201 (lv_at hl 5 rfl) ?_
  refine lv_iconst (v := 1) hx hb dL_law_1203 (by decide) ?_
  refine lv_iadd hx hb dL_law_1204 ?_
  refine lsld (z := nI v) hx hb hX hbl hbA hS (nI_add i 1) (by omega) (by omega) e1 dL_law_1205 ?_
  refine lv_aload hx hb dL_law_1206 (lv_at hl 4 rfl) ?_
  have hP := P_perm hP pmD
  have hD := D_perm hD pmD
  refine kf_i (W2 := (oj, oJ K g) :: Mfix K qm td (nI n) th M X) (vx_runSW (As := [.ref (ad 0), .int (nI v), .ref od]) (rest := []) ⟨hx, hb, hml, hown, hts⟩ (h_averageDiscount_tp hE hlt hx4 hz) (vx_cwSW 3 hts gL_law_L_averageDiscount rfl rfl rfl (by decide +kernel) ⟨(Nat.le_of_ble_eq_true rfl), (Nat.le_of_ble_eq_true rfl)⟩) (lps hG hP hD hS) rfl rfl hl.1 rfl (lv_room (Nat.le_of_ble_eq_true rfl)) dL_law_1208 ⟨(by show _ ≤ 601024; omega), (by show _ ≤ 7293034; omega)⟩) hS hP hD (fun r w H locs hp hP hD hS => ?_)
  obtain ⟨hr, w2, hw, hE⟩ := hp
  subst hw
  subst hr
  have hP := P_perm hP pmD'
  have hD := D_perm hD pmD'
  refine lv_istore (lv' := [(6, .int 2), (0, .ref b), (1, .ref (ad 0)), (2, .ref (qm 0)), (3, .ref oj), (4, .ref od), (5, .int (nI i))]) hx hb dL_law_1211 hl (by decide) rfl (fun ls hl => ?_)
  refine lv_aload_n hx hb dL_law_1213 rfl (lv_at hl 3 rfl) ?_
  refine lv_aload_n hx hb dL_law_1214 rfl (lv_at hl 1 rfl) ?_
  refine lv_iload hx hb dL_law_1215 (lv_at hl 6 rfl) ?_
  refine lv_iconst (v := 1) hx hb dL_law_1217 (by decide) ?_
  refine lv_iadd hx hb dL_law_1218 ?_
  refine lsld (z := nI v) hx hb hX hbl hbA hS (nI_add i 1) (by omega) (by omega) e1 dL_law_1219 ?_
  have hP := P_perm hP pmM
  have hD := D_perm hD pmM
  refine kf_f (W2 := w2 ++ [(oj, oJ K g), (od, oD K gd)]) (va_runV (As := [.int (nI v)]) (rest := []) ⟨hx, hb, hml, hown, hts⟩ (c_X2_averageDiscount_2 hn30 hx4 hz) (cwV 1 hts gL_law_X2_averageDiscount rfl rfl rfl (by decide +kernel) ⟨(Nat.le_of_ble_eq_true rfl), (Nat.le_of_ble_eq_true rfl)⟩) (lpv (q0 := 0) hG hP hD hS rfl rfl) rfl rfl hl.1 rfl (lv_room (Nat.le_of_ble_eq_true rfl)) dL_law_1220 ⟨(by show _ ≤ 601024; omega), (by show _ ≤ 7293034; omega)⟩) hS hP hD (fun r1220 w9 H locs hp hP hD hS => ?_)
  subst hp
  have hP := P_perm hP pmM'
  have hD := D_perm hD pmM'
  refine lv_fstore (lv' := [(7, .float r1220), (6, .int 2), (0, .ref b), (1, .ref (ad 0)), (2, .ref (qm 0)), (3, .ref oj), (4, .ref od), (5, .int (nI i))]) hx hb dL_law_1223 hl (by decide) rfl (fun ls hl => ?_)
  refine lv_aload_n hx hb dL_law_1225 rfl (lv_at hl 4 rfl) ?_
  have hP := P_perm hP pmM
  have hD := D_perm hD pmM
  refine kf_i (W2 := w2 ++ [(oj, oJ K g), (od, oD K gd)]) (va_runV (As := []) (rest := []) ⟨hx, hb, hml, hown, hts⟩ (c_X2_thrown) (cwV 0 hts gL_law_X2_thrown rfl rfl rfl (by decide +kernel) ⟨(Nat.le_of_ble_eq_true rfl), (Nat.le_of_ble_eq_true rfl)⟩) (lpv (q0 := 0) hG hP hD hS rfl rfl) rfl rfl hl.1 rfl (lv_room (Nat.le_of_ble_eq_true rfl)) dL_law_1226 ⟨(by show _ ≤ 601024; omega), (by show _ ≤ 7293034; omega)⟩) hS hP hD (fun r1226 w9 H locs hp hP hD hS => ?_)
  obtain ⟨hr, hw⟩ := hp
  subst hw
  subst hr
  have hP := P_perm hP pmM'
  have hD := D_perm hD pmM'
  refine lv_iload hx hb dL_law_1229 (lv_at hl 1 rfl) ?_
  refine lv_icmp_eq (tgt := 1236) hx hb dL_law_1231 (by decide) (fun h1231 => ?_) (fun h1231 => False.elim (h1231 rfl))
  refine lv_iload hx hb dL_law_1236 (lv_at hl 1 rfl) ?_
  refine lv_if_ne (tgt := 1274) hx hb dL_law_1238 (by decide) (fun h1238 => ?_) (fun h1238 => False.elim (absurd h1238 (by decide)))
  refine lv_goto (tgt := 1346) hx hb dL_law_1274 (by decide) ?_
  exact W.widen (k := cells + 31) (n := slots + 1806) (by omega) (by omega) (kk _ _ _ _ _ _ _ _ _ H locs ls hE (hIv.up) hP hD hS (lv_sub hl [2, 3, 4, 5, 6, 7] rfl))
set_option maxHeartbeats 4000000 in
set_option maxRecDepth 100000 in
theorem q_averageDiscount {p : Program} {l : Launch} {e : Env} {s : State} {m : MethodId} {args : Array Value} {below : List Frame} {meth : Method} {c : Code} {H : Heap} {locs : List Loc} {cells slots : Nat} {Q : State → Prop} {ls : Array Slot} {K : Ks} {A : Nat → Prop} {ad bad qm : Nat → Nat} {td th : Int32} {n : Nat} {M X : Nat → Nat → Int32} {w : va_W} {oj od : Nat} {g : Nat → Int64} {gd : Nat → UInt64} {b L i j : Nat} {xs : Nat → Int32} (h0 : LSt p l s m args c K A b L xs) (hE : DkE K ad bad td n M w) (hIv : Iv j td n M) (hP : va_P K.1 kCl (CW K qm oj od td n th M X w g gd) H) (hD : va_D A (CW K qm oj od td n th M X w g gd)) (hS : va_S A s.heap H locs) (hl : lv_has ls 8 [(0, .ref b), (1, .ref (ad 0)), (2, .ref (qm 0)), (3, .ref oj), (4, .ref od), (5, .int (nI i))]) (hi : i + 4 < L) (hcl : cells + 31 ≤ 601024) (hsl : slots + 1806 ≤ 7293034) (hj : j ≤ 100000) (kk : LEnd p l e s m args below meth c Q K A b ad qm oj od i j cells slots) {v : Nat} (hx4 : v < 4) (hz : ¬ adA M v n = 0) (e1 : xs (i + 1) = nI v) : W p l e room_1 s m args below meth c H locs cells slots Q (F0 m 1199 ls []) := by
  obtain ⟨hx, hb, hml, hown, hts, hG, hX, hbl, hbA, hL, hlt⟩ := h0
  have hok := hIv.ok
  have hn30 := hIv.1
  refine lv_aload_n hx hb dL_law_1199 rfl (lv_at hl 1 rfl) ?_
  refine lv_aload_n hx hb dL_law_1200 rfl (lv_at hl 0 rfl) ?_
  refine lv_iload hx hb dL_law_1201 (lv_at hl 5 rfl) ?_
  refine lv_iconst (v := 1) hx hb dL_law_1203 (by decide) ?_
  refine lv_iadd hx hb dL_law_1204 ?_
  refine lsld (z := nI v) hx hb hX hbl hbA hS (nI_add i 1) (by omega) (by omega) e1 dL_law_1205 ?_
  refine lv_aload hx hb dL_law_1206 (lv_at hl 4 rfl) ?_
  have hP := P_perm hP pmD
  have hD := D_perm hD pmD
  refine kf_i (W2 := (oj, oJ K g) :: Mfix K qm td (nI n) th M X) (vx_runSW (As := [.ref (ad 0), .int (nI v), .ref od]) (rest := []) ⟨hx, hb, hml, hown, hts⟩ (h_averageDiscount hE hx4 hz) (vx_cwSW 3 hts gL_law_L_averageDiscount rfl rfl rfl (by decide +kernel) ⟨(Nat.le_of_ble_eq_true rfl), (Nat.le_of_ble_eq_true rfl)⟩) (lps hG hP hD hS) rfl rfl hl.1 rfl (lv_room (Nat.le_of_ble_eq_true rfl)) dL_law_1208 ⟨(by show _ ≤ 601024; omega), (by show _ ≤ 7293034; omega)⟩) hS hP hD (fun r w H locs hp hP hD hS => ?_)
  obtain ⟨hr, w2, g1, hw, hg, hE⟩ := hp
  subst hw
  subst hr
  have hP := P_perm hP pmD'
  have hD := D_perm hD pmD'
  refine lv_istore (lv' := [(6, .int 0), (0, .ref b), (1, .ref (ad 0)), (2, .ref (qm 0)), (3, .ref oj), (4, .ref od), (5, .int (nI i))]) hx hb dL_law_1211 hl (by decide) rfl (fun ls hl => ?_)
  refine lv_aload_n hx hb dL_law_1213 rfl (lv_at hl 3 rfl) ?_
  refine lv_aload_n hx hb dL_law_1214 rfl (lv_at hl 1 rfl) ?_
  refine lv_iload hx hb dL_law_1215 (lv_at hl 6 rfl) ?_
  refine lv_iconst (v := 1) hx hb dL_law_1217 (by decide) ?_
  refine lv_iadd hx hb dL_law_1218 ?_
  refine lsld (z := nI v) hx hb hX hbl hbA hS (nI_add i 1) (by omega) (by omega) e1 dL_law_1219 ?_
  have hP := P_perm hP pmM
  have hD := D_perm hD pmM
  refine kf_f (W2 := w2 ++ [(oj, oJ K g), (od, oD K g1)]) (va_runV (As := [.int (nI v)]) (rest := []) ⟨hx, hb, hml, hown, hts⟩ (c_X2_averageDiscount_ok hn30 hx4 hz) (cwV 1 hts gL_law_X2_averageDiscount rfl rfl rfl (by decide +kernel) ⟨(Nat.le_of_ble_eq_true rfl), (Nat.le_of_ble_eq_true rfl)⟩) (lpv (q0 := 0) hG hP hD hS rfl rfl) rfl rfl hl.1 rfl (lv_room (Nat.le_of_ble_eq_true rfl)) dL_law_1220 ⟨(by show _ ≤ 601024; omega), (by show _ ≤ 7293034; omega)⟩) hS hP hD (fun r1220 w9 H locs hp hP hD hS => ?_)
  obtain ⟨hr, hw⟩ := hp
  subst hw
  subst hr
  have hP := P_perm hP pmM'
  have hD := D_perm hD pmM'
  refine lv_fstore (lv' := [(7, .float (FP.fdiv (FP.i2f (adS M v n)) (FP.i2f (adA M v n)))), (6, .int 0), (0, .ref b), (1, .ref (ad 0)), (2, .ref (qm 0)), (3, .ref oj), (4, .ref od), (5, .int (nI i))]) hx hb dL_law_1223 hl (by decide) rfl (fun ls hl => ?_)
  refine lv_aload_n hx hb dL_law_1225 rfl (lv_at hl 4 rfl) ?_
  have hP := P_perm hP pmM
  have hD := D_perm hD pmM
  refine kf_i (W2 := w2 ++ [(oj, oJ K g), (od, oD K g1)]) (va_runV (As := []) (rest := []) ⟨hx, hb, hml, hown, hts⟩ (c_X2_thrown) (cwV 0 hts gL_law_X2_thrown rfl rfl rfl (by decide +kernel) ⟨(Nat.le_of_ble_eq_true rfl), (Nat.le_of_ble_eq_true rfl)⟩) (lpv (q0 := 0) hG hP hD hS rfl rfl) rfl rfl hl.1 rfl (lv_room (Nat.le_of_ble_eq_true rfl)) dL_law_1226 ⟨(by show _ ≤ 601024; omega), (by show _ ≤ 7293034; omega)⟩) hS hP hD (fun r1226 w9 H locs hp hP hD hS => ?_)
  obtain ⟨hr, hw⟩ := hp
  subst hw
  subst hr
  have hP := P_perm hP pmM'
  have hD := D_perm hD pmM'
  refine lv_iload hx hb dL_law_1229 (lv_at hl 1 rfl) ?_
  refine lv_icmp_eq (tgt := 1236) hx hb dL_law_1231 (by decide) (fun h1231 => ?_) (fun h1231 => False.elim (h1231 rfl))
  refine lv_iload hx hb dL_law_1236 (lv_at hl 1 rfl) ?_
  refine lv_if_ne (tgt := 1274) hx hb dL_law_1238 (by decide) (fun h1238 => False.elim (absurd rfl h1238)) (fun h1238 => ?_)
  refine lv_aload hx hb dL_law_1241 (lv_at hl 6 rfl) ?_
  refine lv_iconst (v := 0) hx hb dL_law_1243 (by decide) ?_
  refine ldald hx hb hG hP hg dL_law_1244 ?_
  refine lv_fload hx hb dL_law_1245 (lv_at hl 0 rfl) ?_
  refine lv_f2d hx hb dL_law_1247 (fd64 hz) ?_
  refine lv_dcmp hx hb dL_law_1248 ?_
  refine ktop (z := 0) (dcs hz) ?_
  refine lv_if_eq (tgt := 1274) hx hb dL_law_1249 (by decide) (fun h1249 => ?_) (fun h1249 => False.elim (absurd rfl h1249))
  refine lv_goto (tgt := 1346) hx hb dL_law_1274 (by decide) ?_
  exact W.widen (k := cells + 31) (n := slots + 1806) (by omega) (by omega) (kk _ _ _ _ _ _ _ _ _ H locs ls hE (hIv.up) hP hD hS (lv_sub hl [2, 3, 4, 5, 6, 7] rfl))
set_option maxHeartbeats 4000000 in
set_option maxRecDepth 100000 in
theorem q_pass_tr {p : Program} {l : Launch} {e : Env} {s : State} {m : MethodId} {args : Array Value} {below : List Frame} {meth : Method} {c : Code} {H : Heap} {locs : List Loc} {cells slots : Nat} {Q : State → Prop} {ls : Array Slot} {K : Ks} {A : Nat → Prop} {ad bad qm : Nat → Nat} {td th : Int32} {n : Nat} {M X : Nat → Nat → Int32} {w : va_W} {oj od : Nat} {g : Nat → Int64} {gd : Nat → UInt64} {b L i j : Nat} {xs : Nat → Int32} (h0 : LSt p l s m args c K A b L xs) (hE : DkE K ad bad td n M w) (hIv : Iv j td n M) (hP : va_P K.1 kCl (CW K qm oj od td n th M X w g gd) H) (hD : va_D A (CW K qm oj od td n th M X w g gd)) (hS : va_S A s.heap H locs) (hl : lv_has ls 8 [(0, .ref b), (1, .ref (ad 0)), (2, .ref (qm 0)), (3, .ref oj), (4, .ref od), (5, .int (nI i))]) (hi : i + 4 < L) (hcl : cells + 31 ≤ 601024) (hsl : slots + 1806 ≤ 7293034) (hj : j ≤ 100000) (kk : LEnd p l e s m args below meth c Q K A b ad qm oj od i j cells slots) {y : Int32} (hy : ¬ inR 1 400 y) (e1 : xs (i + 1) = y) : W p l e room_1 s m args below meth c H locs cells slots Q (F0 m 1277 ls []) := by
  obtain ⟨hx, hb, hml, hown, hts, hG, hX, hbl, hbA, hL, hlt⟩ := h0
  have hok := hIv.ok
  have hn30 := hIv.1
  refine lv_aload_n hx hb dL_law_1277 rfl (lv_at hl 1 rfl) ?_
  refine lv_aload_n hx hb dL_law_1278 rfl (lv_at hl 0 rfl) ?_
  refine lv_iload hx hb dL_law_1279 (lv_at hl 5 rfl) ?_
  refine lv_iconst (v := 1) hx hb dL_law_1281 (by decide) ?_
  refine lv_iadd hx hb dL_law_1282 ?_
  refine lsld (z := y) hx hb hX hbl hbA hS (nI_add i 1) (by omega) (by omega) e1 dL_law_1283 ?_
  refine lv_aload_n hx hb dL_law_1284 rfl (lv_at hl 3 rfl) ?_
  have hP := P_perm hP pmJ
  have hD := D_perm hD pmJ
  refine kf_i (W2 := (od, oD K gd) :: Mfix K qm td (nI n) th M X) (vx_runSW (As := [.ref (ad 0), .int y, .ref oj]) (rest := []) ⟨hx, hb, hml, hown, hts⟩ (h_pass_tr hE hlt hy) (vx_cwSW 3 hts gL_law_L_pass rfl rfl rfl (by decide +kernel) ⟨(Nat.le_of_ble_eq_true rfl), (Nat.le_of_ble_eq_true rfl)⟩) (lps hG hP hD hS) rfl rfl hl.1 rfl (lv_room (Nat.le_of_ble_eq_true rfl)) dL_law_1285 ⟨(by show _ ≤ 601024; omega), (by show _ ≤ 7293034; omega)⟩) hS hP hD (fun r w H locs hp hP hD hS => ?_)
  obtain ⟨hr, w2, hw, hE⟩ := hp
  subst hw
  subst hr
  have hP := P_perm hP pmJ'
  have hD := D_perm hD pmJ'
  refine lv_istore (lv' := [(6, .int 1), (0, .ref b), (1, .ref (ad 0)), (2, .ref (qm 0)), (3, .ref oj), (4, .ref od), (5, .int (nI i))]) hx hb dL_law_1288 hl (by decide) rfl (fun ls hl => ?_)
  refine lv_aload_n hx hb dL_law_1290 rfl (lv_at hl 3 rfl) ?_
  refine lv_aload_n hx hb dL_law_1291 rfl (lv_at hl 1 rfl) ?_
  refine lv_iload hx hb dL_law_1292 (lv_at hl 6 rfl) ?_
  refine lv_iconst (v := 1) hx hb dL_law_1294 (by decide) ?_
  refine lv_iadd hx hb dL_law_1295 ?_
  refine lsld (z := y) hx hb hX hbl hbA hS (nI_add i 1) (by omega) (by omega) e1 dL_law_1296 ?_
  have hP := P_perm hP pmM
  have hD := D_perm hD pmM
  refine kf_i (W2 := w2 ++ [(oj, oJ K g), (od, oD K gd)]) (va_runV (As := [.int y]) (rest := []) ⟨hx, hb, hml, hown, hts⟩ (c_X2_pass_1 hy) (cwV 1 hts gL_law_X2_pass rfl rfl rfl (by decide +kernel) ⟨(Nat.le_of_ble_eq_true rfl), (Nat.le_of_ble_eq_true rfl)⟩) (lpv (q0 := 0) hG hP hD hS rfl rfl) rfl rfl hl.1 rfl (lv_room (Nat.le_of_ble_eq_true rfl)) dL_law_1297 ⟨(by show _ ≤ 601024; omega), (by show _ ≤ 7293034; omega)⟩) hS hP hD (fun r1297 w9 H locs hp hP hD hS => ?_)
  subst hp
  have hP := P_perm hP pmM'
  have hD := D_perm hD pmM'
  refine lv_istore (lv' := [(7, .int r1297), (6, .int 1), (0, .ref b), (1, .ref (ad 0)), (2, .ref (qm 0)), (3, .ref oj), (4, .ref od), (5, .int (nI i))]) hx hb dL_law_1300 hl (by decide) rfl (fun ls hl => ?_)
  refine lv_aload_n hx hb dL_law_1302 rfl (lv_at hl 4 rfl) ?_
  have hP := P_perm hP pmM
  have hD := D_perm hD pmM
  refine kf_i (W2 := w2 ++ [(oj, oJ K g), (od, oD K gd)]) (va_runV (As := []) (rest := []) ⟨hx, hb, hml, hown, hts⟩ (c_X2_thrown) (cwV 0 hts gL_law_X2_thrown rfl rfl rfl (by decide +kernel) ⟨(Nat.le_of_ble_eq_true rfl), (Nat.le_of_ble_eq_true rfl)⟩) (lpv (q0 := 0) hG hP hD hS rfl rfl) rfl rfl hl.1 rfl (lv_room (Nat.le_of_ble_eq_true rfl)) dL_law_1303 ⟨(by show _ ≤ 601024; omega), (by show _ ≤ 7293034; omega)⟩) hS hP hD (fun r1303 w9 H locs hp hP hD hS => ?_)
  obtain ⟨hr, hw⟩ := hp
  subst hw
  subst hr
  have hP := P_perm hP pmM'
  have hD := D_perm hD pmM'
  refine lv_iload hx hb dL_law_1306 (lv_at hl 1 rfl) ?_
  refine lv_icmp_eq (tgt := 1313) hx hb dL_law_1308 (by decide) (fun h1308 => ?_) (fun h1308 => False.elim (h1308 rfl))
  refine lv_iload hx hb dL_law_1313 (lv_at hl 1 rfl) ?_
  refine lv_if_ne (tgt := 1330) hx hb dL_law_1315 (by decide) (fun h1315 => ?_) (fun h1315 => False.elim (absurd h1315 (by decide)))
  refine lv_goto (tgt := 1346) hx hb dL_law_1330 (by decide) ?_
  exact W.widen (k := cells + 31) (n := slots + 1806) (by omega) (by omega) (kk _ _ _ _ _ _ _ _ _ H locs ls hE (hIv.up) hP hD hS (lv_sub hl [2, 3, 4, 5, 6, 7] rfl))
set_option maxHeartbeats 4000000 in
set_option maxRecDepth 100000 in
theorem q_pass {p : Program} {l : Launch} {e : Env} {s : State} {m : MethodId} {args : Array Value} {below : List Frame} {meth : Method} {c : Code} {H : Heap} {locs : List Loc} {cells slots : Nat} {Q : State → Prop} {ls : Array Slot} {K : Ks} {A : Nat → Prop} {ad bad qm : Nat → Nat} {td th : Int32} {n : Nat} {M X : Nat → Nat → Int32} {w : va_W} {oj od : Nat} {g : Nat → Int64} {gd : Nat → UInt64} {b L i j : Nat} {xs : Nat → Int32} (h0 : LSt p l s m args c K A b L xs) (hE : DkE K ad bad td n M w) (hIv : Iv j td n M) (hP : va_P K.1 kCl (CW K qm oj od td n th M X w g gd) H) (hD : va_D A (CW K qm oj od td n th M X w g gd)) (hS : va_S A s.heap H locs) (hl : lv_has ls 8 [(0, .ref b), (1, .ref (ad 0)), (2, .ref (qm 0)), (3, .ref oj), (4, .ref od), (5, .int (nI i))]) (hi : i + 4 < L) (hcl : cells + 31 ≤ 601024) (hsl : slots + 1806 ≤ 7293034) (hj : j ≤ 100000) (kk : LEnd p l e s m args below meth c Q K A b ad qm oj od i j cells slots) {D : Nat} (hD4 : D ≤ 400) (hy : inR 1 400 (nI D)) (e1 : xs (i + 1) = nI D) : W p l e room_1 s m args below meth c H locs cells slots Q (F0 m 1277 ls []) := by
  obtain ⟨hx, hb, hml, hown, hts, hG, hX, hbl, hbA, hL, hlt⟩ := h0
  have hok := hIv.ok
  have hn30 := hIv.1
  refine lv_aload_n hx hb dL_law_1277 rfl (lv_at hl 1 rfl) ?_
  refine lv_aload_n hx hb dL_law_1278 rfl (lv_at hl 0 rfl) ?_
  refine lv_iload hx hb dL_law_1279 (lv_at hl 5 rfl) ?_
  refine lv_iconst (v := 1) hx hb dL_law_1281 (by decide) ?_
  refine lv_iadd hx hb dL_law_1282 ?_
  refine lsld (z := nI D) hx hb hX hbl hbA hS (nI_add i 1) (by omega) (by omega) e1 dL_law_1283 ?_
  refine lv_aload_n hx hb dL_law_1284 rfl (lv_at hl 3 rfl) ?_
  have hP := P_perm hP pmJ
  have hD := D_perm hD pmJ
  refine kf_i (W2 := (od, oD K gd) :: Mfix K qm td (nI n) th M X) (vx_runSW (As := [.ref (ad 0), .int (nI D), .ref oj]) (rest := []) ⟨hx, hb, hml, hown, hts⟩ (h_pass hE hD4 hy hok) (vx_cwSW 3 hts gL_law_L_pass rfl rfl rfl (by decide +kernel) ⟨(Nat.le_of_ble_eq_true rfl), (Nat.le_of_ble_eq_true rfl)⟩) (lps hG hP hD hS) rfl rfl hl.1 rfl (lv_room (Nat.le_of_ble_eq_true rfl)) dL_law_1285 ⟨(by show _ ≤ 601024; omega), (by show _ ≤ 7293034; omega)⟩) hS hP hD (fun r w H locs hp hP hD hS => ?_)
  obtain ⟨hr, w2, g1, hw, hg, hE⟩ := hp
  subst hw
  subst hr
  have hP := P_perm hP pmJ'
  have hD := D_perm hD pmJ'
  refine lv_istore (lv' := [(6, .int 0), (0, .ref b), (1, .ref (ad 0)), (2, .ref (qm 0)), (3, .ref oj), (4, .ref od), (5, .int (nI i))]) hx hb dL_law_1288 hl (by decide) rfl (fun ls hl => ?_)
  refine lv_aload_n hx hb dL_law_1290 rfl (lv_at hl 3 rfl) ?_
  refine lv_aload_n hx hb dL_law_1291 rfl (lv_at hl 1 rfl) ?_
  refine lv_iload hx hb dL_law_1292 (lv_at hl 6 rfl) ?_
  refine lv_iconst (v := 1) hx hb dL_law_1294 (by decide) ?_
  refine lv_iadd hx hb dL_law_1295 ?_
  refine lsld (z := nI D) hx hb hX hbl hbA hS (nI_add i 1) (by omega) (by omega) e1 dL_law_1296 ?_
  have hP := P_perm hP pmM
  have hD := D_perm hD pmM
  refine kf_i (W2 := w2 ++ [(oj, oJ K g1), (od, oD K gd)]) (va_runV (As := [.int (nI D)]) (rest := []) ⟨hx, hb, hml, hown, hts⟩ (c_X2_pass_ok hn30 hD4 hy hok) (cwV 1 hts gL_law_X2_pass rfl rfl rfl (by decide +kernel) ⟨(Nat.le_of_ble_eq_true rfl), (Nat.le_of_ble_eq_true rfl)⟩) (lpv (q0 := 0) hG hP hD hS rfl rfl) rfl rfl hl.1 rfl (lv_room (Nat.le_of_ble_eq_true rfl)) dL_law_1297 ⟨(by show _ ≤ 601024; omega), (by show _ ≤ 7293034; omega)⟩) hS hP hD (fun r1297 w9 H locs hp hP hD hS => ?_)
  obtain ⟨hr, hw⟩ := hp
  subst hw
  subst hr
  have hP := P_perm hP pmM'
  have hD := D_perm hD pmM'
  refine lv_istore (lv' := [(7, .int (nI (psC td n M D))), (6, .int 0), (0, .ref b), (1, .ref (ad 0)), (2, .ref (qm 0)), (3, .ref oj), (4, .ref od), (5, .int (nI i))]) hx hb dL_law_1300 hl (by decide) rfl (fun ls hl => ?_)
  refine lv_aload_n hx hb dL_law_1302 rfl (lv_at hl 4 rfl) ?_
  have hP := P_perm hP pmM
  have hD := D_perm hD pmM
  refine kf_i (W2 := w2 ++ [(oj, oJ K g1), (od, oD K gd)]) (va_runV (As := []) (rest := []) ⟨hx, hb, hml, hown, hts⟩ (c_X2_thrown) (cwV 0 hts gL_law_X2_thrown rfl rfl rfl (by decide +kernel) ⟨(Nat.le_of_ble_eq_true rfl), (Nat.le_of_ble_eq_true rfl)⟩) (lpv (q0 := 0) hG hP hD hS rfl rfl) rfl rfl hl.1 rfl (lv_room (Nat.le_of_ble_eq_true rfl)) dL_law_1303 ⟨(by show _ ≤ 601024; omega), (by show _ ≤ 7293034; omega)⟩) hS hP hD (fun r1303 w9 H locs hp hP hD hS => ?_)
  obtain ⟨hr, hw⟩ := hp
  subst hw
  subst hr
  have hP := P_perm hP pmM'
  have hD := D_perm hD pmM'
  refine lv_iload hx hb dL_law_1306 (lv_at hl 1 rfl) ?_
  refine lv_icmp_eq (tgt := 1313) hx hb dL_law_1308 (by decide) (fun h1308 => ?_) (fun h1308 => False.elim (h1308 rfl))
  refine lv_iload hx hb dL_law_1313 (lv_at hl 1 rfl) ?_
  refine lv_if_ne (tgt := 1330) hx hb dL_law_1315 (by decide) (fun h1315 => False.elim (absurd rfl h1315)) (fun h1315 => ?_)
  refine lv_aload_n hx hb dL_law_1318 rfl (lv_at hl 5 rfl) ?_
  refine lv_iconst (v := 0) hx hb dL_law_1319 (by decide) ?_
  refine llald hx hb hG hP hg dL_law_1320 ?_
  refine lv_iload hx hb dL_law_1321 (lv_at hl 0 rfl) ?_
  refine lv_i2l (v := ((nI (psC td n M D)) : Int32).toInt64) hx hb dL_law_1323 rfl ?_
  refine llcmp hx hb dL_law_1324 ?_
  refine lv_if_eq (tgt := 1330) hx hb dL_law_1325 (by decide) (fun h1325 => ?_) (fun h1325 => False.elim (absurd rfl h1325))
  refine lv_goto (tgt := 1346) hx hb dL_law_1330 (by decide) ?_
  exact W.widen (k := cells + 31) (n := slots + 1806) (by omega) (by omega) (kk _ _ _ _ _ _ _ _ _ H locs ls hE (hIv.pass hD4 hj) hP hD hS (lv_sub hl [2, 3, 4, 5, 6, 7] rfl))
