/-! The law, case by case -/
set_option maxHeartbeats 4000000 in
set_option maxRecDepth 100000 in
theorem q_setBudget_tb {p : Program} {l : Launch} {e : Env} {s : State} {m : MethodId} {args : Array Value} {below : List Frame} {meth : Method} {c : Code} {H : Heap} {locs : List Loc} {cells slots : Nat} {Q : State → Prop} {ls : Array Slot} {K : Ks} {A : Nat → Prop} {ad bad qm : Nat → Nat} {td th : Int32} {n : Nat} {M X : Nat → Nat → Int32} {w : va_W} {oj od : Nat} {g : Nat → Int64} {gd : Nat → UInt64} {b L i j : Nat} {xs : Nat → Int32} (h0 : LSt p l s m args c K A b L xs) (hE : DkE K ad bad td n M w) (hIv : Iv j td n M) (hP : va_P K.1 kCl (CW K qm oj od td n th M X w g gd) H) (hD : va_D A (CW K qm oj od td n th M X w g gd)) (hS : va_S A s.heap H locs) (hl : lv_has ls 8 [(0, .ref b), (1, .ref (ad 0)), (2, .ref (qm 0)), (3, .ref oj), (4, .ref od), (5, .int (nI i))]) (hi : i + 4 < L) (hcl : cells + 31 ≤ 601024) (hsl : slots + 1806 ≤ 7293034) (hj : j ≤ 100000) (kk : LEnd p l e s m args below meth c Q K A b ad qm oj od i j cells slots) {x y : Int32} (hx4 : ixBad 4 x) (e1 : xs (i + 1) = x) (e2 : xs (i + 2) = y) : W p l e room_1 s m args below meth c H locs cells slots Q (F0 m 140 ls []) := by
  obtain ⟨hx, hb, hml, hown, hts, hG, hX, hbl, hbA, hL, hlt⟩ := h0
  have hok := hIv.ok
  have hn30 := hIv.1
  refine lv_aload_n hx hb dL_law_140 rfl (lv_at hl 1 rfl) ?_
  refine lv_aload_n hx hb dL_law_141 rfl (lv_at hl 0 rfl) ?_
  refine lv_iload hx hb dL_law_142 (lv_at hl 5 rfl) ?_
  refine lv_iconst (v := 1) hx hb dL_law_144 (by decide) ?_
  refine lv_iadd hx hb dL_law_145 ?_
  refine lsld (z := x) hx hb hX hbl hbA hS (nI_add i 1) (by omega) (by omega) e1 dL_law_146 ?_
  refine lv_aload_n hx hb dL_law_147 rfl (lv_at hl 0 rfl) ?_
  refine lv_iload hx hb dL_law_148 (lv_at hl 5 rfl) ?_
  refine lv_iconst (v := 2) hx hb dL_law_150 (by decide) ?_
  refine lv_iadd hx hb dL_law_151 ?_
  refine lsld (z := y) hx hb hX hbl hbA hS (nI_add i 2) (by omega) (by omega) e2 dL_law_152 ?_
  refine lv_aload_n hx hb dL_law_153 rfl (lv_at hl 3 rfl) ?_
  have hP := P_perm hP pmJ
  have hD := D_perm hD pmJ
  refine kf_i (W2 := (od, oD K gd) :: Mfix K qm td (nI n) th M X) (vx_runSW (As := [.ref (ad 0), .int x, .int y, .ref oj]) (rest := []) ⟨hx, hb, hml, hown, hts⟩ (h_setBudget_tb hE hlt hx4) (vx_cwSW 4 hts gL_law_L_setBudget rfl rfl rfl (by decide +kernel) ⟨(Nat.le_of_ble_eq_true rfl), (Nat.le_of_ble_eq_true rfl)⟩) (lps hG hP hD hS) rfl rfl hl.1 rfl (lv_room (Nat.le_of_ble_eq_true rfl)) dL_law_154 ⟨(by show _ ≤ 601024; omega), (by show _ ≤ 7293034; omega)⟩) hS hP hD (fun r w H locs hp hP hD hS => ?_)
  obtain ⟨hr, w2, hw, hE⟩ := hp
  subst hw
  subst hr
  have hP := P_perm hP pmJ'
  have hD := D_perm hD pmJ'
  refine lv_istore (lv' := [(6, .int 1), (0, .ref b), (1, .ref (ad 0)), (2, .ref (qm 0)), (3, .ref oj), (4, .ref od), (5, .int (nI i))]) hx hb dL_law_157 hl (by decide) rfl (fun ls hl => ?_)
  refine lv_aload_n hx hb dL_law_159 rfl (lv_at hl 3 rfl) ?_
  refine lv_aload_n hx hb dL_law_160 rfl (lv_at hl 1 rfl) ?_
  refine lv_iload hx hb dL_law_161 (lv_at hl 6 rfl) ?_
  refine lv_iconst (v := 1) hx hb dL_law_163 (by decide) ?_
  refine lv_iadd hx hb dL_law_164 ?_
  refine lsld (z := x) hx hb hX hbl hbA hS (nI_add i 1) (by omega) (by omega) e1 dL_law_165 ?_
  refine lv_aload_n hx hb dL_law_166 rfl (lv_at hl 1 rfl) ?_
  refine lv_iload hx hb dL_law_167 (lv_at hl 6 rfl) ?_
  refine lv_iconst (v := 2) hx hb dL_law_169 (by decide) ?_
  refine lv_iadd hx hb dL_law_170 ?_
  refine lsld (z := y) hx hb hX hbl hbA hS (nI_add i 2) (by omega) (by omega) e2 dL_law_171 ?_
  have hP := P_perm hP pmM
  have hD := D_perm hD pmM
  refine kf_i (W2 := w2 ++ [(oj, oJ K g), (od, oD K gd)]) (va_runV (As := [.int x, .int y]) (rest := []) ⟨hx, hb, hml, hown, hts⟩ (c_X2_setBudget_1 hx4) (cwV 2 hts gL_law_X2_setBudget rfl rfl rfl (by decide +kernel) ⟨(Nat.le_of_ble_eq_true rfl), (Nat.le_of_ble_eq_true rfl)⟩) (lpv (q0 := 0) hG hP hD hS rfl rfl) rfl rfl hl.1 rfl (lv_room (Nat.le_of_ble_eq_true rfl)) dL_law_172 ⟨(by show _ ≤ 601024; omega), (by show _ ≤ 7293034; omega)⟩) hS hP hD (fun r172 w9 H locs hp hP hD hS => ?_)
  subst hp
  have hP := P_perm hP pmM'
  have hD := D_perm hD pmM'
  refine lv_istore (lv' := [(7, .int r172), (6, .int 1), (0, .ref b), (1, .ref (ad 0)), (2, .ref (qm 0)), (3, .ref oj), (4, .ref od), (5, .int (nI i))]) hx hb dL_law_175 hl (by decide) rfl (fun ls hl => ?_)
  refine lv_aload_n hx hb dL_law_177 rfl (lv_at hl 4 rfl) ?_
  have hP := P_perm hP pmM
  have hD := D_perm hD pmM
  refine kf_i (W2 := w2 ++ [(oj, oJ K g), (od, oD K gd)]) (va_runV (As := []) (rest := []) ⟨hx, hb, hml, hown, hts⟩ (c_X2_thrown) (cwV 0 hts gL_law_X2_thrown rfl rfl rfl (by decide +kernel) ⟨(Nat.le_of_ble_eq_true rfl), (Nat.le_of_ble_eq_true rfl)⟩) (lpv (q0 := 0) hG hP hD hS rfl rfl) rfl rfl hl.1 rfl (lv_room (Nat.le_of_ble_eq_true rfl)) dL_law_178 ⟨(by show _ ≤ 601024; omega), (by show _ ≤ 7293034; omega)⟩) hS hP hD (fun r178 w9 H locs hp hP hD hS => ?_)
  obtain ⟨hr, hw⟩ := hp
  subst hw
  subst hr
  have hP := P_perm hP pmM'
  have hD := D_perm hD pmM'
  refine lv_iload hx hb dL_law_181 (lv_at hl 1 rfl) ?_
  refine lv_icmp_eq (tgt := 188) hx hb dL_law_183 (by decide) (fun h183 => ?_) (fun h183 => False.elim (h183 rfl))
  refine lv_iload hx hb dL_law_188 (lv_at hl 1 rfl) ?_
  refine lv_if_ne (tgt := 205) hx hb dL_law_190 (by decide) (fun h190 => ?_) (fun h190 => False.elim (absurd h190 (by decide)))
  refine lv_goto (tgt := 1346) hx hb dL_law_205 (by decide) ?_
  exact W.widen (k := cells + 31) (n := slots + 1806) (by omega) (by omega) (kk _ _ _ _ _ _ _ _ _ H locs ls hE (hIv.up) hP hD hS (lv_sub hl [2, 3, 4, 5, 6, 7] rfl))
set_option maxHeartbeats 4000000 in
set_option maxRecDepth 100000 in
theorem q_setBudget_tr {p : Program} {l : Launch} {e : Env} {s : State} {m : MethodId} {args : Array Value} {below : List Frame} {meth : Method} {c : Code} {H : Heap} {locs : List Loc} {cells slots : Nat} {Q : State → Prop} {ls : Array Slot} {K : Ks} {A : Nat → Prop} {ad bad qm : Nat → Nat} {td th : Int32} {n : Nat} {M X : Nat → Nat → Int32} {w : va_W} {oj od : Nat} {g : Nat → Int64} {gd : Nat → UInt64} {b L i j : Nat} {xs : Nat → Int32} (h0 : LSt p l s m args c K A b L xs) (hE : DkE K ad bad td n M w) (hIv : Iv j td n M) (hP : va_P K.1 kCl (CW K qm oj od td n th M X w g gd) H) (hD : va_D A (CW K qm oj od td n th M X w g gd)) (hS : va_S A s.heap H locs) (hl : lv_has ls 8 [(0, .ref b), (1, .ref (ad 0)), (2, .ref (qm 0)), (3, .ref oj), (4, .ref od), (5, .int (nI i))]) (hi : i + 4 < L) (hcl : cells + 31 ≤ 601024) (hsl : slots + 1806 ≤ 7293034) (hj : j ≤ 100000) (kk : LEnd p l e s m args below meth c Q K A b ad qm oj od i j cells slots) {v : Nat} {y : Int32} (hx4 : v < 4) (hy : ¬ inR 0 100000000 y) (e1 : xs (i + 1) = nI v) (e2 : xs (i + 2) = y) : W p l e room_1 s m args below meth c H locs cells slots Q (F0 m 140 ls []) := by
  obtain ⟨hx, hb, hml, hown, hts, hG, hX, hbl, hbA, hL, hlt⟩ := h0
  have hok := hIv.ok
  have hn30 := hIv.1
  refine lv_aload_n hx hb dL_law_140 rfl (lv_at hl 1 rfl) ?_
  refine lv_aload_n hx hb dL_law_141 rfl (lv_at hl 0 rfl) ?_
  refine lv_iload hx hb dL_law_142 (lv_at hl 5 rfl) ?_
  refine lv_iconst (v := 1) hx hb dL_law_144 (by decide) ?_
  refine lv_iadd hx hb dL_law_145 ?_
  refine lsld (z := nI v) hx hb hX hbl hbA hS (nI_add i 1) (by omega) (by omega) e1 dL_law_146 ?_
  refine lv_aload_n hx hb dL_law_147 rfl (lv_at hl 0 rfl) ?_
  refine lv_iload hx hb dL_law_148 (lv_at hl 5 rfl) ?_
  refine lv_iconst (v := 2) hx hb dL_law_150 (by decide) ?_
  refine lv_iadd hx hb dL_law_151 ?_
  refine lsld (z := y) hx hb hX hbl hbA hS (nI_add i 2) (by omega) (by omega) e2 dL_law_152 ?_
  refine lv_aload_n hx hb dL_law_153 rfl (lv_at hl 3 rfl) ?_
  have hP := P_perm hP pmJ
  have hD := D_perm hD pmJ
  refine kf_i (W2 := (od, oD K gd) :: Mfix K qm td (nI n) th M X) (vx_runSW (As := [.ref (ad 0), .int (nI v), .int y, .ref oj]) (rest := []) ⟨hx, hb, hml, hown, hts⟩ (h_setBudget_tr hE hlt hx4 hy) (vx_cwSW 4 hts gL_law_L_setBudget rfl rfl rfl (by decide +kernel) ⟨(Nat.le_of_ble_eq_true rfl), (Nat.le_of_ble_eq_true rfl)⟩) (lps hG hP hD hS) rfl rfl hl.1 rfl (lv_room (Nat.le_of_ble_eq_true rfl)) dL_law_154 ⟨(by show _ ≤ 601024; omega), (by show _ ≤ 7293034; omega)⟩) hS hP hD (fun r w H locs hp hP hD hS => ?_)
  obtain ⟨hr, w2, hw, hE⟩ := hp
  subst hw
  subst hr
  have hP := P_perm hP pmJ'
  have hD := D_perm hD pmJ'
  refine lv_istore (lv' := [(6, .int 2), (0, .ref b), (1, .ref (ad 0)), (2, .ref (qm 0)), (3, .ref oj), (4, .ref od), (5, .int (nI i))]) hx hb dL_law_157 hl (by decide) rfl (fun ls hl => ?_)
  refine lv_aload_n hx hb dL_law_159 rfl (lv_at hl 3 rfl) ?_
  refine lv_aload_n hx hb dL_law_160 rfl (lv_at hl 1 rfl) ?_
  refine lv_iload hx hb dL_law_161 (lv_at hl 6 rfl) ?_
  refine lv_iconst (v := 1) hx hb dL_law_163 (by decide) ?_
  refine lv_iadd hx hb dL_law_164 ?_
  refine lsld (z := nI v) hx hb hX hbl hbA hS (nI_add i 1) (by omega) (by omega) e1 dL_law_165 ?_
  refine lv_aload_n hx hb dL_law_166 rfl (lv_at hl 1 rfl) ?_
  refine lv_iload hx hb dL_law_167 (lv_at hl 6 rfl) ?_
  refine lv_iconst (v := 2) hx hb dL_law_169 (by decide) ?_
  refine lv_iadd hx hb dL_law_170 ?_
  refine lsld (z := y) hx hb hX hbl hbA hS (nI_add i 2) (by omega) (by omega) e2 dL_law_171 ?_
  have hP := P_perm hP pmM
  have hD := D_perm hD pmM
  refine kf_i (W2 := w2 ++ [(oj, oJ K g), (od, oD K gd)]) (va_runV (As := [.int (nI v), .int y]) (rest := []) ⟨hx, hb, hml, hown, hts⟩ (c_X2_setBudget_2 hx4 hy) (cwV 2 hts gL_law_X2_setBudget rfl rfl rfl (by decide +kernel) ⟨(Nat.le_of_ble_eq_true rfl), (Nat.le_of_ble_eq_true rfl)⟩) (lpv (q0 := 0) hG hP hD hS rfl rfl) rfl rfl hl.1 rfl (lv_room (Nat.le_of_ble_eq_true rfl)) dL_law_172 ⟨(by show _ ≤ 601024; omega), (by show _ ≤ 7293034; omega)⟩) hS hP hD (fun r172 w9 H locs hp hP hD hS => ?_)
  subst hp
  have hP := P_perm hP pmM'
  have hD := D_perm hD pmM'
  refine lv_istore (lv' := [(7, .int r172), (6, .int 2), (0, .ref b), (1, .ref (ad 0)), (2, .ref (qm 0)), (3, .ref oj), (4, .ref od), (5, .int (nI i))]) hx hb dL_law_175 hl (by decide) rfl (fun ls hl => ?_)
  refine lv_aload_n hx hb dL_law_177 rfl (lv_at hl 4 rfl) ?_
  have hP := P_perm hP pmM
  have hD := D_perm hD pmM
  refine kf_i (W2 := w2 ++ [(oj, oJ K g), (od, oD K gd)]) (va_runV (As := []) (rest := []) ⟨hx, hb, hml, hown, hts⟩ (c_X2_thrown) (cwV 0 hts gL_law_X2_thrown rfl rfl rfl (by decide +kernel) ⟨(Nat.le_of_ble_eq_true rfl), (Nat.le_of_ble_eq_true rfl)⟩) (lpv (q0 := 0) hG hP hD hS rfl rfl) rfl rfl hl.1 rfl (lv_room (Nat.le_of_ble_eq_true rfl)) dL_law_178 ⟨(by show _ ≤ 601024; omega), (by show _ ≤ 7293034; omega)⟩) hS hP hD (fun r178 w9 H locs hp hP hD hS => ?_)
  obtain ⟨hr, hw⟩ := hp
  subst hw
  subst hr
  have hP := P_perm hP pmM'
  have hD := D_perm hD pmM'
  refine lv_iload hx hb dL_law_181 (lv_at hl 1 rfl) ?_
  refine lv_icmp_eq (tgt := 188) hx hb dL_law_183 (by decide) (fun h183 => ?_) (fun h183 => False.elim (h183 rfl))
  refine lv_iload hx hb dL_law_188 (lv_at hl 1 rfl) ?_
  refine lv_if_ne (tgt := 205) hx hb dL_law_190 (by decide) (fun h190 => ?_) (fun h190 => False.elim (absurd h190 (by decide)))
  refine lv_goto (tgt := 1346) hx hb dL_law_205 (by decide) ?_
  exact W.widen (k := cells + 31) (n := slots + 1806) (by omega) (by omega) (kk _ _ _ _ _ _ _ _ _ H locs ls hE (hIv.up) hP hD hS (lv_sub hl [2, 3, 4, 5, 6, 7] rfl))
set_option maxHeartbeats 4000000 in
set_option maxRecDepth 100000 in
theorem q_setBudget {p : Program} {l : Launch} {e : Env} {s : State} {m : MethodId} {args : Array Value} {below : List Frame} {meth : Method} {c : Code} {H : Heap} {locs : List Loc} {cells slots : Nat} {Q : State → Prop} {ls : Array Slot} {K : Ks} {A : Nat → Prop} {ad bad qm : Nat → Nat} {td th : Int32} {n : Nat} {M X : Nat → Nat → Int32} {w : va_W} {oj od : Nat} {g : Nat → Int64} {gd : Nat → UInt64} {b L i j : Nat} {xs : Nat → Int32} (h0 : LSt p l s m args c K A b L xs) (hE : DkE K ad bad td n M w) (hIv : Iv j td n M) (hP : va_P K.1 kCl (CW K qm oj od td n th M X w g gd) H) (hD : va_D A (CW K qm oj od td n th M X w g gd)) (hS : va_S A s.heap H locs) (hl : lv_has ls 8 [(0, .ref b), (1, .ref (ad 0)), (2, .ref (qm 0)), (3, .ref oj), (4, .ref od), (5, .int (nI i))]) (hi : i + 4 < L) (hcl : cells + 31 ≤ 601024) (hsl : slots + 1806 ≤ 7293034) (hj : j ≤ 100000) (kk : LEnd p l e s m args below meth c Q K A b ad qm oj od i j cells slots) {v : Nat} {y : Int32} (hx4 : v < 4) (hy : inR 0 100000000 y) (e1 : xs (i + 1) = nI v) (e2 : xs (i + 2) = y) : W p l e room_1 s m args below meth c H locs cells slots Q (F0 m 140 ls []) := by
  obtain ⟨hx, hb, hml, hown, hts, hG, hX, hbl, hbA, hL, hlt⟩ := h0
  have hok := hIv.ok
  have hn30 := hIv.1
  refine lv_aload_n hx hb dL_law_140 rfl (lv_at hl 1 rfl) ?_
  refine lv_aload_n hx hb dL_law_141 rfl (lv_at hl 0 rfl) ?_
  refine lv_iload hx hb dL_law_142 (lv_at hl 5 rfl) ?_
  refine lv_iconst (v := 1) hx hb dL_law_144 (by decide) ?_
  refine lv_iadd hx hb dL_law_145 ?_
  refine lsld (z := nI v) hx hb hX hbl hbA hS (nI_add i 1) (by omega) (by omega) e1 dL_law_146 ?_
  refine lv_aload_n hx hb dL_law_147 rfl (lv_at hl 0 rfl) ?_
  refine lv_iload hx hb dL_law_148 (lv_at hl 5 rfl) ?_
  refine lv_iconst (v := 2) hx hb dL_law_150 (by decide) ?_
  refine lv_iadd hx hb dL_law_151 ?_
  refine lsld (z := y) hx hb hX hbl hbA hS (nI_add i 2) (by omega) (by omega) e2 dL_law_152 ?_
  refine lv_aload_n hx hb dL_law_153 rfl (lv_at hl 3 rfl) ?_
  have hP := P_perm hP pmJ
  have hD := D_perm hD pmJ
  refine kf_i (W2 := (od, oD K gd) :: Mfix K qm td (nI n) th M X) (vx_runSW (As := [.ref (ad 0), .int (nI v), .int y, .ref oj]) (rest := []) ⟨hx, hb, hml, hown, hts⟩ (h_setBudget hE hx4 hy) (vx_cwSW 4 hts gL_law_L_setBudget rfl rfl rfl (by decide +kernel) ⟨(Nat.le_of_ble_eq_true rfl), (Nat.le_of_ble_eq_true rfl)⟩) (lps hG hP hD hS) rfl rfl hl.1 rfl (lv_room (Nat.le_of_ble_eq_true rfl)) dL_law_154 ⟨(by show _ ≤ 601024; omega), (by show _ ≤ 7293034; omega)⟩) hS hP hD (fun r w H locs hp hP hD hS => ?_)
  obtain ⟨hr, w2, g1, hw, hg, hE⟩ := hp
  subst hw
  subst hr
  have hP := P_perm hP pmJ'
  have hD := D_perm hD pmJ'
  refine lv_istore (lv' := [(6, .int 0), (0, .ref b), (1, .ref (ad 0)), (2, .ref (qm 0)), (3, .ref oj), (4, .ref od), (5, .int (nI i))]) hx hb dL_law_157 hl (by decide) rfl (fun ls hl => ?_)
  refine lv_aload_n hx hb dL_law_159 rfl (lv_at hl 3 rfl) ?_
  refine lv_aload_n hx hb dL_law_160 rfl (lv_at hl 1 rfl) ?_
  refine lv_iload hx hb dL_law_161 (lv_at hl 6 rfl) ?_
  refine lv_iconst (v := 1) hx hb dL_law_163 (by decide) ?_
  refine lv_iadd hx hb dL_law_164 ?_
  refine lsld (z := nI v) hx hb hX hbl hbA hS (nI_add i 1) (by omega) (by omega) e1 dL_law_165 ?_
  refine lv_aload_n hx hb dL_law_166 rfl (lv_at hl 1 rfl) ?_
  refine lv_iload hx hb dL_law_167 (lv_at hl 6 rfl) ?_
  refine lv_iconst (v := 2) hx hb dL_law_169 (by decide) ?_
  refine lv_iadd hx hb dL_law_170 ?_
  refine lsld (z := y) hx hb hX hbl hbA hS (nI_add i 2) (by omega) (by omega) e2 dL_law_171 ?_
  have hP := P_perm hP pmM
  have hD := D_perm hD pmM
  refine kf_i (W2 := w2 ++ [(oj, oJ K g1), (od, oD K gd)]) (va_runV (As := [.int (nI v), .int y]) (rest := []) ⟨hx, hb, hml, hown, hts⟩ (c_X2_setBudget_ok hx4 hy) (cwV 2 hts gL_law_X2_setBudget rfl rfl rfl (by decide +kernel) ⟨(Nat.le_of_ble_eq_true rfl), (Nat.le_of_ble_eq_true rfl)⟩) (lpv (q0 := 0) hG hP hD hS rfl rfl) rfl rfl hl.1 rfl (lv_room (Nat.le_of_ble_eq_true rfl)) dL_law_172 ⟨(by show _ ≤ 601024; omega), (by show _ ≤ 7293034; omega)⟩) hS hP hD (fun r172 w9 H locs hp hP hD hS => ?_)
  obtain ⟨hr, hw⟩ := hp
  subst hw
  subst hr
  have hP := P_perm hP pmM'
  have hD := D_perm hD pmM'
  refine lv_istore (lv' := [(7, .int (M 11 v)), (6, .int 0), (0, .ref b), (1, .ref (ad 0)), (2, .ref (qm 0)), (3, .ref oj), (4, .ref od), (5, .int (nI i))]) hx hb dL_law_175 hl (by decide) rfl (fun ls hl => ?_)
  refine lv_aload_n hx hb dL_law_177 rfl (lv_at hl 4 rfl) ?_
  have hP := P_perm hP pmM
  have hD := D_perm hD pmM
  refine kf_i (W2 := w2 ++ [(oj, oJ K g1), (od, oD K gd)]) (va_runV (As := []) (rest := []) ⟨hx, hb, hml, hown, hts⟩ (c_X2_thrown) (cwV 0 hts gL_law_X2_thrown rfl rfl rfl (by decide +kernel) ⟨(Nat.le_of_ble_eq_true rfl), (Nat.le_of_ble_eq_true rfl)⟩) (lpv (q0 := 0) hG hP hD hS rfl rfl) rfl rfl hl.1 rfl (lv_room (Nat.le_of_ble_eq_true rfl)) dL_law_178 ⟨(by show _ ≤ 601024; omega), (by show _ ≤ 7293034; omega)⟩) hS hP hD (fun r178 w9 H locs hp hP hD hS => ?_)
  obtain ⟨hr, hw⟩ := hp
  subst hw
  subst hr
  have hP := P_perm hP pmM'
  have hD := D_perm hD pmM'
  refine lv_iload hx hb dL_law_181 (lv_at hl 1 rfl) ?_
  refine lv_icmp_eq (tgt := 188) hx hb dL_law_183 (by decide) (fun h183 => ?_) (fun h183 => False.elim (h183 rfl))
  refine lv_iload hx hb dL_law_188 (lv_at hl 1 rfl) ?_
  refine lv_if_ne (tgt := 205) hx hb dL_law_190 (by decide) (fun h190 => False.elim (absurd rfl h190)) (fun h190 => ?_)
  refine lv_aload_n hx hb dL_law_193 rfl (lv_at hl 5 rfl) ?_
  refine lv_iconst (v := 0) hx hb dL_law_194 (by decide) ?_
  refine llald hx hb hG hP hg dL_law_195 ?_
  refine lv_iload hx hb dL_law_196 (lv_at hl 0 rfl) ?_
  refine lv_i2l (v := ((M 11 v) : Int32).toInt64) hx hb dL_law_198 rfl ?_
  refine llcmp hx hb dL_law_199 ?_
  refine lv_if_eq (tgt := 205) hx hb dL_law_200 (by decide) (fun h200 => ?_) (fun h200 => False.elim (absurd rfl h200))
  refine lv_goto (tgt := 1346) hx hb dL_law_205 (by decide) ?_
  exact W.widen (k := cells + 31) (n := slots + 1806) (by omega) (by omega) (kk _ _ _ _ _ _ _ _ _ H locs ls hE ((hIv.hi (by decide)).up) hP hD hS (lv_sub hl [2, 3, 4, 5, 6, 7] rfl))
