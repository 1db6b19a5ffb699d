/-! The law: bills; bits; a number of the script -/
theorem nI_n0 {n : Nat} (h : 0 < n) (h2 : n < 2 ^ 31) : ¬ nI n = 0 := fun q => by
  have e := congrArg Int32.toInt q
  rw [nI_toInt h2, z0] at e
  omega
theorem part_z {x : Int32} {n : Nat} (h : 0 < n) (h2 : n < 2 ^ 31) : ∃ z : Nat, z < n ∧ (x &&& 2147483647) - (x &&& 2147483647) / nI n * nI n = nI z := by
  have e1 : (x &&& 2147483647).toBitVec = x.toBitVec &&& 2147483647#32 := rfl
  have e2 : 0 ≤ (x &&& 2147483647).toInt := by
    show 0 ≤ (x &&& 2147483647).toBitVec.toInt
    rw [e1]
    refine BitVec.toInt_nonneg_of_msb_false ?_
    rw [BitVec.msb_and]
    have e3 : (2147483647#32).msb = false := by decide
    rw [e3, Bool.and_false]
  obtain ⟨j, hj, e⟩ := nI_of (x := x &&& 2147483647) (by rw [i32_lt, z0]; omega)
  rw [e]
  exact ⟨j % n, Nat.mod_lt _ h, nI_rem hj h2⟩
theorem nI_ltL {k L : Nat} (h : ¬ nI L ≤ nI k) (hk : k < 2 ^ 31) : k < L := by
  rcases Nat.lt_or_ge k L with q | q
  · exact q
  · exact absurd (nI_le q hk) h
section SL
variable {p : Program} {l : Launch} {e : Env} {R : Room} {s : State} {m : MethodId} {args : Array Value} {below : List Frame} {meth : Method} {c : Code} {H : Heap} {locs : List Loc} {cells slots : Nat} {Q : State → Prop}
variable {cc : ByteArray} {pc : Nat} {ls : Array Slot} {rest : List Value} {A : Nat → Prop} {b L : Nat} {xs : Nat → Int32}
theorem lsld (hexec : p.tables.exec = Jvm.exec) (hb : c.code = cc) (hX : va_X b L xs s s.heap) (hbl : b < s.heap.size) (hbA : ¬ A b) (hS : va_S A s.heap H locs) {v z : Int32} {j : Nat} (hv : v = nI j) (hj : j < L) (hL : L < 2 ^ 31) (he : xs j = z) (hdg : decode cc pc = .ok (.iaload, 1))
    (kk : W p l e R s m args below meth c H locs cells slots Q (F0 m (pc + 1) ls (.int z :: rest))) : W p l e R s m args below meth c H locs cells slots Q (F0 m pc ls (.int v :: .ref b :: rest)) := by
  subst hv
  subst he
  exact va_sld hexec hb hX hbl hbA hS (vp_in_nI hj hL) hdg (by rw [nI_clamp (by omega)]; exact kk)
end SL
set_option maxHeartbeats 4000000 in
set_option maxRecDepth 100000 in
theorem c_areBills {l : Launch} {K : Ks} {A : Nat → Prop} {ad q : Nat → Nat} {sn : Nat} {w : va_W} (hlt : l.stackTraces = false) (hLS : LSw K ad q sn w) (hsn : sn ≤ 1000)  : Met l yL_areBills wsL_areBills (kR 7 4 24) (kPr K A [.ref (ad 0), .ref (q 1), .ref (q 2), .ref (q 3), .ref (q 7)] (w)) (kQi K A (fun r w1 => r = 1 ∧ LSw K ad q sn w1)) 4 24 A := by
  obtain ⟨td, n, M, w, fb, ft, fn, fm, fl, fu, fg, rfl, hDk, hR, hJ⟩ := hLS
  have hn30 := hJ.1.1.1
  have hok := hJ.1.ok
  refine kent (cc := cL_areBills) (maxL := 10) (ret := (some .boolean)) (by decide) rfl (Nat.le_of_ble_eq_true rfl) ?_
  intro p e s m args below meth c ls hx hb hr hts hown hlocks hml hini hG hP hD hS hl
  have hl : lv_has ls 10 [(0, .ref (ad 0)), (1, .ref (q 1)), (2, .ref (q 2)), (3, .ref (q 3)), (4, .ref (q 7))] := hl
  refine lv_aload_n hx hb dL_areBills_0 rfl (lv_at hl 0 rfl) ?_
  obtain ⟨bad, rm, kq, idx, hQ⟩ := hDk
  refine kf_i (W2 := LA K q fb ft fn fm fl fu fg) (va_runV (As := []) (rest := []) ⟨hx, hb, hml, hown, hts⟩ (c_X1_today hQ) (cwV 0 hts gL_areBills_X1_today rfl rfl rfl (by decide +kernel) ⟨(Nat.le_of_ble_eq_true rfl), (Nat.le_of_ble_eq_true rfl)⟩) (lpv (q0 := 0) hG hP hD hS hQ.x rfl) rfl rfl hl.1 rfl (lv_room (Nat.le_of_ble_eq_true rfl)) dL_areBills_1 ⟨(Nat.le_of_ble_eq_true rfl), (Nat.le_of_ble_eq_true rfl)⟩) hS hP hD (fun r1 w H locs hp hP hD hS => ?_)
  obtain ⟨hv9, hp⟩ := hp
  rw [hv9]
  have hDk : DE K ad td n M w := ⟨_, _, _, _, hp⟩
  refine lv_aload hx hb dL_areBills_4 (lv_at hl 4 rfl) ?_
  refine lv_iconst (v := 1) hx hb dL_areBills_6 (by decide) ?_
  refine kla_ld (n := 2) (j := 1) (z := td) hx hb hG hP 6 rfl hR.g1 rfl (by omega) (by decide) dL_areBills_7 ?_
  refine lv_icmp_ne (tgt := 72) hx hb dL_areBills_8 (by decide) (fun h8 => False.elim (absurd rfl h8)) (fun h8 => ?_)
  refine lv_aload_n hx hb dL_areBills_11 rfl (lv_at hl 0 rfl) ?_
  refine lv_iconst (v := 0) hx hb dL_areBills_12 (by decide) ?_
  refine lv_aload hx hb dL_areBills_13 (lv_at hl 4 rfl) ?_
  refine lv_iconst (v := 0) hx hb dL_areBills_15 (by decide) ?_
  refine kla_ld (n := 2) (j := 0) (z := (nI n)) hx hb hG hP 6 rfl hR.g0 rfl (by omega) (by decide) dL_areBills_16 ?_
  refine lv_iconst (v := 0) hx hb dL_areBills_17 (by decide) ?_
  refine kf_i (W2 := LA K q fb ft fn fm fl fu fg) (vx_runSW (As := [.ref (ad 0), .int 0, .int (nI n), .int 0]) (rest := []) ⟨hx, hb, hml, hown, hts⟩ (a_state_t hDk hlt (ixn hn30)) (vx_cwSW 4 hts gL_areBills_L_asks rfl rfl rfl (by decide +kernel) ⟨(Nat.le_of_ble_eq_true rfl), (Nat.le_of_ble_eq_true rfl)⟩) (lps hG hP hD hS) rfl rfl hl.1 rfl (lv_room (Nat.le_of_ble_eq_true rfl)) dL_areBills_18 ⟨(Nat.le_of_ble_eq_true rfl), (Nat.le_of_ble_eq_true rfl)⟩) hS hP hD (fun r18 w H locs hp hP hD hS => ?_)
  obtain ⟨hv9, hp⟩ := hp
  rw [hv9]
  have hDk : DE K ad td n M w := hp
  refine lv_ldc (v := -2000000030) hx hb hown (hts (.constant RL 82 (-2000000030)) (by decide +kernel)) dL_areBills_21 ?_
  refine lv_icmp_ne (tgt := 72) hx hb dL_areBills_23 (by decide) (fun h23 => False.elim (absurd (by decide) h23)) (fun h23 => ?_)
  refine lv_aload_n hx hb dL_areBills_26 rfl (lv_at hl 0 rfl) ?_
  refine lv_iconst (v := 1) hx hb dL_areBills_27 (by decide) ?_
  refine lv_iconst (v := (-1)) hx hb dL_areBills_28 (by decide) ?_
  refine lv_iconst (v := 0) hx hb dL_areBills_29 (by decide) ?_
  refine kf_i (W2 := LA K q fb ft fn fm fl fu fg) (vx_runSW (As := [.ref (ad 0), .int 1, .int (-1), .int 0]) (rest := []) ⟨hx, hb, hml, hown, hts⟩ (a_amount_t hDk hlt (ixm hn30)) (vx_cwSW 4 hts gL_areBills_L_asks rfl rfl rfl (by decide +kernel) ⟨(Nat.le_of_ble_eq_true rfl), (Nat.le_of_ble_eq_true rfl)⟩) (lps hG hP hD hS) rfl rfl hl.1 rfl (lv_room (Nat.le_of_ble_eq_true rfl)) dL_areBills_30 ⟨(Nat.le_of_ble_eq_true rfl), (Nat.le_of_ble_eq_true rfl)⟩) hS hP hD (fun r30 w H locs hp hP hD hS => ?_)
  obtain ⟨hv9, hp⟩ := hp
  rw [hv9]
  have hDk : DE K ad td n M w := hp
  refine lv_ldc (v := -2000000030) hx hb hown (hts (.constant RL 82 (-2000000030)) (by decide +kernel)) dL_areBills_33 ?_
  refine lv_icmp_ne (tgt := 72) hx hb dL_areBills_35 (by decide) (fun h35 => False.elim (absurd (by decide) h35)) (fun h35 => ?_)
  refine lv_aload_n hx hb dL_areBills_38 rfl (lv_at hl 0 rfl) ?_
  refine lv_iconst (v := 2) hx hb dL_areBills_39 (by decide) ?_
  refine lv_aload hx hb dL_areBills_40 (lv_at hl 4 rfl) ?_
  refine lv_iconst (v := 0) hx hb dL_areBills_42 (by decide) ?_
  refine kla_ld (n := 2) (j := 0) (z := (nI n)) hx hb hG hP 6 rfl hR.g0 rfl (by omega) (by decide) dL_areBills_43 ?_
  refine lv_iconst (v := 0) hx hb dL_areBills_44 (by decide) ?_
  refine kf_i (W2 := LA K q fb ft fn fm fl fu fg) (vx_runSW (As := [.ref (ad 0), .int 2, .int (nI n), .int 0]) (rest := []) ⟨hx, hb, hml, hown, hts⟩ (a_paid_t hDk hlt (ixn hn30)) (vx_cwSW 4 hts gL_areBills_L_asks rfl rfl rfl (by decide +kernel) ⟨(Nat.le_of_ble_eq_true rfl), (Nat.le_of_ble_eq_true rfl)⟩) (lps hG hP hD hS) rfl rfl hl.1 rfl (lv_room (Nat.le_of_ble_eq_true rfl)) dL_areBills_45 ⟨(Nat.le_of_ble_eq_true rfl), (Nat.le_of_ble_eq_true rfl)⟩) hS hP hD (fun r45 w H locs hp hP hD hS => ?_)
  obtain ⟨hv9, hp⟩ := hp
  rw [hv9]
  have hDk : DE K ad td n M w := hp
  refine lv_ldc (v := -2000000030) hx hb hown (hts (.constant RL 82 (-2000000030)) (by decide +kernel)) dL_areBills_48 ?_
  refine lv_icmp_ne (tgt := 72) hx hb dL_areBills_50 (by decide) (fun h50 => False.elim (absurd (by decide) h50)) (fun h50 => ?_)
  refine lv_aload_n hx hb dL_areBills_53 rfl (lv_at hl 0 rfl) ?_
  refine lv_iconst (v := 3) hx hb dL_areBills_54 (by decide) ?_
  refine lv_aload hx hb dL_areBills_55 (lv_at hl 4 rfl) ?_
  refine lv_iconst (v := 0) hx hb dL_areBills_57 (by decide) ?_
  refine kla_ld (n := 2) (j := 0) (z := (nI n)) hx hb hG hP 6 rfl hR.g0 rfl (by omega) (by decide) dL_areBills_58 ?_
  refine lv_iconst (v := 0) hx hb dL_areBills_59 (by decide) ?_
  refine kf_i (W2 := LA K q fb ft fn fm fl fu fg) (vx_runSW (As := [.ref (ad 0), .int 3, .int (nI n), .int 0]) (rest := []) ⟨hx, hb, hml, hown, hts⟩ (a_heldBack_t hDk hlt (ixn hn30)) (vx_cwSW 4 hts gL_areBills_L_asks rfl rfl rfl (by decide +kernel) ⟨(Nat.le_of_ble_eq_true rfl), (Nat.le_of_ble_eq_true rfl)⟩) (lps hG hP hD hS) rfl rfl hl.1 rfl (lv_room (Nat.le_of_ble_eq_true rfl)) dL_areBills_60 ⟨(Nat.le_of_ble_eq_true rfl), (Nat.le_of_ble_eq_true rfl)⟩) hS hP hD (fun r60 w H locs hp hP hD hS => ?_)
  obtain ⟨hv9, hp⟩ := hp
  rw [hv9]
  have hDk : DE K ad td n M w := hp
  refine lv_ldc (v := -2000000030) hx hb hown (hts (.constant RL 82 (-2000000030)) (by decide +kernel)) dL_areBills_63 ?_
  refine lv_icmp_ne (tgt := 72) hx hb dL_areBills_65 (by decide) (fun h65 => False.elim (absurd (by decide) h65)) (fun h65 => ?_)
  refine lv_iconst (v := 1) hx hb dL_areBills_68 (by decide) ?_
  refine lv_goto (tgt := 73) hx hb dL_areBills_69 (by decide) ?_
  refine lv_istore (lv' := [(5, .int 1), (0, .ref (ad 0)), (1, .ref (q 1)), (2, .ref (q 2)), (3, .ref (q 3)), (4, .ref (q 7))]) hx hb dL_areBills_73 hl (by decide) rfl (fun ls hl => ?_)
  refine lv_iconst (v := 0) hx hb dL_areBills_75 (by decide) ?_
  refine lv_istore (lv' := [(6, .int 0), (5, .int 1), (0, .ref (ad 0)), (1, .ref (q 1)), (2, .ref (q 2)), (3, .ref (q 3)), (4, .ref (q 7))]) hx hb dL_areBills_76 hl (by decide) rfl (fun ls hl => ?_)
  have LOOP : ∀ (Q' : State → Prop), (∀ (w : va_W)  (ls : Array Slot) (H : Heap) (locs : List Loc), DE K ad td n M w → va_P K.1 kCl (w ++ LA K q fb ft fn fm fl fu fg) H → va_D A (w ++ LA K q fb ft fn fm fl fu fg) → va_S A s.heap H locs → lv_has ls 10 [(0, .ref (ad 0)), (1, .ref (q 1)), (2, .ref (q 2)), (3, .ref (q 3)), (4, .ref (q 7)), (5, .int 1), (6, .int (nI n))] → W p l e ((kR 7 4 24)) s m args below meth c H locs (0 + 1 + 1 + 1 + 1) (0 + 6 + 6 + 6 + 6) Q' (F0 m 236 ls [])) → ∀ (d j : Nat) (w : va_W)  (ls : Array Slot) (H : Heap) (locs : List Loc), j + d = n → DE K ad td n M w → va_P K.1 kCl (w ++ LA K q fb ft fn fm fl fu fg) H → va_D A (w ++ LA K q fb ft fn fm fl fu fg) → va_S A s.heap H locs → lv_has ls 10 [(0, .ref (ad 0)), (1, .ref (q 1)), (2, .ref (q 2)), (3, .ref (q 3)), (4, .ref (q 7)), (5, .int 1), (6, .int (nI j))] → W p l e ((kR 7 4 24)) s m args below meth c H locs (0 + 1 + 1 + 1 + 1) (0 + 6 + 6 + 6 + 6) Q' (F0 m 78 ls []) := by
    intro Q' kx d
    induction d with
    | zero =>
      intro j w  ls H locs hk hDk hP hD hS hl
      have hk2 : j = n := by omega
      refine lv_iload hx hb dL_areBills_78 (lv_at hl 6 rfl) ?_
      refine lv_aload hx hb dL_areBills_80 (lv_at hl 4 rfl) ?_
      refine lv_iconst (v := 0) hx hb dL_areBills_82 (by decide) ?_
      refine kla_ld (n := 2) (j := 0) (z := (nI n)) hx hb hG hP 6 rfl hR.g0 rfl (by omega) (by decide) dL_areBills_83 ?_
      refine lv_icmp_ge (tgt := 236) hx hb dL_areBills_84 (by decide) (fun h84 => ?_) (fun h84 => False.elim (absurd (nI_le (Nat.le_of_eq hk2.symm) (by omega)) h84))
      have hk3 : n = j := hk2.symm
      subst hk3
      exact kx w  ls H locs hDk hP hD hS (lv_sub hl [0, 1, 2, 3, 4, 5, 6] rfl)
    | succ d ih =>
      intro j w  ls H locs hk hDk hP hD hS hl
      have hk2 : j < n := by omega
      have hB := bill_ok hJ hk2
      refine lv_iload hx hb dL_areBills_78 (lv_at hl 6 rfl) ?_
      refine lv_aload hx hb dL_areBills_80 (lv_at hl 4 rfl) ?_
      refine lv_iconst (v := 0) hx hb dL_areBills_82 (by decide) ?_
      refine kla_ld (n := 2) (j := 0) (z := (nI n)) hx hb hG hP 6 rfl hR.g0 rfl (by omega) (by decide) dL_areBills_83 ?_
      refine lv_icmp_ge (tgt := 236) hx hb dL_areBills_84 (by decide) (fun h84 => False.elim (absurd h84 (nI_ge hk2 (by omega)))) (fun h84 => ?_)
      refine lv_iload hx hb dL_areBills_87 (lv_at hl 5 rfl) ?_
      refine lv_if_eq (tgt := 236) hx hb dL_areBills_89 (by decide) (fun h89 => False.elim (absurd h89 (by decide))) (fun h89 => ?_)
      refine lv_aload_n hx hb dL_areBills_92 rfl (lv_at hl 0 rfl) ?_
      refine lv_iload hx hb dL_areBills_93 (lv_at hl 6 rfl) ?_
      obtain ⟨bad, rm, kq, idx, hQ⟩ := hDk
      refine kf_i (W2 := LA K q fb ft fn fm fl fu fg) (va_runV (As := [.int (nI j)]) (rest := []) ⟨hx, hb, hml, hown, hts⟩ (c_X1_state hQ hk2) (cwV 1 hts gL_areBills_X1_state rfl rfl rfl (by decide +kernel) ⟨(Nat.le_of_ble_eq_true rfl), (Nat.le_of_ble_eq_true rfl)⟩) (lpv (q0 := 0) hG hP hD hS hQ.x rfl) rfl rfl hl.1 rfl (lv_room (Nat.le_of_ble_eq_true rfl)) dL_areBills_95 ⟨(Nat.le_of_ble_eq_true rfl), (Nat.le_of_ble_eq_true rfl)⟩) hS hP hD (fun r95 w H locs hp hP hD hS => ?_)
      obtain ⟨hv9, hp⟩ := hp
      rw [hv9]
      have hDk : DE K ad td n M w := ⟨_, _, _, _, hp⟩
      refine lv_istore (lv' := [(7, .int (M 6 j)), (0, .ref (ad 0)), (1, .ref (q 1)), (2, .ref (q 2)), (3, .ref (q 3)), (4, .ref (q 7)), (5, .int 1), (6, .int (nI j))]) hx hb dL_areBills_98 hl (by decide) rfl (fun ls hl => ?_)
      refine lv_aload_n hx hb dL_areBills_100 rfl (lv_at hl 1 rfl) ?_
      refine lv_iload hx hb dL_areBills_101 (lv_at hl 7 rfl) ?_
      obtain ⟨bad, rm, kq, idx, hQ⟩ := hDk
      refine kf_i (W2 := LA K q fb ft fn fm fl fu fg) (va_runV (As := [.int (nI j)]) (rest := []) ⟨hx, hb, hml, hown, hts⟩ (c_X1_amount hQ hk2) (cwV 1 hts gL_areBills_X1_amount rfl rfl rfl (by decide +kernel) ⟨(Nat.le_of_ble_eq_true rfl), (Nat.le_of_ble_eq_true rfl)⟩) (lpv (q0 := 0) hG hP hD hS hQ.x rfl) rfl rfl hl.1 rfl (lv_room (Nat.le_of_ble_eq_true rfl)) dL_areBills_103 ⟨(Nat.le_of_ble_eq_true rfl), (Nat.le_of_ble_eq_true rfl)⟩) hS hP hD (fun r103 w H locs hp hP hD hS => ?_)
      obtain ⟨hv9, hp⟩ := hp
      rw [hv9]
      have hDk : DE K ad td n M w := ⟨_, _, _, _, hp⟩
      refine lv_istore (lv' := [(8, .int (M 4 j)), (7, .int (M 6 j)), (0, .ref (ad 0)), (1, .ref (q 1)), (2, .ref (q 2)), (3, .ref (q 3)), (4, .ref (q 7)), (5, .int 1), (6, .int (nI j))]) hx hb dL_areBills_106 hl (by decide) rfl (fun ls hl => ?_)
      refine lv_aload_n hx hb dL_areBills_108 rfl (lv_at hl 2 rfl) ?_
      refine lv_iload hx hb dL_areBills_109 (lv_at hl 8 rfl) ?_
      obtain ⟨bad, rm, kq, idx, hQ⟩ := hDk
      refine kf_i (W2 := LA K q fb ft fn fm fl fu fg) (va_runV (As := [.int (nI j)]) (rest := []) ⟨hx, hb, hml, hown, hts⟩ (c_X1_paid hQ hk2) (cwV 1 hts gL_areBills_X1_paid rfl rfl rfl (by decide +kernel) ⟨(Nat.le_of_ble_eq_true rfl), (Nat.le_of_ble_eq_true rfl)⟩) (lpv (q0 := 0) hG hP hD hS hQ.x rfl) rfl rfl hl.1 rfl (lv_room (Nat.le_of_ble_eq_true rfl)) dL_areBills_111 ⟨(Nat.le_of_ble_eq_true rfl), (Nat.le_of_ble_eq_true rfl)⟩) hS hP hD (fun r111 w H locs hp hP hD hS => ?_)
      obtain ⟨hv9, hp⟩ := hp
      rw [hv9]
      have hDk : DE K ad td n M w := ⟨_, _, _, _, hp⟩
      refine lv_istore (lv' := [(9, .int (M 8 j)), (8, .int (M 4 j)), (7, .int (M 6 j)), (0, .ref (ad 0)), (1, .ref (q 1)), (2, .ref (q 2)), (3, .ref (q 3)), (4, .ref (q 7)), (5, .int 1), (6, .int (nI j))]) hx hb dL_areBills_114 hl (by decide) rfl (fun ls hl => ?_)
      refine lv_iload hx hb dL_areBills_116 (lv_at hl 2 rfl) ?_
      refine lv_aload_n hx hb dL_areBills_118 rfl (lv_at hl 5 rfl) ?_
      refine lv_iload hx hb dL_areBills_119 (lv_at hl 9 rfl) ?_
      refine kla_ld (n := 60) (j := j) (z := (M 6 j)) hx hb hG hP 1 rfl (hR.t0 hk2) rfl (by omega) (by decide) dL_areBills_121 ?_
      refine lv_icmp_ne (tgt := 227) hx hb dL_areBills_122 (by decide) (fun h122 => False.elim (absurd rfl h122)) (fun h122 => ?_)
      refine lv_iload hx hb dL_areBills_125 (lv_at hl 1 rfl) ?_
      refine lv_if_lt (tgt := 227) hx hb dL_areBills_127 (by decide) (fun h127 => False.elim (hB.1 h127)) (fun h127 => ?_)
      refine lv_iload hx hb dL_areBills_130 (lv_at hl 1 rfl) ?_
      refine lv_ldc (v := 1000000) hx hb hown (hts (.constant RL 98 1000000) (by decide +kernel)) dL_areBills_132 ?_
      refine lv_icmp_gt (tgt := 227) hx hb dL_areBills_134 (by decide) (fun h134 => False.elim (hB.2.1 h134)) (fun h134 => ?_)
      refine lv_iload hx hb dL_areBills_137 (lv_at hl 0 rfl) ?_
      refine lv_if_lt (tgt := 227) hx hb dL_areBills_139 (by decide) (fun h139 => False.elim (hB.2.2.1 h139)) (fun h139 => ?_)
      refine lv_iload hx hb dL_areBills_142 (lv_at hl 0 rfl) ?_
      refine lv_iload hx hb dL_areBills_144 (lv_at hl 1 rfl) ?_
      refine lv_icmp_gt (tgt := 227) hx hb dL_areBills_146 (by decide) (fun h146 => False.elim (hB.2.2.2.1 h146)) (fun h146 => ?_)
      refine lv_iload hx hb dL_areBills_149 (lv_at hl 2 rfl) ?_
      refine lv_iconst (v := 2) hx hb dL_areBills_151 (by decide) ?_
      refine lv_icmp_gt (tgt := 160) hx hb dL_areBills_152 (by decide) (fun h152 => ?_) (fun h152 => ?_)
      · refine lv_iload hx hb dL_areBills_160 (lv_at hl 2 rfl) ?_
        refine lv_iconst (v := 4) hx hb dL_areBills_162 (by decide) ?_
        refine lv_icmp_lt (tgt := 173) hx hb dL_areBills_163 (by decide) (fun h163 => ?_) (fun h163 => ?_)
        · refine lv_aload_n hx hb dL_areBills_173 rfl (lv_at hl 3 rfl) ?_
          refine lv_iload hx hb dL_areBills_174 (lv_at hl 9 rfl) ?_
          obtain ⟨bad, rm, kq, idx, hQ⟩ := hDk
          refine kf_i (W2 := LA K q fb ft fn fm fl fu fg) (va_runV (As := [.int (nI j)]) (rest := []) ⟨hx, hb, hml, hown, hts⟩ (c_X1_heldBack hQ hk2) (cwV 1 hts gL_areBills_X1_heldBack rfl rfl rfl (by decide +kernel) ⟨(Nat.le_of_ble_eq_true rfl), (Nat.le_of_ble_eq_true rfl)⟩) (lpv (q0 := 0) hG hP hD hS hQ.x rfl) rfl rfl hl.1 rfl (lv_room (Nat.le_of_ble_eq_true rfl)) dL_areBills_176 ⟨(Nat.le_of_ble_eq_true rfl), (Nat.le_of_ble_eq_true rfl)⟩) hS hP hD (fun r176 w H locs hp hP hD hS => ?_)
          obtain ⟨hv9, hp⟩ := hp
          rw [hv9]
          have hDk : DE K ad td n M w := ⟨_, _, _, _, hp⟩
          refine lv_if_lt (tgt := 227) hx hb dL_areBills_179 (by decide) (fun h179 => False.elim (hB.2.2.2.2.2.2.1 h179)) (fun h179 => ?_)
          refine lv_aload_n hx hb dL_areBills_182 rfl (lv_at hl 3 rfl) ?_
          refine lv_iload hx hb dL_areBills_183 (lv_at hl 9 rfl) ?_
          obtain ⟨bad, rm, kq, idx, hQ⟩ := hDk
          refine kf_i (W2 := LA K q fb ft fn fm fl fu fg) (va_runV (As := [.int (nI j)]) (rest := []) ⟨hx, hb, hml, hown, hts⟩ (c_X1_heldBack hQ hk2) (cwV 1 hts gL_areBills_X1_heldBack rfl rfl rfl (by decide +kernel) ⟨(Nat.le_of_ble_eq_true rfl), (Nat.le_of_ble_eq_true rfl)⟩) (lpv (q0 := 0) hG hP hD hS hQ.x rfl) rfl rfl hl.1 rfl (lv_room (Nat.le_of_ble_eq_true rfl)) dL_areBills_185 ⟨(Nat.le_of_ble_eq_true rfl), (Nat.le_of_ble_eq_true rfl)⟩) hS hP hD (fun r185 w H locs hp hP hD hS => ?_)
          obtain ⟨hv9, hp⟩ := hp
          rw [hv9]
          have hDk : DE K ad td n M w := ⟨_, _, _, _, hp⟩
          refine lv_iload hx hb dL_areBills_188 (lv_at hl 0 rfl) ?_
          refine lv_icmp_gt (tgt := 227) hx hb dL_areBills_190 (by decide) (fun h190 => False.elim (hB.2.2.2.2.2.2.2.1 h190)) (fun h190 => ?_)
          refine lv_iload hx hb dL_areBills_193 (lv_at hl 2 rfl) ?_
          refine lv_iconst (v := 1) hx hb dL_areBills_195 (by decide) ?_
          refine lv_icmp_ne (tgt := 214) hx hb dL_areBills_196 (by decide) (fun h196 => ?_) (fun h196 => ?_)
          · refine lv_aload_n hx hb dL_areBills_214 rfl (lv_at hl 6 rfl) ?_
            refine lv_iload hx hb dL_areBills_215 (lv_at hl 9 rfl) ?_
            refine kla_ld (n := 30) (j := j) (z := (M 10 j)) hx hb hG hP 2 rfl (hR.n0 hk2) rfl (by omega) (by decide) dL_areBills_217 ?_
            refine lv_iload hx hb dL_areBills_218 (lv_at hl 1 rfl) ?_
            refine lv_icmp_gt (tgt := 227) hx hb dL_areBills_220 (by decide) (fun h220 => False.elim (hB.2.2.2.2.2.2.2.2.2 h220)) (fun h220 => ?_)
            refine lv_iconst (v := 1) hx hb dL_areBills_223 (by decide) ?_
            refine lv_goto (tgt := 228) hx hb dL_areBills_224 (by decide) ?_
            refine lv_istore (lv' := [(5, .int 1), (9, .int (M 8 j)), (8, .int (M 4 j)), (7, .int (M 6 j)), (0, .ref (ad 0)), (1, .ref (q 1)), (2, .ref (q 2)), (3, .ref (q 3)), (4, .ref (q 7)), (6, .int (nI j))]) hx hb dL_areBills_228 hl (by decide) rfl (fun ls hl => ?_)
            refine lv_iinc (v := nI (j + 1)) (lv' := [(6, .int (nI (j + 1))), (5, .int 1), (9, .int (M 8 j)), (8, .int (M 4 j)), (7, .int (M 6 j)), (0, .ref (ad 0)), (1, .ref (q 1)), (2, .ref (q 2)), (3, .ref (q 3)), (4, .ref (q 7))]) hx hb dL_areBills_230 hl (k := 9) rfl (kinc j) (by decide) rfl (fun ls hl => ?_)
            refine lv_goto (tgt := 78) hx hb dL_areBills_233 (by decide) ?_
            exact (ih (j + 1) w  ls H locs (by omega) hDk hP hD hS (lv_sub hl [5, 6, 7, 8, 9, 1, 0] rfl))
          · refine lv_aload_n hx hb dL_areBills_199 rfl (lv_at hl 4 rfl) ?_
            refine lv_iconst (v := 2) hx hb dL_areBills_200 (by decide) ?_
            refine lv_iload hx hb dL_areBills_201 (lv_at hl 9 rfl) ?_
            refine lv_imul hx hb dL_areBills_203 ?_
            refine lv_iconst (v := 1) hx hb dL_areBills_204 (by decide) ?_
            refine lv_iadd hx hb dL_areBills_205 ?_
            refine kla_ld (n := 60) (j := 2 * j + 1) (z := (M 5 j)) hx hb hG hP 0 (x21 j) (hR.b1 hk2) rfl (by omega) (by decide) dL_areBills_206 ?_
            refine lv_aload hx hb dL_areBills_207 (lv_at hl 7 rfl) ?_
            refine lv_iconst (v := 1) hx hb dL_areBills_209 (by decide) ?_
            refine kla_ld (n := 2) (j := 1) (z := td) hx hb hG hP 6 rfl hR.g1 rfl (by omega) (by decide) dL_areBills_210 ?_
            refine lv_icmp_le (tgt := 227) hx hb dL_areBills_211 (by decide) (fun h211 => False.elim (hB.2.2.2.2.2.2.2.2.1 h196 h211)) (fun h211 => ?_)
            refine lv_aload_n hx hb dL_areBills_214 rfl (lv_at hl 6 rfl) ?_
            refine lv_iload hx hb dL_areBills_215 (lv_at hl 9 rfl) ?_
            refine kla_ld (n := 30) (j := j) (z := (M 10 j)) hx hb hG hP 2 rfl (hR.n0 hk2) rfl (by omega) (by decide) dL_areBills_217 ?_
            refine lv_iload hx hb dL_areBills_218 (lv_at hl 1 rfl) ?_
            refine lv_icmp_gt (tgt := 227) hx hb dL_areBills_220 (by decide) (fun h220 => False.elim (hB.2.2.2.2.2.2.2.2.2 h220)) (fun h220 => ?_)
            refine lv_iconst (v := 1) hx hb dL_areBills_223 (by decide) ?_
            refine lv_goto (tgt := 228) hx hb dL_areBills_224 (by decide) ?_
            refine lv_istore (lv' := [(5, .int 1), (9, .int (M 8 j)), (8, .int (M 4 j)), (7, .int (M 6 j)), (0, .ref (ad 0)), (1, .ref (q 1)), (2, .ref (q 2)), (3, .ref (q 3)), (4, .ref (q 7)), (6, .int (nI j))]) hx hb dL_areBills_228 hl (by decide) rfl (fun ls hl => ?_)
            refine lv_iinc (v := nI (j + 1)) (lv' := [(6, .int (nI (j + 1))), (5, .int 1), (9, .int (M 8 j)), (8, .int (M 4 j)), (7, .int (M 6 j)), (0, .ref (ad 0)), (1, .ref (q 1)), (2, .ref (q 2)), (3, .ref (q 3)), (4, .ref (q 7))]) hx hb dL_areBills_230 hl (k := 9) rfl (kinc j) (by decide) rfl (fun ls hl => ?_)
            refine lv_goto (tgt := 78) hx hb dL_areBills_233 (by decide) ?_
            exact (ih (j + 1) w  ls H locs (by omega) hDk hP hD hS (lv_sub hl [5, 6, 7, 8, 9, 1, 0] rfl))
        · refine lv_iload hx hb dL_areBills_166 (lv_at hl 0 rfl) ?_
          refine lv_iload hx hb dL_areBills_168 (lv_at hl 1 rfl) ?_
          refine lv_icmp_ne (tgt := 227) hx hb dL_areBills_170 (by decide) (fun h170 => False.elim (h170 (hB.2.2.2.2.2.1 h163))) (fun h170 => ?_)
          refine lv_aload_n hx hb dL_areBills_173 rfl (lv_at hl 3 rfl) ?_
          refine lv_iload hx hb dL_areBills_174 (lv_at hl 9 rfl) ?_
          obtain ⟨bad, rm, kq, idx, hQ⟩ := hDk
          refine kf_i (W2 := LA K q fb ft fn fm fl fu fg) (va_runV (As := [.int (nI j)]) (rest := []) ⟨hx, hb, hml, hown, hts⟩ (c_X1_heldBack hQ hk2) (cwV 1 hts gL_areBills_X1_heldBack rfl rfl rfl (by decide +kernel) ⟨(Nat.le_of_ble_eq_true rfl), (Nat.le_of_ble_eq_true rfl)⟩) (lpv (q0 := 0) hG hP hD hS hQ.x rfl) rfl rfl hl.1 rfl (lv_room (Nat.le_of_ble_eq_true rfl)) dL_areBills_176 ⟨(Nat.le_of_ble_eq_true rfl), (Nat.le_of_ble_eq_true rfl)⟩) hS hP hD (fun r176 w H locs hp hP hD hS => ?_)
          obtain ⟨hv9, hp⟩ := hp
          rw [hv9]
          have hDk : DE K ad td n M w := ⟨_, _, _, _, hp⟩
          refine lv_if_lt (tgt := 227) hx hb dL_areBills_179 (by decide) (fun h179 => False.elim (hB.2.2.2.2.2.2.1 h179)) (fun h179 => ?_)
          refine lv_aload_n hx hb dL_areBills_182 rfl (lv_at hl 3 rfl) ?_
          refine lv_iload hx hb dL_areBills_183 (lv_at hl 9 rfl) ?_
          obtain ⟨bad, rm, kq, idx, hQ⟩ := hDk
          refine kf_i (W2 := LA K q fb ft fn fm fl fu fg) (va_runV (As := [.int (nI j)]) (rest := []) ⟨hx, hb, hml, hown, hts⟩ (c_X1_heldBack hQ hk2) (cwV 1 hts gL_areBills_X1_heldBack rfl rfl rfl (by decide +kernel) ⟨(Nat.le_of_ble_eq_true rfl), (Nat.le_of_ble_eq_true rfl)⟩) (lpv (q0 := 0) hG hP hD hS hQ.x rfl) rfl rfl hl.1 rfl (lv_room (Nat.le_of_ble_eq_true rfl)) dL_areBills_185 ⟨(Nat.le_of_ble_eq_true rfl), (Nat.le_of_ble_eq_true rfl)⟩) hS hP hD (fun r185 w H locs hp hP hD hS => ?_)
          obtain ⟨hv9, hp⟩ := hp
          rw [hv9]
          have hDk : DE K ad td n M w := ⟨_, _, _, _, hp⟩
          refine lv_iload hx hb dL_areBills_188 (lv_at hl 0 rfl) ?_
          refine lv_icmp_gt (tgt := 227) hx hb dL_areBills_190 (by decide) (fun h190 => False.elim (hB.2.2.2.2.2.2.2.1 h190)) (fun h190 => ?_)
          refine lv_iload hx hb dL_areBills_193 (lv_at hl 2 rfl) ?_
          refine lv_iconst (v := 1) hx hb dL_areBills_195 (by decide) ?_
          refine lv_icmp_ne (tgt := 214) hx hb dL_areBills_196 (by decide) (fun h196 => ?_) (fun h196 => ?_)
          · refine lv_aload_n hx hb dL_areBills_214 rfl (lv_at hl 6 rfl) ?_
            refine lv_iload hx hb dL_areBills_215 (lv_at hl 9 rfl) ?_
            refine kla_ld (n := 30) (j := j) (z := (M 10 j)) hx hb hG hP 2 rfl (hR.n0 hk2) rfl (by omega) (by decide) dL_areBills_217 ?_
            refine lv_iload hx hb dL_areBills_218 (lv_at hl 1 rfl) ?_
            refine lv_icmp_gt (tgt := 227) hx hb dL_areBills_220 (by decide) (fun h220 => False.elim (hB.2.2.2.2.2.2.2.2.2 h220)) (fun h220 => ?_)
            refine lv_iconst (v := 1) hx hb dL_areBills_223 (by decide) ?_
            refine lv_goto (tgt := 228) hx hb dL_areBills_224 (by decide) ?_
            refine lv_istore (lv' := [(5, .int 1), (9, .int (M 8 j)), (8, .int (M 4 j)), (7, .int (M 6 j)), (0, .ref (ad 0)), (1, .ref (q 1)), (2, .ref (q 2)), (3, .ref (q 3)), (4, .ref (q 7)), (6, .int (nI j))]) hx hb dL_areBills_228 hl (by decide) rfl (fun ls hl => ?_)
            refine lv_iinc (v := nI (j + 1)) (lv' := [(6, .int (nI (j + 1))), (5, .int 1), (9, .int (M 8 j)), (8, .int (M 4 j)), (7, .int (M 6 j)), (0, .ref (ad 0)), (1, .ref (q 1)), (2, .ref (q 2)), (3, .ref (q 3)), (4, .ref (q 7))]) hx hb dL_areBills_230 hl (k := 9) rfl (kinc j) (by decide) rfl (fun ls hl => ?_)
            refine lv_goto (tgt := 78) hx hb dL_areBills_233 (by decide) ?_
            exact (ih (j + 1) w  ls H locs (by omega) hDk hP hD hS (lv_sub hl [5, 6, 7, 8, 9, 1, 0] rfl))
          · refine lv_aload_n hx hb dL_areBills_199 rfl (lv_at hl 4 rfl) ?_
            refine lv_iconst (v := 2) hx hb dL_areBills_200 (by decide) ?_
            refine lv_iload hx hb dL_areBills_201 (lv_at hl 9 rfl) ?_
            refine lv_imul hx hb dL_areBills_203 ?_
            refine lv_iconst (v := 1) hx hb dL_areBills_204 (by decide) ?_
            refine lv_iadd hx hb dL_areBills_205 ?_
            refine kla_ld (n := 60) (j := 2 * j + 1) (z := (M 5 j)) hx hb hG hP 0 (x21 j) (hR.b1 hk2) rfl (by omega) (by decide) dL_areBills_206 ?_
            refine lv_aload hx hb dL_areBills_207 (lv_at hl 7 rfl) ?_
            refine lv_iconst (v := 1) hx hb dL_areBills_209 (by decide) ?_
            refine kla_ld (n := 2) (j := 1) (z := td) hx hb hG hP 6 rfl hR.g1 rfl (by omega) (by decide) dL_areBills_210 ?_
            refine lv_icmp_le (tgt := 227) hx hb dL_areBills_211 (by decide) (fun h211 => False.elim (hB.2.2.2.2.2.2.2.2.1 h196 h211)) (fun h211 => ?_)
            refine lv_aload_n hx hb dL_areBills_214 rfl (lv_at hl 6 rfl) ?_
            refine lv_iload hx hb dL_areBills_215 (lv_at hl 9 rfl) ?_
            refine kla_ld (n := 30) (j := j) (z := (M 10 j)) hx hb hG hP 2 rfl (hR.n0 hk2) rfl (by omega) (by decide) dL_areBills_217 ?_
            refine lv_iload hx hb dL_areBills_218 (lv_at hl 1 rfl) ?_
            refine lv_icmp_gt (tgt := 227) hx hb dL_areBills_220 (by decide) (fun h220 => False.elim (hB.2.2.2.2.2.2.2.2.2 h220)) (fun h220 => ?_)
            refine lv_iconst (v := 1) hx hb dL_areBills_223 (by decide) ?_
            refine lv_goto (tgt := 228) hx hb dL_areBills_224 (by decide) ?_
            refine lv_istore (lv' := [(5, .int 1), (9, .int (M 8 j)), (8, .int (M 4 j)), (7, .int (M 6 j)), (0, .ref (ad 0)), (1, .ref (q 1)), (2, .ref (q 2)), (3, .ref (q 3)), (4, .ref (q 7)), (6, .int (nI j))]) hx hb dL_areBills_228 hl (by decide) rfl (fun ls hl => ?_)
            refine lv_iinc (v := nI (j + 1)) (lv' := [(6, .int (nI (j + 1))), (5, .int 1), (9, .int (M 8 j)), (8, .int (M 4 j)), (7, .int (M 6 j)), (0, .ref (ad 0)), (1, .ref (q 1)), (2, .ref (q 2)), (3, .ref (q 3)), (4, .ref (q 7))]) hx hb dL_areBills_230 hl (k := 9) rfl (kinc j) (by decide) rfl (fun ls hl => ?_)
            refine lv_goto (tgt := 78) hx hb dL_areBills_233 (by decide) ?_
            exact (ih (j + 1) w  ls H locs (by omega) hDk hP hD hS (lv_sub hl [5, 6, 7, 8, 9, 1, 0] rfl))
      · refine lv_iload hx hb dL_areBills_155 (lv_at hl 0 rfl) ?_
        refine lv_if_ne (tgt := 227) hx hb dL_areBills_157 (by decide) (fun h157 => False.elim (h157 (hB.2.2.2.2.1 h152))) (fun h157 => ?_)
        refine lv_iload hx hb dL_areBills_160 (lv_at hl 2 rfl) ?_
        refine lv_iconst (v := 4) hx hb dL_areBills_162 (by decide) ?_
        refine lv_icmp_lt (tgt := 173) hx hb dL_areBills_163 (by decide) (fun h163 => ?_) (fun h163 => ?_)
        · refine lv_aload_n hx hb dL_areBills_173 rfl (lv_at hl 3 rfl) ?_
          refine lv_iload hx hb dL_areBills_174 (lv_at hl 9 rfl) ?_
          obtain ⟨bad, rm, kq, idx, hQ⟩ := hDk
          refine kf_i (W2 := LA K q fb ft fn fm fl fu fg) (va_runV (As := [.int (nI j)]) (rest := []) ⟨hx, hb, hml, hown, hts⟩ (c_X1_heldBack hQ hk2) (cwV 1 hts gL_areBills_X1_heldBack rfl rfl rfl (by decide +kernel) ⟨(Nat.le_of_ble_eq_true rfl), (Nat.le_of_ble_eq_true rfl)⟩) (lpv (q0 := 0) hG hP hD hS hQ.x rfl) rfl rfl hl.1 rfl (lv_room (Nat.le_of_ble_eq_true rfl)) dL_areBills_176 ⟨(Nat.le_of_ble_eq_true rfl), (Nat.le_of_ble_eq_true rfl)⟩) hS hP hD (fun r176 w H locs hp hP hD hS => ?_)
          obtain ⟨hv9, hp⟩ := hp
          rw [hv9]
          have hDk : DE K ad td n M w := ⟨_, _, _, _, hp⟩
          refine lv_if_lt (tgt := 227) hx hb dL_areBills_179 (by decide) (fun h179 => False.elim (hB.2.2.2.2.2.2.1 h179)) (fun h179 => ?_)
          refine lv_aload_n hx hb dL_areBills_182 rfl (lv_at hl 3 rfl) ?_
          refine lv_iload hx hb dL_areBills_183 (lv_at hl 9 rfl) ?_
          obtain ⟨bad, rm, kq, idx, hQ⟩ := hDk
          refine kf_i (W2 := LA K q fb ft fn fm fl fu fg) (va_runV (As := [.int (nI j)]) (rest := []) ⟨hx, hb, hml, hown, hts⟩ (c_X1_heldBack hQ hk2) (cwV 1 hts gL_areBills_X1_heldBack rfl rfl rfl (by decide +kernel) ⟨(Nat.le_of_ble_eq_true rfl), (Nat.le_of_ble_eq_true rfl)⟩) (lpv (q0 := 0) hG hP hD hS hQ.x rfl) rfl rfl hl.1 rfl (lv_room (Nat.le_of_ble_eq_true rfl)) dL_areBills_185 ⟨(Nat.le_of_ble_eq_true rfl), (Nat.le_of_ble_eq_true rfl)⟩) hS hP hD (fun r185 w H locs hp hP hD hS => ?_)
          obtain ⟨hv9, hp⟩ := hp
          rw [hv9]
          have hDk : DE K ad td n M w := ⟨_, _, _, _, hp⟩
          refine lv_iload hx hb dL_areBills_188 (lv_at hl 0 rfl) ?_
          refine lv_icmp_gt (tgt := 227) hx hb dL_areBills_190 (by decide) (fun h190 => False.elim (hB.2.2.2.2.2.2.2.1 h190)) (fun h190 => ?_)
          refine lv_iload hx hb dL_areBills_193 (lv_at hl 2 rfl) ?_
          refine lv_iconst (v := 1) hx hb dL_areBills_195 (by decide) ?_
          refine lv_icmp_ne (tgt := 214) hx hb dL_areBills_196 (by decide) (fun h196 => ?_) (fun h196 => ?_)
          · refine lv_aload_n hx hb dL_areBills_214 rfl (lv_at hl 6 rfl) ?_
            refine lv_iload hx hb dL_areBills_215 (lv_at hl 9 rfl) ?_
            refine kla_ld (n := 30) (j := j) (z := (M 10 j)) hx hb hG hP 2 rfl (hR.n0 hk2) rfl (by omega) (by decide) dL_areBills_217 ?_
            refine lv_iload hx hb dL_areBills_218 (lv_at hl 1 rfl) ?_
            refine lv_icmp_gt (tgt := 227) hx hb dL_areBills_220 (by decide) (fun h220 => False.elim (hB.2.2.2.2.2.2.2.2.2 h220)) (fun h220 => ?_)
            refine lv_iconst (v := 1) hx hb dL_areBills_223 (by decide) ?_
            refine lv_goto (tgt := 228) hx hb dL_areBills_224 (by decide) ?_
            refine lv_istore (lv' := [(5, .int 1), (9, .int (M 8 j)), (8, .int (M 4 j)), (7, .int (M 6 j)), (0, .ref (ad 0)), (1, .ref (q 1)), (2, .ref (q 2)), (3, .ref (q 3)), (4, .ref (q 7)), (6, .int (nI j))]) hx hb dL_areBills_228 hl (by decide) rfl (fun ls hl => ?_)
            refine lv_iinc (v := nI (j + 1)) (lv' := [(6, .int (nI (j + 1))), (5, .int 1), (9, .int (M 8 j)), (8, .int (M 4 j)), (7, .int (M 6 j)), (0, .ref (ad 0)), (1, .ref (q 1)), (2, .ref (q 2)), (3, .ref (q 3)), (4, .ref (q 7))]) hx hb dL_areBills_230 hl (k := 9) rfl (kinc j) (by decide) rfl (fun ls hl => ?_)
            refine lv_goto (tgt := 78) hx hb dL_areBills_233 (by decide) ?_
            exact (ih (j + 1) w  ls H locs (by omega) hDk hP hD hS (lv_sub hl [5, 6, 7, 8, 9, 1, 0] rfl))
          · refine lv_aload_n hx hb dL_areBills_199 rfl (lv_at hl 4 rfl) ?_
            refine lv_iconst (v := 2) hx hb dL_areBills_200 (by decide) ?_
            refine lv_iload hx hb dL_areBills_201 (lv_at hl 9 rfl) ?_
            refine lv_imul hx hb dL_areBills_203 ?_
            refine lv_iconst (v := 1) hx hb dL_areBills_204 (by decide) ?_
            refine lv_iadd hx hb dL_areBills_205 ?_
            refine kla_ld (n := 60) (j := 2 * j + 1) (z := (M 5 j)) hx hb hG hP 0 (x21 j) (hR.b1 hk2) rfl (by omega) (by decide) dL_areBills_206 ?_
            refine lv_aload hx hb dL_areBills_207 (lv_at hl 7 rfl) ?_
            refine lv_iconst (v := 1) hx hb dL_areBills_209 (by decide) ?_
            refine kla_ld (n := 2) (j := 1) (z := td) hx hb hG hP 6 rfl hR.g1 rfl (by omega) (by decide) dL_areBills_210 ?_
            refine lv_icmp_le (tgt := 227) hx hb dL_areBills_211 (by decide) (fun h211 => False.elim (hB.2.2.2.2.2.2.2.2.1 h196 h211)) (fun h211 => ?_)
            refine lv_aload_n hx hb dL_areBills_214 rfl (lv_at hl 6 rfl) ?_
            refine lv_iload hx hb dL_areBills_215 (lv_at hl 9 rfl) ?_
            refine kla_ld (n := 30) (j := j) (z := (M 10 j)) hx hb hG hP 2 rfl (hR.n0 hk2) rfl (by omega) (by decide) dL_areBills_217 ?_
            refine lv_iload hx hb dL_areBills_218 (lv_at hl 1 rfl) ?_
            refine lv_icmp_gt (tgt := 227) hx hb dL_areBills_220 (by decide) (fun h220 => False.elim (hB.2.2.2.2.2.2.2.2.2 h220)) (fun h220 => ?_)
            refine lv_iconst (v := 1) hx hb dL_areBills_223 (by decide) ?_
            refine lv_goto (tgt := 228) hx hb dL_areBills_224 (by decide) ?_
            refine lv_istore (lv' := [(5, .int 1), (9, .int (M 8 j)), (8, .int (M 4 j)), (7, .int (M 6 j)), (0, .ref (ad 0)), (1, .ref (q 1)), (2, .ref (q 2)), (3, .ref (q 3)), (4, .ref (q 7)), (6, .int (nI j))]) hx hb dL_areBills_228 hl (by decide) rfl (fun ls hl => ?_)
            refine lv_iinc (v := nI (j + 1)) (lv' := [(6, .int (nI (j + 1))), (5, .int 1), (9, .int (M 8 j)), (8, .int (M 4 j)), (7, .int (M 6 j)), (0, .ref (ad 0)), (1, .ref (q 1)), (2, .ref (q 2)), (3, .ref (q 3)), (4, .ref (q 7))]) hx hb dL_areBills_230 hl (k := 9) rfl (kinc j) (by decide) rfl (fun ls hl => ?_)
            refine lv_goto (tgt := 78) hx hb dL_areBills_233 (by decide) ?_
            exact (ih (j + 1) w  ls H locs (by omega) hDk hP hD hS (lv_sub hl [5, 6, 7, 8, 9, 1, 0] rfl))
        · refine lv_iload hx hb dL_areBills_166 (lv_at hl 0 rfl) ?_
          refine lv_iload hx hb dL_areBills_168 (lv_at hl 1 rfl) ?_
          refine lv_icmp_ne (tgt := 227) hx hb dL_areBills_170 (by decide) (fun h170 => False.elim (h170 (hB.2.2.2.2.2.1 h163))) (fun h170 => ?_)
          refine lv_aload_n hx hb dL_areBills_173 rfl (lv_at hl 3 rfl) ?_
          refine lv_iload hx hb dL_areBills_174 (lv_at hl 9 rfl) ?_
          obtain ⟨bad, rm, kq, idx, hQ⟩ := hDk
          refine kf_i (W2 := LA K q fb ft fn fm fl fu fg) (va_runV (As := [.int (nI j)]) (rest := []) ⟨hx, hb, hml, hown, hts⟩ (c_X1_heldBack hQ hk2) (cwV 1 hts gL_areBills_X1_heldBack rfl rfl rfl (by decide +kernel) ⟨(Nat.le_of_ble_eq_true rfl), (Nat.le_of_ble_eq_true rfl)⟩) (lpv (q0 := 0) hG hP hD hS hQ.x rfl) rfl rfl hl.1 rfl (lv_room (Nat.le_of_ble_eq_true rfl)) dL_areBills_176 ⟨(Nat.le_of_ble_eq_true rfl), (Nat.le_of_ble_eq_true rfl)⟩) hS hP hD (fun r176 w H locs hp hP hD hS => ?_)
          obtain ⟨hv9, hp⟩ := hp
          rw [hv9]
          have hDk : DE K ad td n M w := ⟨_, _, _, _, hp⟩
          refine lv_if_lt (tgt := 227) hx hb dL_areBills_179 (by decide) (fun h179 => False.elim (hB.2.2.2.2.2.2.1 h179)) (fun h179 => ?_)
          refine lv_aload_n hx hb dL_areBills_182 rfl (lv_at hl 3 rfl) ?_
          refine lv_iload hx hb dL_areBills_183 (lv_at hl 9 rfl) ?_
          obtain ⟨bad, rm, kq, idx, hQ⟩ := hDk
          refine kf_i (W2 := LA K q fb ft fn fm fl fu fg) (va_runV (As := [.int (nI j)]) (rest := []) ⟨hx, hb, hml, hown, hts⟩ (c_X1_heldBack hQ hk2) (cwV 1 hts gL_areBills_X1_heldBack rfl rfl rfl (by decide +kernel) ⟨(Nat.le_of_ble_eq_true rfl), (Nat.le_of_ble_eq_true rfl)⟩) (lpv (q0 := 0) hG hP hD hS hQ.x rfl) rfl rfl hl.1 rfl (lv_room (Nat.le_of_ble_eq_true rfl)) dL_areBills_185 ⟨(Nat.le_of_ble_eq_true rfl), (Nat.le_of_ble_eq_true rfl)⟩) hS hP hD (fun r185 w H locs hp hP hD hS => ?_)
          obtain ⟨hv9, hp⟩ := hp
          rw [hv9]
          have hDk : DE K ad td n M w := ⟨_, _, _, _, hp⟩
          refine lv_iload hx hb dL_areBills_188 (lv_at hl 0 rfl) ?_
          refine lv_icmp_gt (tgt := 227) hx hb dL_areBills_190 (by decide) (fun h190 => False.elim (hB.2.2.2.2.2.2.2.1 h190)) (fun h190 => ?_)
          refine lv_iload hx hb dL_areBills_193 (lv_at hl 2 rfl) ?_
          refine lv_iconst (v := 1) hx hb dL_areBills_195 (by decide) ?_
          refine lv_icmp_ne (tgt := 214) hx hb dL_areBills_196 (by decide) (fun h196 => ?_) (fun h196 => ?_)
          · refine lv_aload_n hx hb dL_areBills_214 rfl (lv_at hl 6 rfl) ?_
            refine lv_iload hx hb dL_areBills_215 (lv_at hl 9 rfl) ?_
            refine kla_ld (n := 30) (j := j) (z := (M 10 j)) hx hb hG hP 2 rfl (hR.n0 hk2) rfl (by omega) (by decide) dL_areBills_217 ?_
            refine lv_iload hx hb dL_areBills_218 (lv_at hl 1 rfl) ?_
            refine lv_icmp_gt (tgt := 227) hx hb dL_areBills_220 (by decide) (fun h220 => False.elim (hB.2.2.2.2.2.2.2.2.2 h220)) (fun h220 => ?_)
            refine lv_iconst (v := 1) hx hb dL_areBills_223 (by decide) ?_
            refine lv_goto (tgt := 228) hx hb dL_areBills_224 (by decide) ?_
            refine lv_istore (lv' := [(5, .int 1), (9, .int (M 8 j)), (8, .int (M 4 j)), (7, .int (M 6 j)), (0, .ref (ad 0)), (1, .ref (q 1)), (2, .ref (q 2)), (3, .ref (q 3)), (4, .ref (q 7)), (6, .int (nI j))]) hx hb dL_areBills_228 hl (by decide) rfl (fun ls hl => ?_)
            refine lv_iinc (v := nI (j + 1)) (lv' := [(6, .int (nI (j + 1))), (5, .int 1), (9, .int (M 8 j)), (8, .int (M 4 j)), (7, .int (M 6 j)), (0, .ref (ad 0)), (1, .ref (q 1)), (2, .ref (q 2)), (3, .ref (q 3)), (4, .ref (q 7))]) hx hb dL_areBills_230 hl (k := 9) rfl (kinc j) (by decide) rfl (fun ls hl => ?_)
            refine lv_goto (tgt := 78) hx hb dL_areBills_233 (by decide) ?_
            exact (ih (j + 1) w  ls H locs (by omega) hDk hP hD hS (lv_sub hl [5, 6, 7, 8, 9, 1, 0] rfl))
          · refine lv_aload_n hx hb dL_areBills_199 rfl (lv_at hl 4 rfl) ?_
            refine lv_iconst (v := 2) hx hb dL_areBills_200 (by decide) ?_
            refine lv_iload hx hb dL_areBills_201 (lv_at hl 9 rfl) ?_
            refine lv_imul hx hb dL_areBills_203 ?_
            refine lv_iconst (v := 1) hx hb dL_areBills_204 (by decide) ?_
            refine lv_iadd hx hb dL_areBills_205 ?_
            refine kla_ld (n := 60) (j := 2 * j + 1) (z := (M 5 j)) hx hb hG hP 0 (x21 j) (hR.b1 hk2) rfl (by omega) (by decide) dL_areBills_206 ?_
            refine lv_aload hx hb dL_areBills_207 (lv_at hl 7 rfl) ?_
            refine lv_iconst (v := 1) hx hb dL_areBills_209 (by decide) ?_
            refine kla_ld (n := 2) (j := 1) (z := td) hx hb hG hP 6 rfl hR.g1 rfl (by omega) (by decide) dL_areBills_210 ?_
            refine lv_icmp_le (tgt := 227) hx hb dL_areBills_211 (by decide) (fun h211 => False.elim (hB.2.2.2.2.2.2.2.2.1 h196 h211)) (fun h211 => ?_)
            refine lv_aload_n hx hb dL_areBills_214 rfl (lv_at hl 6 rfl) ?_
            refine lv_iload hx hb dL_areBills_215 (lv_at hl 9 rfl) ?_
            refine kla_ld (n := 30) (j := j) (z := (M 10 j)) hx hb hG hP 2 rfl (hR.n0 hk2) rfl (by omega) (by decide) dL_areBills_217 ?_
            refine lv_iload hx hb dL_areBills_218 (lv_at hl 1 rfl) ?_
            refine lv_icmp_gt (tgt := 227) hx hb dL_areBills_220 (by decide) (fun h220 => False.elim (hB.2.2.2.2.2.2.2.2.2 h220)) (fun h220 => ?_)
            refine lv_iconst (v := 1) hx hb dL_areBills_223 (by decide) ?_
            refine lv_goto (tgt := 228) hx hb dL_areBills_224 (by decide) ?_
            refine lv_istore (lv' := [(5, .int 1), (9, .int (M 8 j)), (8, .int (M 4 j)), (7, .int (M 6 j)), (0, .ref (ad 0)), (1, .ref (q 1)), (2, .ref (q 2)), (3, .ref (q 3)), (4, .ref (q 7)), (6, .int (nI j))]) hx hb dL_areBills_228 hl (by decide) rfl (fun ls hl => ?_)
            refine lv_iinc (v := nI (j + 1)) (lv' := [(6, .int (nI (j + 1))), (5, .int 1), (9, .int (M 8 j)), (8, .int (M 4 j)), (7, .int (M 6 j)), (0, .ref (ad 0)), (1, .ref (q 1)), (2, .ref (q 2)), (3, .ref (q 3)), (4, .ref (q 7))]) hx hb dL_areBills_230 hl (k := 9) rfl (kinc j) (by decide) rfl (fun ls hl => ?_)
            refine lv_goto (tgt := 78) hx hb dL_areBills_233 (by decide) ?_
            exact (ih (j + 1) w  ls H locs (by omega) hDk hP hD hS (lv_sub hl [5, 6, 7, 8, 9, 1, 0] rfl))
  refine LOOP _ (fun w  ls H locs hDk hP hD hS hl => ?_) n 0 w  ls _ _ (by omega) hDk hP hD hS (lv_sub hl [2, 3, 4, 5, 6, 1, 0] rfl)
  refine lv_iload hx hb dL_areBills_236 (lv_at hl 5 rfl) ?_
  exact kr_z hx hb hr hlocks hP hD hS (Nat.le_of_ble_eq_true rfl) (Nat.le_of_ble_eq_true rfl) (Or.inr rfl) (⟨rfl, _, _, _, _, _, _, _, _, _, _, _, rfl, hDk, hR, hJ⟩) dL_areBills_238
set_option maxHeartbeats 4000000 in
set_option maxRecDepth 100000 in
theorem c_bits {l : Launch} {K : Ks} {A : Nat → Prop} {w0 : va_W} {x : Int32} : Met l yL_bits wsL_bits (kR 0 0 0) (kPr K A [.int x] (w0)) (kQi K A (fun r w => r = btS x 30 ∧ w = w0)) 0 0 A := by
  refine kent (cc := cL_bits) (maxL := 3) (ret := (some .int)) (by decide) rfl (Nat.le_of_ble_eq_true rfl) ?_
  intro p e s m args below meth c ls hx hb hr hts hown hlocks hml hini hG hP hD hS hl
  have hl : lv_has ls 3 [(0, .int x)] := hl
  refine lv_iconst (v := 0) hx hb dL_bits_0 (by decide) ?_
  refine lv_istore_n (lv' := [(1, .int 0), (0, .int x)]) hx hb dL_bits_1 rfl hl (by decide) rfl (fun ls hl => ?_)
  refine lv_iconst (v := 0) hx hb dL_bits_2 (by decide) ?_
  refine lv_istore_n (lv' := [(2, .int 0), (1, .int 0), (0, .int x)]) hx hb dL_bits_3 rfl hl (by decide) rfl (fun ls hl => ?_)
  have LOOP : ∀ (Q' : State → Prop), (∀  (ls : Array Slot) (H : Heap) (locs : List Loc), va_P K.1 kCl (w0) H → va_D A (w0) → va_S A s.heap H locs → lv_has ls 3 [(0, .int x), (1, .int (btS x 30)), (2, .int (nI 30))] → W p l e ((kR 0 0 0)) s m args below meth c H locs 0 0 Q' (F0 m 24 ls [])) → ∀ (d j : Nat)  (ls : Array Slot) (H : Heap) (locs : List Loc), j + d = 30 → va_P K.1 kCl (w0) H → va_D A (w0) → va_S A s.heap H locs → lv_has ls 3 [(0, .int x), (1, .int (btS x j)), (2, .int (nI j))] → W p l e ((kR 0 0 0)) s m args below meth c H locs 0 0 Q' (F0 m 4 ls []) := by
    intro Q' kx d
    induction d with
    | zero =>
      intro j  ls H locs hk hP hD hS hl
      have hk2 : j = 30 := by omega
      refine lv_iload_n hx hb dL_bits_4 rfl (lv_at hl 2 rfl) ?_
      refine lv_bipush (v := 30) hx hb dL_bits_5 (by decide) ?_
      refine lv_icmp_ge (tgt := 24) hx hb dL_bits_7 (by decide) (fun h7 => ?_) (fun h7 => False.elim (absurd (nI_le (Nat.le_of_eq hk2.symm) (by omega)) h7))
      have hk3 : 30 = j := hk2.symm
      subst hk3
      exact kx  ls H locs hP hD hS (lv_sub hl [0, 1, 2] rfl)
    | succ d ih =>
      intro j  ls H locs hk hP hD hS hl
      have hk2 : j < 30 := by omega
      refine lv_iload_n hx hb dL_bits_4 rfl (lv_at hl 2 rfl) ?_
      refine lv_bipush (v := 30) hx hb dL_bits_5 (by decide) ?_
      refine lv_icmp_ge (tgt := 24) hx hb dL_bits_7 (by decide) (fun h7 => False.elim (absurd h7 (nI_ge (b := 30) hk2 (by decide)))) (fun h7 => ?_)
      refine lv_iload_n hx hb dL_bits_10 rfl (lv_at hl 1 rfl) ?_
      refine lv_iload_n hx hb dL_bits_11 rfl (lv_at hl 0 rfl) ?_
      refine lv_iload_n hx hb dL_bits_12 rfl (lv_at hl 2 rfl) ?_
      refine lv_ishr hx hb dL_bits_13 ?_
      refine lv_iconst (v := 1) hx hb dL_bits_14 (by decide) ?_
      refine lv_iand hx hb dL_bits_15 ?_
      refine lv_iadd hx hb dL_bits_16 ?_
      refine lv_istore_n (lv' := [(1, .int (btS x j + ((x >>> (nI j &&& 31)) &&& 1))), (0, .int x), (2, .int (nI j))]) hx hb dL_bits_17 rfl hl (by decide) rfl (fun ls hl => ?_)
      refine lv_iinc (v := nI (j + 1)) (lv' := [(2, .int (nI (j + 1))), (1, .int (btS x j + ((x >>> (nI j &&& 31)) &&& 1))), (0, .int x)]) hx hb dL_bits_18 hl (k := 2) rfl (kinc j) (by decide) rfl (fun ls hl => ?_)
      refine lv_goto (tgt := 4) hx hb dL_bits_21 (by decide) ?_
      exact (ih (j + 1)  ls H locs (by omega) hP hD hS (lv_sub hl [2, 1, 0] rfl))
  refine LOOP _ (fun  ls H locs hP hD hS hl => ?_) 30 0  ls _ _ (by omega) hP hD hS (lv_sub hl [2, 1, 0] rfl)
  refine lv_iload_n hx hb dL_bits_24 rfl (lv_at hl 1 rfl) ?_
  exact kr_i hx hb hr hlocks hP hD hS (Nat.zero_le _) (Nat.zero_le _) (⟨rfl, rfl⟩) dL_bits_25
set_option maxHeartbeats 4000000 in
set_option maxRecDepth 100000 in
theorem c_part {l : Launch} {K : Ks} {A : Nat → Prop} {w0 : va_W} {b L kk N : Nat} {xs : Nat → Int32} (hk : kk ≤ 1000) (hL : L ≤ 260) (hN : 0 < N) (hN2 : N ≤ 8000) : Met l yL_part wsL_part (kR 0 0 0) (kPrX K A [.ref b, .int (nI kk), .int (nI N)] w0 b L xs) (kQi K A (fun r w1 => ∃ z : Nat, z < N ∧ r = nI z ∧ w1 = w0)) 0 0 A := by
  refine kentX (cc := cL_part) (maxL := 4) (ret := (some .int)) (by decide) rfl (Nat.le_of_ble_eq_true rfl) ?_
  intro p e s m args below meth c ls hx hb hr hts hown hlocks hml hG hP hD hS hX hbl hbA hl
  have hl : lv_has ls 4 [(0, .ref b), (1, .int (nI kk)), (2, .int (nI N))] := hl
  refine lv_iload_n hx hb dL_part_0 rfl (lv_at hl 1 rfl) ?_
  refine lv_aload_n hx hb dL_part_1 rfl (lv_at hl 0 rfl) ?_
  refine va_slen hx hb hX hbl hbA hS dL_part_2 ?_
  refine lv_icmp_ge (tgt := 12) hx hb dL_part_3 (by decide) (fun h3 => ?_) (fun h3 => ?_)
  · refine lv_sipush (v := 317) hx hb dL_part_12 (by decide) ?_
    refine lv_iload_n hx hb dL_part_15 rfl (lv_at hl 1 rfl) ?_
    refine lv_imul hx hb dL_part_16 ?_
    refine lv_sipush (v := 193) hx hb dL_part_17 (by decide) ?_
    refine lv_iload_n hx hb dL_part_20 rfl (lv_at hl 1 rfl) ?_
    refine lv_imul hx hb dL_part_21 ?_
    refine lv_iload_n hx hb dL_part_22 rfl (lv_at hl 1 rfl) ?_
    refine lv_imul hx hb dL_part_23 ?_
    refine lv_iadd hx hb dL_part_24 ?_
    refine lv_istore_n (lv' := [(3, .int ((317 * nI kk) + ((193 * nI kk) * nI kk))), (0, .ref b), (1, .int (nI kk)), (2, .int (nI N))]) hx hb dL_part_25 rfl hl (by decide) rfl (fun ls hl => ?_)
    refine lv_iload_n hx hb dL_part_26 rfl (lv_at hl 0 rfl) ?_
    refine lv_ldc (v := 2147483647) hx hb hown (hts (.constant RL 7 2147483647) (by decide +kernel)) dL_part_27 ?_
    refine lv_iand hx hb dL_part_29 ?_
    refine lv_iload_n hx hb dL_part_30 rfl (lv_at hl 3 rfl) ?_
    refine lv_irem hx hb dL_part_31 (nI_n0 hN (by omega)) ?_
    obtain ⟨z, hz, hr9⟩ := part_z (x := ((317 * nI kk) + ((193 * nI kk) * nI kk))) hN (by omega)
    rw [hr9]
    exact kr_i hx hb hr hlocks hP hD hS (Nat.zero_le _) (Nat.zero_le _) (⟨z, hz, rfl, rfl⟩) dL_part_32
  · refine lv_aload_n hx hb dL_part_6 rfl (lv_at hl 0 rfl) ?_
    refine lv_iload_n hx hb dL_part_7 rfl (lv_at hl 1 rfl) ?_
    refine lsld (z := xs kk) hx hb hX hbl hbA hS rfl (nI_ltL h3 (by omega)) (by omega) rfl dL_part_8 ?_
    refine lv_goto (tgt := 25) hx hb dL_part_9 (by decide) ?_
    refine lv_istore_n (lv' := [(3, .int (xs kk)), (0, .ref b), (1, .int (nI kk)), (2, .int (nI N))]) hx hb dL_part_25 rfl hl (by decide) rfl (fun ls hl => ?_)
    refine lv_iload_n hx hb dL_part_26 rfl (lv_at hl 0 rfl) ?_
    refine lv_ldc (v := 2147483647) hx hb hown (hts (.constant RL 7 2147483647) (by decide +kernel)) dL_part_27 ?_
    refine lv_iand hx hb dL_part_29 ?_
    refine lv_iload_n hx hb dL_part_30 rfl (lv_at hl 3 rfl) ?_
    refine lv_irem hx hb dL_part_31 (nI_n0 hN (by omega)) ?_
    obtain ⟨z, hz, hr9⟩ := part_z (x := (xs kk)) hN (by omega)
    rw [hr9]
    exact kr_i hx hb hr hlocks hP hD hS (Nat.zero_le _) (Nat.zero_le _) (⟨z, hz, rfl, rfl⟩) dL_part_32
