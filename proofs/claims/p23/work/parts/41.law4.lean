/-! The law: claims, limits, averages -/
theorem fcs {x y : Int32} (h : ¬ y = 0) : Op.cmpValue (FP.fcmp (FP.fdiv (FP.i2f x) (FP.i2f y)) (FP.fdiv (FP.i2f x) (FP.i2f y))) .l = 0 := by
  rw [show FP.fcmp (FP.fdiv (FP.i2f x) (FP.i2f y)) (FP.fdiv (FP.i2f x) (FP.i2f y)) = some .eq from Jvm.FP.Core.fcmp_self (Jvm.Free.Fl.val32_no.mp (fdN h))]
  rfl
theorem fcc : Op.cmpValue (FP.fcmp 3253731328 3253731328) .l = 0 := by
  rw [show FP.fcmp 3253731328 3253731328 = some .eq from Jvm.FP.Core.fcmp_self (Jvm.Free.Fl.val32_no.mp (by show (3253731328 : UInt32) &&& 0x7fffffff ≤ 0x7f800000; decide))]
  rfl
theorem fcd : Op.cmpValue (FP.fcmp 3240099840 3240099840) .l = 0 := by
  rw [show FP.fcmp 3240099840 3240099840 = some .eq from Jvm.FP.Core.fcmp_self (Jvm.Free.Fl.val32_no.mp (by show (3240099840 : UInt32) &&& 0x7fffffff ≤ 0x7f800000; decide))]
  rfl
theorem claim_ok {s n p : Nat} {td : Int32} {M : Nat → Nat → Int32} (h : Jv s td n M) (hp : p < 32) : ¬ M 13 p < 0 := by
  rw [i32_lt, z0]
  have := h.1.2.2.1 p hp
  omega
theorem c_claim_p {l : Launch} {K : Ks} {A : Nat → Prop} {ad bad : Nat → Nat} {td : Int32} {n : Nat} {M : Nat → Nat → Int32} {rm : Nat → Int32} {k : Nat} {idx : Nat → Nat} {w : va_W} (hDk : Dk K ad bad td n M rm k idx w) {p : Nat} (hp : p < 32) : Met l yX1_claim wsX1_claim (kR 4 0 0) (kPr K A [.ref (ad 0), .int (nI (p / 8)), .int (nI (p % 8))] (w)) (kQi K A (fun r w1 => r = M 13 p ∧ Dk K ad bad td n M rm k idx w1)) 0 0 A := by
  have h := c_X1_claim (l := l) (A := A) hDk (b := p / 8) (o := p % 8) (by omega) (by omega)
  rw [p88] at h
  exact h
theorem c_left_p {l : Launch} {K : Ks} {A : Nat → Prop} {ad bad : Nat → Nat} {td : Int32} {n : Nat} {M : Nat → Nat → Int32} {rm : Nat → Int32} {k : Nat} {idx : Nat → Nat} {w : va_W} (hDk : Dk K ad bad td n M rm k idx w) (hok : ∀ j, j < n → okP M j) {p : Nat} (hp : p < 32) : Met l yX1_left wsX1_left (kR 4 0 0) (kPr K A [.ref (ad 0), .int (nI (p / 8)), .int (nI (p % 8))] (w)) (kQi K A (fun r w1 => r = M 12 p - usS td M p n ∧ Dk K ad bad td n M rm k idx w1)) 0 0 A := by
  have h := c_X1_left (l := l) (A := A) hDk (b := p / 8) (o := p % 8) (by omega) (by omega)
  rw [lo_us hok (by omega) (by omega) n (Nat.le_refl n), p88] at h
  exact h
set_option maxHeartbeats 4000000 in
set_option maxRecDepth 100000 in
theorem c_isMoney {l : Launch} {K : Ks} {A : Nat → Prop} {ad q : Nat → Nat} {sn : Nat} {w : va_W} (hlt : l.stackTraces = false) (hLS : LSw K ad q sn w) (hsn : sn ≤ 1000)  : Met l yL_isMoney wsL_isMoney (kR 7 7 42) (kPr K A [.ref (ad 0), .ref (q 1), .ref (q 2), .ref (q 4), .ref (q 5), .ref (q 7)] (w)) (kQi K A (fun r w1 => r = 1 ∧ LSw K ad q sn w1)) 7 42 A := by
  obtain ⟨td, n, M, w, fb, ft, fn, fm, fl, fu, fg, rfl, hDk, hR, hJ⟩ := hLS
  have hn30 := hJ.1.1.1
  have hok := hJ.1.ok
  refine kent (cc := cL_isMoney) (maxL := 12) (ret := (some .boolean)) (by decide) rfl (Nat.le_of_ble_eq_true rfl) ?_
  intro p e s m args below meth c ls hx hb hr hts hown hlocks hml hini hG hP hD hS hl
  have hl : lv_has ls 12 [(0, .ref (ad 0)), (1, .ref (q 1)), (2, .ref (q 2)), (3, .ref (q 4)), (4, .ref (q 5)), (5, .ref (q 7))] := hl
  refine lv_aload_n hx hb dL_isMoney_0 rfl (lv_at hl 0 rfl) ?_
  refine lv_bipush (v := 7) hx hb dL_isMoney_1 (by decide) ?_
  refine lv_iconst (v := 4) hx hb dL_isMoney_3 (by decide) ?_
  refine lv_iconst (v := 0) hx hb dL_isMoney_4 (by decide) ?_
  refine kf_i (W2 := LA K q fb ft fn fm fl fu fg) (vx_runSW (As := [.ref (ad 0), .int 7, .int 4, .int 0]) (rest := []) ⟨hx, hb, hml, hown, hts⟩ (a_left_t hDk hlt ix44) (vx_cwSW 4 hts gL_isMoney_L_asks rfl rfl rfl (by decide +kernel) ⟨(Nat.le_of_ble_eq_true rfl), (Nat.le_of_ble_eq_true rfl)⟩) (lps hG hP hD hS) rfl rfl hl.1 rfl (lv_room (Nat.le_of_ble_eq_true rfl)) dL_isMoney_5 ⟨(Nat.le_of_ble_eq_true rfl), (Nat.le_of_ble_eq_true rfl)⟩) hS hP hD (fun r5 w H locs hp hP hD hS => ?_)
  obtain ⟨hv9, hp⟩ := hp
  rw [hv9]
  have hDk : DE K ad td n M w := hp
  refine lv_ldc (v := -2000000030) hx hb hown (hts (.constant RL 82 (-2000000030)) (by decide +kernel)) dL_isMoney_8 ?_
  refine lv_icmp_ne (tgt := 31) hx hb dL_isMoney_10 (by decide) (fun h10 => False.elim (absurd (by decide) h10)) (fun h10 => ?_)
  refine lv_aload_n hx hb dL_isMoney_13 rfl (lv_at hl 0 rfl) ?_
  refine lv_bipush (v := 8) hx hb dL_isMoney_14 (by decide) ?_
  refine lv_iconst (v := 0) hx hb dL_isMoney_16 (by decide) ?_
  refine lv_bipush (v := 8) hx hb dL_isMoney_17 (by decide) ?_
  refine kf_i (W2 := LA K q fb ft fn fm fl fu fg) (vx_runSW (As := [.ref (ad 0), .int 8, .int 0, .int 8]) (rest := []) ⟨hx, hb, hml, hown, hts⟩ (a_claim_ts hDk hlt (b := 0) (by decide) ix88) (vx_cwSW 4 hts gL_isMoney_L_asks rfl rfl rfl (by decide +kernel) ⟨(Nat.le_of_ble_eq_true rfl), (Nat.le_of_ble_eq_true rfl)⟩) (lps hG hP hD hS) rfl rfl hl.1 rfl (lv_room (Nat.le_of_ble_eq_true rfl)) dL_isMoney_19 ⟨(Nat.le_of_ble_eq_true rfl), (Nat.le_of_ble_eq_true rfl)⟩) hS hP hD (fun r19 w H locs hp hP hD hS => ?_)
  obtain ⟨hv9, hp⟩ := hp
  rw [hv9]
  have hDk : DE K ad td n M w := hp
  refine lv_ldc (v := -2000000030) hx hb hown (hts (.constant RL 82 (-2000000030)) (by decide +kernel)) dL_isMoney_22 ?_
  refine lv_icmp_ne (tgt := 31) hx hb dL_isMoney_24 (by decide) (fun h24 => False.elim (absurd (by decide) h24)) (fun h24 => ?_)
  refine lv_iconst (v := 1) hx hb dL_isMoney_27 (by decide) ?_
  refine lv_goto (tgt := 32) hx hb dL_isMoney_28 (by decide) ?_
  refine lv_istore (lv' := [(6, .int 1), (0, .ref (ad 0)), (1, .ref (q 1)), (2, .ref (q 2)), (3, .ref (q 4)), (4, .ref (q 5)), (5, .ref (q 7))]) hx hb dL_isMoney_32 hl (by decide) rfl (fun ls hl => ?_)
  refine lv_iconst (v := 0) hx hb dL_isMoney_34 (by decide) ?_
  refine lv_istore (lv' := [(7, .int 0), (6, .int 1), (0, .ref (ad 0)), (1, .ref (q 1)), (2, .ref (q 2)), (3, .ref (q 4)), (4, .ref (q 5)), (5, .ref (q 7))]) hx hb dL_isMoney_35 hl (by decide) rfl (fun ls hl => ?_)
  have LOOP : ∀ (Q' : State → Prop), (∀ (w : va_W)  (ls : Array Slot) (H : Heap) (locs : List Loc), DE K ad td n M w → va_P K.1 kCl (w ++ LA K q fb ft fn fm fl fu fg) H → va_D A (w ++ LA K q fb ft fn fm fl fu fg) → va_S A s.heap H locs → lv_has ls 12 [(0, .ref (ad 0)), (1, .ref (q 1)), (2, .ref (q 2)), (3, .ref (q 4)), (4, .ref (q 5)), (5, .ref (q 7)), (6, .int 1), (7, .int (nI 32))] → W p l e ((kR 7 7 42)) s m args below meth c H locs (0 + 1 + 1) (0 + 6 + 6) Q' (F0 m 227 ls [])) → ∀ (d pp : Nat) (w : va_W)  (ls : Array Slot) (H : Heap) (locs : List Loc), pp + d = 32 → DE K ad td n M w → va_P K.1 kCl (w ++ LA K q fb ft fn fm fl fu fg) H → va_D A (w ++ LA K q fb ft fn fm fl fu fg) → va_S A s.heap H locs → lv_has ls 12 [(0, .ref (ad 0)), (1, .ref (q 1)), (2, .ref (q 2)), (3, .ref (q 4)), (4, .ref (q 5)), (5, .ref (q 7)), (6, .int 1), (7, .int (nI pp))] → W p l e ((kR 7 7 42)) s m args below meth c H locs (0 + 1 + 1) (0 + 6 + 6) Q' (F0 m 37 ls []) := by
    intro Q' kx d
    induction d with
    | zero =>
      intro pp w  ls H locs hk hDk hP hD hS hl
      have hk2 : pp = 32 := by omega
      refine lv_iload hx hb dL_isMoney_37 (lv_at hl 7 rfl) ?_
      refine lv_bipush (v := 32) hx hb dL_isMoney_39 (by decide) ?_
      refine lv_icmp_ge (tgt := 227) hx hb dL_isMoney_41 (by decide) (fun h41 => ?_) (fun h41 => False.elim (absurd (nI_le (Nat.le_of_eq hk2.symm) (by omega)) h41))
      have hk3 : 32 = pp := hk2.symm
      subst hk3
      exact kx w  ls H locs hDk hP hD hS (lv_sub hl [0, 1, 2, 3, 4, 5, 6, 7] rfl)
    | succ d ih =>
      intro pp w  ls H locs hk hDk hP hD hS hl
      have hk2 : pp < 32 := by omega
      have hp32 : pp < 32 := hk2
      have hcl := claim_ok hJ hp32
      refine lv_iload hx hb dL_isMoney_37 (lv_at hl 7 rfl) ?_
      refine lv_bipush (v := 32) hx hb dL_isMoney_39 (by decide) ?_
      refine lv_icmp_ge (tgt := 227) hx hb dL_isMoney_41 (by decide) (fun h41 => False.elim (absurd h41 (nI_ge (b := 32) hk2 (by decide)))) (fun h41 => ?_)
      refine lv_iload hx hb dL_isMoney_44 (lv_at hl 6 rfl) ?_
      refine lv_if_eq (tgt := 227) hx hb dL_isMoney_46 (by decide) (fun h46 => False.elim (absurd h46 (by decide))) (fun h46 => ?_)
      refine lv_iconst (v := 0) hx hb dL_isMoney_49 (by decide) ?_
      refine lv_istore (lv' := [(8, .int 0), (0, .ref (ad 0)), (1, .ref (q 1)), (2, .ref (q 2)), (3, .ref (q 4)), (4, .ref (q 5)), (5, .ref (q 7)), (6, .int 1), (7, .int (nI pp))]) hx hb dL_isMoney_50 hl (by decide) rfl (fun ls hl => ?_)
      refine lv_iconst (v := 0) hx hb dL_isMoney_52 (by decide) ?_
      refine lv_istore (lv' := [(9, .int 0), (8, .int 0), (0, .ref (ad 0)), (1, .ref (q 1)), (2, .ref (q 2)), (3, .ref (q 4)), (4, .ref (q 5)), (5, .ref (q 7)), (6, .int 1), (7, .int (nI pp))]) hx hb dL_isMoney_53 hl (by decide) rfl (fun ls hl => ?_)
      refine lv_iconst (v := 0) hx hb dL_isMoney_55 (by decide) ?_
      refine lv_istore (lv' := [(10, .int 0), (9, .int 0), (8, .int 0), (0, .ref (ad 0)), (1, .ref (q 1)), (2, .ref (q 2)), (3, .ref (q 4)), (4, .ref (q 5)), (5, .ref (q 7)), (6, .int 1), (7, .int (nI pp))]) hx hb dL_isMoney_56 hl (by decide) rfl (fun ls hl => ?_)
      have LOOPJ : ∀ (Q' : State → Prop), (∀ (w : va_W)  (ls : Array Slot) (H : Heap) (locs : List Loc), DE K ad td n M w → va_P K.1 kCl (w ++ LA K q fb ft fn fm fl fu fg) H → va_D A (w ++ LA K q fb ft fn fm fl fu fg) → va_S A s.heap H locs → lv_has ls 12 [(0, .ref (ad 0)), (1, .ref (q 1)), (2, .ref (q 2)), (3, .ref (q 4)), (4, .ref (q 5)), (5, .ref (q 7)), (6, .int 1), (7, .int (nI pp)), (8, .int (hsS M pp n)), (9, .int (usS td M pp n)), (10, .int (nI n))] → W p l e ((kR 7 7 42)) s m args below meth c H locs (0 + 1 + 1) (0 + 6 + 6) Q' (F0 m 148 ls [])) → ∀ (d j : Nat) (w : va_W)  (ls : Array Slot) (H : Heap) (locs : List Loc), j + d = n → DE K ad td n M w → va_P K.1 kCl (w ++ LA K q fb ft fn fm fl fu fg) H → va_D A (w ++ LA K q fb ft fn fm fl fu fg) → va_S A s.heap H locs → lv_has ls 12 [(0, .ref (ad 0)), (1, .ref (q 1)), (2, .ref (q 2)), (3, .ref (q 4)), (4, .ref (q 5)), (5, .ref (q 7)), (6, .int 1), (7, .int (nI pp)), (8, .int (hsS M pp j)), (9, .int (usS td M pp j)), (10, .int (nI j))] → W p l e ((kR 7 7 42)) s m args below meth c H locs (0 + 1 + 1) (0 + 6 + 6) Q' (F0 m 58 ls []) := by
        intro Q' kx d
        induction d with
        | zero =>
          intro j w  ls H locs hk hDk hP hD hS hl
          have hk2 : j = n := by omega
          refine lv_iload hx hb dL_isMoney_58 (lv_at hl 10 rfl) ?_
          refine lv_aload hx hb dL_isMoney_60 (lv_at hl 5 rfl) ?_
          refine lv_iconst (v := 0) hx hb dL_isMoney_62 (by decide) ?_
          refine kla_ld (n := 2) (j := 0) (z := (nI n)) hx hb hG hP 6 rfl hR.g0 rfl (by omega) (by decide) dL_isMoney_63 ?_
          refine lv_icmp_ge (tgt := 148) hx hb dL_isMoney_64 (by decide) (fun h64 => ?_) (fun h64 => False.elim (absurd (nI_le (Nat.le_of_eq hk2.symm) (by omega)) h64))
          have hk3 : n = j := hk2.symm
          subst hk3
          exact kx w  ls H locs hDk hP hD hS (lv_sub hl [0, 1, 2, 3, 4, 5, 6, 7, 8, 9, 10] rfl)
        | succ d ih =>
          intro j w  ls H locs hk hDk hP hD hS hl
          have hk2 : j < n := by omega
          have hpe : nI (pr M j) = nI pp ↔ pr M j = pp := nI_iff (by have := (pr_lt (hok j hk2)).1; omega) (by omega)
          refine lv_iload hx hb dL_isMoney_58 (lv_at hl 10 rfl) ?_
          refine lv_aload hx hb dL_isMoney_60 (lv_at hl 5 rfl) ?_
          refine lv_iconst (v := 0) hx hb dL_isMoney_62 (by decide) ?_
          refine kla_ld (n := 2) (j := 0) (z := (nI n)) hx hb hG hP 6 rfl hR.g0 rfl (by omega) (by decide) dL_isMoney_63 ?_
          refine lv_icmp_ge (tgt := 148) hx hb dL_isMoney_64 (by decide) (fun h64 => False.elim (absurd h64 (nI_ge hk2 (by omega)))) (fun h64 => ?_)
          refine lv_iload hx hb dL_isMoney_67 (lv_at hl 8 rfl) ?_
          refine lv_aload_n hx hb dL_isMoney_69 rfl (lv_at hl 1 rfl) ?_
          refine lv_iconst (v := 2) hx hb dL_isMoney_70 (by decide) ?_
          refine lv_iload hx hb dL_isMoney_71 (lv_at hl 10 rfl) ?_
          refine lv_imul hx hb dL_isMoney_73 ?_
          refine kla_ld (n := 60) (j := 2 * j) (z := (nI (pr M j))) hx hb hG hP 0 (x2 j) (hR.b0 hk2) rfl (by omega) (by decide) dL_isMoney_74 ?_
          refine lv_iload hx hb dL_isMoney_75 (lv_at hl 7 rfl) ?_
          refine lv_icmp_ne (tgt := 89) hx hb dL_isMoney_77 (by decide) (fun h77 => ?_) (fun h77 => ?_)
          · refine lv_iconst (v := 0) hx hb dL_isMoney_89 (by decide) ?_
            refine lv_iadd hx hb dL_isMoney_90 ?_
            refine lv_istore (lv' := [(8, .int (hsS M pp j + 0)), (0, .ref (ad 0)), (1, .ref (q 1)), (2, .ref (q 2)), (3, .ref (q 4)), (4, .ref (q 5)), (5, .ref (q 7)), (6, .int 1), (7, .int (nI pp)), (9, .int (usS td M pp j)), (10, .int (nI j))]) hx hb dL_isMoney_91 hl (by decide) rfl (fun ls hl => ?_)
            refine lv_iload hx hb dL_isMoney_93 (lv_at hl 9 rfl) ?_
            refine lv_aload_n hx hb dL_isMoney_95 rfl (lv_at hl 2 rfl) ?_
            refine lv_iconst (v := 2) hx hb dL_isMoney_96 (by decide) ?_
            refine lv_iload hx hb dL_isMoney_97 (lv_at hl 10 rfl) ?_
            refine lv_imul hx hb dL_isMoney_99 ?_
            refine kla_ld (n := 60) (j := 2 * j) (z := (nI (pr M j))) hx hb hG hP 0 (x2 j) (hR.b0 hk2) rfl (by omega) (by decide) dL_isMoney_100 ?_
            refine lv_iload hx hb dL_isMoney_101 (lv_at hl 8 rfl) ?_
            refine lv_icmp_ne (tgt := 138) hx hb dL_isMoney_103 (by decide) (fun h103 => ?_) (fun h103 => False.elim (h77 h103))
            refine lv_iconst (v := 0) hx hb dL_isMoney_138 (by decide) ?_
            refine lv_iadd hx hb dL_isMoney_139 ?_
            refine lv_istore (lv' := [(9, .int (usS td M pp j + 0)), (8, .int (hsS M pp j + 0)), (0, .ref (ad 0)), (1, .ref (q 1)), (2, .ref (q 2)), (3, .ref (q 4)), (4, .ref (q 5)), (5, .ref (q 7)), (6, .int 1), (7, .int (nI pp)), (10, .int (nI j))]) hx hb dL_isMoney_140 hl (by decide) rfl (fun ls hl => ?_)
            refine lv_iinc (v := nI (j + 1)) (lv' := [(10, .int (nI (j + 1))), (9, .int (usS td M pp j + 0)), (8, .int (hsS M pp j + 0)), (0, .ref (ad 0)), (1, .ref (q 1)), (2, .ref (q 2)), (3, .ref (q 4)), (4, .ref (q 5)), (5, .ref (q 7)), (6, .int 1), (7, .int (nI pp))]) hx hb dL_isMoney_142 hl (k := 10) rfl (kinc j) (by decide) rfl (fun ls hl => ?_)
            refine lv_goto (tgt := 58) hx hb dL_isMoney_145 (by decide) ?_
            exact (ih (j + 1) w  ls H locs (by omega) hDk hP hD hS (by rw [hsS_f (fun q => h77 (hpe.mpr q)), usS_f (fun q => h103 (hpe.mpr q.1))]; exact lv_sub hl [3, 4, 5, 6, 7, 8, 9, 10, 2, 1, 0] rfl))
          · refine lv_aload_n hx hb dL_isMoney_80 rfl (lv_at hl 0 rfl) ?_
            refine lv_iload hx hb dL_isMoney_81 (lv_at hl 10 rfl) ?_
            obtain ⟨bad, rm, kq, idx, hQ⟩ := hDk
            refine kf_i (W2 := LA K q fb ft fn fm fl fu fg) (va_runV (As := [.int (nI j)]) (rest := [.int (hsS M pp j)]) ⟨hx, hb, hml, hown, hts⟩ (c_X1_heldBack hQ hk2) (cwV 1 hts gL_isMoney_X1_heldBack rfl rfl rfl (by decide +kernel) ⟨(Nat.le_of_ble_eq_true rfl), (Nat.le_of_ble_eq_true rfl)⟩) (lpv (q0 := 0) hG hP hD hS hQ.x rfl) rfl rfl hl.1 rfl (lv_room (Nat.le_of_ble_eq_true rfl)) dL_isMoney_83 ⟨(Nat.le_of_ble_eq_true rfl), (Nat.le_of_ble_eq_true rfl)⟩) hS hP hD (fun r83 w H locs hp hP hD hS => ?_)
            obtain ⟨hv9, hp⟩ := hp
            rw [hv9]
            have hDk : DE K ad td n M w := ⟨_, _, _, _, hp⟩
            refine lv_goto (tgt := 90) hx hb dL_isMoney_86 (by decide) ?_
            refine lv_iadd hx hb dL_isMoney_90 ?_
            refine lv_istore (lv' := [(8, .int (hsS M pp j + (M 9 j))), (0, .ref (ad 0)), (1, .ref (q 1)), (2, .ref (q 2)), (3, .ref (q 4)), (4, .ref (q 5)), (5, .ref (q 7)), (6, .int 1), (7, .int (nI pp)), (9, .int (usS td M pp j)), (10, .int (nI j))]) hx hb dL_isMoney_91 hl (by decide) rfl (fun ls hl => ?_)
            refine lv_iload hx hb dL_isMoney_93 (lv_at hl 9 rfl) ?_
            refine lv_aload_n hx hb dL_isMoney_95 rfl (lv_at hl 2 rfl) ?_
            refine lv_iconst (v := 2) hx hb dL_isMoney_96 (by decide) ?_
            refine lv_iload hx hb dL_isMoney_97 (lv_at hl 10 rfl) ?_
            refine lv_imul hx hb dL_isMoney_99 ?_
            refine kla_ld (n := 60) (j := 2 * j) (z := (nI (pr M j))) hx hb hG hP 0 (x2 j) (hR.b0 hk2) rfl (by omega) (by decide) dL_isMoney_100 ?_
            refine lv_iload hx hb dL_isMoney_101 (lv_at hl 8 rfl) ?_
            refine lv_icmp_ne (tgt := 138) hx hb dL_isMoney_103 (by decide) (fun h103 => False.elim (h103 h77)) (fun h103 => ?_)
            refine lv_aload_n hx hb dL_isMoney_106 rfl (lv_at hl 3 rfl) ?_
            refine lv_iload hx hb dL_isMoney_107 (lv_at hl 10 rfl) ?_
            refine kla_ld (n := 60) (j := j) (z := (M 6 j)) hx hb hG hP 1 rfl (hR.t0 hk2) rfl (by omega) (by decide) dL_isMoney_109 ?_
            refine lv_iconst (v := 3) hx hb dL_isMoney_110 (by decide) ?_
            refine lv_icmp_ne (tgt := 138) hx hb dL_isMoney_111 (by decide) (fun h111 => ?_) (fun h111 => ?_)
            · refine lv_iconst (v := 0) hx hb dL_isMoney_138 (by decide) ?_
              refine lv_iadd hx hb dL_isMoney_139 ?_
              refine lv_istore (lv' := [(9, .int (usS td M pp j + 0)), (8, .int (hsS M pp j + (M 9 j))), (0, .ref (ad 0)), (1, .ref (q 1)), (2, .ref (q 2)), (3, .ref (q 4)), (4, .ref (q 5)), (5, .ref (q 7)), (6, .int 1), (7, .int (nI pp)), (10, .int (nI j))]) hx hb dL_isMoney_140 hl (by decide) rfl (fun ls hl => ?_)
              refine lv_iinc (v := nI (j + 1)) (lv' := [(10, .int (nI (j + 1))), (9, .int (usS td M pp j + 0)), (8, .int (hsS M pp j + (M 9 j))), (0, .ref (ad 0)), (1, .ref (q 1)), (2, .ref (q 2)), (3, .ref (q 4)), (4, .ref (q 5)), (5, .ref (q 7)), (6, .int 1), (7, .int (nI pp))]) hx hb dL_isMoney_142 hl (k := 10) rfl (kinc j) (by decide) rfl (fun ls hl => ?_)
              refine lv_goto (tgt := 58) hx hb dL_isMoney_145 (by decide) ?_
              exact (ih (j + 1) w  ls H locs (by omega) hDk hP hD hS (by rw [hsS_t (hpe.mp h77), usS_f (fun q => h111 q.2.1)]; exact lv_sub hl [3, 4, 5, 6, 7, 8, 9, 10, 2, 1, 0] rfl))
            · refine lv_aload_n hx hb dL_isMoney_114 rfl (lv_at hl 2 rfl) ?_
              refine lv_iconst (v := 2) hx hb dL_isMoney_115 (by decide) ?_
              refine lv_iload hx hb dL_isMoney_116 (lv_at hl 10 rfl) ?_
              refine lv_imul hx hb dL_isMoney_118 ?_
              refine lv_iconst (v := 1) hx hb dL_isMoney_119 (by decide) ?_
              refine lv_iadd hx hb dL_isMoney_120 ?_
              refine kla_ld (n := 60) (j := 2 * j + 1) (z := (M 5 j)) hx hb hG hP 0 (x21 j) (hR.b1 hk2) rfl (by omega) (by decide) dL_isMoney_121 ?_
              refine lv_aload hx hb dL_isMoney_122 (lv_at hl 6 rfl) ?_
              refine lv_iconst (v := 1) hx hb dL_isMoney_124 (by decide) ?_
              refine kla_ld (n := 2) (j := 1) (z := td) hx hb hG hP 6 rfl hR.g1 rfl (by omega) (by decide) dL_isMoney_125 ?_
              refine lv_icmp_le (tgt := 138) hx hb dL_isMoney_126 (by decide) (fun h126 => ?_) (fun h126 => ?_)
              · refine lv_iconst (v := 0) hx hb dL_isMoney_138 (by decide) ?_
                refine lv_iadd hx hb dL_isMoney_139 ?_
                refine lv_istore (lv' := [(9, .int (usS td M pp j + 0)), (8, .int (hsS M pp j + (M 9 j))), (0, .ref (ad 0)), (1, .ref (q 1)), (2, .ref (q 2)), (3, .ref (q 4)), (4, .ref (q 5)), (5, .ref (q 7)), (6, .int 1), (7, .int (nI pp)), (10, .int (nI j))]) hx hb dL_isMoney_140 hl (by decide) rfl (fun ls hl => ?_)
                refine lv_iinc (v := nI (j + 1)) (lv' := [(10, .int (nI (j + 1))), (9, .int (usS td M pp j + 0)), (8, .int (hsS M pp j + (M 9 j))), (0, .ref (ad 0)), (1, .ref (q 1)), (2, .ref (q 2)), (3, .ref (q 4)), (4, .ref (q 5)), (5, .ref (q 7)), (6, .int 1), (7, .int (nI pp))]) hx hb dL_isMoney_142 hl (k := 10) rfl (kinc j) (by decide) rfl (fun ls hl => ?_)
                refine lv_goto (tgt := 58) hx hb dL_isMoney_145 (by decide) ?_
                exact (ih (j + 1) w  ls H locs (by omega) hDk hP hD hS (by rw [hsS_t (hpe.mp h77), usS_f (fun q => q.2.2 h126)]; exact lv_sub hl [3, 4, 5, 6, 7, 8, 9, 10, 2, 1, 0] rfl))
              · refine lv_aload_n hx hb dL_isMoney_129 rfl (lv_at hl 1 rfl) ?_
                refine lv_iload hx hb dL_isMoney_130 (lv_at hl 10 rfl) ?_
                obtain ⟨bad, rm, kq, idx, hQ⟩ := hDk
                refine kf_i (W2 := LA K q fb ft fn fm fl fu fg) (va_runV (As := [.int (nI j)]) (rest := [.int (usS td M pp j)]) ⟨hx, hb, hml, hown, hts⟩ (c_X1_paid hQ hk2) (cwV 1 hts gL_isMoney_X1_paid rfl rfl rfl (by decide +kernel) ⟨(Nat.le_of_ble_eq_true rfl), (Nat.le_of_ble_eq_true rfl)⟩) (lpv (q0 := 0) hG hP hD hS hQ.x rfl) rfl rfl hl.1 rfl (lv_room (Nat.le_of_ble_eq_true rfl)) dL_isMoney_132 ⟨(Nat.le_of_ble_eq_true rfl), (Nat.le_of_ble_eq_true rfl)⟩) hS hP hD (fun r132 w H locs hp hP hD hS => ?_)
                obtain ⟨hv9, hp⟩ := hp
                rw [hv9]
                have hDk : DE K ad td n M w := ⟨_, _, _, _, hp⟩
                refine lv_goto (tgt := 139) hx hb dL_isMoney_135 (by decide) ?_
                refine lv_iadd hx hb dL_isMoney_139 ?_
                refine lv_istore (lv' := [(9, .int (usS td M pp j + (M 8 j))), (8, .int (hsS M pp j + (M 9 j))), (0, .ref (ad 0)), (1, .ref (q 1)), (2, .ref (q 2)), (3, .ref (q 4)), (4, .ref (q 5)), (5, .ref (q 7)), (6, .int 1), (7, .int (nI pp)), (10, .int (nI j))]) hx hb dL_isMoney_140 hl (by decide) rfl (fun ls hl => ?_)
                refine lv_iinc (v := nI (j + 1)) (lv' := [(10, .int (nI (j + 1))), (9, .int (usS td M pp j + (M 8 j))), (8, .int (hsS M pp j + (M 9 j))), (0, .ref (ad 0)), (1, .ref (q 1)), (2, .ref (q 2)), (3, .ref (q 4)), (4, .ref (q 5)), (5, .ref (q 7)), (6, .int 1), (7, .int (nI pp))]) hx hb dL_isMoney_142 hl (k := 10) rfl (kinc j) (by decide) rfl (fun ls hl => ?_)
                refine lv_goto (tgt := 58) hx hb dL_isMoney_145 (by decide) ?_
                exact (ih (j + 1) w  ls H locs (by omega) hDk hP hD hS (by rw [hsS_t (hpe.mp h77), usS_t ⟨hpe.mp h103, h111, h126⟩]; exact lv_sub hl [3, 4, 5, 6, 7, 8, 9, 10, 2, 1, 0] rfl))
      refine LOOPJ _ (fun w  ls H locs hDk hP hD hS hl => ?_) n 0 w  ls _ _ (by omega) hDk hP hD hS (lv_sub hl [3, 4, 5, 6, 7, 8, 9, 10, 2, 1, 0] rfl)
      refine lv_aload_n hx hb dL_isMoney_148 rfl (lv_at hl 0 rfl) ?_
      refine lv_iload hx hb dL_isMoney_149 (lv_at hl 7 rfl) ?_
      refine lv_bipush (v := 8) hx hb dL_isMoney_151 (by decide) ?_
      refine lv_idiv hx hb dL_isMoney_153 (by decide) ?_
      refine ktop (z := nI (pp / 8)) (d8 (by omega)) ?_
      refine lv_iload hx hb dL_isMoney_154 (lv_at hl 7 rfl) ?_
      refine lv_bipush (v := 8) hx hb dL_isMoney_156 (by decide) ?_
      refine lv_irem hx hb dL_isMoney_158 (by decide) ?_
      refine ktop (z := nI (pp % 8)) (m8 (by omega)) ?_
      obtain ⟨bad, rm, kq, idx, hQ⟩ := hDk
      refine kf_i (W2 := LA K q fb ft fn fm fl fu fg) (va_runV (As := [.int (nI (pp / 8)), .int (nI (pp % 8))]) (rest := []) ⟨hx, hb, hml, hown, hts⟩ (c_claim_p hQ hp32) (cwV 2 hts gL_isMoney_X1_claim rfl rfl rfl (by decide +kernel) ⟨(Nat.le_of_ble_eq_true rfl), (Nat.le_of_ble_eq_true rfl)⟩) (lpv (q0 := 0) hG hP hD hS hQ.x rfl) rfl rfl hl.1 rfl (lv_room (Nat.le_of_ble_eq_true rfl)) dL_isMoney_159 ⟨(Nat.le_of_ble_eq_true rfl), (Nat.le_of_ble_eq_true rfl)⟩) hS hP hD (fun r159 w H locs hp hP hD hS => ?_)
      obtain ⟨hv9, hp⟩ := hp
      rw [hv9]
      have hDk : DE K ad td n M w := ⟨_, _, _, _, hp⟩
      refine lv_if_lt (tgt := 218) hx hb dL_isMoney_162 (by decide) (fun h162 => False.elim (hcl h162)) (fun h162 => ?_)
      refine lv_aload_n hx hb dL_isMoney_165 rfl (lv_at hl 0 rfl) ?_
      refine lv_iload hx hb dL_isMoney_166 (lv_at hl 7 rfl) ?_
      refine lv_bipush (v := 8) hx hb dL_isMoney_168 (by decide) ?_
      refine lv_idiv hx hb dL_isMoney_170 (by decide) ?_
      refine ktop (z := nI (pp / 8)) (d8 (by omega)) ?_
      refine lv_iload hx hb dL_isMoney_171 (lv_at hl 7 rfl) ?_
      refine lv_bipush (v := 8) hx hb dL_isMoney_173 (by decide) ?_
      refine lv_irem hx hb dL_isMoney_175 (by decide) ?_
      refine ktop (z := nI (pp % 8)) (m8 (by omega)) ?_
      obtain ⟨bad, rm, kq, idx, hQ⟩ := hDk
      refine kf_i (W2 := LA K q fb ft fn fm fl fu fg) (va_runV (As := [.int (nI (pp / 8)), .int (nI (pp % 8))]) (rest := []) ⟨hx, hb, hml, hown, hts⟩ (c_claim_p hQ hp32) (cwV 2 hts gL_isMoney_X1_claim rfl rfl rfl (by decide +kernel) ⟨(Nat.le_of_ble_eq_true rfl), (Nat.le_of_ble_eq_true rfl)⟩) (lpv (q0 := 0) hG hP hD hS hQ.x rfl) rfl rfl hl.1 rfl (lv_room (Nat.le_of_ble_eq_true rfl)) dL_isMoney_176 ⟨(Nat.le_of_ble_eq_true rfl), (Nat.le_of_ble_eq_true rfl)⟩) hS hP hD (fun r176 w H locs hp hP hD hS => ?_)
      obtain ⟨hv9, hp⟩ := hp
      rw [hv9]
      have hDk : DE K ad td n M w := ⟨_, _, _, _, hp⟩
      refine lv_iload hx hb dL_isMoney_179 (lv_at hl 8 rfl) ?_
      refine lv_iadd hx hb dL_isMoney_181 ?_
      refine lv_aload_n hx hb dL_isMoney_182 rfl (lv_at hl 3 rfl) ?_
      refine lv_iload hx hb dL_isMoney_183 (lv_at hl 7 rfl) ?_
      refine kla_ld (n := 32) (j := pp) (z := ((M 13 pp) + hsS M pp n)) hx hb hG hP 3 rfl (hR.m hp32) rfl (by omega) (by decide) dL_isMoney_185 ?_
      refine lv_icmp_ne (tgt := 218) hx hb dL_isMoney_186 (by decide) (fun h186 => False.elim (absurd rfl h186)) (fun h186 => ?_)
      refine lv_aload_n hx hb dL_isMoney_189 rfl (lv_at hl 0 rfl) ?_
      refine lv_iload hx hb dL_isMoney_190 (lv_at hl 7 rfl) ?_
      refine lv_bipush (v := 8) hx hb dL_isMoney_192 (by decide) ?_
      refine lv_idiv hx hb dL_isMoney_194 (by decide) ?_
      refine ktop (z := nI (pp / 8)) (d8 (by omega)) ?_
      refine lv_iload hx hb dL_isMoney_195 (lv_at hl 7 rfl) ?_
      refine lv_bipush (v := 8) hx hb dL_isMoney_197 (by decide) ?_
      refine lv_irem hx hb dL_isMoney_199 (by decide) ?_
      refine ktop (z := nI (pp % 8)) (m8 (by omega)) ?_
      obtain ⟨bad, rm, kq, idx, hQ⟩ := hDk
      refine kf_i (W2 := LA K q fb ft fn fm fl fu fg) (va_runV (As := [.int (nI (pp / 8)), .int (nI (pp % 8))]) (rest := []) ⟨hx, hb, hml, hown, hts⟩ (c_left_p hQ hok hp32) (cwV 2 hts gL_isMoney_X1_left rfl rfl rfl (by decide +kernel) ⟨(Nat.le_of_ble_eq_true rfl), (Nat.le_of_ble_eq_true rfl)⟩) (lpv (q0 := 0) hG hP hD hS hQ.x rfl) rfl rfl hl.1 rfl (lv_room (Nat.le_of_ble_eq_true rfl)) dL_isMoney_200 ⟨(Nat.le_of_ble_eq_true rfl), (Nat.le_of_ble_eq_true rfl)⟩) hS hP hD (fun r200 w H locs hp hP hD hS => ?_)
      obtain ⟨hv9, hp⟩ := hp
      rw [hv9]
      have hDk : DE K ad td n M w := ⟨_, _, _, _, hp⟩
      refine lv_aload hx hb dL_isMoney_203 (lv_at hl 4 rfl) ?_
      refine lv_iload hx hb dL_isMoney_205 (lv_at hl 7 rfl) ?_
      refine kla_ld (n := 32) (j := pp) (z := (M 12 pp)) hx hb hG hP 4 rfl (hR.l hp32) rfl (by omega) (by decide) dL_isMoney_207 ?_
      refine lv_iload hx hb dL_isMoney_208 (lv_at hl 9 rfl) ?_
      refine lv_isub hx hb dL_isMoney_210 ?_
      refine lv_icmp_ne (tgt := 218) hx hb dL_isMoney_211 (by decide) (fun h211 => False.elim (absurd rfl h211)) (fun h211 => ?_)
      refine lv_iconst (v := 1) hx hb dL_isMoney_214 (by decide) ?_
      refine lv_goto (tgt := 219) hx hb dL_isMoney_215 (by decide) ?_
      refine lv_istore (lv' := [(6, .int 1), (0, .ref (ad 0)), (1, .ref (q 1)), (2, .ref (q 2)), (3, .ref (q 4)), (4, .ref (q 5)), (5, .ref (q 7)), (7, .int (nI pp)), (8, .int (hsS M pp n)), (9, .int (usS td M pp n)), (10, .int (nI n))]) hx hb dL_isMoney_219 hl (by decide) rfl (fun ls hl => ?_)
      refine lv_iinc (v := nI (pp + 1)) (lv' := [(7, .int (nI (pp + 1))), (6, .int 1), (0, .ref (ad 0)), (1, .ref (q 1)), (2, .ref (q 2)), (3, .ref (q 4)), (4, .ref (q 5)), (5, .ref (q 7)), (8, .int (hsS M pp n)), (9, .int (usS td M pp n)), (10, .int (nI n))]) hx hb dL_isMoney_221 hl (k := 7) rfl (kinc pp) (by decide) rfl (fun ls hl => ?_)
      refine lv_goto (tgt := 37) hx hb dL_isMoney_224 (by decide) ?_
      exact (ih (pp + 1) w  ls H locs (by omega) hDk hP hD hS (lv_sub hl [2, 3, 4, 5, 6, 7, 1, 0] rfl))
  refine LOOP _ (fun w  ls H locs hDk hP hD hS hl => ?_) 32 0 w  ls _ _ (by omega) hDk hP hD hS (lv_sub hl [2, 3, 4, 5, 6, 7, 1, 0] rfl)
  refine lv_iconst (v := 0) hx hb dL_isMoney_227 (by decide) ?_
  refine lv_istore (lv' := [(7, .int 0), (0, .ref (ad 0)), (1, .ref (q 1)), (2, .ref (q 2)), (3, .ref (q 4)), (4, .ref (q 5)), (5, .ref (q 7)), (6, .int 1)]) hx hb dL_isMoney_228 hl (by decide) rfl (fun ls hl => ?_)
  have LOOP : ∀ (Q' : State → Prop), (∀ (w : va_W)  (ls : Array Slot) (H : Heap) (locs : List Loc), DE K ad td n M w → va_P K.1 kCl (w ++ LA K q fb ft fn fm fl fu fg) H → va_D A (w ++ LA K q fb ft fn fm fl fu fg) → va_S A s.heap H locs → lv_has ls 12 [(0, .ref (ad 0)), (1, .ref (q 1)), (2, .ref (q 2)), (3, .ref (q 4)), (4, .ref (q 5)), (5, .ref (q 7)), (6, .int 1), (7, .int (nI 4))] → W p l e ((kR 7 7 42)) s m args below meth c H locs (2 + 1 * 4) (12 + 6 * 4) Q' (F0 m 381 ls [])) → ∀ (d bb : Nat) (w : va_W)  (ls : Array Slot) (H : Heap) (locs : List Loc), bb + d = 4 → DE K ad td n M w → va_P K.1 kCl (w ++ LA K q fb ft fn fm fl fu fg) H → va_D A (w ++ LA K q fb ft fn fm fl fu fg) → va_S A s.heap H locs → lv_has ls 12 [(0, .ref (ad 0)), (1, .ref (q 1)), (2, .ref (q 2)), (3, .ref (q 4)), (4, .ref (q 5)), (5, .ref (q 7)), (6, .int 1), (7, .int (nI bb))] → W p l e ((kR 7 7 42)) s m args below meth c H locs (2 + 1 * bb) (12 + 6 * bb) Q' (F0 m 230 ls []) := by
    intro Q' kx d
    induction d with
    | zero =>
      intro bb w  ls H locs hk hDk hP hD hS hl
      have hk2 : bb = 4 := by omega
      refine lv_iload hx hb dL_isMoney_230 (lv_at hl 7 rfl) ?_
      refine lv_iconst (v := 4) hx hb dL_isMoney_232 (by decide) ?_
      refine lv_icmp_ge (tgt := 381) hx hb dL_isMoney_233 (by decide) (fun h233 => ?_) (fun h233 => False.elim (absurd (nI_le (Nat.le_of_eq hk2.symm) (by omega)) h233))
      have hk3 : 4 = bb := hk2.symm
      subst hk3
      exact kx w  ls H locs hDk hP hD hS (lv_sub hl [0, 1, 2, 3, 4, 5, 6, 7] rfl)
    | succ d ih =>
      intro bb w  ls H locs hk hDk hP hD hS hl
      have hk2 : bb < 4 := by omega
      have hb4 : bb < 4 := hk2
      refine lv_iload hx hb dL_isMoney_230 (lv_at hl 7 rfl) ?_
      refine lv_iconst (v := 4) hx hb dL_isMoney_232 (by decide) ?_
      refine lv_icmp_ge (tgt := 381) hx hb dL_isMoney_233 (by decide) (fun h233 => False.elim (absurd h233 (nI_ge (b := 4) hk2 (by decide)))) (fun h233 => ?_)
      refine lv_iload hx hb dL_isMoney_236 (lv_at hl 6 rfl) ?_
      refine lv_if_eq (tgt := 381) hx hb dL_isMoney_238 (by decide) (fun h238 => False.elim (absurd h238 (by decide))) (fun h238 => ?_)
      refine lv_iconst (v := 0) hx hb dL_isMoney_241 (by decide) ?_
      refine lv_istore (lv' := [(8, .int 0), (0, .ref (ad 0)), (1, .ref (q 1)), (2, .ref (q 2)), (3, .ref (q 4)), (4, .ref (q 5)), (5, .ref (q 7)), (6, .int 1), (7, .int (nI bb))]) hx hb dL_isMoney_242 hl (by decide) rfl (fun ls hl => ?_)
      refine lv_iconst (v := 0) hx hb dL_isMoney_244 (by decide) ?_
      refine lv_istore (lv' := [(9, .int 0), (8, .int 0), (0, .ref (ad 0)), (1, .ref (q 1)), (2, .ref (q 2)), (3, .ref (q 4)), (4, .ref (q 5)), (5, .ref (q 7)), (6, .int 1), (7, .int (nI bb))]) hx hb dL_isMoney_245 hl (by decide) rfl (fun ls hl => ?_)
      refine lv_iconst (v := 0) hx hb dL_isMoney_247 (by decide) ?_
      refine lv_istore (lv' := [(10, .int 0), (9, .int 0), (8, .int 0), (0, .ref (ad 0)), (1, .ref (q 1)), (2, .ref (q 2)), (3, .ref (q 4)), (4, .ref (q 5)), (5, .ref (q 7)), (6, .int 1), (7, .int (nI bb))]) hx hb dL_isMoney_248 hl (by decide) rfl (fun ls hl => ?_)
      have LOOPJ : ∀ (Q' : State → Prop), (∀ (w : va_W)  (ls : Array Slot) (H : Heap) (locs : List Loc), DE K ad td n M w → va_P K.1 kCl (w ++ LA K q fb ft fn fm fl fu fg) H → va_D A (w ++ LA K q fb ft fn fm fl fu fg) → va_S A s.heap H locs → lv_has ls 12 [(0, .ref (ad 0)), (1, .ref (q 1)), (2, .ref (q 2)), (3, .ref (q 4)), (4, .ref (q 5)), (5, .ref (q 7)), (6, .int 1), (7, .int (nI bb)), (8, .int (adS M bb n)), (9, .int (adA M bb n)), (10, .int (nI n))] → W p l e ((kR 7 7 42)) s m args below meth c H locs (2 + 1 * bb) (12 + 6 * bb) Q' (F0 m 341 ls [])) → ∀ (d j : Nat) (w : va_W)  (ls : Array Slot) (H : Heap) (locs : List Loc), j + d = n → DE K ad td n M w → va_P K.1 kCl (w ++ LA K q fb ft fn fm fl fu fg) H → va_D A (w ++ LA K q fb ft fn fm fl fu fg) → va_S A s.heap H locs → lv_has ls 12 [(0, .ref (ad 0)), (1, .ref (q 1)), (2, .ref (q 2)), (3, .ref (q 4)), (4, .ref (q 5)), (5, .ref (q 7)), (6, .int 1), (7, .int (nI bb)), (8, .int (adS M bb j)), (9, .int (adA M bb j)), (10, .int (nI j))] → W p l e ((kR 7 7 42)) s m args below meth c H locs (2 + 1 * bb) (12 + 6 * bb) Q' (F0 m 250 ls []) := by
        intro Q' kx d
        induction d with
        | zero =>
          intro j w  ls H locs hk hDk hP hD hS hl
          have hk2 : j = n := by omega
          refine lv_iload hx hb dL_isMoney_250 (lv_at hl 10 rfl) ?_
          refine lv_aload hx hb dL_isMoney_252 (lv_at hl 5 rfl) ?_
          refine lv_iconst (v := 0) hx hb dL_isMoney_254 (by decide) ?_
          refine kla_ld (n := 2) (j := 0) (z := (nI n)) hx hb hG hP 6 rfl hR.g0 rfl (by omega) (by decide) dL_isMoney_255 ?_
          refine lv_icmp_ge (tgt := 341) hx hb dL_isMoney_256 (by decide) (fun h256 => ?_) (fun h256 => False.elim (absurd (nI_le (Nat.le_of_eq hk2.symm) (by omega)) h256))
          have hk3 : n = j := hk2.symm
          subst hk3
          exact kx w  ls H locs hDk hP hD hS (lv_sub hl [0, 1, 2, 3, 4, 5, 6, 7, 8, 9, 10] rfl)
        | succ d ih =>
          intro j w  ls H locs hk hDk hP hD hS hl
          have hk2 : j < n := by omega
          have hbe : nI (bu M j) = nI bb ↔ M 2 j = nI bb := by rw [← (hok j hk2).1]
          refine lv_iload hx hb dL_isMoney_250 (lv_at hl 10 rfl) ?_
          refine lv_aload hx hb dL_isMoney_252 (lv_at hl 5 rfl) ?_
          refine lv_iconst (v := 0) hx hb dL_isMoney_254 (by decide) ?_
          refine kla_ld (n := 2) (j := 0) (z := (nI n)) hx hb hG hP 6 rfl hR.g0 rfl (by omega) (by decide) dL_isMoney_255 ?_
          refine lv_icmp_ge (tgt := 341) hx hb dL_isMoney_256 (by decide) (fun h256 => False.elim (absurd h256 (nI_ge hk2 (by omega)))) (fun h256 => ?_)
          refine lv_aload_n hx hb dL_isMoney_259 rfl (lv_at hl 1 rfl) ?_
          refine lv_iconst (v := 2) hx hb dL_isMoney_260 (by decide) ?_
          refine lv_iload hx hb dL_isMoney_261 (lv_at hl 10 rfl) ?_
          refine lv_imul hx hb dL_isMoney_263 ?_
          refine kla_ld (n := 60) (j := 2 * j) (z := (nI (pr M j))) hx hb hG hP 0 (x2 j) (hR.b0 hk2) rfl (by omega) (by decide) dL_isMoney_264 ?_
          refine lv_bipush (v := 8) hx hb dL_isMoney_265 (by decide) ?_
          refine lv_idiv hx hb dL_isMoney_267 (by decide) ?_
          refine ktop (z := nI (bu M j)) ((d8 (by have := (pr_lt (hok j hk2)).1; omega)).trans (congrArg nI (pr_lt (hok j hk2)).2.1)) ?_
          refine lv_iload hx hb dL_isMoney_268 (lv_at hl 7 rfl) ?_
          refine lv_icmp_ne (tgt := 285) hx hb dL_isMoney_270 (by decide) (fun h270 => ?_) (fun h270 => ?_)
          · refine lv_iconst (v := 0) hx hb dL_isMoney_285 (by decide) ?_
            refine lv_istore (lv' := [(11, .int 0), (0, .ref (ad 0)), (1, .ref (q 1)), (2, .ref (q 2)), (3, .ref (q 4)), (4, .ref (q 5)), (5, .ref (q 7)), (6, .int 1), (7, .int (nI bb)), (8, .int (adS M bb j)), (9, .int (adA M bb j)), (10, .int (nI j))]) hx hb dL_isMoney_286 hl (by decide) rfl (fun ls hl => ?_)
            refine lv_iload hx hb dL_isMoney_288 (lv_at hl 9 rfl) ?_
            refine lv_iload hx hb dL_isMoney_290 (lv_at hl 0 rfl) ?_
            refine lv_if_eq (tgt := 311) hx hb dL_isMoney_292 (by decide) (fun h292 => ?_) (fun h292 => False.elim (absurd (by decide) h292))
            refine lv_iconst (v := 0) hx hb dL_isMoney_311 (by decide) ?_
            refine lv_iadd hx hb dL_isMoney_312 ?_
            refine lv_istore (lv' := [(8, .int (adS M bb j + 0)), (11, .int 0), (0, .ref (ad 0)), (1, .ref (q 1)), (2, .ref (q 2)), (3, .ref (q 4)), (4, .ref (q 5)), (5, .ref (q 7)), (6, .int 1), (7, .int (nI bb)), (9, .int (adA M bb j)), (10, .int (nI j))]) hx hb dL_isMoney_313 hl (by decide) rfl (fun ls hl => ?_)
            refine lv_iload hx hb dL_isMoney_315 (lv_at hl 10 rfl) ?_
            refine lv_iload hx hb dL_isMoney_317 (lv_at hl 1 rfl) ?_
            refine lv_if_eq (tgt := 331) hx hb dL_isMoney_319 (by decide) (fun h319 => ?_) (fun h319 => False.elim (absurd (by decide) h319))
            refine lv_iconst (v := 0) hx hb dL_isMoney_331 (by decide) ?_
            refine lv_iadd hx hb dL_isMoney_332 ?_
            refine lv_istore (lv' := [(9, .int (adA M bb j + 0)), (8, .int (adS M bb j + 0)), (11, .int 0), (0, .ref (ad 0)), (1, .ref (q 1)), (2, .ref (q 2)), (3, .ref (q 4)), (4, .ref (q 5)), (5, .ref (q 7)), (6, .int 1), (7, .int (nI bb)), (10, .int (nI j))]) hx hb dL_isMoney_333 hl (by decide) rfl (fun ls hl => ?_)
            refine lv_iinc (v := nI (j + 1)) (lv' := [(10, .int (nI (j + 1))), (9, .int (adA M bb j + 0)), (8, .int (adS M bb j + 0)), (11, .int 0), (0, .ref (ad 0)), (1, .ref (q 1)), (2, .ref (q 2)), (3, .ref (q 4)), (4, .ref (q 5)), (5, .ref (q 7)), (6, .int 1), (7, .int (nI bb))]) hx hb dL_isMoney_335 hl (k := 11) rfl (kinc j) (by decide) rfl (fun ls hl => ?_)
            refine lv_goto (tgt := 250) hx hb dL_isMoney_338 (by decide) ?_
            exact (ih (j + 1) w  ls H locs (by omega) hDk hP hD hS (by rw [adS_f (fun q => h270 (hbe.mpr q.1)), adA_f (fun q => h270 (hbe.mpr q.1))]; exact lv_sub hl [4, 5, 6, 7, 8, 9, 10, 11, 2, 1, 0] rfl))
          · refine lv_aload_n hx hb dL_isMoney_273 rfl (lv_at hl 2 rfl) ?_
            refine lv_iload hx hb dL_isMoney_274 (lv_at hl 10 rfl) ?_
            refine kla_ld (n := 60) (j := j) (z := (M 6 j)) hx hb hG hP 1 rfl (hR.t0 hk2) rfl (by omega) (by decide) dL_isMoney_276 ?_
            refine lv_iconst (v := 3) hx hb dL_isMoney_277 (by decide) ?_
            refine lv_icmp_ne (tgt := 285) hx hb dL_isMoney_278 (by decide) (fun h278 => ?_) (fun h278 => ?_)
            · refine lv_iconst (v := 0) hx hb dL_isMoney_285 (by decide) ?_
              refine lv_istore (lv' := [(11, .int 0), (0, .ref (ad 0)), (1, .ref (q 1)), (2, .ref (q 2)), (3, .ref (q 4)), (4, .ref (q 5)), (5, .ref (q 7)), (6, .int 1), (7, .int (nI bb)), (8, .int (adS M bb j)), (9, .int (adA M bb j)), (10, .int (nI j))]) hx hb dL_isMoney_286 hl (by decide) rfl (fun ls hl => ?_)
              refine lv_iload hx hb dL_isMoney_288 (lv_at hl 9 rfl) ?_
              refine lv_iload hx hb dL_isMoney_290 (lv_at hl 0 rfl) ?_
              refine lv_if_eq (tgt := 311) hx hb dL_isMoney_292 (by decide) (fun h292 => ?_) (fun h292 => False.elim (absurd (by decide) h292))
              refine lv_iconst (v := 0) hx hb dL_isMoney_311 (by decide) ?_
              refine lv_iadd hx hb dL_isMoney_312 ?_
              refine lv_istore (lv' := [(8, .int (adS M bb j + 0)), (11, .int 0), (0, .ref (ad 0)), (1, .ref (q 1)), (2, .ref (q 2)), (3, .ref (q 4)), (4, .ref (q 5)), (5, .ref (q 7)), (6, .int 1), (7, .int (nI bb)), (9, .int (adA M bb j)), (10, .int (nI j))]) hx hb dL_isMoney_313 hl (by decide) rfl (fun ls hl => ?_)
              refine lv_iload hx hb dL_isMoney_315 (lv_at hl 10 rfl) ?_
              refine lv_iload hx hb dL_isMoney_317 (lv_at hl 1 rfl) ?_
              refine lv_if_eq (tgt := 331) hx hb dL_isMoney_319 (by decide) (fun h319 => ?_) (fun h319 => False.elim (absurd (by decide) h319))
              refine lv_iconst (v := 0) hx hb dL_isMoney_331 (by decide) ?_
              refine lv_iadd hx hb dL_isMoney_332 ?_
              refine lv_istore (lv' := [(9, .int (adA M bb j + 0)), (8, .int (adS M bb j + 0)), (11, .int 0), (0, .ref (ad 0)), (1, .ref (q 1)), (2, .ref (q 2)), (3, .ref (q 4)), (4, .ref (q 5)), (5, .ref (q 7)), (6, .int 1), (7, .int (nI bb)), (10, .int (nI j))]) hx hb dL_isMoney_333 hl (by decide) rfl (fun ls hl => ?_)
              refine lv_iinc (v := nI (j + 1)) (lv' := [(10, .int (nI (j + 1))), (9, .int (adA M bb j + 0)), (8, .int (adS M bb j + 0)), (11, .int 0), (0, .ref (ad 0)), (1, .ref (q 1)), (2, .ref (q 2)), (3, .ref (q 4)), (4, .ref (q 5)), (5, .ref (q 7)), (6, .int 1), (7, .int (nI bb))]) hx hb dL_isMoney_335 hl (k := 11) rfl (kinc j) (by decide) rfl (fun ls hl => ?_)
              refine lv_goto (tgt := 250) hx hb dL_isMoney_338 (by decide) ?_
              exact (ih (j + 1) w  ls H locs (by omega) hDk hP hD hS (by rw [adS_f (fun q => h278 q.2), adA_f (fun q => h278 q.2)]; exact lv_sub hl [4, 5, 6, 7, 8, 9, 10, 11, 2, 1, 0] rfl))
            · refine lv_iconst (v := 1) hx hb dL_isMoney_281 (by decide) ?_
              refine lv_goto (tgt := 286) hx hb dL_isMoney_282 (by decide) ?_
              refine lv_istore (lv' := [(11, .int 1), (0, .ref (ad 0)), (1, .ref (q 1)), (2, .ref (q 2)), (3, .ref (q 4)), (4, .ref (q 5)), (5, .ref (q 7)), (6, .int 1), (7, .int (nI bb)), (8, .int (adS M bb j)), (9, .int (adA M bb j)), (10, .int (nI j))]) hx hb dL_isMoney_286 hl (by decide) rfl (fun ls hl => ?_)
              refine lv_iload hx hb dL_isMoney_288 (lv_at hl 9 rfl) ?_
              refine lv_iload hx hb dL_isMoney_290 (lv_at hl 0 rfl) ?_
              refine lv_if_eq (tgt := 311) hx hb dL_isMoney_292 (by decide) (fun h292 => False.elim (absurd h292 (by decide))) (fun h292 => ?_)
              refine lv_aload_n hx hb dL_isMoney_295 rfl (lv_at hl 1 rfl) ?_
              refine lv_iload hx hb dL_isMoney_296 (lv_at hl 11 rfl) ?_
              obtain ⟨bad, rm, kq, idx, hQ⟩ := hDk
              refine kf_i (W2 := LA K q fb ft fn fm fl fu fg) (va_runV (As := [.int (nI j)]) (rest := [.int (adS M bb j)]) ⟨hx, hb, hml, hown, hts⟩ (c_X1_amount hQ hk2) (cwV 1 hts gL_isMoney_X1_amount rfl rfl rfl (by decide +kernel) ⟨(Nat.le_of_ble_eq_true rfl), (Nat.le_of_ble_eq_true rfl)⟩) (lpv (q0 := 0) hG hP hD hS hQ.x rfl) rfl rfl hl.1 rfl (lv_room (Nat.le_of_ble_eq_true rfl)) dL_isMoney_298 ⟨(by show _ ≤ 7; omega), (by show _ ≤ 42; omega)⟩) hS hP hD (fun r298 w H locs hp hP hD hS => ?_)
              obtain ⟨hv9, hp⟩ := hp
              rw [hv9]
              have hDk : DE K ad td n M w := ⟨_, _, _, _, hp⟩
              refine lv_aload_n hx hb dL_isMoney_301 rfl (lv_at hl 1 rfl) ?_
              refine lv_iload hx hb dL_isMoney_302 (lv_at hl 11 rfl) ?_
              obtain ⟨bad, rm, kq, idx, hQ⟩ := hDk
              refine kf_i (W2 := LA K q fb ft fn fm fl fu fg) (va_runV (As := [.int (nI j)]) (rest := [.int (M 4 j), .int (adS M bb j)]) ⟨hx, hb, hml, hown, hts⟩ (c_X1_paid hQ hk2) (cwV 1 hts gL_isMoney_X1_paid rfl rfl rfl (by decide +kernel) ⟨(Nat.le_of_ble_eq_true rfl), (Nat.le_of_ble_eq_true rfl)⟩) (lpv (q0 := 0) hG hP hD hS hQ.x rfl) rfl rfl hl.1 rfl (lv_room (Nat.le_of_ble_eq_true rfl)) dL_isMoney_304 ⟨(by show _ ≤ 7; omega), (by show _ ≤ 42; omega)⟩) hS hP hD (fun r304 w H locs hp hP hD hS => ?_)
              obtain ⟨hv9, hp⟩ := hp
              rw [hv9]
              have hDk : DE K ad td n M w := ⟨_, _, _, _, hp⟩
              refine lv_isub hx hb dL_isMoney_307 ?_
              refine lv_goto (tgt := 312) hx hb dL_isMoney_308 (by decide) ?_
              refine lv_iadd hx hb dL_isMoney_312 ?_
              refine lv_istore (lv' := [(8, .int (adS M bb j + ((M 4 j) - (M 8 j)))), (11, .int 1), (0, .ref (ad 0)), (1, .ref (q 1)), (2, .ref (q 2)), (3, .ref (q 4)), (4, .ref (q 5)), (5, .ref (q 7)), (6, .int 1), (7, .int (nI bb)), (9, .int (adA M bb j)), (10, .int (nI j))]) hx hb dL_isMoney_313 hl (by decide) rfl (fun ls hl => ?_)
              refine lv_iload hx hb dL_isMoney_315 (lv_at hl 10 rfl) ?_
              refine lv_iload hx hb dL_isMoney_317 (lv_at hl 1 rfl) ?_
              refine lv_if_eq (tgt := 331) hx hb dL_isMoney_319 (by decide) (fun h319 => False.elim (absurd h319 (by decide))) (fun h319 => ?_)
              refine lv_aload_n hx hb dL_isMoney_322 rfl (lv_at hl 2 rfl) ?_
              refine lv_iload hx hb dL_isMoney_323 (lv_at hl 11 rfl) ?_
              obtain ⟨bad, rm, kq, idx, hQ⟩ := hDk
              refine kf_i (W2 := LA K q fb ft fn fm fl fu fg) (va_runV (As := [.int (nI j)]) (rest := [.int (adA M bb j)]) ⟨hx, hb, hml, hown, hts⟩ (c_X1_amount hQ hk2) (cwV 1 hts gL_isMoney_X1_amount rfl rfl rfl (by decide +kernel) ⟨(Nat.le_of_ble_eq_true rfl), (Nat.le_of_ble_eq_true rfl)⟩) (lpv (q0 := 0) hG hP hD hS hQ.x rfl) rfl rfl hl.1 rfl (lv_room (Nat.le_of_ble_eq_true rfl)) dL_isMoney_325 ⟨(by show _ ≤ 7; omega), (by show _ ≤ 42; omega)⟩) hS hP hD (fun r325 w H locs hp hP hD hS => ?_)
              obtain ⟨hv9, hp⟩ := hp
              rw [hv9]
              have hDk : DE K ad td n M w := ⟨_, _, _, _, hp⟩
              refine lv_goto (tgt := 332) hx hb dL_isMoney_328 (by decide) ?_
              refine lv_iadd hx hb dL_isMoney_332 ?_
              refine lv_istore (lv' := [(9, .int (adA M bb j + (M 4 j))), (8, .int (adS M bb j + ((M 4 j) - (M 8 j)))), (11, .int 1), (0, .ref (ad 0)), (1, .ref (q 1)), (2, .ref (q 2)), (3, .ref (q 4)), (4, .ref (q 5)), (5, .ref (q 7)), (6, .int 1), (7, .int (nI bb)), (10, .int (nI j))]) hx hb dL_isMoney_333 hl (by decide) rfl (fun ls hl => ?_)
              refine lv_iinc (v := nI (j + 1)) (lv' := [(10, .int (nI (j + 1))), (9, .int (adA M bb j + (M 4 j))), (8, .int (adS M bb j + ((M 4 j) - (M 8 j)))), (11, .int 1), (0, .ref (ad 0)), (1, .ref (q 1)), (2, .ref (q 2)), (3, .ref (q 4)), (4, .ref (q 5)), (5, .ref (q 7)), (6, .int 1), (7, .int (nI bb))]) hx hb dL_isMoney_335 hl (k := 11) rfl (kinc j) (by decide) rfl (fun ls hl => ?_)
              refine lv_goto (tgt := 250) hx hb dL_isMoney_338 (by decide) ?_
              exact (ih (j + 1) w  ls H locs (by omega) hDk hP hD hS (by rw [adS_t ⟨hbe.mp h270, h278⟩, adA_t ⟨hbe.mp h270, h278⟩]; exact lv_sub hl [4, 5, 6, 7, 8, 9, 10, 11, 2, 1, 0] rfl))
      refine LOOPJ _ (fun w  ls H locs hDk hP hD hS hl => ?_) n 0 w  ls _ _ (by omega) hDk hP hD hS (lv_sub hl [3, 4, 5, 6, 7, 8, 9, 10, 2, 1, 0] rfl)
      by_cases hz : adA M bb n = 0
      · refine lv_aload_n hx hb dL_isMoney_341 rfl (lv_at hl 0 rfl) ?_
        refine lv_iload hx hb dL_isMoney_342 (lv_at hl 7 rfl) ?_
        refine kf_f (W2 := LA K q fb ft fn fm fl fu fg) (vx_runSW (As := [.ref (ad 0), .int (nI bb)]) (rest := []) ⟨hx, hb, hml, hown, hts⟩ (a_average_tp hDk hlt hb4 hz) (vx_cwSW 2 hts gL_isMoney_L_average rfl rfl rfl (by decide +kernel) ⟨(Nat.le_of_ble_eq_true rfl), (Nat.le_of_ble_eq_true rfl)⟩) (lps hG hP hD hS) rfl rfl hl.1 rfl (lv_room (Nat.le_of_ble_eq_true rfl)) dL_isMoney_344 ⟨(by show _ ≤ 7; omega), (by show _ ≤ 42; omega)⟩) hS hP hD (fun r344 w H locs hp hP hD hS => ?_)
        obtain ⟨hv9, hp⟩ := hp
        rw [hv9]
        have hDk : DE K ad td n M w := hp
        refine lv_iload hx hb dL_isMoney_347 (lv_at hl 9 rfl) ?_
        refine lv_if_ne (tgt := 357) hx hb dL_isMoney_349 (by decide) (fun h349 => False.elim (h349 hz)) (fun h349 => ?_)
        refine lv_ldcf (v := 3240099840) hx hb hown (hts (.constantFloat RL 89 3240099840) (by decide +kernel)) dL_isMoney_352 ?_
        refine lv_goto (tgt := 364) hx hb dL_isMoney_354 (by decide) ?_
        refine lv_fcmp hx hb dL_isMoney_364 ?_
        refine ktop (z := 0) fcd ?_
        refine lv_if_ne (tgt := 372) hx hb dL_isMoney_365 (by decide) (fun h365 => False.elim (absurd (by decide) h365)) (fun h365 => ?_)
        refine lv_iconst (v := 1) hx hb dL_isMoney_368 (by decide) ?_
        refine lv_goto (tgt := 373) hx hb dL_isMoney_369 (by decide) ?_
        refine lv_istore (lv' := [(6, .int 1), (0, .ref (ad 0)), (1, .ref (q 1)), (2, .ref (q 2)), (3, .ref (q 4)), (4, .ref (q 5)), (5, .ref (q 7)), (7, .int (nI bb)), (8, .int (adS M bb n)), (9, .int (adA M bb n)), (10, .int (nI n))]) hx hb dL_isMoney_373 hl (by decide) rfl (fun ls hl => ?_)
        refine lv_iinc (v := nI (bb + 1)) (lv' := [(7, .int (nI (bb + 1))), (6, .int 1), (0, .ref (ad 0)), (1, .ref (q 1)), (2, .ref (q 2)), (3, .ref (q 4)), (4, .ref (q 5)), (5, .ref (q 7)), (8, .int (adS M bb n)), (9, .int (adA M bb n)), (10, .int (nI n))]) hx hb dL_isMoney_375 hl (k := 7) rfl (kinc bb) (by decide) rfl (fun ls hl => ?_)
        refine lv_goto (tgt := 230) hx hb dL_isMoney_378 (by decide) ?_
        exact W.widen (k := 2 + 1 * (bb + 1)) (n := 12 + 6 * (bb + 1)) (by omega) (by omega) (ih (bb + 1) w  ls H locs (by omega) hDk hP hD hS (lv_sub hl [2, 3, 4, 5, 6, 7, 1, 0] rfl))
      · refine lv_aload_n hx hb dL_isMoney_341 rfl (lv_at hl 0 rfl) ?_
        refine lv_iload hx hb dL_isMoney_342 (lv_at hl 7 rfl) ?_
        refine kf_f (W2 := LA K q fb ft fn fm fl fu fg) (vx_runSW (As := [.ref (ad 0), .int (nI bb)]) (rest := []) ⟨hx, hb, hml, hown, hts⟩ (a_average hDk hb4 hz) (vx_cwSW 2 hts gL_isMoney_L_average rfl rfl rfl (by decide +kernel) ⟨(Nat.le_of_ble_eq_true rfl), (Nat.le_of_ble_eq_true rfl)⟩) (lps hG hP hD hS) rfl rfl hl.1 rfl (lv_room (Nat.le_of_ble_eq_true rfl)) dL_isMoney_344 ⟨(by show _ ≤ 7; omega), (by show _ ≤ 42; omega)⟩) hS hP hD (fun r344 w H locs hp hP hD hS => ?_)
        obtain ⟨hv9, hp⟩ := hp
        rw [hv9]
        have hDk : DE K ad td n M w := hp
        refine lv_iload hx hb dL_isMoney_347 (lv_at hl 9 rfl) ?_
        refine lv_if_ne (tgt := 357) hx hb dL_isMoney_349 (by decide) (fun h349 => ?_) (fun h349 => False.elim (hz h349))
        refine lv_iload hx hb dL_isMoney_357 (lv_at hl 8 rfl) ?_
        refine lv_i2f hx hb dL_isMoney_359 ?_
        refine lv_iload hx hb dL_isMoney_360 (lv_at hl 9 rfl) ?_
        refine lv_i2f hx hb dL_isMoney_362 ?_
        refine lv_fdiv hx hb dL_isMoney_363 (fdN hz) ?_
        refine lv_fcmp hx hb dL_isMoney_364 ?_
        refine ktop (z := 0) (fcs hz) ?_
        refine lv_if_ne (tgt := 372) hx hb dL_isMoney_365 (by decide) (fun h365 => False.elim (absurd (by decide) h365)) (fun h365 => ?_)
        refine lv_iconst (v := 1) hx hb dL_isMoney_368 (by decide) ?_
        refine lv_goto (tgt := 373) hx hb dL_isMoney_369 (by decide) ?_
        refine lv_istore (lv' := [(6, .int 1), (0, .ref (ad 0)), (1, .ref (q 1)), (2, .ref (q 2)), (3, .ref (q 4)), (4, .ref (q 5)), (5, .ref (q 7)), (7, .int (nI bb)), (8, .int (adS M bb n)), (9, .int (adA M bb n)), (10, .int (nI n))]) hx hb dL_isMoney_373 hl (by decide) rfl (fun ls hl => ?_)
        refine lv_iinc (v := nI (bb + 1)) (lv' := [(7, .int (nI (bb + 1))), (6, .int 1), (0, .ref (ad 0)), (1, .ref (q 1)), (2, .ref (q 2)), (3, .ref (q 4)), (4, .ref (q 5)), (5, .ref (q 7)), (8, .int (adS M bb n)), (9, .int (adA M bb n)), (10, .int (nI n))]) hx hb dL_isMoney_375 hl (k := 7) rfl (kinc bb) (by decide) rfl (fun ls hl => ?_)
        refine lv_goto (tgt := 230) hx hb dL_isMoney_378 (by decide) ?_
        exact W.widen (k := 2 + 1 * (bb + 1)) (n := 12 + 6 * (bb + 1)) (by omega) (by omega) (ih (bb + 1) w  ls H locs (by omega) hDk hP hD hS (lv_sub hl [2, 3, 4, 5, 6, 7, 1, 0] rfl))
  refine LOOP _ (fun w  ls H locs hDk hP hD hS hl => ?_) 4 0 w  ls _ _ (by omega) hDk hP hD hS (lv_sub hl [1, 2, 3, 4, 5, 6, 7, 0] rfl)
  refine lv_iload hx hb dL_isMoney_381 (lv_at hl 6 rfl) ?_
  refine lv_if_eq (tgt := 401) hx hb dL_isMoney_383 (by decide) (fun h383 => False.elim (absurd h383 (by decide))) (fun h383 => ?_)
  refine lv_aload_n hx hb dL_isMoney_386 rfl (lv_at hl 0 rfl) ?_
  refine lv_iconst (v := 4) hx hb dL_isMoney_387 (by decide) ?_
  refine kf_f (W2 := LA K q fb ft fn fm fl fu fg) (vx_runSW (As := [.ref (ad 0), .int 4]) (rest := []) ⟨hx, hb, hml, hown, hts⟩ (a_average_tb hDk hlt ix44) (vx_cwSW 2 hts gL_isMoney_L_average rfl rfl rfl (by decide +kernel) ⟨(Nat.le_of_ble_eq_true rfl), (Nat.le_of_ble_eq_true rfl)⟩) (lps hG hP hD hS) rfl rfl hl.1 rfl (lv_room (Nat.le_of_ble_eq_true rfl)) dL_isMoney_388 ⟨(by show _ ≤ 7; omega), (by show _ ≤ 42; omega)⟩) hS hP hD (fun r388 w H locs hp hP hD hS => ?_)
  obtain ⟨hv9, hp⟩ := hp
  rw [hv9]
  have hDk : DE K ad td n M w := hp
  refine lv_ldcf (v := 3253731328) hx hb hown (hts (.constantFloat RL 88 3253731328) (by decide +kernel)) dL_isMoney_391 ?_
  refine lv_fcmp hx hb dL_isMoney_393 ?_
  refine ktop (z := 0) fcc ?_
  refine lv_if_ne (tgt := 401) hx hb dL_isMoney_394 (by decide) (fun h394 => False.elim (absurd (by decide) h394)) (fun h394 => ?_)
  refine lv_iconst (v := 1) hx hb dL_isMoney_397 (by decide) ?_
  refine lv_goto (tgt := 402) hx hb dL_isMoney_398 (by decide) ?_
  exact kr_z hx hb hr hlocks hP hD hS (Nat.le_of_ble_eq_true rfl) (Nat.le_of_ble_eq_true rfl) (Or.inr rfl) (⟨rfl, _, _, _, _, _, _, _, _, _, _, _, rfl, hDk, hR, hJ⟩) dL_isMoney_402
