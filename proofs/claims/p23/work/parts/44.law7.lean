/-! The law: one step of sixty-four -/
theorem st34 {td : Int32} {M : Nat → Nat → Int32} {i : Nat} (h : bOk td M i) (q : 2 < M 6 i) : M 6 i = 3 ∨ M 6 i = 4 := by
  rcases h.2.2.1 with r | r | r | r | r
  · rw [r] at q; exact absurd q (by decide)
  · rw [r] at q; exact absurd q (by decide)
  · rw [r] at q; exact absurd q (by decide)
  · exact Or.inl r
  · exact Or.inr r
theorem st34n {x : Int32} (q : ¬ 2 < x) : ¬ (x = 3 ∨ x = 4) := by
  rintro (r | r) <;> rw [r] at q <;> exact q (by decide)
theorem rt_m1 {td : Int32} {M : Nat → Nat → Int32} {i : Nat} (h : bOk td M i) (q : ¬ 0 ≤ M 7 i) : M 7 i = -1 := by
  rw [i32_le, z0] at q
  exact h.2.2.2.1.elim id (fun r => absurd r.1 q)
theorem rt_n1 {x : Int32} (q : 0 ≤ x) : ¬ x = -1 := fun r => by rw [r] at q; exact absurd q (by decide)
theorem ix4e {x : Int32} (h : x = 4) : ixBad 4 x := by rw [h]; exact ix44
theorem lt4n {a : Nat} (h : a < 5) (hn : ¬ nI a = 4) : a < 4 := by
  have := mt (congrArg nI (a₁ := a) (a₂ := 4)) hn
  omega
theorem bud_nn {t : Nat} (h : t < 7000) : ¬ nI t * 700 < 0 := by
  rw [show nI t * 700 = nI (t * 700) from pk_mul t 700]
  exact nI_pos (by omega)
theorem bud_0 {s n b : Nat} {td : Int32} {M : Nat → Nat → Int32} (h : Jv s td n M) (hb : b < 4) (q : M 11 b < 0) : False := by
  have := h.1.2.2.2 b hb
  rw [i32_lt, z0] at q
  omega
theorem lim_rng {t : Nat} (h : t < 7000) : inR 0 100000000 (nI (t * 60)) := by
  have e1 : (100000000 : Int32).toInt = 100000000 := rfl
  exact inR_I.mpr ⟨by rw [z0, nI_toInt (by omega)]; omega, by rw [e1, nI_toInt (by omega)]; omega⟩
theorem pass_rng {d : Nat} (h1 : 1 ≤ d) (h : d ≤ 400) : inR 1 400 (nI d) := by
  have e0 : (1 : Int32).toInt = 1 := rfl
  have e1 : (400 : Int32).toInt = 400 := rfl
  exact inR_I.mpr ⟨by rw [e0, nI_toInt (by omega)]; omega, by rw [e1, nI_toInt (by omega)]; omega⟩
theorem cdu_n {td : Int32} {M : Nat → Nat → Int32} {D j : Nat} (h : ¬ (M 6 j = 1 ∧ ¬ td + nI D < M 5 j)) : ¬ cDu td M D j = true := fun q => h (of_decide_eq_true q)
theorem cdu_t {td : Int32} {M : Nat → Nat → Int32} {D j : Nat} (h1 : M 6 j = 1) (h2 : ¬ td + nI D < M 5 j) : cDu td M D j = true := decide_eq_true ⟨h1, h2⟩
theorem LR.idg {n : Nat} {td : Int32} {M : Nat → Nat → Int32} {fb ft fn fm fl fu fg : Nat → Int32} (h : LR td n M fb ft fn fm fl fu fg) : LR td n M fb ft fn fm fl fu (upd fg 1 td) :=
  ⟨h.1, h.2.1, h.2.2.1, h.2.2.2.1, by rw [pk_un (by decide : (0 : Nat) ≠ 1)]; exact h.g0, upd_e _ _ _⟩
theorem h_setLimit_p {l : Launch} {K : Ks} {A : Nat → Prop} {ad : Nat → Nat} {td : Int32} {n : Nat} {M : Nat → Nat → Int32} {w : va_W} (hE : DE K ad td n M w) {p : Nat} (hp : p < 32) {z : Int32} (hy : inR 0 100000000 z) {c4 : Int32} : Met l yL_does wsL_does (kR 6 0 0) (kPr K A [.ref (ad 0), .int 1, .int (nI (p / 8)), .int (nI (p % 8)), .int z, .int c4] w) (kQi K A (fun r w1 => r = M 12 p ∧ DE K ad td n (up2 M 12 p z) w1)) 0 0 A := by
  have h := h_setLimit (l := l) (A := A) hE (b := p / 8) (u := p % 8) (by omega) (by omega) hy (c4 := c4)
  rw [p88] at h
  exact h
set_option maxHeartbeats 4000000 in
set_option maxRecDepth 100000 in
theorem c_isDone {l : Launch} {K : Ks} {A : Nat → Prop} {ad q : Nat → Nat} {sn : Nat} {td : Int32} {n : Nat} {M : Nat → Nat → Int32} {w : va_W} {fb ft fn fm fl fu fg : Nat → Int32} {sb L at0 : Nat} {xs : Nat → Int32} (hlt : l.stackTraces = false) (hDk : DE K ad td n M w) (hR : LR td n M fb ft fn fm fl fu fg) (hJ : Jv sn td n M) (hsn : sn ≤ 1000) (hL : L ≤ 260) (hat : at0 ≤ 900) : Met l yL_isDone wsL_isDone (kR 20 91 5406) (kPrX K A [.ref (ad 0), .ref sb, .int (nI at0), .ref (q 1), .ref (q 2), .ref (q 3), .ref (q 4), .ref (q 5), .ref (q 6), .ref (q 7)] (w ++ LA K q fb ft fn fm fl fu fg) sb L xs) (kQi K A (fun r w1 => r = 1 ∧ LSw K ad q (sn + 1) w1)) 91 5406 A := by
  have hn30 := hJ.1.1.1
  have hok := hJ.1.ok
  refine kentX (cc := cL_isDone) (maxL := 17) (ret := (some .boolean)) (by decide) rfl (Nat.le_of_ble_eq_true rfl) ?_
  intro p e s m args below meth c ls hx hb hr hts hown hlocks hml hG hP hD hS hX hbl hbA hl
  have hl : lv_has ls 17 [(0, .ref (ad 0)), (1, .ref sb), (2, .int (nI at0)), (3, .ref (q 1)), (4, .ref (q 2)), (5, .ref (q 3)), (6, .ref (q 4)), (7, .ref (q 5)), (8, .ref (q 6)), (9, .ref (q 7))] := hl
  refine lv_aload_n hx hb dL_isDone_0 rfl (lv_at hl 1 rfl) ?_
  refine lv_iload_n hx hb dL_isDone_1 rfl (lv_at hl 2 rfl) ?_
  refine lv_bipush (v := 40) hx hb dL_isDone_2 (by decide) ?_
  refine kc_i (va_runS (As := [.ref sb, .int (nI at0), .int 40]) (rest := []) ⟨hx, hb, hml, hown, hts⟩ (c_part (kk := at0) (N := 40) (by omega) hL (by decide) (by decide)) (va_cwS 3 hts gL_isDone_L_part rfl rfl rfl (by decide +kernel) ⟨(Nat.le_of_ble_eq_true rfl), (Nat.le_of_ble_eq_true rfl)⟩) (kpsX hG hP hD hS hX hbl hbA) rfl rfl hl.1 rfl (lv_room (Nat.le_of_ble_eq_true rfl)) dL_isDone_4 ⟨(Nat.le_of_ble_eq_true rfl), (Nat.le_of_ble_eq_true rfl)⟩) hS (fun r4 w9 H locs hp hP hD hS => ?_)
  obtain ⟨wh, hwh, hv9, hw⟩ := hp
  rw [hw] at hP hD
  rw [hv9]
  refine lv_istore (lv' := [(10, .int (nI wh)), (0, .ref (ad 0)), (1, .ref sb), (2, .int (nI at0)), (3, .ref (q 1)), (4, .ref (q 2)), (5, .ref (q 3)), (6, .ref (q 4)), (7, .ref (q 5)), (8, .ref (q 6)), (9, .ref (q 7))]) hx hb dL_isDone_7 hl (by decide) rfl (fun ls hl => ?_)
  refine lv_aload_n hx hb dL_isDone_9 rfl (lv_at hl 2 rfl) ?_
  refine lv_iload_n hx hb dL_isDone_10 rfl (lv_at hl 3 rfl) ?_
  refine lv_iconst (v := 1) hx hb dL_isDone_11 (by decide) ?_
  refine lv_iadd hx hb dL_isDone_12 ?_
  refine ktop (z := nI (at0 + 1)) (nI_add at0 1) ?_
  refine lv_sipush (v := 6000) hx hb dL_isDone_13 (by decide) ?_
  refine kc_i (va_runS (As := [.ref sb, .int (nI (at0 + 1)), .int 6000]) (rest := []) ⟨hx, hb, hml, hown, hts⟩ (c_part (kk := (at0 + 1)) (N := 6000) (by omega) hL (by decide) (by decide)) (va_cwS 3 hts gL_isDone_L_part rfl rfl rfl (by decide +kernel) ⟨(Nat.le_of_ble_eq_true rfl), (Nat.le_of_ble_eq_true rfl)⟩) (kpsX hG hP hD hS hX hbl hbA) rfl rfl hl.1 rfl (lv_room (Nat.le_of_ble_eq_true rfl)) dL_isDone_16 ⟨(Nat.le_of_ble_eq_true rfl), (Nat.le_of_ble_eq_true rfl)⟩) hS (fun r16 w9 H locs hp hP hD hS => ?_)
  obtain ⟨one, hone, hv9, hw⟩ := hp
  rw [hw] at hP hD
  rw [hv9]
  refine lv_istore (lv' := [(11, .int (nI one)), (10, .int (nI wh)), (0, .ref (ad 0)), (1, .ref sb), (2, .int (nI at0)), (3, .ref (q 1)), (4, .ref (q 2)), (5, .ref (q 3)), (6, .ref (q 4)), (7, .ref (q 5)), (8, .ref (q 6)), (9, .ref (q 7))]) hx hb dL_isDone_19 hl (by decide) rfl (fun ls hl => ?_)
  refine lv_aload_n hx hb dL_isDone_21 rfl (lv_at hl 3 rfl) ?_
  refine lv_iload_n hx hb dL_isDone_22 rfl (lv_at hl 4 rfl) ?_
  refine lv_iconst (v := 2) hx hb dL_isDone_23 (by decide) ?_
  refine lv_iadd hx hb dL_isDone_24 ?_
  refine ktop (z := nI (at0 + 2)) (nI_add at0 2) ?_
  refine lv_sipush (v := 7000) hx hb dL_isDone_25 (by decide) ?_
  refine kc_i (va_runS (As := [.ref sb, .int (nI (at0 + 2)), .int 7000]) (rest := []) ⟨hx, hb, hml, hown, hts⟩ (c_part (kk := (at0 + 2)) (N := 7000) (by omega) hL (by decide) (by decide)) (va_cwS 3 hts gL_isDone_L_part rfl rfl rfl (by decide +kernel) ⟨(Nat.le_of_ble_eq_true rfl), (Nat.le_of_ble_eq_true rfl)⟩) (kpsX hG hP hD hS hX hbl hbA) rfl rfl hl.1 rfl (lv_room (Nat.le_of_ble_eq_true rfl)) dL_isDone_28 ⟨(Nat.le_of_ble_eq_true rfl), (Nat.le_of_ble_eq_true rfl)⟩) hS (fun r28 w9 H locs hp hP hD hS => ?_)
  obtain ⟨two, htwo, hv9, hw⟩ := hp
  rw [hw] at hP hD
  rw [hv9]
  refine lv_istore (lv' := [(12, .int (nI two)), (11, .int (nI one)), (10, .int (nI wh)), (0, .ref (ad 0)), (1, .ref sb), (2, .int (nI at0)), (3, .ref (q 1)), (4, .ref (q 2)), (5, .ref (q 3)), (6, .ref (q 4)), (7, .ref (q 5)), (8, .ref (q 6)), (9, .ref (q 7))]) hx hb dL_isDone_31 hl (by decide) rfl (fun ls hl => ?_)
  refine lv_aload_n hx hb dL_isDone_33 rfl (lv_at hl 4 rfl) ?_
  refine lv_iload_n hx hb dL_isDone_34 rfl (lv_at hl 5 rfl) ?_
  refine lv_iconst (v := 3) hx hb dL_isDone_35 (by decide) ?_
  refine lv_iadd hx hb dL_isDone_36 ?_
  refine ktop (z := nI (at0 + 3)) (nI_add at0 3) ?_
  refine lv_sipush (v := 8000) hx hb dL_isDone_37 (by decide) ?_
  refine kc_i (va_runS (As := [.ref sb, .int (nI (at0 + 3)), .int 8000]) (rest := []) ⟨hx, hb, hml, hown, hts⟩ (c_part (kk := (at0 + 3)) (N := 8000) (by omega) hL (by decide) (by decide)) (va_cwS 3 hts gL_isDone_L_part rfl rfl rfl (by decide +kernel) ⟨(Nat.le_of_ble_eq_true rfl), (Nat.le_of_ble_eq_true rfl)⟩) (kpsX hG hP hD hS hX hbl hbA) rfl rfl hl.1 rfl (lv_room (Nat.le_of_ble_eq_true rfl)) dL_isDone_40 ⟨(Nat.le_of_ble_eq_true rfl), (Nat.le_of_ble_eq_true rfl)⟩) hS (fun r40 w9 H locs hp hP hD hS => ?_)
  obtain ⟨three, hthree, hv9, hw⟩ := hp
  rw [hw] at hP hD
  rw [hv9]
  refine lv_istore (lv' := [(13, .int (nI three)), (12, .int (nI two)), (11, .int (nI one)), (10, .int (nI wh)), (0, .ref (ad 0)), (1, .ref sb), (2, .int (nI at0)), (3, .ref (q 1)), (4, .ref (q 2)), (5, .ref (q 3)), (6, .ref (q 4)), (7, .ref (q 5)), (8, .ref (q 6)), (9, .ref (q 7))]) hx hb dL_isDone_43 hl (by decide) rfl (fun ls hl => ?_)
  refine lv_iload hx hb dL_isDone_45 (lv_at hl 3 rfl) ?_
  refine lv_bipush (v := 10) hx hb dL_isDone_47 (by decide) ?_
  refine lv_icmp_ge (tgt := 70) hx hb dL_isDone_49 (by decide) (fun h49 => ?_) (fun h49 => ?_)
  · refine lv_iload hx hb dL_isDone_70 (lv_at hl 3 rfl) ?_
    refine lv_bipush (v := 17) hx hb dL_isDone_72 (by decide) ?_
    refine lv_icmp_ge (tgt := 108) hx hb dL_isDone_74 (by decide) (fun h74 => ?_) (fun h74 => ?_)
    · refine lv_iload hx hb dL_isDone_108 (lv_at hl 3 rfl) ?_
      refine lv_bipush (v := 25) hx hb dL_isDone_110 (by decide) ?_
      refine lv_icmp_ge (tgt := 140) hx hb dL_isDone_112 (by decide) (fun h112 => ?_) (fun h112 => ?_)
      · refine lv_iload hx hb dL_isDone_140 (lv_at hl 3 rfl) ?_
        refine lv_bipush (v := 25) hx hb dL_isDone_142 (by decide) ?_
        refine lv_icmp_ne (tgt := 243) hx hb dL_isDone_144 (by decide) (fun h144 => ?_) (fun h144 => ?_)
        · refine lv_iload hx hb dL_isDone_243 (lv_at hl 3 rfl) ?_
          refine lv_bipush (v := 29) hx hb dL_isDone_245 (by decide) ?_
          refine lv_icmp_ge (tgt := 275) hx hb dL_isDone_247 (by decide) (fun h247 => ?_) (fun h247 => ?_)
          · refine lv_iload hx hb dL_isDone_275 (lv_at hl 3 rfl) ?_
            refine lv_bipush (v := 32) hx hb dL_isDone_277 (by decide) ?_
            refine lv_icmp_ge (tgt := 373) hx hb dL_isDone_279 (by decide) (fun h279 => ?_) (fun h279 => ?_)
            · refine lv_iload hx hb dL_isDone_373 (lv_at hl 3 rfl) ?_
              refine lv_bipush (v := 32) hx hb dL_isDone_375 (by decide) ?_
              refine lv_icmp_ne (tgt := 464) hx hb dL_isDone_377 (by decide) (fun h377 => ?_) (fun h377 => ?_)
              · refine lv_iload hx hb dL_isDone_464 (lv_at hl 3 rfl) ?_
                refine lv_bipush (v := 37) hx hb dL_isDone_466 (by decide) ?_
                refine lv_icmp_ge (tgt := 487) hx hb dL_isDone_468 (by decide) (fun h468 => ?_) (fun h468 => ?_)
                · refine lv_iload hx hb dL_isDone_487 (lv_at hl 1 rfl) ?_
                  refine lv_bipush (v := 9) hx hb dL_isDone_489 (by decide) ?_
                  refine lv_irem hx hb dL_isDone_491 (by decide) ?_
                  refine ktop (z := nI (two % 9)) (nI_rem (b := 9) (by omega) (by decide)) ?_
                  refine lv_if_ne (tgt := 501) hx hb dL_isDone_492 (by decide) (fun h492 => ?_) (fun h492 => ?_)
                  · refine lv_iconst (v := 1) hx hb dL_isDone_501 (by decide) ?_
                    refine lv_iload hx hb dL_isDone_502 (lv_at hl 1 rfl) ?_
                    refine lv_bipush (v := 40) hx hb dL_isDone_504 (by decide) ?_
                    refine lv_irem hx hb dL_isDone_506 (by decide) ?_
                    refine ktop (z := nI (two % 40)) (nI_rem (b := 40) (by omega) (by decide)) ?_
                    refine lv_iadd hx hb dL_isDone_507 ?_
                    refine ktop (z := nI (1 + two % 40)) (nI_add 1 _) ?_
                    refine lv_istore (lv' := [(14, .int (nI (1 + two % 40))), (13, .int (nI three)), (12, .int (nI two)), (11, .int (nI one)), (10, .int (nI wh)), (0, .ref (ad 0)), (1, .ref sb), (2, .int (nI at0)), (3, .ref (q 1)), (4, .ref (q 2)), (5, .ref (q 3)), (6, .ref (q 4)), (7, .ref (q 5)), (8, .ref (q 6)), (9, .ref (q 7))]) hx hb dL_isDone_508 hl (by decide) rfl (fun ls hl => ?_)
                    refine lv_iconst (v := 0) hx hb dL_isDone_510 (by decide) ?_
                    refine lv_istore (lv' := [(15, .int 0), (14, .int (nI (1 + two % 40))), (13, .int (nI three)), (12, .int (nI two)), (11, .int (nI one)), (10, .int (nI wh)), (0, .ref (ad 0)), (1, .ref sb), (2, .int (nI at0)), (3, .ref (q 1)), (4, .ref (q 2)), (5, .ref (q 3)), (6, .ref (q 4)), (7, .ref (q 5)), (8, .ref (q 6)), (9, .ref (q 7))]) hx hb dL_isDone_511 hl (by decide) rfl (fun ls hl => ?_)
                    refine lv_iconst (v := 0) hx hb dL_isDone_513 (by decide) ?_
                    refine lv_istore (lv' := [(16, .int 0), (15, .int 0), (14, .int (nI (1 + two % 40))), (13, .int (nI three)), (12, .int (nI two)), (11, .int (nI one)), (10, .int (nI wh)), (0, .ref (ad 0)), (1, .ref sb), (2, .int (nI at0)), (3, .ref (q 1)), (4, .ref (q 2)), (5, .ref (q 3)), (6, .ref (q 4)), (7, .ref (q 5)), (8, .ref (q 6)), (9, .ref (q 7))]) hx hb dL_isDone_514 hl (by decide) rfl (fun ls hl => ?_)
                    have hD4 : (1 + two % 40) ≤ 400 := by omega
                    have LOOP : ∀ (Q' : State → Prop), (∀ (w : va_W)  (ls : Array Slot) (H : Heap) (locs : List Loc), DE K ad td n M w → va_P K.1 kCl (w ++ LA K q fb (ptS 4 (cDu td M (1 + two % 40)) ft n) fn fm fl fu fg) H → va_D A (w ++ LA K q fb (ptS 4 (cDu td M (1 + two % 40)) ft n) fn fm fl fu fg) → va_S A s.heap H locs → lv_has ls 17 [(0, .ref (ad 0)), (1, .ref sb), (2, .int (nI at0)), (3, .ref (q 1)), (4, .ref (q 2)), (5, .ref (q 3)), (6, .ref (q 4)), (7, .ref (q 5)), (8, .ref (q 6)), (9, .ref (q 7)), (10, .int (nI wh)), (11, .int (nI one)), (12, .int (nI two)), (13, .int (nI three)), (14, .int (nI (1 + two % 40))), (15, .int (nI (cntN (cDu td M (1 + two % 40)) n))), (16, .int (nI n))] → W p l e ((kR 20 91 5406)) s m args below meth c H locs (0 + 0 + 0 + 0 + 0) (0 + 0 + 0 + 0 + 0) Q' (F0 m 575 ls [])) → ∀ (d j : Nat) (w : va_W)  (ls : Array Slot) (H : Heap) (locs : List Loc), j + d = n → DE K ad td n M w → va_P K.1 kCl (w ++ LA K q fb (ptS 4 (cDu td M (1 + two % 40)) ft j) fn fm fl fu fg) H → va_D A (w ++ LA K q fb (ptS 4 (cDu td M (1 + two % 40)) ft j) fn fm fl fu fg) → va_S A s.heap H locs → lv_has ls 17 [(0, .ref (ad 0)), (1, .ref sb), (2, .int (nI at0)), (3, .ref (q 1)), (4, .ref (q 2)), (5, .ref (q 3)), (6, .ref (q 4)), (7, .ref (q 5)), (8, .ref (q 6)), (9, .ref (q 7)), (10, .int (nI wh)), (11, .int (nI one)), (12, .int (nI two)), (13, .int (nI three)), (14, .int (nI (1 + two % 40))), (15, .int (nI (cntN (cDu td M (1 + two % 40)) j))), (16, .int (nI j))] → W p l e ((kR 20 91 5406)) s m args below meth c H locs (0 + 0 + 0 + 0 + 0) (0 + 0 + 0 + 0 + 0) Q' (F0 m 516 ls []) := by
                      intro Q' kx d
                      induction d with
                      | zero =>
                        intro j w  ls H locs hk hDk hP hD hS hl
                        have hk2 : j = n := by omega
                        refine lv_iload hx hb dL_isDone_516 (lv_at hl 16 rfl) ?_
                        refine lv_aload hx hb dL_isDone_518 (lv_at hl 9 rfl) ?_
                        refine lv_iconst (v := 0) hx hb dL_isDone_520 (by decide) ?_
                        refine kla_ld (n := 2) (j := 0) (z := (nI n)) hx hb hG hP 6 rfl hR.g0 rfl (by omega) (by decide) dL_isDone_521 ?_
                        refine lv_icmp_ge (tgt := 575) hx hb dL_isDone_522 (by decide) (fun h522 => ?_) (fun h522 => False.elim (absurd (nI_le (Nat.le_of_eq hk2.symm) (by omega)) h522))
                        have hk3 : n = j := hk2.symm
                        subst hk3
                        exact kx w  ls H locs hDk hP hD hS (lv_sub hl [0, 1, 2, 3, 4, 5, 6, 7, 8, 9, 10, 11, 12, 13, 14, 15, 16] rfl)
                      | succ d ih =>
                        intro j w  ls H locs hk hDk hP hD hS hl
                        have hk2 : j < n := by omega
                        refine lv_iload hx hb dL_isDone_516 (lv_at hl 16 rfl) ?_
                        refine lv_aload hx hb dL_isDone_518 (lv_at hl 9 rfl) ?_
                        refine lv_iconst (v := 0) hx hb dL_isDone_520 (by decide) ?_
                        refine kla_ld (n := 2) (j := 0) (z := (nI n)) hx hb hG hP 6 rfl hR.g0 rfl (by omega) (by decide) dL_isDone_521 ?_
                        refine lv_icmp_ge (tgt := 575) hx hb dL_isDone_522 (by decide) (fun h522 => False.elim (absurd h522 (nI_ge hk2 (by omega)))) (fun h522 => ?_)
                        refine lv_iload hx hb dL_isDone_525 (lv_at hl 14 rfl) ?_
                        refine lv_sipush (v := 401) hx hb dL_isDone_527 (by decide) ?_
                        refine lv_icmp_ge (tgt := 575) hx hb dL_isDone_530 (by decide) (fun h530 => False.elim (absurd h530 (nI_ge (a := (1 + two % 40)) (b := 401) (by omega) (by decide)))) (fun h530 => ?_)
                        refine lv_aload hx hb dL_isDone_533 (lv_at hl 4 rfl) ?_
                        refine lv_iload hx hb dL_isDone_535 (lv_at hl 16 rfl) ?_
                        refine kla_ld (n := 60) (j := j) (z := (M 6 j)) hx hb hG hP 1 rfl (by rw [ptS_at, if_neg (fun q => absurd q.1 (Nat.lt_irrefl j))]; exact hR.t0 hk2) rfl (by omega) (by decide) dL_isDone_537 ?_
                        refine lv_iconst (v := 1) hx hb dL_isDone_538 (by decide) ?_
                        refine lv_icmp_ne (tgt := 569) hx hb dL_isDone_539 (by decide) (fun h539 => ?_) (fun h539 => ?_)
                        · refine lv_iinc (v := nI (j + 1)) (lv' := [(16, .int (nI (j + 1))), (0, .ref (ad 0)), (1, .ref sb), (2, .int (nI at0)), (3, .ref (q 1)), (4, .ref (q 2)), (5, .ref (q 3)), (6, .ref (q 4)), (7, .ref (q 5)), (8, .ref (q 6)), (9, .ref (q 7)), (10, .int (nI wh)), (11, .int (nI one)), (12, .int (nI two)), (13, .int (nI three)), (14, .int (nI (1 + two % 40))), (15, .int (nI (cntN (cDu td M (1 + two % 40)) j)))]) hx hb dL_isDone_569 hl (k := 16) rfl (kinc j) (by decide) rfl (fun ls hl => ?_)
                          refine lv_goto (tgt := 516) hx hb dL_isDone_572 (by decide) ?_
                          exact (ih (j + 1) w  ls H locs (by omega) hDk (by rw [ptS_f (cdu_n (fun q => h539 q.1))]; exact hP) (by rw [ptS_f (cdu_n (fun q => h539 q.1))]; exact hD) hS (by rw [cntN_f (cdu_n (fun q => h539 q.1))]; exact lv_sub hl [1, 2, 3, 4, 5, 6, 7, 8, 9, 10, 11, 12, 13, 14, 15, 16, 0] rfl))
                        · refine lv_aload_n hx hb dL_isDone_542 rfl (lv_at hl 3 rfl) ?_
                          refine lv_iconst (v := 2) hx hb dL_isDone_543 (by decide) ?_
                          refine lv_iload hx hb dL_isDone_544 (lv_at hl 16 rfl) ?_
                          refine lv_imul hx hb dL_isDone_546 ?_
                          refine lv_iconst (v := 1) hx hb dL_isDone_547 (by decide) ?_
                          refine lv_iadd hx hb dL_isDone_548 ?_
                          refine kla_ld (n := 60) (j := 2 * j + 1) (z := (M 5 j)) hx hb hG hP 0 (x21 j) (hR.b1 hk2) rfl (by omega) (by decide) dL_isDone_549 ?_
                          refine lv_aload hx hb dL_isDone_550 (lv_at hl 9 rfl) ?_
                          refine lv_iconst (v := 1) hx hb dL_isDone_552 (by decide) ?_
                          refine kla_ld (n := 2) (j := 1) (z := td) hx hb hG hP 6 rfl hR.g1 rfl (by omega) (by decide) dL_isDone_553 ?_
                          refine lv_iload hx hb dL_isDone_554 (lv_at hl 14 rfl) ?_
                          refine lv_iadd hx hb dL_isDone_556 ?_
                          refine lv_icmp_gt (tgt := 569) hx hb dL_isDone_557 (by decide) (fun h557 => ?_) (fun h557 => ?_)
                          · refine lv_iinc (v := nI (j + 1)) (lv' := [(16, .int (nI (j + 1))), (0, .ref (ad 0)), (1, .ref sb), (2, .int (nI at0)), (3, .ref (q 1)), (4, .ref (q 2)), (5, .ref (q 3)), (6, .ref (q 4)), (7, .ref (q 5)), (8, .ref (q 6)), (9, .ref (q 7)), (10, .int (nI wh)), (11, .int (nI one)), (12, .int (nI two)), (13, .int (nI three)), (14, .int (nI (1 + two % 40))), (15, .int (nI (cntN (cDu td M (1 + two % 40)) j)))]) hx hb dL_isDone_569 hl (k := 16) rfl (kinc j) (by decide) rfl (fun ls hl => ?_)
                            refine lv_goto (tgt := 516) hx hb dL_isDone_572 (by decide) ?_
                            exact (ih (j + 1) w  ls H locs (by omega) hDk (by rw [ptS_f (cdu_n (fun q => q.2 h557))]; exact hP) (by rw [ptS_f (cdu_n (fun q => q.2 h557))]; exact hD) hS (by rw [cntN_f (cdu_n (fun q => q.2 h557))]; exact lv_sub hl [1, 2, 3, 4, 5, 6, 7, 8, 9, 10, 11, 12, 13, 14, 15, 16, 0] rfl))
                          · refine lv_aload hx hb dL_isDone_560 (lv_at hl 4 rfl) ?_
                            refine lv_iload hx hb dL_isDone_562 (lv_at hl 16 rfl) ?_
                            refine lv_iconst (v := 4) hx hb dL_isDone_564 (by decide) ?_
                            refine kla_st (n := 60) (j := j) hx hb hG hP hD hS 1 rfl rfl (by omega) (by decide) dL_isDone_565 (fun H locs hP hD hS => ?_)
                            have hP : va_P K.1 kCl (w ++ LA K q fb (upd (ptS 4 (cDu td M (1 + two % 40)) ft j) j 4) fn fm fl fu fg) H := hP
                            have hD : va_D A (w ++ LA K q fb (upd (ptS 4 (cDu td M (1 + two % 40)) ft j) j 4) fn fm fl fu fg) := hD
                            refine lv_iinc (v := nI ((cntN (cDu td M (1 + two % 40)) j) + 1)) (lv' := [(15, .int (nI ((cntN (cDu td M (1 + two % 40)) j) + 1))), (0, .ref (ad 0)), (1, .ref sb), (2, .int (nI at0)), (3, .ref (q 1)), (4, .ref (q 2)), (5, .ref (q 3)), (6, .ref (q 4)), (7, .ref (q 5)), (8, .ref (q 6)), (9, .ref (q 7)), (10, .int (nI wh)), (11, .int (nI one)), (12, .int (nI two)), (13, .int (nI three)), (14, .int (nI (1 + two % 40))), (16, .int (nI j))]) hx hb dL_isDone_566 hl (k := 15) rfl (kinc (cntN (cDu td M (1 + two % 40)) j)) (by decide) rfl (fun ls hl => ?_)
                            refine lv_iinc (v := nI (j + 1)) (lv' := [(16, .int (nI (j + 1))), (15, .int (nI ((cntN (cDu td M (1 + two % 40)) j) + 1))), (0, .ref (ad 0)), (1, .ref sb), (2, .int (nI at0)), (3, .ref (q 1)), (4, .ref (q 2)), (5, .ref (q 3)), (6, .ref (q 4)), (7, .ref (q 5)), (8, .ref (q 6)), (9, .ref (q 7)), (10, .int (nI wh)), (11, .int (nI one)), (12, .int (nI two)), (13, .int (nI three)), (14, .int (nI (1 + two % 40)))]) hx hb dL_isDone_569 hl (k := 16) rfl (kinc j) (by decide) rfl (fun ls hl => ?_)
                            refine lv_goto (tgt := 516) hx hb dL_isDone_572 (by decide) ?_
                            exact (ih (j + 1) w  ls H locs (by omega) hDk (by rw [ptS_t (cdu_t h539 h557)]; exact hP) (by rw [ptS_t (cdu_t h539 h557)]; exact hD) hS (by rw [cntN_t (cdu_t h539 h557)]; exact lv_sub hl [2, 3, 4, 5, 6, 7, 8, 9, 10, 11, 12, 13, 14, 15, 16, 1, 0] rfl))
                    refine LOOP _ (fun w  ls H locs hDk hP hD hS hl => ?_) n 0 w  ls _ _ (by omega) hDk hP hD hS (lv_sub hl [7, 8, 9, 10, 11, 12, 13, 14, 15, 16, 6, 5, 4, 3, 2, 1, 0] rfl)
                    refine lv_aload hx hb dL_isDone_575 (lv_at hl 9 rfl) ?_
                    refine lv_iconst (v := 1) hx hb dL_isDone_577 (by decide) ?_
                    refine lv_dup2_11 hx hb dL_isDone_578 rfl rfl ?_
                    refine kla_ld (n := 2) (j := 1) (z := td) hx hb hG hP 6 rfl hR.g1 rfl (by omega) (by decide) dL_isDone_579 ?_
                    refine lv_iload hx hb dL_isDone_580 (lv_at hl 14 rfl) ?_
                    refine lv_sipush (v := 401) hx hb dL_isDone_582 (by decide) ?_
                    refine lv_icmp_ge (tgt := 593) hx hb dL_isDone_585 (by decide) (fun h585 => False.elim (absurd h585 (nI_ge (a := (1 + two % 40)) (b := 401) (by omega) (by decide)))) (fun h585 => ?_)
                    refine lv_iload hx hb dL_isDone_588 (lv_at hl 14 rfl) ?_
                    refine lv_goto (tgt := 594) hx hb dL_isDone_590 (by decide) ?_
                    refine lv_iadd hx hb dL_isDone_594 ?_
                    refine ktop (z := (td + nI (1 + two % 40))) rfl ?_
                    refine kla_st (n := 2) (j := 1) hx hb hG hP hD hS 6 rfl rfl (by omega) (by decide) dL_isDone_595 (fun H locs hP hD hS => ?_)
                    have hP : va_P K.1 kCl (w ++ LA K q fb (ptS 4 (cDu td M (1 + two % 40)) ft n) fn fm fl fu (upd fg 1 (td + nI (1 + two % 40)))) H := hP
                    have hD : va_D A (w ++ LA K q fb (ptS 4 (cDu td M (1 + two % 40)) ft n) fn fm fl fu (upd fg 1 (td + nI (1 + two % 40)))) := hD
                    refine lv_aload_n hx hb dL_isDone_596 rfl (lv_at hl 0 rfl) ?_
                    refine lv_bipush (v := 8) hx hb dL_isDone_597 (by decide) ?_
                    refine lv_iload hx hb dL_isDone_599 (lv_at hl 14 rfl) ?_
                    refine lv_iconst (v := 0) hx hb dL_isDone_601 (by decide) ?_
                    refine lv_iconst (v := 0) hx hb dL_isDone_602 (by decide) ?_
                    refine lv_iconst (v := 0) hx hb dL_isDone_603 (by decide) ?_
                    refine kf_i (W2 := LA K q fb (ptS 4 (cDu td M (1 + two % 40)) ft n) fn fm fl fu (upd fg 1 (td + nI (1 + two % 40)))) (vx_runSW (As := [.ref (ad 0), .int 8, .int (nI (1 + two % 40)), .int 0, .int 0, .int 0]) (rest := []) ⟨hx, hb, hml, hown, hts⟩ (h_pass hDk hD4 (pass_rng (by omega) (by omega)) hok) (vx_cwSW 6 hts gL_isDone_L_does rfl rfl rfl (by decide +kernel) ⟨(Nat.le_of_ble_eq_true rfl), (Nat.le_of_ble_eq_true rfl)⟩) (lps hG hP hD hS) rfl rfl hl.1 rfl (lv_room (Nat.le_of_ble_eq_true rfl)) dL_isDone_604 ⟨(Nat.le_of_ble_eq_true rfl), (Nat.le_of_ble_eq_true rfl)⟩) hS hP hD (fun r604 w H locs hp hP hD hS => ?_)
                    obtain ⟨hv9, hp⟩ := hp
                    rw [hv9]
                    have hDk : DE K ad (td + nI (1 + two % 40)) n (psM td n M (1 + two % 40)) w := hp
                    refine ktop (z := nI (cntN (cDu td M (1 + two % 40)) n)) (congrArg nI (psC_law hJ (by omega) hD4)) ?_
                    refine lv_iload hx hb dL_isDone_607 (lv_at hl 14 rfl) ?_
                    refine lv_sipush (v := 401) hx hb dL_isDone_609 (by decide) ?_
                    refine lv_icmp_ge (tgt := 620) hx hb dL_isDone_612 (by decide) (fun h612 => False.elim (absurd h612 (nI_ge (a := (1 + two % 40)) (b := 401) (by omega) (by decide)))) (fun h612 => ?_)
                    refine lv_iload hx hb dL_isDone_615 (lv_at hl 15 rfl) ?_
                    refine lv_goto (tgt := 622) hx hb dL_isDone_617 (by decide) ?_
                    refine lv_icmp_ne (tgt := 629) hx hb dL_isDone_622 (by decide) (fun h622 => False.elim (absurd rfl h622)) (fun h622 => ?_)
                    refine lv_iconst (v := 1) hx hb dL_isDone_625 (by decide) ?_
                    refine lv_goto (tgt := 630) hx hb dL_isDone_626 (by decide) ?_
                    exact kr_z hx hb hr hlocks hP hD hS (Nat.le_of_ble_eq_true rfl) (Nat.le_of_ble_eq_true rfl) (Or.inr rfl) (⟨rfl, _, _, _, _, _, _, _, _, _, _, _, rfl, hDk, hR.pass hJ (by omega) hD4, hJ.pass (by omega) hD4⟩) dL_isDone_630
                  · refine lv_sipush (v := 401) hx hb dL_isDone_495 (by decide) ?_
                    refine lv_goto (tgt := 508) hx hb dL_isDone_498 (by decide) ?_
                    refine ktop (z := 401) rfl ?_
                    refine lv_istore (lv' := [(14, .int 401), (13, .int (nI three)), (12, .int (nI two)), (11, .int (nI one)), (10, .int (nI wh)), (0, .ref (ad 0)), (1, .ref sb), (2, .int (nI at0)), (3, .ref (q 1)), (4, .ref (q 2)), (5, .ref (q 3)), (6, .ref (q 4)), (7, .ref (q 5)), (8, .ref (q 6)), (9, .ref (q 7))]) hx hb dL_isDone_508 hl (by decide) rfl (fun ls hl => ?_)
                    refine lv_iconst (v := 0) hx hb dL_isDone_510 (by decide) ?_
                    refine lv_istore (lv' := [(15, .int 0), (14, .int 401), (13, .int (nI three)), (12, .int (nI two)), (11, .int (nI one)), (10, .int (nI wh)), (0, .ref (ad 0)), (1, .ref sb), (2, .int (nI at0)), (3, .ref (q 1)), (4, .ref (q 2)), (5, .ref (q 3)), (6, .ref (q 4)), (7, .ref (q 5)), (8, .ref (q 6)), (9, .ref (q 7))]) hx hb dL_isDone_511 hl (by decide) rfl (fun ls hl => ?_)
                    refine lv_iconst (v := 0) hx hb dL_isDone_513 (by decide) ?_
                    refine lv_istore (lv' := [(16, .int 0), (15, .int 0), (14, .int 401), (13, .int (nI three)), (12, .int (nI two)), (11, .int (nI one)), (10, .int (nI wh)), (0, .ref (ad 0)), (1, .ref sb), (2, .int (nI at0)), (3, .ref (q 1)), (4, .ref (q 2)), (5, .ref (q 3)), (6, .ref (q 4)), (7, .ref (q 5)), (8, .ref (q 6)), (9, .ref (q 7))]) hx hb dL_isDone_514 hl (by decide) rfl (fun ls hl => ?_)
                    refine lv_iload hx hb dL_isDone_516 (lv_at hl 0 rfl) ?_
                    refine lv_aload hx hb dL_isDone_518 (lv_at hl 16 rfl) ?_
                    refine lv_iconst (v := 0) hx hb dL_isDone_520 (by decide) ?_
                    refine kla_ld (n := 2) (j := 0) (z := (nI n)) hx hb hG hP 6 rfl hR.g0 rfl (by omega) (by decide) dL_isDone_521 ?_
                    refine lv_icmp_ge (tgt := 575) hx hb dL_isDone_522 (by decide) (fun h522 => ?_) (fun h522 => ?_)
                    · refine lv_aload hx hb dL_isDone_575 (lv_at hl 16 rfl) ?_
                      refine lv_iconst (v := 1) hx hb dL_isDone_577 (by decide) ?_
                      refine lv_dup2_11 hx hb dL_isDone_578 rfl rfl ?_
                      refine kla_ld (n := 2) (j := 1) (z := td) hx hb hG hP 6 rfl hR.g1 rfl (by omega) (by decide) dL_isDone_579 ?_
                      refine lv_iload hx hb dL_isDone_580 (lv_at hl 2 rfl) ?_
                      refine lv_sipush (v := 401) hx hb dL_isDone_582 (by decide) ?_
                      refine lv_icmp_ge (tgt := 593) hx hb dL_isDone_585 (by decide) (fun h585 => ?_) (fun h585 => False.elim (absurd (by decide) h585))
                      refine lv_iconst (v := 0) hx hb dL_isDone_593 (by decide) ?_
                      refine lv_iadd hx hb dL_isDone_594 ?_
                      refine ktop (z := td) (Int32.add_zero td) ?_
                      refine kla_st (n := 2) (j := 1) hx hb hG hP hD hS 6 rfl rfl (by omega) (by decide) dL_isDone_595 (fun H locs hP hD hS => ?_)
                      have hP : va_P K.1 kCl (w ++ LA K q fb ft fn fm fl fu (upd fg 1 td)) H := hP
                      have hD : va_D A (w ++ LA K q fb ft fn fm fl fu (upd fg 1 td)) := hD
                      refine lv_aload_n hx hb dL_isDone_596 rfl (lv_at hl 7 rfl) ?_
                      refine lv_bipush (v := 8) hx hb dL_isDone_597 (by decide) ?_
                      refine lv_iload hx hb dL_isDone_599 (lv_at hl 2 rfl) ?_
                      refine lv_iconst (v := 0) hx hb dL_isDone_601 (by decide) ?_
                      refine lv_iconst (v := 0) hx hb dL_isDone_602 (by decide) ?_
                      refine lv_iconst (v := 0) hx hb dL_isDone_603 (by decide) ?_
                      refine kf_i (W2 := LA K q fb ft fn fm fl fu (upd fg 1 td)) (vx_runSW (As := [.ref (ad 0), .int 8, .int 401, .int 0, .int 0, .int 0]) (rest := []) ⟨hx, hb, hml, hown, hts⟩ (h_pass_tr hDk hlt (by decide)) (vx_cwSW 6 hts gL_isDone_L_does rfl rfl rfl (by decide +kernel) ⟨(Nat.le_of_ble_eq_true rfl), (Nat.le_of_ble_eq_true rfl)⟩) (lps hG hP hD hS) rfl rfl hl.1 rfl (lv_room (Nat.le_of_ble_eq_true rfl)) dL_isDone_604 ⟨(Nat.le_of_ble_eq_true rfl), (Nat.le_of_ble_eq_true rfl)⟩) hS hP hD (fun r604 w H locs hp hP hD hS => ?_)
                      obtain ⟨hv9, hp⟩ := hp
                      rw [hv9]
                      have hDk : DE K ad td n M w := hp
                      refine lv_iload hx hb dL_isDone_607 (lv_at hl 2 rfl) ?_
                      refine lv_sipush (v := 401) hx hb dL_isDone_609 (by decide) ?_
                      refine lv_icmp_ge (tgt := 620) hx hb dL_isDone_612 (by decide) (fun h612 => ?_) (fun h612 => False.elim (absurd (by decide) h612))
                      refine lv_bipush (v := (-20)) hx hb dL_isDone_620 (by decide) ?_
                      refine lv_icmp_ne (tgt := 629) hx hb dL_isDone_622 (by decide) (fun h622 => False.elim (absurd (by decide) h622)) (fun h622 => ?_)
                      refine lv_iconst (v := 1) hx hb dL_isDone_625 (by decide) ?_
                      refine lv_goto (tgt := 630) hx hb dL_isDone_626 (by decide) ?_
                      exact kr_z hx hb hr hlocks hP hD hS (Nat.le_of_ble_eq_true rfl) (Nat.le_of_ble_eq_true rfl) (Or.inr rfl) (⟨rfl, _, _, _, _, _, _, _, _, _, _, _, rfl, hDk, hR.idg, hJ.up⟩) dL_isDone_630
                    · refine lv_iload hx hb dL_isDone_525 (lv_at hl 2 rfl) ?_
                      refine lv_sipush (v := 401) hx hb dL_isDone_527 (by decide) ?_
                      refine lv_icmp_ge (tgt := 575) hx hb dL_isDone_530 (by decide) (fun h530 => ?_) (fun h530 => False.elim (absurd (by decide) h530))
                      refine lv_aload hx hb dL_isDone_575 (lv_at hl 16 rfl) ?_
                      refine lv_iconst (v := 1) hx hb dL_isDone_577 (by decide) ?_
                      refine lv_dup2_11 hx hb dL_isDone_578 rfl rfl ?_
                      refine kla_ld (n := 2) (j := 1) (z := td) hx hb hG hP 6 rfl hR.g1 rfl (by omega) (by decide) dL_isDone_579 ?_
                      refine lv_iload hx hb dL_isDone_580 (lv_at hl 2 rfl) ?_
                      refine lv_sipush (v := 401) hx hb dL_isDone_582 (by decide) ?_
                      refine lv_icmp_ge (tgt := 593) hx hb dL_isDone_585 (by decide) (fun h585 => ?_) (fun h585 => False.elim (absurd (by decide) h585))
                      refine lv_iconst (v := 0) hx hb dL_isDone_593 (by decide) ?_
                      refine lv_iadd hx hb dL_isDone_594 ?_
                      refine ktop (z := td) (Int32.add_zero td) ?_
                      refine kla_st (n := 2) (j := 1) hx hb hG hP hD hS 6 rfl rfl (by omega) (by decide) dL_isDone_595 (fun H locs hP hD hS => ?_)
                      have hP : va_P K.1 kCl (w ++ LA K q fb ft fn fm fl fu (upd fg 1 td)) H := hP
                      have hD : va_D A (w ++ LA K q fb ft fn fm fl fu (upd fg 1 td)) := hD
                      refine lv_aload_n hx hb dL_isDone_596 rfl (lv_at hl 7 rfl) ?_
                      refine lv_bipush (v := 8) hx hb dL_isDone_597 (by decide) ?_
                      refine lv_iload hx hb dL_isDone_599 (lv_at hl 2 rfl) ?_
                      refine lv_iconst (v := 0) hx hb dL_isDone_601 (by decide) ?_
                      refine lv_iconst (v := 0) hx hb dL_isDone_602 (by decide) ?_
                      refine lv_iconst (v := 0) hx hb dL_isDone_603 (by decide) ?_
                      refine kf_i (W2 := LA K q fb ft fn fm fl fu (upd fg 1 td)) (vx_runSW (As := [.ref (ad 0), .int 8, .int 401, .int 0, .int 0, .int 0]) (rest := []) ⟨hx, hb, hml, hown, hts⟩ (h_pass_tr hDk hlt (by decide)) (vx_cwSW 6 hts gL_isDone_L_does rfl rfl rfl (by decide +kernel) ⟨(Nat.le_of_ble_eq_true rfl), (Nat.le_of_ble_eq_true rfl)⟩) (lps hG hP hD hS) rfl rfl hl.1 rfl (lv_room (Nat.le_of_ble_eq_true rfl)) dL_isDone_604 ⟨(Nat.le_of_ble_eq_true rfl), (Nat.le_of_ble_eq_true rfl)⟩) hS hP hD (fun r604 w H locs hp hP hD hS => ?_)
                      obtain ⟨hv9, hp⟩ := hp
                      rw [hv9]
                      have hDk : DE K ad td n M w := hp
                      refine lv_iload hx hb dL_isDone_607 (lv_at hl 2 rfl) ?_
                      refine lv_sipush (v := 401) hx hb dL_isDone_609 (by decide) ?_
                      refine lv_icmp_ge (tgt := 620) hx hb dL_isDone_612 (by decide) (fun h612 => ?_) (fun h612 => False.elim (absurd (by decide) h612))
                      refine lv_bipush (v := (-20)) hx hb dL_isDone_620 (by decide) ?_
                      refine lv_icmp_ne (tgt := 629) hx hb dL_isDone_622 (by decide) (fun h622 => False.elim (absurd (by decide) h622)) (fun h622 => ?_)
                      refine lv_iconst (v := 1) hx hb dL_isDone_625 (by decide) ?_
                      refine lv_goto (tgt := 630) hx hb dL_isDone_626 (by decide) ?_
                      exact kr_z hx hb hr hlocks hP hD hS (Nat.le_of_ble_eq_true rfl) (Nat.le_of_ble_eq_true rfl) (Or.inr rfl) (⟨rfl, _, _, _, _, _, _, _, _, _, _, _, rfl, hDk, hR.idg, hJ.up⟩) dL_isDone_630
                · refine lv_aload_n hx hb dL_isDone_471 rfl (lv_at hl 4 rfl) ?_
                  refine lv_aload_n hx hb dL_isDone_472 rfl (lv_at hl 7 rfl) ?_
                  refine lv_aload hx hb dL_isDone_473 (lv_at hl 8 rfl) ?_
                  refine lv_aload hx hb dL_isDone_475 (lv_at hl 12 rfl) ?_
                  refine lv_aload hx hb dL_isDone_477 (lv_at hl 13 rfl) ?_
                  refine lv_iload hx hb dL_isDone_479 (lv_at hl 2 rfl) ?_
                  refine lv_iconst (v := 5) hx hb dL_isDone_481 (by decide) ?_
                  refine lv_irem hx hb dL_isDone_482 (by decide) ?_
                  refine ktop (z := nI (one % 5)) (nI_rem (b := 5) (by omega) (by decide)) ?_
                  refine kc_i (va_runS (As := [.ref (ad 0), .ref (q 1), .ref (q 2), .ref (q 6), .ref (q 7), .int (nI (one % 5))]) (rest := []) ⟨hx, hb, hml, hown, hts⟩ (c_isCleared hlt hDk hR hJ hsn (Nat.mod_lt _ (by decide))) (va_cwS 6 hts gL_isDone_L_isCleared rfl rfl rfl (by decide +kernel) ⟨(Nat.le_of_ble_eq_true rfl), (Nat.le_of_ble_eq_true rfl)⟩) (kps hG hP hD hS) rfl rfl hl.1 rfl (lv_room (Nat.le_of_ble_eq_true rfl)) dL_isDone_483 ⟨(Nat.le_of_ble_eq_true rfl), (Nat.le_of_ble_eq_true rfl)⟩) hS (fun r483 w H locs hp hP hD hS => ?_)
                  obtain ⟨hv9, hp⟩ := hp
                  rw [hv9]
                  exact kr_z hx hb hr hlocks hP hD hS (Nat.le_of_ble_eq_true rfl) (Nat.le_of_ble_eq_true rfl) (Or.inr rfl) (⟨rfl, hp⟩) dL_isDone_486
              · refine lv_iload hx hb dL_isDone_380 (lv_at hl 2 rfl) ?_
                refine lv_bipush (v := 32) hx hb dL_isDone_382 (by decide) ?_
                refine lv_irem hx hb dL_isDone_384 (by decide) ?_
                refine ktop (z := nI (one % 32)) (nI_rem (b := 32) (by omega) (by decide)) ?_
                refine lv_istore (lv' := [(14, .int (nI (one % 32))), (13, .int (nI three)), (12, .int (nI two)), (11, .int (nI one)), (10, .int (nI wh)), (0, .ref (ad 0)), (1, .ref sb), (2, .int (nI at0)), (3, .ref (q 1)), (4, .ref (q 2)), (5, .ref (q 3)), (6, .ref (q 4)), (7, .ref (q 5)), (8, .ref (q 6)), (9, .ref (q 7))]) hx hb dL_isDone_385 hl (by decide) rfl (fun ls hl => ?_)
                refine lv_aload hx hb dL_isDone_387 (lv_at hl 12 rfl) ?_
                refine lv_iload hx hb dL_isDone_389 (lv_at hl 0 rfl) ?_
                refine kla_ld (n := 32) (j := one % 32) (z := (M 12 (one % 32))) hx hb hG hP 4 rfl (hR.l (by omega)) rfl (by omega) (by decide) dL_isDone_391 ?_
                refine lv_istore (lv' := [(15, .int (M 12 (one % 32))), (14, .int (nI (one % 32))), (13, .int (nI three)), (12, .int (nI two)), (11, .int (nI one)), (10, .int (nI wh)), (0, .ref (ad 0)), (1, .ref sb), (2, .int (nI at0)), (3, .ref (q 1)), (4, .ref (q 2)), (5, .ref (q 3)), (6, .ref (q 4)), (7, .ref (q 5)), (8, .ref (q 6)), (9, .ref (q 7))]) hx hb dL_isDone_392 hl (by decide) rfl (fun ls hl => ?_)
                refine lv_aload hx hb dL_isDone_394 (lv_at hl 13 rfl) ?_
                refine lv_iload hx hb dL_isDone_396 (lv_at hl 1 rfl) ?_
                refine lv_iload hx hb dL_isDone_398 (lv_at hl 3 rfl) ?_
                refine lv_bipush (v := 60) hx hb dL_isDone_400 (by decide) ?_
                refine lv_imul hx hb dL_isDone_402 ?_
                refine ktop (z := nI (two * 60)) (pk_mul two 60) ?_
                refine kla_st (n := 32) (j := one % 32) hx hb hG hP hD hS 4 rfl rfl (by omega) (by decide) dL_isDone_403 (fun H locs hP hD hS => ?_)
                have hP : va_P K.1 kCl (w ++ LA K q fb ft fn fm (upd fl (one % 32) (nI (two * 60))) fu fg) H := hP
                have hD : va_D A (w ++ LA K q fb ft fn fm (upd fl (one % 32) (nI (two * 60))) fu fg) := hD
                refine lv_aload_n hx hb dL_isDone_404 rfl (lv_at hl 6 rfl) ?_
                refine lv_iconst (v := 1) hx hb dL_isDone_405 (by decide) ?_
                refine lv_iload hx hb dL_isDone_406 (lv_at hl 1 rfl) ?_
                refine lv_bipush (v := 8) hx hb dL_isDone_408 (by decide) ?_
                refine lv_idiv hx hb dL_isDone_410 (by decide) ?_
                refine ktop (z := nI (one % 32 / 8)) (d8 (by omega)) ?_
                refine lv_iload hx hb dL_isDone_411 (lv_at hl 1 rfl) ?_
                refine lv_bipush (v := 8) hx hb dL_isDone_413 (by decide) ?_
                refine lv_irem hx hb dL_isDone_415 (by decide) ?_
                refine ktop (z := nI (one % 32 % 8)) (m8 (by omega)) ?_
                refine lv_iload hx hb dL_isDone_416 (lv_at hl 3 rfl) ?_
                refine lv_bipush (v := 60) hx hb dL_isDone_418 (by decide) ?_
                refine lv_imul hx hb dL_isDone_420 ?_
                refine ktop (z := nI (two * 60)) (pk_mul two 60) ?_
                refine lv_iconst (v := 0) hx hb dL_isDone_421 (by decide) ?_
                refine kf_i (W2 := LA K q fb ft fn fm (upd fl (one % 32) (nI (two * 60))) fu fg) (vx_runSW (As := [.ref (ad 0), .int 1, .int (nI (one % 32 / 8)), .int (nI (one % 32 % 8)), .int (nI (two * 60)), .int 0]) (rest := []) ⟨hx, hb, hml, hown, hts⟩ (h_setLimit_p hDk (by omega) (lim_rng (by omega))) (vx_cwSW 6 hts gL_isDone_L_does rfl rfl rfl (by decide +kernel) ⟨(Nat.le_of_ble_eq_true rfl), (Nat.le_of_ble_eq_true rfl)⟩) (lps hG hP hD hS) rfl rfl hl.1 rfl (lv_room (Nat.le_of_ble_eq_true rfl)) dL_isDone_422 ⟨(Nat.le_of_ble_eq_true rfl), (Nat.le_of_ble_eq_true rfl)⟩) hS hP hD (fun r422 w H locs hp hP hD hS => ?_)
                obtain ⟨hv9, hp⟩ := hp
                rw [hv9]
                have hDk : DE K ad td n (up2 M 12 (one % 32) (nI (two * 60))) w := hp
                refine lv_iload hx hb dL_isDone_425 (lv_at hl 0 rfl) ?_
                refine lv_icmp_ne (tgt := 462) hx hb dL_isDone_427 (by decide) (fun h427 => False.elim (absurd rfl h427)) (fun h427 => ?_)
                refine lv_aload_n hx hb dL_isDone_430 rfl (lv_at hl 6 rfl) ?_
                refine lv_iconst (v := 1) hx hb dL_isDone_431 (by decide) ?_
                refine lv_iconst (v := 0) hx hb dL_isDone_432 (by decide) ?_
                refine lv_iconst (v := 0) hx hb dL_isDone_433 (by decide) ?_
                refine lv_iconst (v := (-1)) hx hb dL_isDone_434 (by decide) ?_
                refine lv_iconst (v := 0) hx hb dL_isDone_435 (by decide) ?_
                refine kf_i (W2 := LA K q fb ft fn fm (upd fl (one % 32) (nI (two * 60))) fu fg) (vx_runSW (As := [.ref (ad 0), .int 1, .int 0, .int 0, .int (-1), .int 0]) (rest := []) ⟨hx, hb, hml, hown, hts⟩ (h_setLimit_tr hDk hlt (b := 0) (u := 0) (by decide) (by decide) (by decide)) (vx_cwSW 6 hts gL_isDone_L_does rfl rfl rfl (by decide +kernel) ⟨(Nat.le_of_ble_eq_true rfl), (Nat.le_of_ble_eq_true rfl)⟩) (lps hG hP hD hS) rfl rfl hl.1 rfl (lv_room (Nat.le_of_ble_eq_true rfl)) dL_isDone_436 ⟨(Nat.le_of_ble_eq_true rfl), (Nat.le_of_ble_eq_true rfl)⟩) hS hP hD (fun r436 w H locs hp hP hD hS => ?_)
                obtain ⟨hv9, hp⟩ := hp
                rw [hv9]
                have hDk : DE K ad td n (up2 M 12 (one % 32) (nI (two * 60))) w := hp
                refine lv_bipush (v := (-20)) hx hb dL_isDone_439 (by decide) ?_
                refine lv_icmp_ne (tgt := 462) hx hb dL_isDone_441 (by decide) (fun h441 => False.elim (absurd (by decide) h441)) (fun h441 => ?_)
                refine lv_aload_n hx hb dL_isDone_444 rfl (lv_at hl 6 rfl) ?_
                refine lv_iconst (v := 1) hx hb dL_isDone_445 (by decide) ?_
                refine lv_iconst (v := 4) hx hb dL_isDone_446 (by decide) ?_
                refine lv_iconst (v := 0) hx hb dL_isDone_447 (by decide) ?_
                refine lv_iconst (v := (-1)) hx hb dL_isDone_448 (by decide) ?_
                refine lv_iconst (v := 0) hx hb dL_isDone_449 (by decide) ?_
                refine kf_i (W2 := LA K q fb ft fn fm (upd fl (one % 32) (nI (two * 60))) fu fg) (vx_runSW (As := [.ref (ad 0), .int 1, .int 4, .int 0, .int (-1), .int 0]) (rest := []) ⟨hx, hb, hml, hown, hts⟩ (h_setLimit_tb hDk hlt ix44) (vx_cwSW 6 hts gL_isDone_L_does rfl rfl rfl (by decide +kernel) ⟨(Nat.le_of_ble_eq_true rfl), (Nat.le_of_ble_eq_true rfl)⟩) (lps hG hP hD hS) rfl rfl hl.1 rfl (lv_room (Nat.le_of_ble_eq_true rfl)) dL_isDone_450 ⟨(Nat.le_of_ble_eq_true rfl), (Nat.le_of_ble_eq_true rfl)⟩) hS hP hD (fun r450 w H locs hp hP hD hS => ?_)
                obtain ⟨hv9, hp⟩ := hp
                rw [hv9]
                have hDk : DE K ad td n (up2 M 12 (one % 32) (nI (two * 60))) w := hp
                refine lv_bipush (v := (-30)) hx hb dL_isDone_453 (by decide) ?_
                refine lv_icmp_ne (tgt := 462) hx hb dL_isDone_455 (by decide) (fun h455 => False.elim (absurd (by decide) h455)) (fun h455 => ?_)
                refine lv_iconst (v := 1) hx hb dL_isDone_458 (by decide) ?_
                refine lv_goto (tgt := 463) hx hb dL_isDone_459 (by decide) ?_
                exact kr_z hx hb hr hlocks hP hD hS (Nat.le_of_ble_eq_true rfl) (Nat.le_of_ble_eq_true rfl) (Or.inr rfl) (⟨rfl, _, _, _, _, _, _, _, _, _, _, _, rfl, hDk, hR.limit, hJ.limit⟩) dL_isDone_463
            · refine lv_iload hx hb dL_isDone_282 (lv_at hl 2 rfl) ?_
              refine lv_iconst (v := 5) hx hb dL_isDone_284 (by decide) ?_
              refine lv_irem hx hb dL_isDone_285 (by decide) ?_
              refine ktop (z := nI (one % 5)) (nI_rem (b := 5) (by omega) (by decide)) ?_
              refine lv_istore (lv' := [(14, .int (nI (one % 5))), (13, .int (nI three)), (12, .int (nI two)), (11, .int (nI one)), (10, .int (nI wh)), (0, .ref (ad 0)), (1, .ref sb), (2, .int (nI at0)), (3, .ref (q 1)), (4, .ref (q 2)), (5, .ref (q 3)), (6, .ref (q 4)), (7, .ref (q 5)), (8, .ref (q 6)), (9, .ref (q 7))]) hx hb dL_isDone_286 hl (by decide) rfl (fun ls hl => ?_)
              have J307 : ∀ (bu : Int32), ¬ bu < 0 → W p l e (kR 20 91 5406) s m args below meth c H locs 0 0 (MQ below (kQi K A (fun r w1 => r = 1 ∧ LSw K ad q (sn + 1) w1)) args s 91 5406 A) (F0 m 307 ls [.int bu]) := by
                intro bu hbu
                refine lv_istore (lv' := [(15, .int bu), (14, .int (nI (one % 5))), (13, .int (nI three)), (12, .int (nI two)), (11, .int (nI one)), (10, .int (nI wh)), (0, .ref (ad 0)), (1, .ref sb), (2, .int (nI at0)), (3, .ref (q 1)), (4, .ref (q 2)), (5, .ref (q 3)), (6, .ref (q 4)), (7, .ref (q 5)), (8, .ref (q 6)), (9, .ref (q 7))]) hx hb dL_isDone_307 hl (by decide) rfl (fun ls hl => ?_)
                refine lv_iload hx hb dL_isDone_309 (lv_at hl 1 rfl) ?_
                refine lv_iconst (v := 4) hx hb dL_isDone_311 (by decide) ?_
                refine lv_icmp_ne (tgt := 320) hx hb dL_isDone_312 (by decide) (fun h312 => ?_) (fun h312 => ?_)
                · have hb4 : one % 5 < 4 := lt4n (Nat.mod_lt one (by decide)) h312
                  refine lv_iload hx hb dL_isDone_320 (lv_at hl 0 rfl) ?_
                  refine lv_ldc (v := 100000000) hx hb hown (hts (.constant RL 134 100000000) (by decide +kernel)) dL_isDone_322 ?_
                  refine lv_icmp_le (tgt := 332) hx hb dL_isDone_324 (by decide) (fun h324 => ?_) (fun h324 => ?_)
                  · refine lv_aload hx hb dL_isDone_332 (lv_at hl 14 rfl) ?_
                    refine lv_iload hx hb dL_isDone_334 (lv_at hl 1 rfl) ?_
                    refine kla_ld (n := 4) (j := one % 5) (z := (M 11 (one % 5))) hx hb hG hP 5 rfl (hR.u hb4) rfl hb4 (by decide) dL_isDone_336 ?_
                    refine lv_istore (lv' := [(16, .int (M 11 (one % 5))), (15, .int bu), (14, .int (nI (one % 5))), (13, .int (nI three)), (12, .int (nI two)), (11, .int (nI one)), (10, .int (nI wh)), (0, .ref (ad 0)), (1, .ref sb), (2, .int (nI at0)), (3, .ref (q 1)), (4, .ref (q 2)), (5, .ref (q 3)), (6, .ref (q 4)), (7, .ref (q 5)), (8, .ref (q 6)), (9, .ref (q 7))]) hx hb dL_isDone_337 hl (by decide) rfl (fun ls hl => ?_)
                    refine lv_iload hx hb dL_isDone_339 (lv_at hl 0 rfl) ?_
                    refine lv_if_lt (tgt := 351) hx hb dL_isDone_341 (by decide) (fun h341 => False.elim (bud_0 hJ hb4 h341)) (fun h341 => ?_)
                    refine lv_aload hx hb dL_isDone_344 (lv_at hl 15 rfl) ?_
                    refine lv_iload hx hb dL_isDone_346 (lv_at hl 2 rfl) ?_
                    refine lv_iload hx hb dL_isDone_348 (lv_at hl 1 rfl) ?_
                    refine kla_st (n := 4) (j := one % 5) hx hb hG hP hD hS 5 rfl rfl hb4 (by decide) dL_isDone_350 (fun H locs hP hD hS => ?_)
                    have hP : va_P K.1 kCl (w ++ LA K q fb ft fn fm fl (upd fu (one % 5) bu) fg) H := hP
                    have hD : va_D A (w ++ LA K q fb ft fn fm fl (upd fu (one % 5) bu) fg) := hD
                    refine lv_aload_n hx hb dL_isDone_351 rfl (lv_at hl 7 rfl) ?_
                    refine lv_iconst (v := 0) hx hb dL_isDone_352 (by decide) ?_
                    refine lv_iload hx hb dL_isDone_353 (lv_at hl 2 rfl) ?_
                    refine lv_iload hx hb dL_isDone_355 (lv_at hl 1 rfl) ?_
                    refine lv_iconst (v := 0) hx hb dL_isDone_357 (by decide) ?_
                    refine lv_iconst (v := 0) hx hb dL_isDone_358 (by decide) ?_
                    refine kf_i (W2 := LA K q fb ft fn fm fl (upd fu (one % 5) bu) fg) (vx_runSW (As := [.ref (ad 0), .int 0, .int (nI (one % 5)), .int bu, .int 0, .int 0]) (rest := []) ⟨hx, hb, hml, hown, hts⟩ (h_setBudget hDk hb4 ⟨hbu, i32_nlt.mpr h324⟩) (vx_cwSW 6 hts gL_isDone_L_does rfl rfl rfl (by decide +kernel) ⟨(Nat.le_of_ble_eq_true rfl), (Nat.le_of_ble_eq_true rfl)⟩) (lps hG hP hD hS) rfl rfl hl.1 rfl (lv_room (Nat.le_of_ble_eq_true rfl)) dL_isDone_359 ⟨(Nat.le_of_ble_eq_true rfl), (Nat.le_of_ble_eq_true rfl)⟩) hS hP hD (fun r359 w H locs hp hP hD hS => ?_)
                    obtain ⟨hv9, hp⟩ := hp
                    rw [hv9]
                    have hDk : DE K ad td n (up2 M 11 (one % 5) bu) w := hp
                    refine lv_iload hx hb dL_isDone_362 (lv_at hl 0 rfl) ?_
                    refine lv_icmp_ne (tgt := 371) hx hb dL_isDone_364 (by decide) (fun h364 => False.elim (absurd rfl h364)) (fun h364 => ?_)
                    refine lv_iconst (v := 1) hx hb dL_isDone_367 (by decide) ?_
                    refine lv_goto (tgt := 372) hx hb dL_isDone_368 (by decide) ?_
                    exact kr_z hx hb hr hlocks hP hD hS (Nat.le_of_ble_eq_true rfl) (Nat.le_of_ble_eq_true rfl) (Or.inr rfl) (⟨rfl, _, _, _, _, _, _, _, _, _, _, _, rfl, hDk, hR.budget, hJ.budget ⟨hbu, i32_nlt.mpr h324⟩⟩) dL_isDone_372
                  · refine lv_bipush (v := (-20)) hx hb dL_isDone_327 (by decide) ?_
                    refine lv_goto (tgt := 337) hx hb dL_isDone_329 (by decide) ?_
                    refine lv_istore (lv' := [(16, .int (-20)), (15, .int bu), (14, .int (nI (one % 5))), (13, .int (nI three)), (12, .int (nI two)), (11, .int (nI one)), (10, .int (nI wh)), (0, .ref (ad 0)), (1, .ref sb), (2, .int (nI at0)), (3, .ref (q 1)), (4, .ref (q 2)), (5, .ref (q 3)), (6, .ref (q 4)), (7, .ref (q 5)), (8, .ref (q 6)), (9, .ref (q 7))]) hx hb dL_isDone_337 hl (by decide) rfl (fun ls hl => ?_)
                    refine lv_iload hx hb dL_isDone_339 (lv_at hl 0 rfl) ?_
                    refine lv_if_lt (tgt := 351) hx hb dL_isDone_341 (by decide) (fun h341 => ?_) (fun h341 => False.elim (absurd (by decide) h341))
                    refine lv_aload_n hx hb dL_isDone_351 rfl (lv_at hl 7 rfl) ?_
                    refine lv_iconst (v := 0) hx hb dL_isDone_352 (by decide) ?_
                    refine lv_iload hx hb dL_isDone_353 (lv_at hl 2 rfl) ?_
                    refine lv_iload hx hb dL_isDone_355 (lv_at hl 1 rfl) ?_
                    refine lv_iconst (v := 0) hx hb dL_isDone_357 (by decide) ?_
                    refine lv_iconst (v := 0) hx hb dL_isDone_358 (by decide) ?_
                    refine kf_i (W2 := LA K q fb ft fn fm fl fu fg) (vx_runSW (As := [.ref (ad 0), .int 0, .int (nI (one % 5)), .int bu, .int 0, .int 0]) (rest := []) ⟨hx, hb, hml, hown, hts⟩ (h_setBudget_tr hDk hlt hb4 (fun q => q.2 (i32_nle.mp h324))) (vx_cwSW 6 hts gL_isDone_L_does rfl rfl rfl (by decide +kernel) ⟨(Nat.le_of_ble_eq_true rfl), (Nat.le_of_ble_eq_true rfl)⟩) (lps hG hP hD hS) rfl rfl hl.1 rfl (lv_room (Nat.le_of_ble_eq_true rfl)) dL_isDone_359 ⟨(Nat.le_of_ble_eq_true rfl), (Nat.le_of_ble_eq_true rfl)⟩) hS hP hD (fun r359 w H locs hp hP hD hS => ?_)
                    obtain ⟨hv9, hp⟩ := hp
                    rw [hv9]
                    have hDk : DE K ad td n M w := hp
                    refine lv_iload hx hb dL_isDone_362 (lv_at hl 0 rfl) ?_
                    refine lv_icmp_ne (tgt := 371) hx hb dL_isDone_364 (by decide) (fun h364 => False.elim (absurd (by decide) h364)) (fun h364 => ?_)
                    refine lv_iconst (v := 1) hx hb dL_isDone_367 (by decide) ?_
                    refine lv_goto (tgt := 372) hx hb dL_isDone_368 (by decide) ?_
                    exact kr_z hx hb hr hlocks hP hD hS (Nat.le_of_ble_eq_true rfl) (Nat.le_of_ble_eq_true rfl) (Or.inr rfl) (⟨rfl, _, _, _, _, _, _, _, _, _, _, _, rfl, hDk, hR, hJ.up⟩) dL_isDone_372
                · refine lv_bipush (v := (-30)) hx hb dL_isDone_315 (by decide) ?_
                  refine lv_goto (tgt := 337) hx hb dL_isDone_317 (by decide) ?_
                  refine lv_istore (lv' := [(16, .int (-30)), (15, .int bu), (14, .int (nI (one % 5))), (13, .int (nI three)), (12, .int (nI two)), (11, .int (nI one)), (10, .int (nI wh)), (0, .ref (ad 0)), (1, .ref sb), (2, .int (nI at0)), (3, .ref (q 1)), (4, .ref (q 2)), (5, .ref (q 3)), (6, .ref (q 4)), (7, .ref (q 5)), (8, .ref (q 6)), (9, .ref (q 7))]) hx hb dL_isDone_337 hl (by decide) rfl (fun ls hl => ?_)
                  refine lv_iload hx hb dL_isDone_339 (lv_at hl 0 rfl) ?_
                  refine lv_if_lt (tgt := 351) hx hb dL_isDone_341 (by decide) (fun h341 => ?_) (fun h341 => False.elim (absurd (by decide) h341))
                  refine lv_aload_n hx hb dL_isDone_351 rfl (lv_at hl 7 rfl) ?_
                  refine lv_iconst (v := 0) hx hb dL_isDone_352 (by decide) ?_
                  refine lv_iload hx hb dL_isDone_353 (lv_at hl 2 rfl) ?_
                  refine lv_iload hx hb dL_isDone_355 (lv_at hl 1 rfl) ?_
                  refine lv_iconst (v := 0) hx hb dL_isDone_357 (by decide) ?_
                  refine lv_iconst (v := 0) hx hb dL_isDone_358 (by decide) ?_
                  refine kf_i (W2 := LA K q fb ft fn fm fl fu fg) (vx_runSW (As := [.ref (ad 0), .int 0, .int (nI (one % 5)), .int bu, .int 0, .int 0]) (rest := []) ⟨hx, hb, hml, hown, hts⟩ (h_setBudget_tb hDk hlt (ix4e h312)) (vx_cwSW 6 hts gL_isDone_L_does rfl rfl rfl (by decide +kernel) ⟨(Nat.le_of_ble_eq_true rfl), (Nat.le_of_ble_eq_true rfl)⟩) (lps hG hP hD hS) rfl rfl hl.1 rfl (lv_room (Nat.le_of_ble_eq_true rfl)) dL_isDone_359 ⟨(Nat.le_of_ble_eq_true rfl), (Nat.le_of_ble_eq_true rfl)⟩) hS hP hD (fun r359 w H locs hp hP hD hS => ?_)
                  obtain ⟨hv9, hp⟩ := hp
                  rw [hv9]
                  have hDk : DE K ad td n M w := hp
                  refine lv_iload hx hb dL_isDone_362 (lv_at hl 0 rfl) ?_
                  refine lv_icmp_ne (tgt := 371) hx hb dL_isDone_364 (by decide) (fun h364 => False.elim (absurd (by decide) h364)) (fun h364 => ?_)
                  refine lv_iconst (v := 1) hx hb dL_isDone_367 (by decide) ?_
                  refine lv_goto (tgt := 372) hx hb dL_isDone_368 (by decide) ?_
                  exact kr_z hx hb hr hlocks hP hD hS (Nat.le_of_ble_eq_true rfl) (Nat.le_of_ble_eq_true rfl) (Or.inr rfl) (⟨rfl, _, _, _, _, _, _, _, _, _, _, _, rfl, hDk, hR, hJ.up⟩) dL_isDone_372
              refine lv_iload hx hb dL_isDone_288 (lv_at hl 2 rfl) ?_
              refine lv_bipush (v := 30) hx hb dL_isDone_290 (by decide) ?_
              refine lv_irem hx hb dL_isDone_292 (by decide) ?_
              refine ktop (z := nI (two % 30)) (nI_rem (b := 30) (by omega) (by decide)) ?_
              refine lv_if_ne (tgt := 301) hx hb dL_isDone_293 (by decide) (fun h293 => ?_) (fun h293 => ?_)
              · refine lv_iload hx hb dL_isDone_301 (lv_at hl 2 rfl) ?_
                refine lv_sipush (v := 700) hx hb dL_isDone_303 (by decide) ?_
                refine lv_imul hx hb dL_isDone_306 ?_
                exact J307 _ (bud_nn htwo)
              · refine lv_ldc (v := 100000001) hx hb hown (hts (.constant RL 133 100000001) (by decide +kernel)) dL_isDone_296 ?_
                refine lv_goto (tgt := 307) hx hb dL_isDone_298 (by decide) ?_
                exact J307 _ (by decide)
          · refine lv_aload_n hx hb dL_isDone_250 rfl (lv_at hl 4 rfl) ?_
            refine lv_aload_n hx hb dL_isDone_251 rfl (lv_at hl 7 rfl) ?_
            refine lv_aload hx hb dL_isDone_252 (lv_at hl 8 rfl) ?_
            refine lv_aload hx hb dL_isDone_254 (lv_at hl 9 rfl) ?_
            refine lv_aload hx hb dL_isDone_256 (lv_at hl 10 rfl) ?_
            refine lv_aload hx hb dL_isDone_258 (lv_at hl 13 rfl) ?_
            refine lv_iload hx hb dL_isDone_260 (lv_at hl 2 rfl) ?_
            refine lv_aload hx hb dL_isDone_262 (lv_at hl 13 rfl) ?_
            refine lv_iconst (v := 0) hx hb dL_isDone_264 (by decide) ?_
            refine kla_ld (n := 2) (j := 0) (z := (nI n)) hx hb hG hP 6 rfl hR.g0 rfl (by omega) (by decide) dL_isDone_265 ?_
            refine lv_iconst (v := 1) hx hb dL_isDone_266 (by decide) ?_
            refine lv_iadd hx hb dL_isDone_267 ?_
            refine ktop (z := nI (n + 1)) (nI_1 n) ?_
            refine lv_irem hx hb dL_isDone_268 (nI_n0 (Nat.succ_pos n) (by omega)) ?_
            refine ktop (z := nI (one % (n + 1))) (nI_rem (by omega) (by omega)) ?_
            refine lv_iload hx hb dL_isDone_269 (lv_at hl 1 rfl) ?_
            refine kc_i (va_runS (As := [.ref (ad 0), .ref (q 1), .ref (q 2), .ref (q 3), .ref (q 4), .ref (q 7), .int (nI (one % (n + 1))), .int (nI two)]) (rest := []) ⟨hx, hb, hml, hown, hts⟩ (c_isNote hlt hDk hR hJ hsn (Nat.le_of_lt_succ (Nat.mod_lt one (Nat.succ_pos n))) htwo) (va_cwS 8 hts gL_isDone_L_isNote rfl rfl rfl (by decide +kernel) ⟨(Nat.le_of_ble_eq_true rfl), (Nat.le_of_ble_eq_true rfl)⟩) (kps hG hP hD hS) rfl rfl hl.1 rfl (lv_room (Nat.le_of_ble_eq_true rfl)) dL_isDone_271 ⟨(Nat.le_of_ble_eq_true rfl), (Nat.le_of_ble_eq_true rfl)⟩) hS (fun r271 w H locs hp hP hD hS => ?_)
            obtain ⟨hv9, hp⟩ := hp
            rw [hv9]
            exact kr_z hx hb hr hlocks hP hD hS (Nat.le_of_ble_eq_true rfl) (Nat.le_of_ble_eq_true rfl) (Or.inr rfl) (⟨rfl, hp⟩) dL_isDone_274
        · refine lv_iload hx hb dL_isDone_147 (lv_at hl 2 rfl) ?_
          refine lv_aload hx hb dL_isDone_149 (lv_at hl 13 rfl) ?_
          refine lv_iconst (v := 0) hx hb dL_isDone_151 (by decide) ?_
          refine kla_ld (n := 2) (j := 0) (z := (nI n)) hx hb hG hP 6 rfl hR.g0 rfl (by omega) (by decide) dL_isDone_152 ?_
          refine lv_iconst (v := 1) hx hb dL_isDone_153 (by decide) ?_
          refine lv_iadd hx hb dL_isDone_154 ?_
          refine ktop (z := nI (n + 1)) (nI_1 n) ?_
          refine lv_irem hx hb dL_isDone_155 (nI_n0 (Nat.succ_pos n) (by omega)) ?_
          refine ktop (z := nI (one % (n + 1))) (nI_rem (by omega) (by omega)) ?_
          refine lv_istore (lv' := [(14, .int (nI (one % (n + 1)))), (13, .int (nI three)), (12, .int (nI two)), (11, .int (nI one)), (10, .int (nI wh)), (0, .ref (ad 0)), (1, .ref sb), (2, .int (nI at0)), (3, .ref (q 1)), (4, .ref (q 2)), (5, .ref (q 3)), (6, .ref (q 4)), (7, .ref (q 5)), (8, .ref (q 6)), (9, .ref (q 7))]) hx hb dL_isDone_156 hl (by decide) rfl (fun ls hl => ?_)
          refine lv_iload hx hb dL_isDone_158 (lv_at hl 0 rfl) ?_
          refine lv_aload hx hb dL_isDone_160 (lv_at hl 14 rfl) ?_
          refine lv_iconst (v := 0) hx hb dL_isDone_162 (by decide) ?_
          refine kla_ld (n := 2) (j := 0) (z := (nI n)) hx hb hG hP 6 rfl hR.g0 rfl (by omega) (by decide) dL_isDone_163 ?_
          refine lv_icmp_ne (tgt := 172) hx hb dL_isDone_164 (by decide) (fun h164 => ?_) (fun h164 => ?_)
          · have hin : one % (n + 1) < n := ltn (Nat.le_of_lt_succ (Nat.mod_lt one (Nat.succ_pos n))) (by omega) h164
            refine lv_aload hx hb dL_isDone_172 (lv_at hl 9 rfl) ?_
            refine lv_iload hx hb dL_isDone_174 (lv_at hl 0 rfl) ?_
            refine kla_ld (n := 60) (j := one % (n + 1)) (z := (M 6 (one % (n + 1)))) hx hb hG hP 1 rfl (hR.t0 hin) rfl (by omega) (by decide) dL_isDone_176 ?_
            refine lv_iconst (v := 2) hx hb dL_isDone_177 (by decide) ?_
            refine lv_icmp_gt (tgt := 192) hx hb dL_isDone_178 (by decide) (fun h178 => ?_) (fun h178 => ?_)
            · refine lv_bipush (v := (-10)) hx hb dL_isDone_192 (by decide) ?_
              refine lv_goto (tgt := 205) hx hb dL_isDone_194 (by decide) ?_
              refine lv_istore (lv' := [(15, .int (-10)), (14, .int (nI (one % (n + 1)))), (13, .int (nI three)), (12, .int (nI two)), (11, .int (nI one)), (10, .int (nI wh)), (0, .ref (ad 0)), (1, .ref sb), (2, .int (nI at0)), (3, .ref (q 1)), (4, .ref (q 2)), (5, .ref (q 3)), (6, .ref (q 4)), (7, .ref (q 5)), (8, .ref (q 6)), (9, .ref (q 7))]) hx hb dL_isDone_205 hl (by decide) rfl (fun ls hl => ?_)
              refine lv_iload hx hb dL_isDone_207 (lv_at hl 0 rfl) ?_
              refine lv_if_lt (tgt := 221) hx hb dL_isDone_209 (by decide) (fun h209 => ?_) (fun h209 => False.elim (absurd (by decide) h209))
              refine lv_aload_n hx hb dL_isDone_221 rfl (lv_at hl 6 rfl) ?_
              refine lv_bipush (v := 7) hx hb dL_isDone_222 (by decide) ?_
              refine lv_iload hx hb dL_isDone_224 (lv_at hl 1 rfl) ?_
              refine lv_iconst (v := 0) hx hb dL_isDone_226 (by decide) ?_
              refine lv_iconst (v := 0) hx hb dL_isDone_227 (by decide) ?_
              refine lv_iconst (v := 0) hx hb dL_isDone_228 (by decide) ?_
              refine kf_i (W2 := LA K q fb ft fn fm fl fu fg) (vx_runSW (As := [.ref (ad 0), .int 7, .int (nI (one % (n + 1))), .int 0, .int 0, .int 0]) (rest := []) ⟨hx, hb, hml, hown, hts⟩ (h_takeBack_tp hDk hlt hin (fun q => q.2 (st34 (hJ.1.1.2.2.1 _ hin) h178))) (vx_cwSW 6 hts gL_isDone_L_does rfl rfl rfl (by decide +kernel) ⟨(Nat.le_of_ble_eq_true rfl), (Nat.le_of_ble_eq_true rfl)⟩) (lps hG hP hD hS) rfl rfl hl.1 rfl (lv_room (Nat.le_of_ble_eq_true rfl)) dL_isDone_229 ⟨(Nat.le_of_ble_eq_true rfl), (Nat.le_of_ble_eq_true rfl)⟩) hS hP hD (fun r229 w H locs hp hP hD hS => ?_)
              obtain ⟨hv9, hp⟩ := hp
              rw [hv9]
              have hDk : DE K ad td n M w := hp
              refine lv_iload hx hb dL_isDone_232 (lv_at hl 0 rfl) ?_
              refine lv_icmp_ne (tgt := 241) hx hb dL_isDone_234 (by decide) (fun h234 => False.elim (absurd (by decide) h234)) (fun h234 => ?_)
              refine lv_iconst (v := 1) hx hb dL_isDone_237 (by decide) ?_
              refine lv_goto (tgt := 242) hx hb dL_isDone_238 (by decide) ?_
              exact kr_z hx hb hr hlocks hP hD hS (Nat.le_of_ble_eq_true rfl) (Nat.le_of_ble_eq_true rfl) (Or.inr rfl) (⟨rfl, _, _, _, _, _, _, _, _, _, _, _, rfl, hDk, hR, hJ.up⟩) dL_isDone_242
            · refine lv_aload hx hb dL_isDone_181 (lv_at hl 9 rfl) ?_
              refine lv_bipush (v := 30) hx hb dL_isDone_183 (by decide) ?_
              refine lv_iload hx hb dL_isDone_185 (lv_at hl 0 rfl) ?_
              refine lv_iadd hx hb dL_isDone_187 ?_
              refine kla_ld (n := 60) (j := 30 + (one % (n + 1))) (z := (M 7 (one % (n + 1)))) hx hb hG hP 1 (x30 (one % (n + 1))) (hR.t1 hin) rfl (by omega) (by decide) dL_isDone_188 ?_
              refine lv_if_ge (tgt := 197) hx hb dL_isDone_189 (by decide) (fun h189 => ?_) (fun h189 => ?_)
              · refine lv_aload hx hb dL_isDone_197 (lv_at hl 9 rfl) ?_
                refine lv_bipush (v := 30) hx hb dL_isDone_199 (by decide) ?_
                refine lv_iload hx hb dL_isDone_201 (lv_at hl 0 rfl) ?_
                refine lv_iadd hx hb dL_isDone_203 ?_
                refine kla_ld (n := 60) (j := 30 + (one % (n + 1))) (z := (M 7 (one % (n + 1)))) hx hb hG hP 1 (x30 (one % (n + 1))) (hR.t1 hin) rfl (by omega) (by decide) dL_isDone_204 ?_
                refine lv_istore (lv' := [(15, .int (M 7 (one % (n + 1)))), (14, .int (nI (one % (n + 1)))), (13, .int (nI three)), (12, .int (nI two)), (11, .int (nI one)), (10, .int (nI wh)), (0, .ref (ad 0)), (1, .ref sb), (2, .int (nI at0)), (3, .ref (q 1)), (4, .ref (q 2)), (5, .ref (q 3)), (6, .ref (q 4)), (7, .ref (q 5)), (8, .ref (q 6)), (9, .ref (q 7))]) hx hb dL_isDone_205 hl (by decide) rfl (fun ls hl => ?_)
                refine lv_iload hx hb dL_isDone_207 (lv_at hl 0 rfl) ?_
                refine lv_if_lt (tgt := 221) hx hb dL_isDone_209 (by decide) (fun h209 => False.elim (i32_nlt.mpr h189 h209)) (fun h209 => ?_)
                refine lv_aload hx hb dL_isDone_212 (lv_at hl 10 rfl) ?_
                refine lv_bipush (v := 30) hx hb dL_isDone_214 (by decide) ?_
                refine lv_iload hx hb dL_isDone_216 (lv_at hl 1 rfl) ?_
                refine lv_iadd hx hb dL_isDone_218 ?_
                refine lv_iconst (v := (-1)) hx hb dL_isDone_219 (by decide) ?_
                refine kla_st (n := 60) (j := 30 + (one % (n + 1))) hx hb hG hP hD hS 1 (x30 (one % (n + 1))) rfl (by omega) (by decide) dL_isDone_220 (fun H locs hP hD hS => ?_)
                have hP : va_P K.1 kCl (w ++ LA K q fb (upd ft (30 + (one % (n + 1))) (-1)) fn fm fl fu fg) H := hP
                have hD : va_D A (w ++ LA K q fb (upd ft (30 + (one % (n + 1))) (-1)) fn fm fl fu fg) := hD
                refine lv_aload_n hx hb dL_isDone_221 rfl (lv_at hl 6 rfl) ?_
                refine lv_bipush (v := 7) hx hb dL_isDone_222 (by decide) ?_
                refine lv_iload hx hb dL_isDone_224 (lv_at hl 1 rfl) ?_
                refine lv_iconst (v := 0) hx hb dL_isDone_226 (by decide) ?_
                refine lv_iconst (v := 0) hx hb dL_isDone_227 (by decide) ?_
                refine lv_iconst (v := 0) hx hb dL_isDone_228 (by decide) ?_
                refine kf_i (W2 := LA K q fb (upd ft (30 + (one % (n + 1))) (-1)) fn fm fl fu fg) (vx_runSW (As := [.ref (ad 0), .int 7, .int (nI (one % (n + 1))), .int 0, .int 0, .int 0]) (rest := []) ⟨hx, hb, hml, hown, hts⟩ (h_takeBack hDk hin ⟨rt_n1 h189, st34n h178⟩) (vx_cwSW 6 hts gL_isDone_L_does rfl rfl rfl (by decide +kernel) ⟨(Nat.le_of_ble_eq_true rfl), (Nat.le_of_ble_eq_true rfl)⟩) (lps hG hP hD hS) rfl rfl hl.1 rfl (lv_room (Nat.le_of_ble_eq_true rfl)) dL_isDone_229 ⟨(Nat.le_of_ble_eq_true rfl), (Nat.le_of_ble_eq_true rfl)⟩) hS hP hD (fun r229 w H locs hp hP hD hS => ?_)
                obtain ⟨hv9, hp⟩ := hp
                rw [hv9]
                have hDk : DE K ad td n (up2 M 7 (one % (n + 1)) (-1)) w := hp
                refine lv_iload hx hb dL_isDone_232 (lv_at hl 0 rfl) ?_
                refine lv_icmp_ne (tgt := 241) hx hb dL_isDone_234 (by decide) (fun h234 => False.elim (absurd rfl h234)) (fun h234 => ?_)
                refine lv_iconst (v := 1) hx hb dL_isDone_237 (by decide) ?_
                refine lv_goto (tgt := 242) hx hb dL_isDone_238 (by decide) ?_
                exact kr_z hx hb hr hlocks hP hD hS (Nat.le_of_ble_eq_true rfl) (Nat.le_of_ble_eq_true rfl) (Or.inr rfl) (⟨rfl, _, _, _, _, _, _, _, _, _, _, _, rfl, hDk, hR.rate hn30, hJ.rate hin (st34n h178) (Or.inl rfl)⟩) dL_isDone_242
              · refine lv_bipush (v := (-10)) hx hb dL_isDone_192 (by decide) ?_
                refine lv_goto (tgt := 205) hx hb dL_isDone_194 (by decide) ?_
                refine lv_istore (lv' := [(15, .int (-10)), (14, .int (nI (one % (n + 1)))), (13, .int (nI three)), (12, .int (nI two)), (11, .int (nI one)), (10, .int (nI wh)), (0, .ref (ad 0)), (1, .ref sb), (2, .int (nI at0)), (3, .ref (q 1)), (4, .ref (q 2)), (5, .ref (q 3)), (6, .ref (q 4)), (7, .ref (q 5)), (8, .ref (q 6)), (9, .ref (q 7))]) hx hb dL_isDone_205 hl (by decide) rfl (fun ls hl => ?_)
                refine lv_iload hx hb dL_isDone_207 (lv_at hl 0 rfl) ?_
                refine lv_if_lt (tgt := 221) hx hb dL_isDone_209 (by decide) (fun h209 => ?_) (fun h209 => False.elim (absurd (by decide) h209))
                refine lv_aload_n hx hb dL_isDone_221 rfl (lv_at hl 6 rfl) ?_
                refine lv_bipush (v := 7) hx hb dL_isDone_222 (by decide) ?_
                refine lv_iload hx hb dL_isDone_224 (lv_at hl 1 rfl) ?_
                refine lv_iconst (v := 0) hx hb dL_isDone_226 (by decide) ?_
                refine lv_iconst (v := 0) hx hb dL_isDone_227 (by decide) ?_
                refine lv_iconst (v := 0) hx hb dL_isDone_228 (by decide) ?_
                refine kf_i (W2 := LA K q fb ft fn fm fl fu fg) (vx_runSW (As := [.ref (ad 0), .int 7, .int (nI (one % (n + 1))), .int 0, .int 0, .int 0]) (rest := []) ⟨hx, hb, hml, hown, hts⟩ (h_takeBack_tp hDk hlt hin (fun q => q.1 (rt_m1 (hJ.1.1.2.2.1 _ hin) h189))) (vx_cwSW 6 hts gL_isDone_L_does rfl rfl rfl (by decide +kernel) ⟨(Nat.le_of_ble_eq_true rfl), (Nat.le_of_ble_eq_true rfl)⟩) (lps hG hP hD hS) rfl rfl hl.1 rfl (lv_room (Nat.le_of_ble_eq_true rfl)) dL_isDone_229 ⟨(Nat.le_of_ble_eq_true rfl), (Nat.le_of_ble_eq_true rfl)⟩) hS hP hD (fun r229 w H locs hp hP hD hS => ?_)
                obtain ⟨hv9, hp⟩ := hp
                rw [hv9]
                have hDk : DE K ad td n M w := hp
                refine lv_iload hx hb dL_isDone_232 (lv_at hl 0 rfl) ?_
                refine lv_icmp_ne (tgt := 241) hx hb dL_isDone_234 (by decide) (fun h234 => False.elim (absurd (by decide) h234)) (fun h234 => ?_)
                refine lv_iconst (v := 1) hx hb dL_isDone_237 (by decide) ?_
                refine lv_goto (tgt := 242) hx hb dL_isDone_238 (by decide) ?_
                exact kr_z hx hb hr hlocks hP hD hS (Nat.le_of_ble_eq_true rfl) (Nat.le_of_ble_eq_true rfl) (Or.inr rfl) (⟨rfl, _, _, _, _, _, _, _, _, _, _, _, rfl, hDk, hR, hJ.up⟩) dL_isDone_242
          · refine lv_bipush (v := (-30)) hx hb dL_isDone_167 (by decide) ?_
            refine lv_goto (tgt := 205) hx hb dL_isDone_169 (by decide) ?_
            refine lv_istore (lv' := [(15, .int (-30)), (14, .int (nI (one % (n + 1)))), (13, .int (nI three)), (12, .int (nI two)), (11, .int (nI one)), (10, .int (nI wh)), (0, .ref (ad 0)), (1, .ref sb), (2, .int (nI at0)), (3, .ref (q 1)), (4, .ref (q 2)), (5, .ref (q 3)), (6, .ref (q 4)), (7, .ref (q 5)), (8, .ref (q 6)), (9, .ref (q 7))]) hx hb dL_isDone_205 hl (by decide) rfl (fun ls hl => ?_)
            refine lv_iload hx hb dL_isDone_207 (lv_at hl 0 rfl) ?_
            refine lv_if_lt (tgt := 221) hx hb dL_isDone_209 (by decide) (fun h209 => ?_) (fun h209 => False.elim (absurd (by decide) h209))
            refine lv_aload_n hx hb dL_isDone_221 rfl (lv_at hl 6 rfl) ?_
            refine lv_bipush (v := 7) hx hb dL_isDone_222 (by decide) ?_
            refine lv_iload hx hb dL_isDone_224 (lv_at hl 1 rfl) ?_
            refine lv_iconst (v := 0) hx hb dL_isDone_226 (by decide) ?_
            refine lv_iconst (v := 0) hx hb dL_isDone_227 (by decide) ?_
            refine lv_iconst (v := 0) hx hb dL_isDone_228 (by decide) ?_
            refine kf_i (W2 := LA K q fb ft fn fm fl fu fg) (vx_runSW (As := [.ref (ad 0), .int 7, .int (nI (one % (n + 1))), .int 0, .int 0, .int 0]) (rest := []) ⟨hx, hb, hml, hown, hts⟩ (h_takeBack_tb hDk hlt (ixe hn30 h164)) (vx_cwSW 6 hts gL_isDone_L_does rfl rfl rfl (by decide +kernel) ⟨(Nat.le_of_ble_eq_true rfl), (Nat.le_of_ble_eq_true rfl)⟩) (lps hG hP hD hS) rfl rfl hl.1 rfl (lv_room (Nat.le_of_ble_eq_true rfl)) dL_isDone_229 ⟨(Nat.le_of_ble_eq_true rfl), (Nat.le_of_ble_eq_true rfl)⟩) hS hP hD (fun r229 w H locs hp hP hD hS => ?_)
            obtain ⟨hv9, hp⟩ := hp
            rw [hv9]
            have hDk : DE K ad td n M w := hp
            refine lv_iload hx hb dL_isDone_232 (lv_at hl 0 rfl) ?_
            refine lv_icmp_ne (tgt := 241) hx hb dL_isDone_234 (by decide) (fun h234 => False.elim (absurd (by decide) h234)) (fun h234 => ?_)
            refine lv_iconst (v := 1) hx hb dL_isDone_237 (by decide) ?_
            refine lv_goto (tgt := 242) hx hb dL_isDone_238 (by decide) ?_
            exact kr_z hx hb hr hlocks hP hD hS (Nat.le_of_ble_eq_true rfl) (Nat.le_of_ble_eq_true rfl) (Or.inr rfl) (⟨rfl, _, _, _, _, _, _, _, _, _, _, _, rfl, hDk, hR, hJ.up⟩) dL_isDone_242
      · refine lv_aload_n hx hb dL_isDone_115 rfl (lv_at hl 4 rfl) ?_
        refine lv_aload_n hx hb dL_isDone_116 rfl (lv_at hl 7 rfl) ?_
        refine lv_aload hx hb dL_isDone_117 (lv_at hl 8 rfl) ?_
        refine lv_aload hx hb dL_isDone_119 (lv_at hl 13 rfl) ?_
        refine lv_iload hx hb dL_isDone_121 (lv_at hl 2 rfl) ?_
        refine lv_aload hx hb dL_isDone_123 (lv_at hl 13 rfl) ?_
        refine lv_iconst (v := 0) hx hb dL_isDone_125 (by decide) ?_
        refine kla_ld (n := 2) (j := 0) (z := (nI n)) hx hb hG hP 6 rfl hR.g0 rfl (by omega) (by decide) dL_isDone_126 ?_
        refine lv_iconst (v := 1) hx hb dL_isDone_127 (by decide) ?_
        refine lv_iadd hx hb dL_isDone_128 ?_
        refine ktop (z := nI (n + 1)) (nI_1 n) ?_
        refine lv_irem hx hb dL_isDone_129 (nI_n0 (Nat.succ_pos n) (by omega)) ?_
        refine ktop (z := nI (one % (n + 1))) (nI_rem (by omega) (by omega)) ?_
        refine lv_iload hx hb dL_isDone_130 (lv_at hl 1 rfl) ?_
        refine lv_sipush (v := 5003) hx hb dL_isDone_132 (by decide) ?_
        refine lv_irem hx hb dL_isDone_135 (by decide) ?_
        refine ktop (z := nI (two % 5003)) (nI_rem (b := 5003) (by omega) (by decide)) ?_
        refine kc_i (va_runS (As := [.ref (ad 0), .ref (q 1), .ref (q 2), .ref (q 7), .int (nI (one % (n + 1))), .int (nI (two % 5003))]) (rest := []) ⟨hx, hb, hml, hown, hts⟩ (c_isOffer hlt hDk hR hJ hsn (Nat.le_of_lt_succ (Nat.mod_lt one (Nat.succ_pos n))) (Nat.mod_lt _ (by decide))) (va_cwS 6 hts gL_isDone_L_isOffer rfl rfl rfl (by decide +kernel) ⟨(Nat.le_of_ble_eq_true rfl), (Nat.le_of_ble_eq_true rfl)⟩) (kps hG hP hD hS) rfl rfl hl.1 rfl (lv_room (Nat.le_of_ble_eq_true rfl)) dL_isDone_136 ⟨(Nat.le_of_ble_eq_true rfl), (Nat.le_of_ble_eq_true rfl)⟩) hS (fun r136 w H locs hp hP hD hS => ?_)
        obtain ⟨hv9, hp⟩ := hp
        rw [hv9]
        exact kr_z hx hb hr hlocks hP hD hS (Nat.le_of_ble_eq_true rfl) (Nat.le_of_ble_eq_true rfl) (Or.inr rfl) (⟨rfl, hp⟩) dL_isDone_139
    · refine lv_aload_n hx hb dL_isDone_77 rfl (lv_at hl 4 rfl) ?_
      refine lv_aload_n hx hb dL_isDone_78 rfl (lv_at hl 7 rfl) ?_
      refine lv_aload hx hb dL_isDone_79 (lv_at hl 8 rfl) ?_
      refine lv_aload hx hb dL_isDone_81 (lv_at hl 13 rfl) ?_
      refine lv_iload hx hb dL_isDone_83 (lv_at hl 2 rfl) ?_
      refine lv_aload hx hb dL_isDone_85 (lv_at hl 13 rfl) ?_
      refine lv_iconst (v := 0) hx hb dL_isDone_87 (by decide) ?_
      refine kla_ld (n := 2) (j := 0) (z := (nI n)) hx hb hG hP 6 rfl hR.g0 rfl (by omega) (by decide) dL_isDone_88 ?_
      refine lv_iconst (v := 1) hx hb dL_isDone_89 (by decide) ?_
      refine lv_iadd hx hb dL_isDone_90 ?_
      refine ktop (z := nI (n + 1)) (nI_1 n) ?_
      refine lv_irem hx hb dL_isDone_91 (nI_n0 (Nat.succ_pos n) (by omega)) ?_
      refine ktop (z := nI (one % (n + 1))) (nI_rem (by omega) (by omega)) ?_
      refine lv_iload hx hb dL_isDone_92 (lv_at hl 3 rfl) ?_
      refine lv_bipush (v := 16) hx hb dL_isDone_94 (by decide) ?_
      refine lv_icmp_ne (tgt := 103) hx hb dL_isDone_96 (by decide) (fun h96 => ?_) (fun h96 => ?_)
      · refine lv_iconst (v := 0) hx hb dL_isDone_103 (by decide) ?_
        refine kc_i (va_runS (As := [.ref (ad 0), .ref (q 1), .ref (q 2), .ref (q 7), .int (nI (one % (n + 1))), .int 0]) (rest := []) ⟨hx, hb, hml, hown, hts⟩ (c_isApproved_0 hlt hDk hR hJ hsn (Nat.le_of_lt_succ (Nat.mod_lt one (Nat.succ_pos n)))) (va_cwS 6 hts gL_isDone_L_isApproved rfl rfl rfl (by decide +kernel) ⟨(Nat.le_of_ble_eq_true rfl), (Nat.le_of_ble_eq_true rfl)⟩) (kps hG hP hD hS) rfl rfl hl.1 rfl (lv_room (Nat.le_of_ble_eq_true rfl)) dL_isDone_104 ⟨(Nat.le_of_ble_eq_true rfl), (Nat.le_of_ble_eq_true rfl)⟩) hS (fun r104 w H locs hp hP hD hS => ?_)
        obtain ⟨hv9, hp⟩ := hp
        rw [hv9]
        exact kr_z hx hb hr hlocks hP hD hS (Nat.le_of_ble_eq_true rfl) (Nat.le_of_ble_eq_true rfl) (Or.inr rfl) (⟨rfl, hp⟩) dL_isDone_107
      · refine lv_iconst (v := 1) hx hb dL_isDone_99 (by decide) ?_
        refine lv_goto (tgt := 104) hx hb dL_isDone_100 (by decide) ?_
        refine kc_i (va_runS (As := [.ref (ad 0), .ref (q 1), .ref (q 2), .ref (q 7), .int (nI (one % (n + 1))), .int 1]) (rest := []) ⟨hx, hb, hml, hown, hts⟩ (c_isApproved_1 hlt hDk hR hJ hsn (Nat.le_of_lt_succ (Nat.mod_lt one (Nat.succ_pos n)))) (va_cwS 6 hts gL_isDone_L_isApproved rfl rfl rfl (by decide +kernel) ⟨(Nat.le_of_ble_eq_true rfl), (Nat.le_of_ble_eq_true rfl)⟩) (kps hG hP hD hS) rfl rfl hl.1 rfl (lv_room (Nat.le_of_ble_eq_true rfl)) dL_isDone_104 ⟨(Nat.le_of_ble_eq_true rfl), (Nat.le_of_ble_eq_true rfl)⟩) hS (fun r104 w H locs hp hP hD hS => ?_)
        obtain ⟨hv9, hp⟩ := hp
        rw [hv9]
        exact kr_z hx hb hr hlocks hP hD hS (Nat.le_of_ble_eq_true rfl) (Nat.le_of_ble_eq_true rfl) (Or.inr rfl) (⟨rfl, hp⟩) dL_isDone_107
  · refine lv_aload_n hx hb dL_isDone_52 rfl (lv_at hl 4 rfl) ?_
    refine lv_aload_n hx hb dL_isDone_53 rfl (lv_at hl 7 rfl) ?_
    refine lv_aload hx hb dL_isDone_54 (lv_at hl 8 rfl) ?_
    refine lv_aload hx hb dL_isDone_56 (lv_at hl 9 rfl) ?_
    refine lv_aload hx hb dL_isDone_58 (lv_at hl 13 rfl) ?_
    refine lv_iload hx hb dL_isDone_60 (lv_at hl 2 rfl) ?_
    refine lv_iload hx hb dL_isDone_62 (lv_at hl 1 rfl) ?_
    refine lv_iload hx hb dL_isDone_64 (lv_at hl 0 rfl) ?_
    refine kc_i (va_runS (As := [.ref (ad 0), .ref (q 1), .ref (q 2), .ref (q 3), .ref (q 7), .int (nI one), .int (nI two), .int (nI three)]) (rest := []) ⟨hx, hb, hml, hown, hts⟩ (c_isBill hlt hDk hR hJ hsn hone htwo hthree) (va_cwS 8 hts gL_isDone_L_isBill rfl rfl rfl (by decide +kernel) ⟨(Nat.le_of_ble_eq_true rfl), (Nat.le_of_ble_eq_true rfl)⟩) (kps hG hP hD hS) rfl rfl hl.1 rfl (lv_room (Nat.le_of_ble_eq_true rfl)) dL_isDone_66 ⟨(Nat.le_of_ble_eq_true rfl), (Nat.le_of_ble_eq_true rfl)⟩) hS (fun r66 w H locs hp hP hD hS => ?_)
    obtain ⟨hv9, hp⟩ := hp
    rw [hv9]
    exact kr_z hx hb hr hlocks hP hD hS (Nat.le_of_ble_eq_true rfl) (Nat.le_of_ble_eq_true rfl) (Or.inr rfl) (⟨rfl, hp⟩) dL_isDone_69
