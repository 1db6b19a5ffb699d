/-! The law: clearing -/
theorem up2_id {M : Nat → Nat → Int32} {f i : Nat} : up2 M f i (M f i) = M := by
  funext g j
  rw [up2_at]
  split
  · rename_i q; rw [q.1, q.2]
  · rfl
theorem oF_t {M : Nat → Nat → Int32} {b j : Nat} (h1 : M 2 j = nI b) (h2 : M 6 j = 1) (h3 : 0 ≤ M 7 j) : oFF M b j = true := decide_eq_true ⟨h1, h2, h3⟩
theorem oF_n {M : Nat → Nat → Int32} {b j : Nat} (h : ¬ (M 2 j = nI b ∧ M 6 j = 1 ∧ 0 ≤ M 7 j)) : ¬ oFF M b j = true := fun q => h (of_decide_eq_true q)
theorem nI_nl2 {a b : Nat} (h : a ≤ b) (hb : b < 2 ^ 31) (q : nI b < nI a) : False := by
  rw [i32_lt, nI_toInt hb, nI_toInt (by omega)] at q
  omega
theorem md_law {td : Int32} {M : Nat → Nat → Int32} {j : Nat} {x : Int32} : x + (M 4 j - price td M j) = x + disc td M j := by
  have e : ∀ a d : Int32, a - (a - d) = d := fun a d => by rw [Int32.sub_eq_add_neg, Int32.neg_sub, Int32.add_comm, Int32.sub_add_cancel]
  unfold price
  rw [e]
theorem plan_bit {td : Int32} {M : Nat → Nat → Int32} {b n k : Nat} (hk : k < 30) : (acC td n M b >>> (nI k &&& 31)) &&& 1 = 1 ↔ cBt td n M b k = true := by
  rw [bit_30 hk]
  show (if cBt td n M b k = true then (1 : Int32) else 0) = 1 ↔ _
  by_cases c : cBt td n M b k = true
  · rw [if_pos c]; exact ⟨fun _ => c, fun _ => rfl⟩
  · rw [if_neg c]; exact ⟨fun q => absurd q (by decide), fun q => absurd q c⟩
theorem rate_nn {td : Int32} {M : Nat → Nat → Int32} {j : Nat} (h : bOk td M j) (hn : ¬ M 7 j = -1) (q : M 7 j < 0) : False := by
  rw [i32_lt, z0] at q
  exact h.2.2.2.1.elim hn (fun r => by omega)
section CW
variable {s n b : Nat} {td : Int32} {M : Nat → Nat → Int32}
theorem off_12 (h : Jv s td n M) (hk : 12 < (gaL td M b n).length) (q : nI (cntN (oFF M b) n) ≤ 12) : False := by
  rw [off_len h] at hk
  have := cntN_le (oFF M b) n
  have hn := h.1.1.1
  have e12 : (12 : Int32).toInt = 12 := rfl
  rw [i32_le, nI_toInt (by omega), e12] at q
  omega
theorem off_n12 (h : Jv s td n M) (hk : ¬ 12 < (gaL td M b n).length) (q : ¬ nI (cntN (oFF M b) n) ≤ 12) : False := by
  rw [off_len h] at hk
  have := cntN_le (oFF M b) n
  have hn := h.1.1.1
  have e12 : (12 : Int32).toInt = 12 := rfl
  rw [i32_le, nI_toInt (by omega), e12] at q
  omega
theorem cl_sum (h : Jv s td n M) (hs : s ≤ 100000) (hb : b < 4) {r : Int32} {rm : Nat → Int32} (hr : r = bfS td M (ix (gaL td M b n)) (gaL td M b n).length 0 (mrm td n M b rm 8) (M 11 b) (toS td M (ix (gaL td M b n)) (gaL td M b n).length)) (q : r < clD td n M b) : False := by
  have := cl_most h hs hb (rm := rm)
  rw [hr, i32_lt] at q
  omega
theorem cl_left0 (h : Jv s td n M) (hs : s ≤ 100000) (hb : b < 4) {i : Nat} (hc : cBt td n M b i = true) (q : loM td (clT td n M b) b (su M i) n < 0) : False := by
  have := cl_left h hs hb hc
  rw [i32_lt, z0] at q
  omega
theorem cl_u (h : Jv s td n M) (hs : s ≤ 100000) (hb : b < 4) : 0 ≤ (clT td n M b 11 b).toInt ∧ (clT td n M b 11 b).toInt ≤ 100000000 := (h.clear hs hb).1.2.2.2 b hb
theorem cl_u0 (h : Jv s td n M) (hs : s ≤ 100000) (hb : b < 4) (q : clT td n M b 11 b < 0) : False := by
  have := cl_u h hs hb
  rw [i32_lt, z0] at q
  omega
theorem cl_rng (h : Jv s td n M) (hs : s ≤ 100000) (hb : b < 4) : inR 0 100000000 (clT td n M b 11 b) := by
  have := cl_u h hs hb
  have e1 : (100000000 : Int32).toInt = 100000000 := rfl
  exact inR_I.mpr ⟨by rw [z0]; omega, by rw [e1]; omega⟩
end CW
set_option maxHeartbeats 4000000 in
set_option maxRecDepth 100000 in
theorem c_isCleared {l : Launch} {K : Ks} {A : Nat → Prop} {ad q : Nat → Nat} {sn : Nat} {td : Int32} {n : Nat} {M : Nat → Nat → Int32} {w : va_W} {fb ft fn fm fl fu fg : Nat → Int32} (hlt : l.stackTraces = false) (hDk : DE K ad td n M w) (hR : LR td n M fb ft fn fm fl fu fg) (hJ : Jv sn td n M) (hsn : sn ≤ 1000) {bb : Nat} (hbb : bb < 5) : Met l yL_isCleared wsL_isCleared (kR 19 91 5406) (kPr K A [.ref (ad 0), .ref (q 1), .ref (q 2), .ref (q 6), .ref (q 7), .int (nI bb)] (w ++ LA K q fb ft fn fm fl fu fg)) (kQi K A (fun r w1 => r = 1 ∧ LSw K ad q (sn + 1) w1)) 91 5406 A := by
  have hn30 := hJ.1.1.1
  have hok := hJ.1.ok
  refine kent (cc := cL_isCleared) (maxL := 14) (ret := (some .boolean)) (by decide) rfl (Nat.le_of_ble_eq_true rfl) ?_
  intro p e s m args below meth c ls hx hb hr hts hown hlocks hml hini hG hP hD hS hl
  have hl : lv_has ls 14 [(0, .ref (ad 0)), (1, .ref (q 1)), (2, .ref (q 2)), (3, .ref (q 6)), (4, .ref (q 7)), (5, .int (nI bb))] := hl
  refine lv_iload hx hb dL_isCleared_0 (lv_at hl 5 rfl) ?_
  refine lv_iconst (v := 4) hx hb dL_isCleared_2 (by decide) ?_
  refine lv_icmp_ne (tgt := 49) hx hb dL_isCleared_3 (by decide) (fun h3 => ?_) (fun h3 => ?_)
  · have hb4 : bb < 4 := by have := mt (congrArg nI (a₁ := bb) (a₂ := 4)) h3; omega
    refine lv_aload_n hx hb dL_isCleared_49 rfl (lv_at hl 0 rfl) ?_
    refine lv_iload hx hb dL_isCleared_50 (lv_at hl 5 rfl) ?_
    obtain ⟨bad, rm, kq, idx, hQ⟩ := hDk
    refine kf_i (W2 := LA K q fb ft fn fm fl fu fg) (va_runV (As := [.int (nI bb)]) (rest := []) ⟨hx, hb, hml, hown, hts⟩ (c_X1_plan hQ hb4 hok) (cwV 1 hts gL_isCleared_X1_plan rfl rfl rfl (by decide +kernel) ⟨(Nat.le_of_ble_eq_true rfl), (Nat.le_of_ble_eq_true rfl)⟩) (lpv (q0 := 0) hG hP hD hS hQ.x rfl) rfl rfl hl.1 rfl (lv_room (Nat.le_of_ble_eq_true rfl)) dL_isCleared_52 ⟨(Nat.le_of_ble_eq_true rfl), (Nat.le_of_ble_eq_true rfl)⟩) hS hP hD (fun r52 w H locs hp hP hD hS => ?_)
    obtain ⟨hv9, hp⟩ := hp
    rw [hv9]
    have hDk : DE K ad td n M w := ⟨_, hp⟩
    refine lv_istore (lv' := [(6, .int (acC td n M bb)), (0, .ref (ad 0)), (1, .ref (q 1)), (2, .ref (q 2)), (3, .ref (q 6)), (4, .ref (q 7)), (5, .int (nI bb))]) hx hb dL_isCleared_55 hl (by decide) rfl (fun ls hl => ?_)
    refine lv_iconst (v := 0) hx hb dL_isCleared_57 (by decide) ?_
    refine lv_istore (lv' := [(7, .int 0), (6, .int (acC td n M bb)), (0, .ref (ad 0)), (1, .ref (q 1)), (2, .ref (q 2)), (3, .ref (q 6)), (4, .ref (q 7)), (5, .int (nI bb))]) hx hb dL_isCleared_58 hl (by decide) rfl (fun ls hl => ?_)
    refine lv_iconst (v := 0) hx hb dL_isCleared_60 (by decide) ?_
    refine lv_istore (lv' := [(8, .int 0), (7, .int 0), (6, .int (acC td n M bb)), (0, .ref (ad 0)), (1, .ref (q 1)), (2, .ref (q 2)), (3, .ref (q 6)), (4, .ref (q 7)), (5, .int (nI bb))]) hx hb dL_isCleared_61 hl (by decide) rfl (fun ls hl => ?_)
    have LOOP : ∀ (Q' : State → Prop), (∀ (w : va_W)  (ls : Array Slot) (H : Heap) (locs : List Loc), DE K ad td n M w → va_P K.1 kCl (w ++ LA K q fb ft fn fm fl fu fg) H → va_D A (w ++ LA K q fb ft fn fm fl fu fg) → va_S A s.heap H locs → lv_has ls 14 [(0, .ref (ad 0)), (1, .ref (q 1)), (2, .ref (q 2)), (3, .ref (q 6)), (4, .ref (q 7)), (5, .int (nI bb)), (6, .int (acC td n M bb)), (7, .int (nI (cntN (oFF M bb) n))), (8, .int (nI n))] → W p l e ((kR 19 91 5406)) s m args below meth c H locs (0 + 30) (0 + 1800) Q' (F0 m 120 ls [])) → ∀ (d j : Nat) (w : va_W)  (ls : Array Slot) (H : Heap) (locs : List Loc), j + d = n → DE K ad td n M w → va_P K.1 kCl (w ++ LA K q fb ft fn fm fl fu fg) H → va_D A (w ++ LA K q fb ft fn fm fl fu fg) → va_S A s.heap H locs → lv_has ls 14 [(0, .ref (ad 0)), (1, .ref (q 1)), (2, .ref (q 2)), (3, .ref (q 6)), (4, .ref (q 7)), (5, .int (nI bb)), (6, .int (acC td n M bb)), (7, .int (nI (cntN (oFF M bb) j))), (8, .int (nI j))] → W p l e ((kR 19 91 5406)) s m args below meth c H locs (0 + 30) (0 + 1800) Q' (F0 m 63 ls []) := by
      intro Q' kx d
      induction d with
      | zero =>
        intro j w  ls H locs hk hDk hP hD hS hl
        have hk2 : j = n := by omega
        refine lv_iload hx hb dL_isCleared_63 (lv_at hl 8 rfl) ?_
        refine lv_aload hx hb dL_isCleared_65 (lv_at hl 4 rfl) ?_
        refine lv_iconst (v := 0) hx hb dL_isCleared_67 (by decide) ?_
        refine kla_ld (n := 2) (j := 0) (z := (nI n)) hx hb hG hP 6 rfl hR.g0 rfl (by omega) (by decide) dL_isCleared_68 ?_
        refine lv_icmp_ge (tgt := 120) hx hb dL_isCleared_69 (by decide) (fun h69 => ?_) (fun h69 => False.elim (absurd (nI_le (Nat.le_of_eq hk2.symm) (by omega)) h69))
        have hk3 : n = j := hk2.symm
        subst hk3
        exact kx w  ls H locs hDk hP hD hS (lv_sub hl [0, 1, 2, 3, 4, 5, 6, 7, 8] rfl)
      | succ d ih =>
        intro j w  ls H locs hk hDk hP hD hS hl
        have hk2 : j < n := by omega
        have hbe : nI (bu M j) = nI bb ↔ M 2 j = nI bb := by rw [← (hok j hk2).1]
        refine lv_iload hx hb dL_isCleared_63 (lv_at hl 8 rfl) ?_
        refine lv_aload hx hb dL_isCleared_65 (lv_at hl 4 rfl) ?_
        refine lv_iconst (v := 0) hx hb dL_isCleared_67 (by decide) ?_
        refine kla_ld (n := 2) (j := 0) (z := (nI n)) hx hb hG hP 6 rfl hR.g0 rfl (by omega) (by decide) dL_isCleared_68 ?_
        refine lv_icmp_ge (tgt := 120) hx hb dL_isCleared_69 (by decide) (fun h69 => False.elim (absurd h69 (nI_ge hk2 (by omega)))) (fun h69 => ?_)
        refine lv_iload hx hb dL_isCleared_72 (lv_at hl 7 rfl) ?_
        refine lv_aload_n hx hb dL_isCleared_74 rfl (lv_at hl 1 rfl) ?_
        refine lv_iconst (v := 2) hx hb dL_isCleared_75 (by decide) ?_
        refine lv_iload hx hb dL_isCleared_76 (lv_at hl 8 rfl) ?_
        refine lv_imul hx hb dL_isCleared_78 ?_
        refine kla_ld (n := 60) (j := 2 * j) (z := (nI (pr M j))) hx hb hG hP 0 (x2 j) (hR.b0 hk2) rfl (by omega) (by decide) dL_isCleared_79 ?_
        refine lv_bipush (v := 8) hx hb dL_isCleared_80 (by decide) ?_
        refine lv_idiv hx hb dL_isCleared_82 (by decide) ?_
        refine ktop (z := nI (bu M j)) ((d8 (by have := (pr_lt (hok j hk2)).1; omega)).trans (congrArg nI (pr_lt (hok j hk2)).2.1)) ?_
        refine lv_iload hx hb dL_isCleared_83 (lv_at hl 5 rfl) ?_
        refine lv_icmp_ne (tgt := 110) hx hb dL_isCleared_85 (by decide) (fun h85 => ?_) (fun h85 => ?_)
        · refine lv_iconst (v := 0) hx hb dL_isCleared_110 (by decide) ?_
          refine lv_iadd hx hb dL_isCleared_111 ?_
          refine ktop (z := nI (cntN (oFF M bb) (j + 1))) (by rw [cntN_f (oF_n (fun q => h85 (hbe.mpr q.1)))]; exact Int32.add_zero _) ?_
          refine lv_istore (lv' := [(7, .int (nI (cntN (oFF M bb) (j + 1)))), (0, .ref (ad 0)), (1, .ref (q 1)), (2, .ref (q 2)), (3, .ref (q 6)), (4, .ref (q 7)), (5, .int (nI bb)), (6, .int (acC td n M bb)), (8, .int (nI j))]) hx hb dL_isCleared_112 hl (by decide) rfl (fun ls hl => ?_)
          refine lv_iinc (v := nI (j + 1)) (lv' := [(8, .int (nI (j + 1))), (7, .int (nI (cntN (oFF M bb) (j + 1)))), (0, .ref (ad 0)), (1, .ref (q 1)), (2, .ref (q 2)), (3, .ref (q 6)), (4, .ref (q 7)), (5, .int (nI bb)), (6, .int (acC td n M bb))]) hx hb dL_isCleared_114 hl (k := 8) rfl (kinc j) (by decide) rfl (fun ls hl => ?_)
          refine lv_goto (tgt := 63) hx hb dL_isCleared_117 (by decide) ?_
          exact (ih (j + 1) w  ls H locs (by omega) hDk hP hD hS (lv_sub hl [2, 3, 4, 5, 6, 7, 8, 1, 0] rfl))
        · refine lv_aload_n hx hb dL_isCleared_88 rfl (lv_at hl 2 rfl) ?_
          refine lv_iload hx hb dL_isCleared_89 (lv_at hl 8 rfl) ?_
          refine kla_ld (n := 60) (j := j) (z := (M 6 j)) hx hb hG hP 1 rfl (hR.t0 hk2) rfl (by omega) (by decide) dL_isCleared_91 ?_
          refine lv_iconst (v := 1) hx hb dL_isCleared_92 (by decide) ?_
          refine lv_icmp_ne (tgt := 110) hx hb dL_isCleared_93 (by decide) (fun h93 => ?_) (fun h93 => ?_)
          · refine lv_iconst (v := 0) hx hb dL_isCleared_110 (by decide) ?_
            refine lv_iadd hx hb dL_isCleared_111 ?_
            refine ktop (z := nI (cntN (oFF M bb) (j + 1))) (by rw [cntN_f (oF_n (fun q => h93 q.2.1))]; exact Int32.add_zero _) ?_
            refine lv_istore (lv' := [(7, .int (nI (cntN (oFF M bb) (j + 1)))), (0, .ref (ad 0)), (1, .ref (q 1)), (2, .ref (q 2)), (3, .ref (q 6)), (4, .ref (q 7)), (5, .int (nI bb)), (6, .int (acC td n M bb)), (8, .int (nI j))]) hx hb dL_isCleared_112 hl (by decide) rfl (fun ls hl => ?_)
            refine lv_iinc (v := nI (j + 1)) (lv' := [(8, .int (nI (j + 1))), (7, .int (nI (cntN (oFF M bb) (j + 1)))), (0, .ref (ad 0)), (1, .ref (q 1)), (2, .ref (q 2)), (3, .ref (q 6)), (4, .ref (q 7)), (5, .int (nI bb)), (6, .int (acC td n M bb))]) hx hb dL_isCleared_114 hl (k := 8) rfl (kinc j) (by decide) rfl (fun ls hl => ?_)
            refine lv_goto (tgt := 63) hx hb dL_isCleared_117 (by decide) ?_
            exact (ih (j + 1) w  ls H locs (by omega) hDk hP hD hS (lv_sub hl [2, 3, 4, 5, 6, 7, 8, 1, 0] rfl))
          · refine lv_aload_n hx hb dL_isCleared_96 rfl (lv_at hl 2 rfl) ?_
            refine lv_bipush (v := 30) hx hb dL_isCleared_97 (by decide) ?_
            refine lv_iload hx hb dL_isCleared_99 (lv_at hl 8 rfl) ?_
            refine lv_iadd hx hb dL_isCleared_101 ?_
            refine kla_ld (n := 60) (j := 30 + j) (z := (M 7 j)) hx hb hG hP 1 (x30 j) (hR.t1 hk2) rfl (by omega) (by decide) dL_isCleared_102 ?_
            refine lv_if_lt (tgt := 110) hx hb dL_isCleared_103 (by decide) (fun h103 => ?_) (fun h103 => ?_)
            · refine lv_iconst (v := 0) hx hb dL_isCleared_110 (by decide) ?_
              refine lv_iadd hx hb dL_isCleared_111 ?_
              refine ktop (z := nI (cntN (oFF M bb) (j + 1))) (by rw [cntN_f (oF_n (fun q => i32_nlt.mpr q.2.2 h103))]; exact Int32.add_zero _) ?_
              refine lv_istore (lv' := [(7, .int (nI (cntN (oFF M bb) (j + 1)))), (0, .ref (ad 0)), (1, .ref (q 1)), (2, .ref (q 2)), (3, .ref (q 6)), (4, .ref (q 7)), (5, .int (nI bb)), (6, .int (acC td n M bb)), (8, .int (nI j))]) hx hb dL_isCleared_112 hl (by decide) rfl (fun ls hl => ?_)
              refine lv_iinc (v := nI (j + 1)) (lv' := [(8, .int (nI (j + 1))), (7, .int (nI (cntN (oFF M bb) (j + 1)))), (0, .ref (ad 0)), (1, .ref (q 1)), (2, .ref (q 2)), (3, .ref (q 6)), (4, .ref (q 7)), (5, .int (nI bb)), (6, .int (acC td n M bb))]) hx hb dL_isCleared_114 hl (k := 8) rfl (kinc j) (by decide) rfl (fun ls hl => ?_)
              refine lv_goto (tgt := 63) hx hb dL_isCleared_117 (by decide) ?_
              exact (ih (j + 1) w  ls H locs (by omega) hDk hP hD hS (lv_sub hl [2, 3, 4, 5, 6, 7, 8, 1, 0] rfl))
            · refine lv_iconst (v := 1) hx hb dL_isCleared_106 (by decide) ?_
              refine lv_goto (tgt := 111) hx hb dL_isCleared_107 (by decide) ?_
              refine lv_iadd hx hb dL_isCleared_111 ?_
              refine ktop (z := nI (cntN (oFF M bb) (j + 1))) (by rw [cntN_t (oF_t (hbe.mp h85) h93 (i32_nlt.mp h103))]; exact nI_1 _) ?_
              refine lv_istore (lv' := [(7, .int (nI (cntN (oFF M bb) (j + 1)))), (0, .ref (ad 0)), (1, .ref (q 1)), (2, .ref (q 2)), (3, .ref (q 6)), (4, .ref (q 7)), (5, .int (nI bb)), (6, .int (acC td n M bb)), (8, .int (nI j))]) hx hb dL_isCleared_112 hl (by decide) rfl (fun ls hl => ?_)
              refine lv_iinc (v := nI (j + 1)) (lv' := [(8, .int (nI (j + 1))), (7, .int (nI (cntN (oFF M bb) (j + 1)))), (0, .ref (ad 0)), (1, .ref (q 1)), (2, .ref (q 2)), (3, .ref (q 6)), (4, .ref (q 7)), (5, .int (nI bb)), (6, .int (acC td n M bb))]) hx hb dL_isCleared_114 hl (k := 8) rfl (kinc j) (by decide) rfl (fun ls hl => ?_)
              refine lv_goto (tgt := 63) hx hb dL_isCleared_117 (by decide) ?_
              exact (ih (j + 1) w  ls H locs (by omega) hDk hP hD hS (lv_sub hl [2, 3, 4, 5, 6, 7, 8, 1, 0] rfl))
    refine LOOP _ (fun w  ls H locs hDk hP hD hS hl => ?_) n 0 w  ls _ _ (by omega) hDk hP hD hS (lv_sub hl [3, 4, 5, 6, 7, 8, 2, 1, 0] rfl)
    refine lv_aload_n hx hb dL_isCleared_120 rfl (lv_at hl 0 rfl) ?_
    refine lv_bipush (v := 6) hx hb dL_isCleared_121 (by decide) ?_
    refine lv_iload hx hb dL_isCleared_123 (lv_at hl 5 rfl) ?_
    refine lv_iconst (v := 0) hx hb dL_isCleared_125 (by decide) ?_
    by_cases hk12 : 12 < (gaL td M bb n).length
    · refine kf_i (W2 := LA K q fb ft fn fm fl fu fg) (vx_runSW (As := [.ref (ad 0), .int 6, .int (nI bb), .int 0]) (rest := []) ⟨hx, hb, hml, hown, hts⟩ (a_most_tp hDk hlt hb4 hk12) (vx_cwSW 4 hts gL_isCleared_L_asks rfl rfl rfl (by decide +kernel) ⟨(Nat.le_of_ble_eq_true rfl), (Nat.le_of_ble_eq_true rfl)⟩) (lps hG hP hD hS) rfl rfl hl.1 rfl (lv_room (Nat.le_of_ble_eq_true rfl)) dL_isCleared_126 ⟨(Nat.le_of_ble_eq_true rfl), (Nat.le_of_ble_eq_true rfl)⟩) hS hP hD (fun r126 w H locs hp hP hD hS => ?_)
      obtain ⟨hv9, hp⟩ := hp
      rw [hv9]
      have hDk : DE K ad td n M w := hp
      refine lv_istore (lv' := [(8, .int (-2000000010)), (0, .ref (ad 0)), (1, .ref (q 1)), (2, .ref (q 2)), (3, .ref (q 6)), (4, .ref (q 7)), (5, .int (nI bb)), (6, .int (acC td n M bb)), (7, .int (nI (cntN (oFF M bb) n)))]) hx hb dL_isCleared_129 hl (by decide) rfl (fun ls hl => ?_)
      refine lv_aload_n hx hb dL_isCleared_131 rfl (lv_at hl 1 rfl) ?_
      refine lv_iload hx hb dL_isCleared_132 (lv_at hl 6 rfl) ?_
      obtain ⟨bad, rm, kq, idx, hQ⟩ := hDk
      refine kf_i (W2 := LA K q fb ft fn fm fl fu fg) (va_runV (As := [.int (nI bb)]) (rest := []) ⟨hx, hb, hml, hown, hts⟩ (c_X1_clear hQ hb4 hok) (cwV 1 hts gL_isCleared_X1_clear rfl rfl rfl (by decide +kernel) ⟨(Nat.le_of_ble_eq_true rfl), (Nat.le_of_ble_eq_true rfl)⟩) (lpv (q0 := 0) hG hP hD hS hQ.x rfl) rfl rfl hl.1 rfl (lv_room (Nat.le_of_ble_eq_true rfl)) dL_isCleared_134 ⟨(Nat.le_of_ble_eq_true rfl), (Nat.le_of_ble_eq_true rfl)⟩) hS hP hD (fun r134 w H locs hp hP hD hS => ?_)
      obtain ⟨hv9, hp⟩ := hp
      rw [hv9]
      have hDk : DE K ad td n (clT td n M bb) w := ⟨_, hp⟩
      refine lv_istore (lv' := [(9, .int (clD td n M bb)), (8, .int (-2000000010)), (0, .ref (ad 0)), (1, .ref (q 1)), (2, .ref (q 2)), (3, .ref (q 6)), (4, .ref (q 7)), (5, .int (nI bb)), (6, .int (acC td n M bb)), (7, .int (nI (cntN (oFF M bb) n)))]) hx hb dL_isCleared_137 hl (by decide) rfl (fun ls hl => ?_)
      refine lv_iconst (v := 0) hx hb dL_isCleared_139 (by decide) ?_
      refine lv_istore (lv' := [(10, .int 0), (9, .int (clD td n M bb)), (8, .int (-2000000010)), (0, .ref (ad 0)), (1, .ref (q 1)), (2, .ref (q 2)), (3, .ref (q 6)), (4, .ref (q 7)), (5, .int (nI bb)), (6, .int (acC td n M bb)), (7, .int (nI (cntN (oFF M bb) n)))]) hx hb dL_isCleared_140 hl (by decide) rfl (fun ls hl => ?_)
      refine lv_iconst (v := 0) hx hb dL_isCleared_142 (by decide) ?_
      refine lv_istore (lv' := [(11, .int 0), (10, .int 0), (9, .int (clD td n M bb)), (8, .int (-2000000010)), (0, .ref (ad 0)), (1, .ref (q 1)), (2, .ref (q 2)), (3, .ref (q 6)), (4, .ref (q 7)), (5, .int (nI bb)), (6, .int (acC td n M bb)), (7, .int (nI (cntN (oFF M bb) n)))]) hx hb dL_isCleared_143 hl (by decide) rfl (fun ls hl => ?_)
      refine lv_iload hx hb dL_isCleared_145 (lv_at hl 10 rfl) ?_
      refine lv_if_lt (tgt := 188) hx hb dL_isCleared_147 (by decide) (fun h147 => False.elim (i32_nlt.mpr (plan_nn hn30) h147)) (fun h147 => ?_)
      refine lv_iload hx hb dL_isCleared_150 (lv_at hl 10 rfl) ?_
      refine kc_i (va_runS (As := [.int (acC td n M bb)]) (rest := []) ⟨hx, hb, hml, hown, hts⟩ (c_bits) (va_cwS 1 hts gL_isCleared_L_bits rfl rfl rfl (by decide +kernel) ⟨(Nat.le_of_ble_eq_true rfl), (Nat.le_of_ble_eq_true rfl)⟩) (kps hG hP hD hS) rfl rfl hl.1 rfl (lv_room (Nat.le_of_ble_eq_true rfl)) dL_isCleared_152 ⟨(Nat.le_of_ble_eq_true rfl), (Nat.le_of_ble_eq_true rfl)⟩) hS (fun r152 w9 H locs hp hP hD hS => ?_)
      rw [hp.2] at hP hD
      rw [hp.1]
      refine ktop (z := nI (cntN (cBt td n M bb) n)) (plan_bits hn30) ?_
      refine lv_iload hx hb dL_isCleared_155 (lv_at hl 11 rfl) ?_
      refine lv_icmp_gt (tgt := 188) hx hb dL_isCleared_157 (by decide) (fun h157 => False.elim (nI_nl2 (plan_cnt hJ) (by have := cntN_le (oFF M bb) n; omega) h157)) (fun h157 => ?_)
      refine lv_iload hx hb dL_isCleared_160 (lv_at hl 11 rfl) ?_
      refine lv_bipush (v := 12) hx hb dL_isCleared_162 (by decide) ?_
      refine lv_icmp_le (tgt := 177) hx hb dL_isCleared_164 (by decide) (fun h164 => False.elim (off_12 hJ hk12 h164)) (fun h164 => ?_)
      refine lv_iload hx hb dL_isCleared_167 (lv_at hl 3 rfl) ?_
      refine lv_ldc (v := -2000000010) hx hb hown (hts (.constant RL 83 (-2000000010)) (by decide +kernel)) dL_isCleared_169 ?_
      refine lv_icmp_ne (tgt := 188) hx hb dL_isCleared_171 (by decide) (fun h171 => False.elim (absurd (by decide) h171)) (fun h171 => ?_)
      refine lv_goto (tgt := 184) hx hb dL_isCleared_174 (by decide) ?_
      refine lv_iconst (v := 1) hx hb dL_isCleared_184 (by decide) ?_
      refine lv_goto (tgt := 189) hx hb dL_isCleared_185 (by decide) ?_
      refine lv_istore (lv' := [(12, .int 1), (11, .int 0), (10, .int 0), (9, .int (clD td n M bb)), (8, .int (-2000000010)), (0, .ref (ad 0)), (1, .ref (q 1)), (2, .ref (q 2)), (3, .ref (q 6)), (4, .ref (q 7)), (5, .int (nI bb)), (6, .int (acC td n M bb)), (7, .int (nI (cntN (oFF M bb) n)))]) hx hb dL_isCleared_189 hl (by decide) rfl (fun ls hl => ?_)
      refine lv_iconst (v := 0) hx hb dL_isCleared_191 (by decide) ?_
      refine lv_istore (lv' := [(13, .int 0), (12, .int 1), (11, .int 0), (10, .int 0), (9, .int (clD td n M bb)), (8, .int (-2000000010)), (0, .ref (ad 0)), (1, .ref (q 1)), (2, .ref (q 2)), (3, .ref (q 6)), (4, .ref (q 7)), (5, .int (nI bb)), (6, .int (acC td n M bb)), (7, .int (nI (cntN (oFF M bb) n)))]) hx hb dL_isCleared_192 hl (by decide) rfl (fun ls hl => ?_)
      have LOOP : ∀ (Q' : State → Prop), (∀ (w : va_W)  (ls : Array Slot) (H : Heap) (locs : List Loc), DE K ad td n (clT td n M bb) w → va_P K.1 kCl (w ++ LA K q fb (ptS 3 (cBt td n M bb) ft n) fn fm fl fu fg) H → va_D A (w ++ LA K q fb (ptS 3 (cBt td n M bb) ft n) fn fm fl fu fg) → va_S A s.heap H locs → lv_has ls 14 [(0, .ref (ad 0)), (1, .ref (q 1)), (2, .ref (q 2)), (3, .ref (q 6)), (4, .ref (q 7)), (5, .int (nI bb)), (6, .int (acC td n M bb)), (7, .int (nI (cntN (oFF M bb) n))), (8, .int (-2000000010)), (9, .int (clD td n M bb)), (10, .int (smS (cBt td n M bb) (disc td M) n)), (11, .int (smS (cBt td n M bb) (price td M) n)), (12, .int 1), (13, .int (nI n))] → W p l e ((kR 19 91 5406)) s m args below meth c H locs (0 + 30 + 31 + 30) (0 + 1800 + 1806 + 1800) Q' (F0 m 326 ls [])) → ∀ (d j : Nat) (w : va_W)  (ls : Array Slot) (H : Heap) (locs : List Loc), j + d = n → DE K ad td n (clT td n M bb) w → va_P K.1 kCl (w ++ LA K q fb (ptS 3 (cBt td n M bb) ft j) fn fm fl fu fg) H → va_D A (w ++ LA K q fb (ptS 3 (cBt td n M bb) ft j) fn fm fl fu fg) → va_S A s.heap H locs → lv_has ls 14 [(0, .ref (ad 0)), (1, .ref (q 1)), (2, .ref (q 2)), (3, .ref (q 6)), (4, .ref (q 7)), (5, .int (nI bb)), (6, .int (acC td n M bb)), (7, .int (nI (cntN (oFF M bb) n))), (8, .int (-2000000010)), (9, .int (clD td n M bb)), (10, .int (smS (cBt td n M bb) (disc td M) j)), (11, .int (smS (cBt td n M bb) (price td M) j)), (12, .int 1), (13, .int (nI j))] → W p l e ((kR 19 91 5406)) s m args below meth c H locs (0 + 30 + 31 + 30) (0 + 1800 + 1806 + 1800) Q' (F0 m 194 ls []) := by
        intro Q' kx d
        induction d with
        | zero =>
          intro j w  ls H locs hk hDk hP hD hS hl
          have hk2 : j = n := by omega
          refine lv_iload hx hb dL_isCleared_194 (lv_at hl 13 rfl) ?_
          refine lv_aload hx hb dL_isCleared_196 (lv_at hl 4 rfl) ?_
          refine lv_iconst (v := 0) hx hb dL_isCleared_198 (by decide) ?_
          refine kla_ld (n := 2) (j := 0) (z := (nI n)) hx hb hG hP 6 rfl hR.g0 rfl (by omega) (by decide) dL_isCleared_199 ?_
          refine lv_icmp_ge (tgt := 326) hx hb dL_isCleared_200 (by decide) (fun h200 => ?_) (fun h200 => False.elim (absurd (nI_le (Nat.le_of_eq hk2.symm) (by omega)) h200))
          have hk3 : n = j := hk2.symm
          subst hk3
          exact kx w  ls H locs hDk hP hD hS (lv_sub hl [0, 1, 2, 3, 4, 5, 6, 7, 8, 9, 10, 11, 12, 13] rfl)
        | succ d ih =>
          intro j w  ls H locs hk hDk hP hD hS hl
          have hk2 : j < n := by omega
          have hbe : nI (bu M j) = nI bb ↔ M 2 j = nI bb := by rw [← (hok j hk2).1]
          have hbit := plan_bit (td := td) (M := M) (b := bb) (n := n) (k := j) (by omega)
          refine lv_iload hx hb dL_isCleared_194 (lv_at hl 13 rfl) ?_
          refine lv_aload hx hb dL_isCleared_196 (lv_at hl 4 rfl) ?_
          refine lv_iconst (v := 0) hx hb dL_isCleared_198 (by decide) ?_
          refine kla_ld (n := 2) (j := 0) (z := (nI n)) hx hb hG hP 6 rfl hR.g0 rfl (by omega) (by decide) dL_isCleared_199 ?_
          refine lv_icmp_ge (tgt := 326) hx hb dL_isCleared_200 (by decide) (fun h200 => False.elim (absurd h200 (nI_ge hk2 (by omega)))) (fun h200 => ?_)
          refine lv_iload hx hb dL_isCleared_203 (lv_at hl 12 rfl) ?_
          refine lv_if_eq (tgt := 326) hx hb dL_isCleared_205 (by decide) (fun h205 => False.elim (absurd h205 (by decide))) (fun h205 => ?_)
          refine lv_iload hx hb dL_isCleared_208 (lv_at hl 6 rfl) ?_
          refine lv_iload hx hb dL_isCleared_210 (lv_at hl 13 rfl) ?_
          refine lv_ishr hx hb dL_isCleared_212 ?_
          refine lv_iconst (v := 1) hx hb dL_isCleared_213 (by decide) ?_
          refine lv_iand hx hb dL_isCleared_214 ?_
          refine lv_iconst (v := 1) hx hb dL_isCleared_215 (by decide) ?_
          refine lv_icmp_ne (tgt := 320) hx hb dL_isCleared_216 (by decide) (fun h216 => ?_) (fun h216 => ?_)
          · refine lv_iinc (v := nI (j + 1)) (lv' := [(13, .int (nI (j + 1))), (0, .ref (ad 0)), (1, .ref (q 1)), (2, .ref (q 2)), (3, .ref (q 6)), (4, .ref (q 7)), (5, .int (nI bb)), (6, .int (acC td n M bb)), (7, .int (nI (cntN (oFF M bb) n))), (8, .int (-2000000010)), (9, .int (clD td n M bb)), (10, .int (smS (cBt td n M bb) (disc td M) j)), (11, .int (smS (cBt td n M bb) (price td M) j)), (12, .int 1)]) hx hb dL_isCleared_320 hl (k := 13) rfl (kinc j) (by decide) rfl (fun ls hl => ?_)
            refine lv_goto (tgt := 194) hx hb dL_isCleared_323 (by decide) ?_
            exact (ih (j + 1) w  ls H locs (by omega) hDk (by rw [ptS_f (fun q => h216 (hbit.mpr q))]; exact hP) (by rw [ptS_f (fun q => h216 (hbit.mpr q))]; exact hD) hS (by rw [smS_f (f := disc td M) (fun q => h216 (hbit.mpr q)), smS_f (f := price td M) (fun q => h216 (hbit.mpr q))]; exact lv_sub hl [1, 2, 3, 4, 5, 6, 7, 8, 9, 10, 11, 12, 13, 0] rfl))
          · have hc : cBt td n M bb j = true := hbit.mp h216
            have hcm := cb_off hn30 hc
            refine lv_aload_n hx hb dL_isCleared_219 rfl (lv_at hl 1 rfl) ?_
            refine lv_iconst (v := 2) hx hb dL_isCleared_220 (by decide) ?_
            refine lv_iload hx hb dL_isCleared_221 (lv_at hl 13 rfl) ?_
            refine lv_imul hx hb dL_isCleared_223 ?_
            refine kla_ld (n := 60) (j := 2 * j) (z := (nI (pr M j))) hx hb hG hP 0 (x2 j) (hR.b0 hk2) rfl (by omega) (by decide) dL_isCleared_224 ?_
            refine lv_bipush (v := 8) hx hb dL_isCleared_225 (by decide) ?_
            refine lv_idiv hx hb dL_isCleared_227 (by decide) ?_
            refine ktop (z := nI (bu M j)) ((d8 (by have := (pr_lt (hok j hk2)).1; omega)).trans (congrArg nI (pr_lt (hok j hk2)).2.1)) ?_
            refine lv_iload hx hb dL_isCleared_228 (lv_at hl 5 rfl) ?_
            refine lv_icmp_ne (tgt := 283) hx hb dL_isCleared_230 (by decide) (fun h230 => False.elim (h230 (hbe.mpr hcm.2.1))) (fun h230 => ?_)
            refine lv_aload_n hx hb dL_isCleared_233 rfl (lv_at hl 2 rfl) ?_
            refine lv_iload hx hb dL_isCleared_234 (lv_at hl 13 rfl) ?_
            refine kla_ld (n := 60) (j := j) (z := (M 6 j)) hx hb hG hP 1 rfl (by rw [ptS_at, if_neg (fun q => absurd q.1 (Nat.lt_irrefl j))]; exact hR.t0 hk2) rfl (by omega) (by decide) dL_isCleared_236 ?_
            refine lv_iconst (v := 1) hx hb dL_isCleared_237 (by decide) ?_
            refine lv_icmp_ne (tgt := 283) hx hb dL_isCleared_238 (by decide) (fun h238 => False.elim (h238 hcm.2.2.1)) (fun h238 => ?_)
            refine lv_aload_n hx hb dL_isCleared_241 rfl (lv_at hl 2 rfl) ?_
            refine lv_bipush (v := 30) hx hb dL_isCleared_242 (by decide) ?_
            refine lv_iload hx hb dL_isCleared_244 (lv_at hl 13 rfl) ?_
            refine lv_iadd hx hb dL_isCleared_246 ?_
            refine kla_ld (n := 60) (j := 30 + j) (z := (M 7 j)) hx hb hG hP 1 (x30 j) (by rw [ptS_at, if_neg (fun q => absurd q.1 (by omega))]; exact hR.t1 hk2) rfl (by omega) (by decide) dL_isCleared_247 ?_
            refine lv_if_lt (tgt := 283) hx hb dL_isCleared_248 (by decide) (fun h248 => False.elim (rate_nn (hJ.1.1.2.2.1 j hk2) hcm.2.2.2.1 h248)) (fun h248 => ?_)
            refine lv_aload_n hx hb dL_isCleared_251 rfl (lv_at hl 0 rfl) ?_
            refine lv_iload hx hb dL_isCleared_252 (lv_at hl 13 rfl) ?_
            obtain ⟨bad, rm, kq, idx, hQ⟩ := hDk
            refine kf_i (W2 := LA K q fb (ptS 3 (cBt td n M bb) ft j) fn fm fl fu fg) (va_runV (As := [.int (nI j)]) (rest := []) ⟨hx, hb, hml, hown, hts⟩ (c_X1_state hQ hk2) (cwV 1 hts gL_isCleared_X1_state rfl rfl rfl (by decide +kernel) ⟨(Nat.le_of_ble_eq_true rfl), (Nat.le_of_ble_eq_true rfl)⟩) (lpv (q0 := 0) hG hP hD hS hQ.x rfl) rfl rfl hl.1 rfl (lv_room (Nat.le_of_ble_eq_true rfl)) dL_isCleared_254 ⟨(Nat.le_of_ble_eq_true rfl), (Nat.le_of_ble_eq_true rfl)⟩) hS hP hD (fun r254 w H locs hp hP hD hS => ?_)
            obtain ⟨hv9, hp⟩ := hp
            rw [hv9]
            have hDk : DE K ad td n (clT td n M bb) w := ⟨_, _, _, _, hp⟩
            refine ktop (z := 3) (by rw [clT_6 hJ (by omega) hb4, if_pos hc]) ?_
            refine lv_iconst (v := 3) hx hb dL_isCleared_257 (by decide) ?_
            refine lv_icmp_ne (tgt := 283) hx hb dL_isCleared_258 (by decide) (fun h258 => False.elim (absurd (by decide) h258)) (fun h258 => ?_)
            refine lv_aload_n hx hb dL_isCleared_261 rfl (lv_at hl 0 rfl) ?_
            refine lv_iload hx hb dL_isCleared_262 (lv_at hl 5 rfl) ?_
            refine lv_aload_n hx hb dL_isCleared_264 rfl (lv_at hl 1 rfl) ?_
            refine lv_iconst (v := 2) hx hb dL_isCleared_265 (by decide) ?_
            refine lv_iload hx hb dL_isCleared_266 (lv_at hl 13 rfl) ?_
            refine lv_imul hx hb dL_isCleared_268 ?_
            refine kla_ld (n := 60) (j := 2 * j) (z := (nI (pr M j))) hx hb hG hP 0 (x2 j) (hR.b0 hk2) rfl (by omega) (by decide) dL_isCleared_269 ?_
            refine lv_bipush (v := 8) hx hb dL_isCleared_270 (by decide) ?_
            refine lv_irem hx hb dL_isCleared_272 (by decide) ?_
            refine ktop (z := nI (su M j)) ((m8 (by have := (pr_lt (hok j hk2)).1; omega)).trans (congrArg nI (pr_lt (hok j hk2)).2.2)) ?_
            obtain ⟨bad, rm, kq, idx, hQ⟩ := hDk
            refine kf_i (W2 := LA K q fb (ptS 3 (cBt td n M bb) ft j) fn fm fl fu fg) (va_runV (As := [.int (nI bb), .int (nI (su M j))]) (rest := []) ⟨hx, hb, hml, hown, hts⟩ (c_X1_left hQ hb4 (hok j hk2).2.2.2) (cwV 2 hts gL_isCleared_X1_left rfl rfl rfl (by decide +kernel) ⟨(Nat.le_of_ble_eq_true rfl), (Nat.le_of_ble_eq_true rfl)⟩) (lpv (q0 := 0) hG hP hD hS hQ.x rfl) rfl rfl hl.1 rfl (lv_room (Nat.le_of_ble_eq_true rfl)) dL_isCleared_273 ⟨(Nat.le_of_ble_eq_true rfl), (Nat.le_of_ble_eq_true rfl)⟩) hS hP hD (fun r273 w H locs hp hP hD hS => ?_)
            obtain ⟨hv9, hp⟩ := hp
            rw [hv9]
            have hDk : DE K ad td n (clT td n M bb) w := ⟨_, _, _, _, hp⟩
            refine lv_if_lt (tgt := 283) hx hb dL_isCleared_276 (by decide) (fun h276 => False.elim (cl_left0 hJ (by omega) hb4 hc h276)) (fun h276 => ?_)
            refine lv_iconst (v := 1) hx hb dL_isCleared_279 (by decide) ?_
            refine lv_goto (tgt := 284) hx hb dL_isCleared_280 (by decide) ?_
            refine lv_istore (lv' := [(12, .int 1), (0, .ref (ad 0)), (1, .ref (q 1)), (2, .ref (q 2)), (3, .ref (q 6)), (4, .ref (q 7)), (5, .int (nI bb)), (6, .int (acC td n M bb)), (7, .int (nI (cntN (oFF M bb) n))), (8, .int (-2000000010)), (9, .int (clD td n M bb)), (10, .int (smS (cBt td n M bb) (disc td M) j)), (11, .int (smS (cBt td n M bb) (price td M) j)), (13, .int (nI j))]) hx hb dL_isCleared_284 hl (by decide) rfl (fun ls hl => ?_)
            refine lv_aload_n hx hb dL_isCleared_286 rfl (lv_at hl 3 rfl) ?_
            refine lv_iload hx hb dL_isCleared_287 (lv_at hl 13 rfl) ?_
            refine lv_iconst (v := 3) hx hb dL_isCleared_289 (by decide) ?_
            refine kla_st (n := 60) (j := j) hx hb hG hP hD hS 1 rfl rfl (by omega) (by decide) dL_isCleared_290 (fun H locs hP hD hS => ?_)
            have hP : va_P K.1 kCl (w ++ LA K q fb (upd (ptS 3 (cBt td n M bb) ft j) j 3) fn fm fl fu fg) H := hP
            have hD : va_D A (w ++ LA K q fb (upd (ptS 3 (cBt td n M bb) ft j) j 3) fn fm fl fu fg) := hD
            refine lv_iload hx hb dL_isCleared_291 (lv_at hl 11 rfl) ?_
            refine lv_aload_n hx hb dL_isCleared_293 rfl (lv_at hl 1 rfl) ?_
            refine lv_iload hx hb dL_isCleared_294 (lv_at hl 13 rfl) ?_
            obtain ⟨bad, rm, kq, idx, hQ⟩ := hDk
            refine kf_i (W2 := LA K q fb (upd (ptS 3 (cBt td n M bb) ft j) j 3) fn fm fl fu fg) (va_runV (As := [.int (nI j)]) (rest := [.int (smS (cBt td n M bb) (disc td M) j)]) ⟨hx, hb, hml, hown, hts⟩ (c_X1_amount hQ hk2) (cwV 1 hts gL_isCleared_X1_amount rfl rfl rfl (by decide +kernel) ⟨(Nat.le_of_ble_eq_true rfl), (Nat.le_of_ble_eq_true rfl)⟩) (lpv (q0 := 0) hG hP hD hS hQ.x rfl) rfl rfl hl.1 rfl (lv_room (Nat.le_of_ble_eq_true rfl)) dL_isCleared_296 ⟨(Nat.le_of_ble_eq_true rfl), (Nat.le_of_ble_eq_true rfl)⟩) hS hP hD (fun r296 w H locs hp hP hD hS => ?_)
            obtain ⟨hv9, hp⟩ := hp
            rw [hv9]
            have hDk : DE K ad td n (clT td n M bb) w := ⟨_, _, _, _, hp⟩
            refine ktop (z := (M 4 j)) (congrFun (clT_n (by decide) (by decide) (by decide) (by decide) (by decide)) j) ?_
            refine lv_aload_n hx hb dL_isCleared_299 rfl (lv_at hl 1 rfl) ?_
            refine lv_iload hx hb dL_isCleared_300 (lv_at hl 13 rfl) ?_
            obtain ⟨bad, rm, kq, idx, hQ⟩ := hDk
            refine kf_i (W2 := LA K q fb (upd (ptS 3 (cBt td n M bb) ft j) j 3) fn fm fl fu fg) (va_runV (As := [.int (nI j)]) (rest := [.int (M 4 j), .int (smS (cBt td n M bb) (disc td M) j)]) ⟨hx, hb, hml, hown, hts⟩ (c_X1_paid hQ hk2) (cwV 1 hts gL_isCleared_X1_paid rfl rfl rfl (by decide +kernel) ⟨(Nat.le_of_ble_eq_true rfl), (Nat.le_of_ble_eq_true rfl)⟩) (lpv (q0 := 0) hG hP hD hS hQ.x rfl) rfl rfl hl.1 rfl (lv_room (Nat.le_of_ble_eq_true rfl)) dL_isCleared_302 ⟨(Nat.le_of_ble_eq_true rfl), (Nat.le_of_ble_eq_true rfl)⟩) hS hP hD (fun r302 w H locs hp hP hD hS => ?_)
            obtain ⟨hv9, hp⟩ := hp
            rw [hv9]
            have hDk : DE K ad td n (clT td n M bb) w := ⟨_, _, _, _, hp⟩
            refine ktop (z := (price td M j)) (by rw [clT_8 hJ (by omega) hb4, if_pos hc]) ?_
            refine lv_isub hx hb dL_isCleared_305 ?_
            refine lv_iadd hx hb dL_isCleared_306 ?_
            refine ktop (z := smS (cBt td n M bb) (disc td M) (j + 1)) (by rw [smS_t hc, md_law]) ?_
            refine lv_istore (lv' := [(10, .int (smS (cBt td n M bb) (disc td M) (j + 1))), (12, .int 1), (0, .ref (ad 0)), (1, .ref (q 1)), (2, .ref (q 2)), (3, .ref (q 6)), (4, .ref (q 7)), (5, .int (nI bb)), (6, .int (acC td n M bb)), (7, .int (nI (cntN (oFF M bb) n))), (8, .int (-2000000010)), (9, .int (clD td n M bb)), (11, .int (smS (cBt td n M bb) (price td M) j)), (13, .int (nI j))]) hx hb dL_isCleared_307 hl (by decide) rfl (fun ls hl => ?_)
            refine lv_iload hx hb dL_isCleared_309 (lv_at hl 12 rfl) ?_
            refine lv_aload_n hx hb dL_isCleared_311 rfl (lv_at hl 2 rfl) ?_
            refine lv_iload hx hb dL_isCleared_312 (lv_at hl 13 rfl) ?_
            obtain ⟨bad, rm, kq, idx, hQ⟩ := hDk
            refine kf_i (W2 := LA K q fb (upd (ptS 3 (cBt td n M bb) ft j) j 3) fn fm fl fu fg) (va_runV (As := [.int (nI j)]) (rest := [.int (smS (cBt td n M bb) (price td M) j)]) ⟨hx, hb, hml, hown, hts⟩ (c_X1_paid hQ hk2) (cwV 1 hts gL_isCleared_X1_paid rfl rfl rfl (by decide +kernel) ⟨(Nat.le_of_ble_eq_true rfl), (Nat.le_of_ble_eq_true rfl)⟩) (lpv (q0 := 0) hG hP hD hS hQ.x rfl) rfl rfl hl.1 rfl (lv_room (Nat.le_of_ble_eq_true rfl)) dL_isCleared_314 ⟨(Nat.le_of_ble_eq_true rfl), (Nat.le_of_ble_eq_true rfl)⟩) hS hP hD (fun r314 w H locs hp hP hD hS => ?_)
            obtain ⟨hv9, hp⟩ := hp
            rw [hv9]
            have hDk : DE K ad td n (clT td n M bb) w := ⟨_, _, _, _, hp⟩
            refine ktop (z := (price td M j)) (by rw [clT_8 hJ (by omega) hb4, if_pos hc]) ?_
            refine lv_iadd hx hb dL_isCleared_317 ?_
            refine ktop (z := smS (cBt td n M bb) (price td M) (j + 1)) (by rw [smS_t hc]) ?_
            refine lv_istore (lv' := [(11, .int (smS (cBt td n M bb) (price td M) (j + 1))), (10, .int (smS (cBt td n M bb) (disc td M) (j + 1))), (12, .int 1), (0, .ref (ad 0)), (1, .ref (q 1)), (2, .ref (q 2)), (3, .ref (q 6)), (4, .ref (q 7)), (5, .int (nI bb)), (6, .int (acC td n M bb)), (7, .int (nI (cntN (oFF M bb) n))), (8, .int (-2000000010)), (9, .int (clD td n M bb)), (13, .int (nI j))]) hx hb dL_isCleared_318 hl (by decide) rfl (fun ls hl => ?_)
            refine lv_iinc (v := nI (j + 1)) (lv' := [(13, .int (nI (j + 1))), (11, .int (smS (cBt td n M bb) (price td M) (j + 1))), (10, .int (smS (cBt td n M bb) (disc td M) (j + 1))), (12, .int 1), (0, .ref (ad 0)), (1, .ref (q 1)), (2, .ref (q 2)), (3, .ref (q 6)), (4, .ref (q 7)), (5, .int (nI bb)), (6, .int (acC td n M bb)), (7, .int (nI (cntN (oFF M bb) n))), (8, .int (-2000000010)), (9, .int (clD td n M bb))]) hx hb dL_isCleared_320 hl (k := 13) rfl (kinc j) (by decide) rfl (fun ls hl => ?_)
            refine lv_goto (tgt := 194) hx hb dL_isCleared_323 (by decide) ?_
            exact (ih (j + 1) w  ls H locs (by omega) hDk (by rw [ptS_t hc]; exact hP) (by rw [ptS_t hc]; exact hD) hS (lv_sub hl [4, 5, 6, 7, 8, 9, 10, 11, 12, 13, 2, 1, 3, 0] rfl))
      refine LOOP _ (fun w  ls H locs hDk hP hD hS hl => ?_) n 0 w  ls _ _ (by omega) hDk hP hD hS (lv_sub hl [6, 7, 8, 9, 10, 11, 12, 13, 5, 4, 3, 2, 1, 0] rfl)
      refine lv_aload_n hx hb dL_isCleared_326 rfl (lv_at hl 3 rfl) ?_
      refine lv_iload hx hb dL_isCleared_327 (lv_at hl 5 rfl) ?_
      refine lv_dup2_11 hx hb dL_isCleared_329 rfl rfl ?_
      refine kla_ld (n := 4) (j := bb) (z := (fu bb)) hx hb hG hP 5 rfl rfl rfl hb4 (by decide) dL_isCleared_330 ?_
      refine lv_iload hx hb dL_isCleared_331 (lv_at hl 11 rfl) ?_
      refine lv_isub hx hb dL_isCleared_333 ?_
      refine kla_st (n := 4) (j := bb) hx hb hG hP hD hS 5 rfl rfl hb4 (by decide) dL_isCleared_334 (fun H locs hP hD hS => ?_)
      have hP : va_P K.1 kCl (w ++ LA K q fb (ptS 3 (cBt td n M bb) ft n) fn fm fl (upd fu bb ((fu bb) - smS (cBt td n M bb) (price td M) n)) fg) H := hP
      have hD : va_D A (w ++ LA K q fb (ptS 3 (cBt td n M bb) ft n) fn fm fl (upd fu bb ((fu bb) - smS (cBt td n M bb) (price td M) n)) fg) := hD
      refine lv_iload hx hb dL_isCleared_335 (lv_at hl 12 rfl) ?_
      refine lv_if_eq (tgt := 378) hx hb dL_isCleared_337 (by decide) (fun h337 => False.elim (absurd h337 (by decide))) (fun h337 => ?_)
      refine lv_iload hx hb dL_isCleared_340 (lv_at hl 9 rfl) ?_
      refine lv_iload hx hb dL_isCleared_342 (lv_at hl 10 rfl) ?_
      refine lv_icmp_ne (tgt := 378) hx hb dL_isCleared_344 (by decide) (fun h344 => False.elim (h344 (clD_law hJ (by omega) hb4))) (fun h344 => ?_)
      refine lv_aload_n hx hb dL_isCleared_347 rfl (lv_at hl 3 rfl) ?_
      refine lv_iload hx hb dL_isCleared_348 (lv_at hl 5 rfl) ?_
      refine kla_ld (n := 4) (j := bb) (z := ((clT td n M bb) 11 bb)) hx hb hG hP 5 rfl (by rw [upd_e, hR.u hb4]; exact (clP_law hJ (by omega) hb4).symm) rfl hb4 (by decide) dL_isCleared_350 ?_
      refine lv_if_lt (tgt := 378) hx hb dL_isCleared_351 (by decide) (fun h351 => False.elim (cl_u0 hJ (by omega) hb4 h351)) (fun h351 => ?_)
      refine lv_aload_n hx hb dL_isCleared_354 rfl (lv_at hl 0 rfl) ?_
      refine lv_iconst (v := 0) hx hb dL_isCleared_355 (by decide) ?_
      refine lv_iload hx hb dL_isCleared_356 (lv_at hl 5 rfl) ?_
      refine lv_aload_n hx hb dL_isCleared_358 rfl (lv_at hl 3 rfl) ?_
      refine lv_iload hx hb dL_isCleared_359 (lv_at hl 5 rfl) ?_
      refine kla_ld (n := 4) (j := bb) (z := ((clT td n M bb) 11 bb)) hx hb hG hP 5 rfl (by rw [upd_e, hR.u hb4]; exact (clP_law hJ (by omega) hb4).symm) rfl hb4 (by decide) dL_isCleared_361 ?_
      refine lv_iconst (v := 0) hx hb dL_isCleared_362 (by decide) ?_
      refine lv_iconst (v := 0) hx hb dL_isCleared_363 (by decide) ?_
      refine kf_i (W2 := LA K q fb (ptS 3 (cBt td n M bb) ft n) fn fm fl (upd fu bb ((fu bb) - smS (cBt td n M bb) (price td M) n)) fg) (vx_runSW (As := [.ref (ad 0), .int 0, .int (nI bb), .int ((clT td n M bb) 11 bb), .int 0, .int 0]) (rest := []) ⟨hx, hb, hml, hown, hts⟩ (h_setBudget hDk hb4 (cl_rng hJ (by omega) hb4)) (vx_cwSW 6 hts gL_isCleared_L_does rfl rfl rfl (by decide +kernel) ⟨(Nat.le_of_ble_eq_true rfl), (Nat.le_of_ble_eq_true rfl)⟩) (lps hG hP hD hS) rfl rfl hl.1 rfl (lv_room (Nat.le_of_ble_eq_true rfl)) dL_isCleared_364 ⟨(Nat.le_of_ble_eq_true rfl), (Nat.le_of_ble_eq_true rfl)⟩) hS hP hD (fun r364 w H locs hp hP hD hS => ?_)
      obtain ⟨hv9, hp⟩ := hp
      rw [hv9]
      have hDk : DE K ad td n (up2 (clT td n M bb) 11 bb ((clT td n M bb) 11 bb)) w := hp
      rw [up2_id] at hDk
      refine lv_aload_n hx hb dL_isCleared_367 rfl (lv_at hl 3 rfl) ?_
      refine lv_iload hx hb dL_isCleared_368 (lv_at hl 5 rfl) ?_
      refine kla_ld (n := 4) (j := bb) (z := ((clT td n M bb) 11 bb)) hx hb hG hP 5 rfl (by rw [upd_e, hR.u hb4]; exact (clP_law hJ (by omega) hb4).symm) rfl hb4 (by decide) dL_isCleared_370 ?_
      refine lv_icmp_ne (tgt := 378) hx hb dL_isCleared_371 (by decide) (fun h371 => False.elim (absurd rfl h371)) (fun h371 => ?_)
      refine lv_iconst (v := 1) hx hb dL_isCleared_374 (by decide) ?_
      refine lv_goto (tgt := 379) hx hb dL_isCleared_375 (by decide) ?_
      exact kr_z hx hb hr hlocks hP hD hS (Nat.le_of_ble_eq_true rfl) (Nat.le_of_ble_eq_true rfl) (Or.inr rfl) (⟨rfl, _, _, _, _, _, _, _, _, _, _, _, rfl, hDk, hR.clear hJ (by omega) hb4, hJ.clear (by omega) hb4⟩) dL_isCleared_379
    · refine kf_i (W2 := LA K q fb ft fn fm fl fu fg) (vx_runSW (As := [.ref (ad 0), .int 6, .int (nI bb), .int 0]) (rest := []) ⟨hx, hb, hml, hown, hts⟩ (a_most hDk hb4 (Nat.not_lt.mp hk12) hok) (vx_cwSW 4 hts gL_isCleared_L_asks rfl rfl rfl (by decide +kernel) ⟨(Nat.le_of_ble_eq_true rfl), (Nat.le_of_ble_eq_true rfl)⟩) (lps hG hP hD hS) rfl rfl hl.1 rfl (lv_room (Nat.le_of_ble_eq_true rfl)) dL_isCleared_126 ⟨(Nat.le_of_ble_eq_true rfl), (Nat.le_of_ble_eq_true rfl)⟩) hS hP hD (fun r126 w H locs hp hP hD hS => ?_)
      obtain ⟨hv9, hp⟩ := hp
      have hDk : DE K ad td n M w := hp
      obtain ⟨rm9, hr9⟩ := hv9
      refine lv_istore (lv' := [(8, .int r126), (0, .ref (ad 0)), (1, .ref (q 1)), (2, .ref (q 2)), (3, .ref (q 6)), (4, .ref (q 7)), (5, .int (nI bb)), (6, .int (acC td n M bb)), (7, .int (nI (cntN (oFF M bb) n)))]) hx hb dL_isCleared_129 hl (by decide) rfl (fun ls hl => ?_)
      refine lv_aload_n hx hb dL_isCleared_131 rfl (lv_at hl 1 rfl) ?_
      refine lv_iload hx hb dL_isCleared_132 (lv_at hl 6 rfl) ?_
      obtain ⟨bad, rm, kq, idx, hQ⟩ := hDk
      refine kf_i (W2 := LA K q fb ft fn fm fl fu fg) (va_runV (As := [.int (nI bb)]) (rest := []) ⟨hx, hb, hml, hown, hts⟩ (c_X1_clear hQ hb4 hok) (cwV 1 hts gL_isCleared_X1_clear rfl rfl rfl (by decide +kernel) ⟨(Nat.le_of_ble_eq_true rfl), (Nat.le_of_ble_eq_true rfl)⟩) (lpv (q0 := 0) hG hP hD hS hQ.x rfl) rfl rfl hl.1 rfl (lv_room (Nat.le_of_ble_eq_true rfl)) dL_isCleared_134 ⟨(Nat.le_of_ble_eq_true rfl), (Nat.le_of_ble_eq_true rfl)⟩) hS hP hD (fun r134 w H locs hp hP hD hS => ?_)
      obtain ⟨hv9, hp⟩ := hp
      rw [hv9]
      have hDk : DE K ad td n (clT td n M bb) w := ⟨_, hp⟩
      refine lv_istore (lv' := [(9, .int (clD td n M bb)), (8, .int r126), (0, .ref (ad 0)), (1, .ref (q 1)), (2, .ref (q 2)), (3, .ref (q 6)), (4, .ref (q 7)), (5, .int (nI bb)), (6, .int (acC td n M bb)), (7, .int (nI (cntN (oFF M bb) n)))]) hx hb dL_isCleared_137 hl (by decide) rfl (fun ls hl => ?_)
      refine lv_iconst (v := 0) hx hb dL_isCleared_139 (by decide) ?_
      refine lv_istore (lv' := [(10, .int 0), (9, .int (clD td n M bb)), (8, .int r126), (0, .ref (ad 0)), (1, .ref (q 1)), (2, .ref (q 2)), (3, .ref (q 6)), (4, .ref (q 7)), (5, .int (nI bb)), (6, .int (acC td n M bb)), (7, .int (nI (cntN (oFF M bb) n)))]) hx hb dL_isCleared_140 hl (by decide) rfl (fun ls hl => ?_)
      refine lv_iconst (v := 0) hx hb dL_isCleared_142 (by decide) ?_
      refine lv_istore (lv' := [(11, .int 0), (10, .int 0), (9, .int (clD td n M bb)), (8, .int r126), (0, .ref (ad 0)), (1, .ref (q 1)), (2, .ref (q 2)), (3, .ref (q 6)), (4, .ref (q 7)), (5, .int (nI bb)), (6, .int (acC td n M bb)), (7, .int (nI (cntN (oFF M bb) n)))]) hx hb dL_isCleared_143 hl (by decide) rfl (fun ls hl => ?_)
      refine lv_iload hx hb dL_isCleared_145 (lv_at hl 10 rfl) ?_
      refine lv_if_lt (tgt := 188) hx hb dL_isCleared_147 (by decide) (fun h147 => False.elim (i32_nlt.mpr (plan_nn hn30) h147)) (fun h147 => ?_)
      refine lv_iload hx hb dL_isCleared_150 (lv_at hl 10 rfl) ?_
      refine kc_i (va_runS (As := [.int (acC td n M bb)]) (rest := []) ⟨hx, hb, hml, hown, hts⟩ (c_bits) (va_cwS 1 hts gL_isCleared_L_bits rfl rfl rfl (by decide +kernel) ⟨(Nat.le_of_ble_eq_true rfl), (Nat.le_of_ble_eq_true rfl)⟩) (kps hG hP hD hS) rfl rfl hl.1 rfl (lv_room (Nat.le_of_ble_eq_true rfl)) dL_isCleared_152 ⟨(Nat.le_of_ble_eq_true rfl), (Nat.le_of_ble_eq_true rfl)⟩) hS (fun r152 w9 H locs hp hP hD hS => ?_)
      rw [hp.2] at hP hD
      rw [hp.1]
      refine ktop (z := nI (cntN (cBt td n M bb) n)) (plan_bits hn30) ?_
      refine lv_iload hx hb dL_isCleared_155 (lv_at hl 11 rfl) ?_
      refine lv_icmp_gt (tgt := 188) hx hb dL_isCleared_157 (by decide) (fun h157 => False.elim (nI_nl2 (plan_cnt hJ) (by have := cntN_le (oFF M bb) n; omega) h157)) (fun h157 => ?_)
      refine lv_iload hx hb dL_isCleared_160 (lv_at hl 11 rfl) ?_
      refine lv_bipush (v := 12) hx hb dL_isCleared_162 (by decide) ?_
      refine lv_icmp_le (tgt := 177) hx hb dL_isCleared_164 (by decide) (fun h164 => ?_) (fun h164 => False.elim (off_n12 hJ hk12 h164))
      refine lv_iload hx hb dL_isCleared_177 (lv_at hl 2 rfl) ?_
      refine lv_iload hx hb dL_isCleared_179 (lv_at hl 3 rfl) ?_
      refine lv_icmp_gt (tgt := 188) hx hb dL_isCleared_181 (by decide) (fun h181 => False.elim (cl_sum hJ (by omega) hb4 hr9 h181)) (fun h181 => ?_)
      refine lv_iconst (v := 1) hx hb dL_isCleared_184 (by decide) ?_
      refine lv_goto (tgt := 189) hx hb dL_isCleared_185 (by decide) ?_
      refine lv_istore (lv' := [(12, .int 1), (11, .int 0), (10, .int 0), (9, .int (clD td n M bb)), (8, .int r126), (0, .ref (ad 0)), (1, .ref (q 1)), (2, .ref (q 2)), (3, .ref (q 6)), (4, .ref (q 7)), (5, .int (nI bb)), (6, .int (acC td n M bb)), (7, .int (nI (cntN (oFF M bb) n)))]) hx hb dL_isCleared_189 hl (by decide) rfl (fun ls hl => ?_)
      refine lv_iconst (v := 0) hx hb dL_isCleared_191 (by decide) ?_
      refine lv_istore (lv' := [(13, .int 0), (12, .int 1), (11, .int 0), (10, .int 0), (9, .int (clD td n M bb)), (8, .int r126), (0, .ref (ad 0)), (1, .ref (q 1)), (2, .ref (q 2)), (3, .ref (q 6)), (4, .ref (q 7)), (5, .int (nI bb)), (6, .int (acC td n M bb)), (7, .int (nI (cntN (oFF M bb) n)))]) hx hb dL_isCleared_192 hl (by decide) rfl (fun ls hl => ?_)
      have LOOP : ∀ (Q' : State → Prop), (∀ (w : va_W)  (ls : Array Slot) (H : Heap) (locs : List Loc), DE K ad td n (clT td n M bb) w → va_P K.1 kCl (w ++ LA K q fb (ptS 3 (cBt td n M bb) ft n) fn fm fl fu fg) H → va_D A (w ++ LA K q fb (ptS 3 (cBt td n M bb) ft n) fn fm fl fu fg) → va_S A s.heap H locs → lv_has ls 14 [(0, .ref (ad 0)), (1, .ref (q 1)), (2, .ref (q 2)), (3, .ref (q 6)), (4, .ref (q 7)), (5, .int (nI bb)), (6, .int (acC td n M bb)), (7, .int (nI (cntN (oFF M bb) n))), (8, .int r126), (9, .int (clD td n M bb)), (10, .int (smS (cBt td n M bb) (disc td M) n)), (11, .int (smS (cBt td n M bb) (price td M) n)), (12, .int 1), (13, .int (nI n))] → W p l e ((kR 19 91 5406)) s m args below meth c H locs (0 + 30 + 30 + 30) (0 + 1800 + 1800 + 1800) Q' (F0 m 326 ls [])) → ∀ (d j : Nat) (w : va_W)  (ls : Array Slot) (H : Heap) (locs : List Loc), j + d = n → DE K ad td n (clT td n M bb) w → va_P K.1 kCl (w ++ LA K q fb (ptS 3 (cBt td n M bb) ft j) fn fm fl fu fg) H → va_D A (w ++ LA K q fb (ptS 3 (cBt td n M bb) ft j) fn fm fl fu fg) → va_S A s.heap H locs → lv_has ls 14 [(0, .ref (ad 0)), (1, .ref (q 1)), (2, .ref (q 2)), (3, .ref (q 6)), (4, .ref (q 7)), (5, .int (nI bb)), (6, .int (acC td n M bb)), (7, .int (nI (cntN (oFF M bb) n))), (8, .int r126), (9, .int (clD td n M bb)), (10, .int (smS (cBt td n M bb) (disc td M) j)), (11, .int (smS (cBt td n M bb) (price td M) j)), (12, .int 1), (13, .int (nI j))] → W p l e ((kR 19 91 5406)) s m args below meth c H locs (0 + 30 + 30 + 30) (0 + 1800 + 1800 + 1800) Q' (F0 m 194 ls []) := by
        intro Q' kx d
        induction d with
        | zero =>
          intro j w  ls H locs hk hDk hP hD hS hl
          have hk2 : j = n := by omega
          refine lv_iload hx hb dL_isCleared_194 (lv_at hl 13 rfl) ?_
          refine lv_aload hx hb dL_isCleared_196 (lv_at hl 4 rfl) ?_
          refine lv_iconst (v := 0) hx hb dL_isCleared_198 (by decide) ?_
          refine kla_ld (n := 2) (j := 0) (z := (nI n)) hx hb hG hP 6 rfl hR.g0 rfl (by omega) (by decide) dL_isCleared_199 ?_
          refine lv_icmp_ge (tgt := 326) hx hb dL_isCleared_200 (by decide) (fun h200 => ?_) (fun h200 => False.elim (absurd (nI_le (Nat.le_of_eq hk2.symm) (by omega)) h200))
          have hk3 : n = j := hk2.symm
          subst hk3
          exact kx w  ls H locs hDk hP hD hS (lv_sub hl [0, 1, 2, 3, 4, 5, 6, 7, 8, 9, 10, 11, 12, 13] rfl)
        | succ d ih =>
          intro j w  ls H locs hk hDk hP hD hS hl
          have hk2 : j < n := by omega
          have hbe : nI (bu M j) = nI bb ↔ M 2 j = nI bb := by rw [← (hok j hk2).1]
          have hbit := plan_bit (td := td) (M := M) (b := bb) (n := n) (k := j) (by omega)
          refine lv_iload hx hb dL_isCleared_194 (lv_at hl 13 rfl) ?_
          refine lv_aload hx hb dL_isCleared_196 (lv_at hl 4 rfl) ?_
          refine lv_iconst (v := 0) hx hb dL_isCleared_198 (by decide) ?_
          refine kla_ld (n := 2) (j := 0) (z := (nI n)) hx hb hG hP 6 rfl hR.g0 rfl (by omega) (by decide) dL_isCleared_199 ?_
          refine lv_icmp_ge (tgt := 326) hx hb dL_isCleared_200 (by decide) (fun h200 => False.elim (absurd h200 (nI_ge hk2 (by omega)))) (fun h200 => ?_)
          refine lv_iload hx hb dL_isCleared_203 (lv_at hl 12 rfl) ?_
          refine lv_if_eq (tgt := 326) hx hb dL_isCleared_205 (by decide) (fun h205 => False.elim (absurd h205 (by decide))) (fun h205 => ?_)
          refine lv_iload hx hb dL_isCleared_208 (lv_at hl 6 rfl) ?_
          refine lv_iload hx hb dL_isCleared_210 (lv_at hl 13 rfl) ?_
          refine lv_ishr hx hb dL_isCleared_212 ?_
          refine lv_iconst (v := 1) hx hb dL_isCleared_213 (by decide) ?_
          refine lv_iand hx hb dL_isCleared_214 ?_
          refine lv_iconst (v := 1) hx hb dL_isCleared_215 (by decide) ?_
          refine lv_icmp_ne (tgt := 320) hx hb dL_isCleared_216 (by decide) (fun h216 => ?_) (fun h216 => ?_)
          · refine lv_iinc (v := nI (j + 1)) (lv' := [(13, .int (nI (j + 1))), (0, .ref (ad 0)), (1, .ref (q 1)), (2, .ref (q 2)), (3, .ref (q 6)), (4, .ref (q 7)), (5, .int (nI bb)), (6, .int (acC td n M bb)), (7, .int (nI (cntN (oFF M bb) n))), (8, .int r126), (9, .int (clD td n M bb)), (10, .int (smS (cBt td n M bb) (disc td M) j)), (11, .int (smS (cBt td n M bb) (price td M) j)), (12, .int 1)]) hx hb dL_isCleared_320 hl (k := 13) rfl (kinc j) (by decide) rfl (fun ls hl => ?_)
            refine lv_goto (tgt := 194) hx hb dL_isCleared_323 (by decide) ?_
            exact (ih (j + 1) w  ls H locs (by omega) hDk (by rw [ptS_f (fun q => h216 (hbit.mpr q))]; exact hP) (by rw [ptS_f (fun q => h216 (hbit.mpr q))]; exact hD) hS (by rw [smS_f (f := disc td M) (fun q => h216 (hbit.mpr q)), smS_f (f := price td M) (fun q => h216 (hbit.mpr q))]; exact lv_sub hl [1, 2, 3, 4, 5, 6, 7, 8, 9, 10, 11, 12, 13, 0] rfl))
          · have hc : cBt td n M bb j = true := hbit.mp h216
            have hcm := cb_off hn30 hc
            refine lv_aload_n hx hb dL_isCleared_219 rfl (lv_at hl 1 rfl) ?_
            refine lv_iconst (v := 2) hx hb dL_isCleared_220 (by decide) ?_
            refine lv_iload hx hb dL_isCleared_221 (lv_at hl 13 rfl) ?_
            refine lv_imul hx hb dL_isCleared_223 ?_
            refine kla_ld (n := 60) (j := 2 * j) (z := (nI (pr M j))) hx hb hG hP 0 (x2 j) (hR.b0 hk2) rfl (by omega) (by decide) dL_isCleared_224 ?_
            refine lv_bipush (v := 8) hx hb dL_isCleared_225 (by decide) ?_
            refine lv_idiv hx hb dL_isCleared_227 (by decide) ?_
            refine ktop (z := nI (bu M j)) ((d8 (by have := (pr_lt (hok j hk2)).1; omega)).trans (congrArg nI (pr_lt (hok j hk2)).2.1)) ?_
            refine lv_iload hx hb dL_isCleared_228 (lv_at hl 5 rfl) ?_
            refine lv_icmp_ne (tgt := 283) hx hb dL_isCleared_230 (by decide) (fun h230 => False.elim (h230 (hbe.mpr hcm.2.1))) (fun h230 => ?_)
            refine lv_aload_n hx hb dL_isCleared_233 rfl (lv_at hl 2 rfl) ?_
            refine lv_iload hx hb dL_isCleared_234 (lv_at hl 13 rfl) ?_
            refine kla_ld (n := 60) (j := j) (z := (M 6 j)) hx hb hG hP 1 rfl (by rw [ptS_at, if_neg (fun q => absurd q.1 (Nat.lt_irrefl j))]; exact hR.t0 hk2) rfl (by omega) (by decide) dL_isCleared_236 ?_
            refine lv_iconst (v := 1) hx hb dL_isCleared_237 (by decide) ?_
            refine lv_icmp_ne (tgt := 283) hx hb dL_isCleared_238 (by decide) (fun h238 => False.elim (h238 hcm.2.2.1)) (fun h238 => ?_)
            refine lv_aload_n hx hb dL_isCleared_241 rfl (lv_at hl 2 rfl) ?_
            refine lv_bipush (v := 30) hx hb dL_isCleared_242 (by decide) ?_
            refine lv_iload hx hb dL_isCleared_244 (lv_at hl 13 rfl) ?_
            refine lv_iadd hx hb dL_isCleared_246 ?_
            refine kla_ld (n := 60) (j := 30 + j) (z := (M 7 j)) hx hb hG hP 1 (x30 j) (by rw [ptS_at, if_neg (fun q => absurd q.1 (by omega))]; exact hR.t1 hk2) rfl (by omega) (by decide) dL_isCleared_247 ?_
            refine lv_if_lt (tgt := 283) hx hb dL_isCleared_248 (by decide) (fun h248 => False.elim (rate_nn (hJ.1.1.2.2.1 j hk2) hcm.2.2.2.1 h248)) (fun h248 => ?_)
            refine lv_aload_n hx hb dL_isCleared_251 rfl (lv_at hl 0 rfl) ?_
            refine lv_iload hx hb dL_isCleared_252 (lv_at hl 13 rfl) ?_
            obtain ⟨bad, rm, kq, idx, hQ⟩ := hDk
            refine kf_i (W2 := LA K q fb (ptS 3 (cBt td n M bb) ft j) fn fm fl fu fg) (va_runV (As := [.int (nI j)]) (rest := []) ⟨hx, hb, hml, hown, hts⟩ (c_X1_state hQ hk2) (cwV 1 hts gL_isCleared_X1_state rfl rfl rfl (by decide +kernel) ⟨(Nat.le_of_ble_eq_true rfl), (Nat.le_of_ble_eq_true rfl)⟩) (lpv (q0 := 0) hG hP hD hS hQ.x rfl) rfl rfl hl.1 rfl (lv_room (Nat.le_of_ble_eq_true rfl)) dL_isCleared_254 ⟨(Nat.le_of_ble_eq_true rfl), (Nat.le_of_ble_eq_true rfl)⟩) hS hP hD (fun r254 w H locs hp hP hD hS => ?_)
            obtain ⟨hv9, hp⟩ := hp
            rw [hv9]
            have hDk : DE K ad td n (clT td n M bb) w := ⟨_, _, _, _, hp⟩
            refine ktop (z := 3) (by rw [clT_6 hJ (by omega) hb4, if_pos hc]) ?_
            refine lv_iconst (v := 3) hx hb dL_isCleared_257 (by decide) ?_
            refine lv_icmp_ne (tgt := 283) hx hb dL_isCleared_258 (by decide) (fun h258 => False.elim (absurd (by decide) h258)) (fun h258 => ?_)
            refine lv_aload_n hx hb dL_isCleared_261 rfl (lv_at hl 0 rfl) ?_
            refine lv_iload hx hb dL_isCleared_262 (lv_at hl 5 rfl) ?_
            refine lv_aload_n hx hb dL_isCleared_264 rfl (lv_at hl 1 rfl) ?_
            refine lv_iconst (v := 2) hx hb dL_isCleared_265 (by decide) ?_
            refine lv_iload hx hb dL_isCleared_266 (lv_at hl 13 rfl) ?_
            refine lv_imul hx hb dL_isCleared_268 ?_
            refine kla_ld (n := 60) (j := 2 * j) (z := (nI (pr M j))) hx hb hG hP 0 (x2 j) (hR.b0 hk2) rfl (by omega) (by decide) dL_isCleared_269 ?_
            refine lv_bipush (v := 8) hx hb dL_isCleared_270 (by decide) ?_
            refine lv_irem hx hb dL_isCleared_272 (by decide) ?_
            refine ktop (z := nI (su M j)) ((m8 (by have := (pr_lt (hok j hk2)).1; omega)).trans (congrArg nI (pr_lt (hok j hk2)).2.2)) ?_
            obtain ⟨bad, rm, kq, idx, hQ⟩ := hDk
            refine kf_i (W2 := LA K q fb (ptS 3 (cBt td n M bb) ft j) fn fm fl fu fg) (va_runV (As := [.int (nI bb), .int (nI (su M j))]) (rest := []) ⟨hx, hb, hml, hown, hts⟩ (c_X1_left hQ hb4 (hok j hk2).2.2.2) (cwV 2 hts gL_isCleared_X1_left rfl rfl rfl (by decide +kernel) ⟨(Nat.le_of_ble_eq_true rfl), (Nat.le_of_ble_eq_true rfl)⟩) (lpv (q0 := 0) hG hP hD hS hQ.x rfl) rfl rfl hl.1 rfl (lv_room (Nat.le_of_ble_eq_true rfl)) dL_isCleared_273 ⟨(Nat.le_of_ble_eq_true rfl), (Nat.le_of_ble_eq_true rfl)⟩) hS hP hD (fun r273 w H locs hp hP hD hS => ?_)
            obtain ⟨hv9, hp⟩ := hp
            rw [hv9]
            have hDk : DE K ad td n (clT td n M bb) w := ⟨_, _, _, _, hp⟩
            refine lv_if_lt (tgt := 283) hx hb dL_isCleared_276 (by decide) (fun h276 => False.elim (cl_left0 hJ (by omega) hb4 hc h276)) (fun h276 => ?_)
            refine lv_iconst (v := 1) hx hb dL_isCleared_279 (by decide) ?_
            refine lv_goto (tgt := 284) hx hb dL_isCleared_280 (by decide) ?_
            refine lv_istore (lv' := [(12, .int 1), (0, .ref (ad 0)), (1, .ref (q 1)), (2, .ref (q 2)), (3, .ref (q 6)), (4, .ref (q 7)), (5, .int (nI bb)), (6, .int (acC td n M bb)), (7, .int (nI (cntN (oFF M bb) n))), (8, .int r126), (9, .int (clD td n M bb)), (10, .int (smS (cBt td n M bb) (disc td M) j)), (11, .int (smS (cBt td n M bb) (price td M) j)), (13, .int (nI j))]) hx hb dL_isCleared_284 hl (by decide) rfl (fun ls hl => ?_)
            refine lv_aload_n hx hb dL_isCleared_286 rfl (lv_at hl 3 rfl) ?_
            refine lv_iload hx hb dL_isCleared_287 (lv_at hl 13 rfl) ?_
            refine lv_iconst (v := 3) hx hb dL_isCleared_289 (by decide) ?_
            refine kla_st (n := 60) (j := j) hx hb hG hP hD hS 1 rfl rfl (by omega) (by decide) dL_isCleared_290 (fun H locs hP hD hS => ?_)
            have hP : va_P K.1 kCl (w ++ LA K q fb (upd (ptS 3 (cBt td n M bb) ft j) j 3) fn fm fl fu fg) H := hP
            have hD : va_D A (w ++ LA K q fb (upd (ptS 3 (cBt td n M bb) ft j) j 3) fn fm fl fu fg) := hD
            refine lv_iload hx hb dL_isCleared_291 (lv_at hl 11 rfl) ?_
            refine lv_aload_n hx hb dL_isCleared_293 rfl (lv_at hl 1 rfl) ?_
            refine lv_iload hx hb dL_isCleared_294 (lv_at hl 13 rfl) ?_
            obtain ⟨bad, rm, kq, idx, hQ⟩ := hDk
            refine kf_i (W2 := LA K q fb (upd (ptS 3 (cBt td n M bb) ft j) j 3) fn fm fl fu fg) (va_runV (As := [.int (nI j)]) (rest := [.int (smS (cBt td n M bb) (disc td M) j)]) ⟨hx, hb, hml, hown, hts⟩ (c_X1_amount hQ hk2) (cwV 1 hts gL_isCleared_X1_amount rfl rfl rfl (by decide +kernel) ⟨(Nat.le_of_ble_eq_true rfl), (Nat.le_of_ble_eq_true rfl)⟩) (lpv (q0 := 0) hG hP hD hS hQ.x rfl) rfl rfl hl.1 rfl (lv_room (Nat.le_of_ble_eq_true rfl)) dL_isCleared_296 ⟨(Nat.le_of_ble_eq_true rfl), (Nat.le_of_ble_eq_true rfl)⟩) hS hP hD (fun r296 w H locs hp hP hD hS => ?_)
            obtain ⟨hv9, hp⟩ := hp
            rw [hv9]
            have hDk : DE K ad td n (clT td n M bb) w := ⟨_, _, _, _, hp⟩
            refine ktop (z := (M 4 j)) (congrFun (clT_n (by decide) (by decide) (by decide) (by decide) (by decide)) j) ?_
            refine lv_aload_n hx hb dL_isCleared_299 rfl (lv_at hl 1 rfl) ?_
            refine lv_iload hx hb dL_isCleared_300 (lv_at hl 13 rfl) ?_
            obtain ⟨bad, rm, kq, idx, hQ⟩ := hDk
            refine kf_i (W2 := LA K q fb (upd (ptS 3 (cBt td n M bb) ft j) j 3) fn fm fl fu fg) (va_runV (As := [.int (nI j)]) (rest := [.int (M 4 j), .int (smS (cBt td n M bb) (disc td M) j)]) ⟨hx, hb, hml, hown, hts⟩ (c_X1_paid hQ hk2) (cwV 1 hts gL_isCleared_X1_paid rfl rfl rfl (by decide +kernel) ⟨(Nat.le_of_ble_eq_true rfl), (Nat.le_of_ble_eq_true rfl)⟩) (lpv (q0 := 0) hG hP hD hS hQ.x rfl) rfl rfl hl.1 rfl (lv_room (Nat.le_of_ble_eq_true rfl)) dL_isCleared_302 ⟨(Nat.le_of_ble_eq_true rfl), (Nat.le_of_ble_eq_true rfl)⟩) hS hP hD (fun r302 w H locs hp hP hD hS => ?_)
            obtain ⟨hv9, hp⟩ := hp
            rw [hv9]
            have hDk : DE K ad td n (clT td n M bb) w := ⟨_, _, _, _, hp⟩
            refine ktop (z := (price td M j)) (by rw [clT_8 hJ (by omega) hb4, if_pos hc]) ?_
            refine lv_isub hx hb dL_isCleared_305 ?_
            refine lv_iadd hx hb dL_isCleared_306 ?_
            refine ktop (z := smS (cBt td n M bb) (disc td M) (j + 1)) (by rw [smS_t hc, md_law]) ?_
            refine lv_istore (lv' := [(10, .int (smS (cBt td n M bb) (disc td M) (j + 1))), (12, .int 1), (0, .ref (ad 0)), (1, .ref (q 1)), (2, .ref (q 2)), (3, .ref (q 6)), (4, .ref (q 7)), (5, .int (nI bb)), (6, .int (acC td n M bb)), (7, .int (nI (cntN (oFF M bb) n))), (8, .int r126), (9, .int (clD td n M bb)), (11, .int (smS (cBt td n M bb) (price td M) j)), (13, .int (nI j))]) hx hb dL_isCleared_307 hl (by decide) rfl (fun ls hl => ?_)
            refine lv_iload hx hb dL_isCleared_309 (lv_at hl 12 rfl) ?_
            refine lv_aload_n hx hb dL_isCleared_311 rfl (lv_at hl 2 rfl) ?_
            refine lv_iload hx hb dL_isCleared_312 (lv_at hl 13 rfl) ?_
            obtain ⟨bad, rm, kq, idx, hQ⟩ := hDk
            refine kf_i (W2 := LA K q fb (upd (ptS 3 (cBt td n M bb) ft j) j 3) fn fm fl fu fg) (va_runV (As := [.int (nI j)]) (rest := [.int (smS (cBt td n M bb) (price td M) j)]) ⟨hx, hb, hml, hown, hts⟩ (c_X1_paid hQ hk2) (cwV 1 hts gL_isCleared_X1_paid rfl rfl rfl (by decide +kernel) ⟨(Nat.le_of_ble_eq_true rfl), (Nat.le_of_ble_eq_true rfl)⟩) (lpv (q0 := 0) hG hP hD hS hQ.x rfl) rfl rfl hl.1 rfl (lv_room (Nat.le_of_ble_eq_true rfl)) dL_isCleared_314 ⟨(Nat.le_of_ble_eq_true rfl), (Nat.le_of_ble_eq_true rfl)⟩) hS hP hD (fun r314 w H locs hp hP hD hS => ?_)
            obtain ⟨hv9, hp⟩ := hp
            rw [hv9]
            have hDk : DE K ad td n (clT td n M bb) w := ⟨_, _, _, _, hp⟩
            refine ktop (z := (price td M j)) (by rw [clT_8 hJ (by omega) hb4, if_pos hc]) ?_
            refine lv_iadd hx hb dL_isCleared_317 ?_
            refine ktop (z := smS (cBt td n M bb) (price td M) (j + 1)) (by rw [smS_t hc]) ?_
            refine lv_istore (lv' := [(11, .int (smS (cBt td n M bb) (price td M) (j + 1))), (10, .int (smS (cBt td n M bb) (disc td M) (j + 1))), (12, .int 1), (0, .ref (ad 0)), (1, .ref (q 1)), (2, .ref (q 2)), (3, .ref (q 6)), (4, .ref (q 7)), (5, .int (nI bb)), (6, .int (acC td n M bb)), (7, .int (nI (cntN (oFF M bb) n))), (8, .int r126), (9, .int (clD td n M bb)), (13, .int (nI j))]) hx hb dL_isCleared_318 hl (by decide) rfl (fun ls hl => ?_)
            refine lv_iinc (v := nI (j + 1)) (lv' := [(13, .int (nI (j + 1))), (11, .int (smS (cBt td n M bb) (price td M) (j + 1))), (10, .int (smS (cBt td n M bb) (disc td M) (j + 1))), (12, .int 1), (0, .ref (ad 0)), (1, .ref (q 1)), (2, .ref (q 2)), (3, .ref (q 6)), (4, .ref (q 7)), (5, .int (nI bb)), (6, .int (acC td n M bb)), (7, .int (nI (cntN (oFF M bb) n))), (8, .int r126), (9, .int (clD td n M bb))]) hx hb dL_isCleared_320 hl (k := 13) rfl (kinc j) (by decide) rfl (fun ls hl => ?_)
            refine lv_goto (tgt := 194) hx hb dL_isCleared_323 (by decide) ?_
            exact (ih (j + 1) w  ls H locs (by omega) hDk (by rw [ptS_t hc]; exact hP) (by rw [ptS_t hc]; exact hD) hS (lv_sub hl [4, 5, 6, 7, 8, 9, 10, 11, 12, 13, 2, 1, 3, 0] rfl))
      refine LOOP _ (fun w  ls H locs hDk hP hD hS hl => ?_) n 0 w  ls _ _ (by omega) hDk hP hD hS (lv_sub hl [6, 7, 8, 9, 10, 11, 12, 13, 5, 4, 3, 2, 1, 0] rfl)
      refine lv_aload_n hx hb dL_isCleared_326 rfl (lv_at hl 3 rfl) ?_
      refine lv_iload hx hb dL_isCleared_327 (lv_at hl 5 rfl) ?_
      refine lv_dup2_11 hx hb dL_isCleared_329 rfl rfl ?_
      refine kla_ld (n := 4) (j := bb) (z := (fu bb)) hx hb hG hP 5 rfl rfl rfl hb4 (by decide) dL_isCleared_330 ?_
      refine lv_iload hx hb dL_isCleared_331 (lv_at hl 11 rfl) ?_
      refine lv_isub hx hb dL_isCleared_333 ?_
      refine kla_st (n := 4) (j := bb) hx hb hG hP hD hS 5 rfl rfl hb4 (by decide) dL_isCleared_334 (fun H locs hP hD hS => ?_)
      have hP : va_P K.1 kCl (w ++ LA K q fb (ptS 3 (cBt td n M bb) ft n) fn fm fl (upd fu bb ((fu bb) - smS (cBt td n M bb) (price td M) n)) fg) H := hP
      have hD : va_D A (w ++ LA K q fb (ptS 3 (cBt td n M bb) ft n) fn fm fl (upd fu bb ((fu bb) - smS (cBt td n M bb) (price td M) n)) fg) := hD
      refine lv_iload hx hb dL_isCleared_335 (lv_at hl 12 rfl) ?_
      refine lv_if_eq (tgt := 378) hx hb dL_isCleared_337 (by decide) (fun h337 => False.elim (absurd h337 (by decide))) (fun h337 => ?_)
      refine lv_iload hx hb dL_isCleared_340 (lv_at hl 9 rfl) ?_
      refine lv_iload hx hb dL_isCleared_342 (lv_at hl 10 rfl) ?_
      refine lv_icmp_ne (tgt := 378) hx hb dL_isCleared_344 (by decide) (fun h344 => False.elim (h344 (clD_law hJ (by omega) hb4))) (fun h344 => ?_)
      refine lv_aload_n hx hb dL_isCleared_347 rfl (lv_at hl 3 rfl) ?_
      refine lv_iload hx hb dL_isCleared_348 (lv_at hl 5 rfl) ?_
      refine kla_ld (n := 4) (j := bb) (z := ((clT td n M bb) 11 bb)) hx hb hG hP 5 rfl (by rw [upd_e, hR.u hb4]; exact (clP_law hJ (by omega) hb4).symm) rfl hb4 (by decide) dL_isCleared_350 ?_
      refine lv_if_lt (tgt := 378) hx hb dL_isCleared_351 (by decide) (fun h351 => False.elim (cl_u0 hJ (by omega) hb4 h351)) (fun h351 => ?_)
      refine lv_aload_n hx hb dL_isCleared_354 rfl (lv_at hl 0 rfl) ?_
      refine lv_iconst (v := 0) hx hb dL_isCleared_355 (by decide) ?_
      refine lv_iload hx hb dL_isCleared_356 (lv_at hl 5 rfl) ?_
      refine lv_aload_n hx hb dL_isCleared_358 rfl (lv_at hl 3 rfl) ?_
      refine lv_iload hx hb dL_isCleared_359 (lv_at hl 5 rfl) ?_
      refine kla_ld (n := 4) (j := bb) (z := ((clT td n M bb) 11 bb)) hx hb hG hP 5 rfl (by rw [upd_e, hR.u hb4]; exact (clP_law hJ (by omega) hb4).symm) rfl hb4 (by decide) dL_isCleared_361 ?_
      refine lv_iconst (v := 0) hx hb dL_isCleared_362 (by decide) ?_
      refine lv_iconst (v := 0) hx hb dL_isCleared_363 (by decide) ?_
      refine kf_i (W2 := LA K q fb (ptS 3 (cBt td n M bb) ft n) fn fm fl (upd fu bb ((fu bb) - smS (cBt td n M bb) (price td M) n)) fg) (vx_runSW (As := [.ref (ad 0), .int 0, .int (nI bb), .int ((clT td n M bb) 11 bb), .int 0, .int 0]) (rest := []) ⟨hx, hb, hml, hown, hts⟩ (h_setBudget hDk hb4 (cl_rng hJ (by omega) hb4)) (vx_cwSW 6 hts gL_isCleared_L_does rfl rfl rfl (by decide +kernel) ⟨(Nat.le_of_ble_eq_true rfl), (Nat.le_of_ble_eq_true rfl)⟩) (lps hG hP hD hS) rfl rfl hl.1 rfl (lv_room (Nat.le_of_ble_eq_true rfl)) dL_isCleared_364 ⟨(Nat.le_of_ble_eq_true rfl), (Nat.le_of_ble_eq_true rfl)⟩) hS hP hD (fun r364 w H locs hp hP hD hS => ?_)
      obtain ⟨hv9, hp⟩ := hp
      rw [hv9]
      have hDk : DE K ad td n (up2 (clT td n M bb) 11 bb ((clT td n M bb) 11 bb)) w := hp
      rw [up2_id] at hDk
      refine lv_aload_n hx hb dL_isCleared_367 rfl (lv_at hl 3 rfl) ?_
      refine lv_iload hx hb dL_isCleared_368 (lv_at hl 5 rfl) ?_
      refine kla_ld (n := 4) (j := bb) (z := ((clT td n M bb) 11 bb)) hx hb hG hP 5 rfl (by rw [upd_e, hR.u hb4]; exact (clP_law hJ (by omega) hb4).symm) rfl hb4 (by decide) dL_isCleared_370 ?_
      refine lv_icmp_ne (tgt := 378) hx hb dL_isCleared_371 (by decide) (fun h371 => False.elim (absurd rfl h371)) (fun h371 => ?_)
      refine lv_iconst (v := 1) hx hb dL_isCleared_374 (by decide) ?_
      refine lv_goto (tgt := 379) hx hb dL_isCleared_375 (by decide) ?_
      exact kr_z hx hb hr hlocks hP hD hS (Nat.le_of_ble_eq_true rfl) (Nat.le_of_ble_eq_true rfl) (Or.inr rfl) (⟨rfl, _, _, _, _, _, _, _, _, _, _, _, rfl, hDk, hR.clear hJ (by omega) hb4, hJ.clear (by omega) hb4⟩) dL_isCleared_379
  · refine lv_aload_n hx hb dL_isCleared_6 rfl (lv_at hl 0 rfl) ?_
    refine lv_iconst (v := 4) hx hb dL_isCleared_7 (by decide) ?_
    refine lv_iconst (v := 4) hx hb dL_isCleared_8 (by decide) ?_
    refine lv_iconst (v := 0) hx hb dL_isCleared_9 (by decide) ?_
    refine kf_i (W2 := LA K q fb ft fn fm fl fu fg) (vx_runSW (As := [.ref (ad 0), .int 4, .int 4, .int 0]) (rest := []) ⟨hx, hb, hml, hown, hts⟩ (a_plan_t hDk hlt ix44) (vx_cwSW 4 hts gL_isCleared_L_asks rfl rfl rfl (by decide +kernel) ⟨(Nat.le_of_ble_eq_true rfl), (Nat.le_of_ble_eq_true rfl)⟩) (lps hG hP hD hS) rfl rfl hl.1 rfl (lv_room (Nat.le_of_ble_eq_true rfl)) dL_isCleared_10 ⟨(Nat.le_of_ble_eq_true rfl), (Nat.le_of_ble_eq_true rfl)⟩) hS hP hD (fun r10 w H locs hp hP hD hS => ?_)
    obtain ⟨hv9, hp⟩ := hp
    rw [hv9]
    have hDk : DE K ad td n M w := hp
    refine lv_ldc (v := -2000000030) hx hb hown (hts (.constant RL 82 (-2000000030)) (by decide +kernel)) dL_isCleared_13 ?_
    refine lv_icmp_ne (tgt := 47) hx hb dL_isCleared_15 (by decide) (fun h15 => False.elim (absurd (by decide) h15)) (fun h15 => ?_)
    refine lv_aload_n hx hb dL_isCleared_18 rfl (lv_at hl 0 rfl) ?_
    refine lv_iconst (v := 5) hx hb dL_isCleared_19 (by decide) ?_
    refine lv_iconst (v := 4) hx hb dL_isCleared_20 (by decide) ?_
    refine lv_iconst (v := 0) hx hb dL_isCleared_21 (by decide) ?_
    refine kf_i (W2 := LA K q fb ft fn fm fl fu fg) (vx_runSW (As := [.ref (ad 0), .int 5, .int 4, .int 0]) (rest := []) ⟨hx, hb, hml, hown, hts⟩ (a_clear_t hDk hlt ix44) (vx_cwSW 4 hts gL_isCleared_L_asks rfl rfl rfl (by decide +kernel) ⟨(Nat.le_of_ble_eq_true rfl), (Nat.le_of_ble_eq_true rfl)⟩) (lps hG hP hD hS) rfl rfl hl.1 rfl (lv_room (Nat.le_of_ble_eq_true rfl)) dL_isCleared_22 ⟨(Nat.le_of_ble_eq_true rfl), (Nat.le_of_ble_eq_true rfl)⟩) hS hP hD (fun r22 w H locs hp hP hD hS => ?_)
    obtain ⟨hv9, hp⟩ := hp
    rw [hv9]
    have hDk : DE K ad td n M w := hp
    refine lv_ldc (v := -2000000030) hx hb hown (hts (.constant RL 82 (-2000000030)) (by decide +kernel)) dL_isCleared_25 ?_
    refine lv_icmp_ne (tgt := 47) hx hb dL_isCleared_27 (by decide) (fun h27 => False.elim (absurd (by decide) h27)) (fun h27 => ?_)
    refine lv_aload_n hx hb dL_isCleared_30 rfl (lv_at hl 0 rfl) ?_
    refine lv_bipush (v := 6) hx hb dL_isCleared_31 (by decide) ?_
    refine lv_iconst (v := 4) hx hb dL_isCleared_33 (by decide) ?_
    refine lv_iconst (v := 0) hx hb dL_isCleared_34 (by decide) ?_
    refine kf_i (W2 := LA K q fb ft fn fm fl fu fg) (vx_runSW (As := [.ref (ad 0), .int 6, .int 4, .int 0]) (rest := []) ⟨hx, hb, hml, hown, hts⟩ (a_most_t hDk hlt ix44) (vx_cwSW 4 hts gL_isCleared_L_asks rfl rfl rfl (by decide +kernel) ⟨(Nat.le_of_ble_eq_true rfl), (Nat.le_of_ble_eq_true rfl)⟩) (lps hG hP hD hS) rfl rfl hl.1 rfl (lv_room (Nat.le_of_ble_eq_true rfl)) dL_isCleared_35 ⟨(Nat.le_of_ble_eq_true rfl), (Nat.le_of_ble_eq_true rfl)⟩) hS hP hD (fun r35 w H locs hp hP hD hS => ?_)
    obtain ⟨hv9, hp⟩ := hp
    rw [hv9]
    have hDk : DE K ad td n M w := hp
    refine lv_ldc (v := -2000000030) hx hb hown (hts (.constant RL 82 (-2000000030)) (by decide +kernel)) dL_isCleared_38 ?_
    refine lv_icmp_ne (tgt := 47) hx hb dL_isCleared_40 (by decide) (fun h40 => False.elim (absurd (by decide) h40)) (fun h40 => ?_)
    refine lv_iconst (v := 1) hx hb dL_isCleared_43 (by decide) ?_
    refine lv_goto (tgt := 48) hx hb dL_isCleared_44 (by decide) ?_
    exact kr_z hx hb hr hlocks hP hD hS (Nat.le_of_ble_eq_true rfl) (Nat.le_of_ble_eq_true rfl) (Or.inr rfl) (⟨rfl, _, _, _, _, _, _, _, _, _, _, _, rfl, hDk, hR, hJ.up⟩) dL_isCleared_48
