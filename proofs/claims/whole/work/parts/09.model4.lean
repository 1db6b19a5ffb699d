/-! The reference, 4: bill; loops over the bills that read -/
abbrev offM (td : Int32) (M : Nat → Nat → Int32) (b j : Nat) : Prop := M 2 j = nI b ∧ M 6 j = 1 ∧ ¬ M 7 j = -1 ∧ ¬ M 5 j ≤ td
abbrev cntM (td : Int32) (M : Nat → Nat → Int32) (b o j : Nat) : Prop := M 2 j = nI b ∧ M 3 j = nI o ∧ M 6 j = 3 ∧ ¬ M 5 j ≤ td
def loM (td : Int32) (M : Nat → Nat → Int32) (b o : Nat) : Nat → Int32
  | 0 => M 12 (8 * b + o)
  | k + 1 => loM td M b o k - (if cntM td M b o k then M 8 k else 0)
theorem loM_t {td : Int32} {M : Nat → Nat → Int32} {b o k : Nat} (h : cntM td M b o k) : loM td M b o (k + 1) = loM td M b o k - M 8 k := by rw [loM, if_pos h]
theorem loM_f {td : Int32} {M : Nat → Nat → Int32} {b o k : Nat} (h : ¬ cntM td M b o k) : loM td M b o (k + 1) = loM td M b o k - 0 := by rw [loM, if_neg h]
def billM (td : Int32) (n : Nat) (M : Nat → Nat → Int32) (b o : Nat) (c dd : Int32) : Nat → Nat → Int32 := up2 (up2 (up2 (up2 (up2 M 2 n (nI b)) 3 n (nI o)) 4 n c) 5 n (td + dd)) 7 n (-1)
set_option maxHeartbeats 4000000 in
set_option maxRecDepth 100000 in
theorem c_X2_isOffer {l : Launch} {K : Ks} {A : Nat → Prop} {qm : Nat → Nat} {td nb th : Int32} {M X : Nat → Nat → Int32} {j : Nat} (hj : j < 30) {b : Nat} : Met l yX2_isOffer wsX2_isOffer (kR 0 0 0) (kPr K A [.ref (qm 0), .int (nI j), .int (nI b)] (Mfix K qm td nb th M X)) (kQi K A (fun r w => r = bi (decide (offM td M b j)) ∧ w = Mfix K qm td nb th M X)) 0 0 A := by
  refine kent (cc := cX2_isOffer) (maxL := 3) (ret := (some .boolean)) (by decide) rfl (Nat.le_of_ble_eq_true rfl) ?_
  intro p e s m args below meth c ls hx hb hr hts hown hlocks hml hini hG hP hD hS hl
  have hinX2 : ∀ x ∈ wsX20, x ∈ wsX2_isOffer := by decide +kernel
  have hl : lv_has ls 3 [(0, .ref (qm 0)), (1, .int (nI j)), (2, .int (nI b))] := hl
  refine lv_aload_n hx hb dX2_isOffer_0 rfl (lv_at hl 0 rfl) ?_
  refine kget (ci := 3) (C := RX2) (T := TX2) (N := 18) hx hb hts hown hG hP 0 rfl rfl hinX2 2 (by decide) (by decide +kernel) rfl dX2_isOffer_1 ?_
  refine lv_iload_n hx hb dX2_isOffer_4 rfl (lv_at hl 1 rfl) ?_
  refine kiald (n := 30) (j := j) hx hb hG hP 1 rfl (by omega) (by decide) dX2_isOffer_5 ?_
  refine lv_iload_n hx hb dX2_isOffer_6 rfl (lv_at hl 2 rfl) ?_
  refine lv_icmp_ne (tgt := 47) hx hb dX2_isOffer_7 (by decide) (fun h7 => ?_) (fun h7 => ?_)
  · refine lv_iconst (v := 0) hx hb dX2_isOffer_47 (by decide) ?_
    exact kr_z hx hb hr hlocks hP hD hS (Nat.zero_le _) (Nat.zero_le _) (Or.inl rfl) (⟨(bi_f (fun q => h7 q.1)).symm, rfl⟩) dX2_isOffer_48
  · refine lv_aload_n hx hb dX2_isOffer_10 rfl (lv_at hl 0 rfl) ?_
    refine kget (ci := 3) (C := RX2) (T := TX2) (N := 18) hx hb hts hown hG hP 0 rfl rfl hinX2 6 (by decide) (by decide +kernel) rfl dX2_isOffer_11 ?_
    refine lv_iload_n hx hb dX2_isOffer_14 rfl (lv_at hl 1 rfl) ?_
    refine kiald (n := 30) (j := j) hx hb hG hP 5 rfl (by omega) (by decide) dX2_isOffer_15 ?_
    refine lv_iconst (v := 1) hx hb dX2_isOffer_16 (by decide) ?_
    refine lv_icmp_ne (tgt := 47) hx hb dX2_isOffer_17 (by decide) (fun h17 => ?_) (fun h17 => ?_)
    · refine lv_iconst (v := 0) hx hb dX2_isOffer_47 (by decide) ?_
      exact kr_z hx hb hr hlocks hP hD hS (Nat.zero_le _) (Nat.zero_le _) (Or.inl rfl) (⟨(bi_f (fun q => h17 q.2.1)).symm, rfl⟩) dX2_isOffer_48
    · refine lv_aload_n hx hb dX2_isOffer_20 rfl (lv_at hl 0 rfl) ?_
      refine kget (ci := 3) (C := RX2) (T := TX2) (N := 18) hx hb hts hown hG hP 0 rfl rfl hinX2 7 (by decide) (by decide +kernel) rfl dX2_isOffer_21 ?_
      refine lv_iload_n hx hb dX2_isOffer_24 rfl (lv_at hl 1 rfl) ?_
      refine kiald (n := 30) (j := j) hx hb hG hP 6 rfl (by omega) (by decide) dX2_isOffer_25 ?_
      refine lv_iconst (v := (-1)) hx hb dX2_isOffer_26 (by decide) ?_
      refine lv_icmp_eq (tgt := 47) hx hb dX2_isOffer_27 (by decide) (fun h27 => ?_) (fun h27 => ?_)
      · refine lv_iconst (v := 0) hx hb dX2_isOffer_47 (by decide) ?_
        exact kr_z hx hb hr hlocks hP hD hS (Nat.zero_le _) (Nat.zero_le _) (Or.inl rfl) (⟨(bi_f (fun q => q.2.2.1 h27)).symm, rfl⟩) dX2_isOffer_48
      · refine lv_aload_n hx hb dX2_isOffer_30 rfl (lv_at hl 0 rfl) ?_
        refine kget (ci := 3) (C := RX2) (T := TX2) (N := 18) hx hb hts hown hG hP 0 rfl rfl hinX2 5 (by decide) (by decide +kernel) rfl dX2_isOffer_31 ?_
        refine lv_iload_n hx hb dX2_isOffer_34 rfl (lv_at hl 1 rfl) ?_
        refine kiald (n := 30) (j := j) hx hb hG hP 4 rfl (by omega) (by decide) dX2_isOffer_35 ?_
        refine lv_aload_n hx hb dX2_isOffer_36 rfl (lv_at hl 0 rfl) ?_
        refine kget (ci := 3) (C := RX2) (T := TX2) (N := 18) hx hb hts hown hG hP 0 rfl rfl hinX2 0 (by decide) (by decide +kernel) rfl dX2_isOffer_37 ?_
        refine lv_icmp_le (tgt := 47) hx hb dX2_isOffer_40 (by decide) (fun h40 => ?_) (fun h40 => ?_)
        · refine lv_iconst (v := 0) hx hb dX2_isOffer_47 (by decide) ?_
          exact kr_z hx hb hr hlocks hP hD hS (Nat.zero_le _) (Nat.zero_le _) (Or.inl rfl) (⟨(bi_f (fun q => q.2.2.2 h40)).symm, rfl⟩) dX2_isOffer_48
        · refine lv_iconst (v := 1) hx hb dX2_isOffer_43 (by decide) ?_
          refine lv_goto (tgt := 48) hx hb dX2_isOffer_44 (by decide) ?_
          exact kr_z hx hb hr hlocks hP hD hS (Nat.zero_le _) (Nat.zero_le _) (Or.inr rfl) (⟨(bi_t ⟨h7, h17, h27, h40⟩).symm, rfl⟩) dX2_isOffer_48
set_option maxHeartbeats 4000000 in
set_option maxRecDepth 100000 in
theorem c_X2_leftOf {l : Launch} {K : Ks} {A : Nat → Prop} {qm : Nat → Nat} {td th : Int32} {M X : Nat → Nat → Int32} {n b o : Nat} (hn : n ≤ 30) (hx4 : b < 4) (hx8 : o < 8) : Met l yX2_leftOf wsX2_leftOf (kR 0 0 0) (kPr K A [.ref (qm 0), .int (nI b), .int (nI o)] (Mfix K qm td (nI n) th M X)) (kQi K A (fun r w => r = loM td M b o n ∧ w = Mfix K qm td (nI n) th M X)) 0 0 A := by
  refine kent (cc := cX2_leftOf) (maxL := 5) (ret := (some .int)) (by decide) rfl (Nat.le_of_ble_eq_true rfl) ?_
  intro p e s m args below meth c ls hx hb hr hts hown hlocks hml hini hG hP hD hS hl
  have hinX2 : ∀ x ∈ wsX20, x ∈ wsX2_leftOf := by decide +kernel
  have hl : lv_has ls 5 [(0, .ref (qm 0)), (1, .int (nI b)), (2, .int (nI o))] := hl
  refine lv_aload_n hx hb dX2_leftOf_0 rfl (lv_at hl 0 rfl) ?_
  refine kget (ci := 3) (C := RX2) (T := TX2) (N := 18) hx hb hts hown hG hP 0 rfl rfl hinX2 12 (by decide) (by decide +kernel) rfl dX2_leftOf_1 ?_
  refine lv_bipush (v := 8) hx hb dX2_leftOf_4 (by decide) ?_
  refine lv_iload_n hx hb dX2_leftOf_6 rfl (lv_at hl 1 rfl) ?_
  refine lv_imul hx hb dX2_leftOf_7 ?_
  refine lv_iload_n hx hb dX2_leftOf_8 rfl (lv_at hl 2 rfl) ?_
  refine lv_iadd hx hb dX2_leftOf_9 ?_
  refine ktop (z := nI (8 * b + o)) (p8 b o) ?_
  refine kiald (n := 32) (j := (8 * b + o)) hx hb hG hP 11 rfl (by omega) (by decide) dX2_leftOf_10 ?_
  refine lv_istore_n (lv' := [(3, .int (M 12 (8 * b + o))), (0, .ref (qm 0)), (1, .int (nI b)), (2, .int (nI o))]) hx hb dX2_leftOf_11 rfl hl (by decide) rfl (fun ls hl => ?_)
  refine lv_iconst (v := 0) hx hb dX2_leftOf_12 (by decide) ?_
  refine lv_istore (lv' := [(4, .int 0), (3, .int (M 12 (8 * b + o))), (0, .ref (qm 0)), (1, .int (nI b)), (2, .int (nI o))]) hx hb dX2_leftOf_13 hl (by decide) rfl (fun ls hl => ?_)
  have LOOP : ∀ (Q' : State → Prop), (∀  (ls : Array Slot) (H : Heap) (locs : List Loc), va_P K.1 kCl (Mfix K qm td (nI n) th M X) H → va_D A (Mfix K qm td (nI n) th M X) → va_S A s.heap H locs → lv_has ls 5 [(0, .ref (qm 0)), (1, .int (nI b)), (2, .int (nI o)), (3, .int (loM td M b o n)), (4, .int (nI n))] → W p l e (kR 0 0 0) s m args below meth c H locs 0 0 Q' (F0 m 91 ls [])) → ∀ (d k : Nat)  (ls : Array Slot) (H : Heap) (locs : List Loc), k + d = n → va_P K.1 kCl (Mfix K qm td (nI n) th M X) H → va_D A (Mfix K qm td (nI n) th M X) → va_S A s.heap H locs → lv_has ls 5 [(0, .ref (qm 0)), (1, .int (nI b)), (2, .int (nI o)), (3, .int (loM td M b o k)), (4, .int (nI k))] → W p l e (kR 0 0 0) s m args below meth c H locs 0 0 Q' (F0 m 15 ls []) := by
    intro Q' kx d
    induction d with
    | zero =>
      intro k  ls H locs hk hP hD hS hl
      have hk2 : k = n := by omega
      refine lv_iload hx hb dX2_leftOf_15 (lv_at hl 4 rfl) ?_
      refine lv_aload_n hx hb dX2_leftOf_17 rfl (lv_at hl 0 rfl) ?_
      refine kget (ci := 3) (C := RX2) (T := TX2) (N := 18) hx hb hts hown hG hP 0 rfl rfl hinX2 1 (by decide) (by decide +kernel) rfl dX2_leftOf_18 ?_
      refine lv_icmp_ge (tgt := 91) hx hb dX2_leftOf_21 (by decide) (fun h21 => ?_) (fun h21 => False.elim (absurd (nI_le (Nat.le_of_eq hk2.symm) (by omega)) h21))
      have hk3 : n = k := hk2.symm
      subst hk3
      exact kx  ls H locs hP hD hS (lv_sub hl [0, 1, 2, 3, 4] rfl)
    | succ d ih =>
      intro k  ls H locs hk hP hD hS hl
      have hk2 : k < n := by omega
      refine lv_iload hx hb dX2_leftOf_15 (lv_at hl 4 rfl) ?_
      refine lv_aload_n hx hb dX2_leftOf_17 rfl (lv_at hl 0 rfl) ?_
      refine kget (ci := 3) (C := RX2) (T := TX2) (N := 18) hx hb hts hown hG hP 0 rfl rfl hinX2 1 (by decide) (by decide +kernel) rfl dX2_leftOf_18 ?_
      refine lv_icmp_ge (tgt := 91) hx hb dX2_leftOf_21 (by decide) (fun h21 => False.elim (absurd h21 (nI_ge hk2 (by omega)))) (fun h21 => ?_)
      refine lv_iload_n hx hb dX2_leftOf_24 rfl (lv_at hl 3 rfl) ?_
      refine lv_aload_n hx hb dX2_leftOf_25 rfl (lv_at hl 0 rfl) ?_
      refine kget (ci := 3) (C := RX2) (T := TX2) (N := 18) hx hb hts hown hG hP 0 rfl rfl hinX2 2 (by decide) (by decide +kernel) rfl dX2_leftOf_26 ?_
      refine lv_iload hx hb dX2_leftOf_29 (lv_at hl 4 rfl) ?_
      refine kiald (n := 30) (j := k) hx hb hG hP 1 rfl (by omega) (by decide) dX2_leftOf_31 ?_
      refine lv_iload_n hx hb dX2_leftOf_32 rfl (lv_at hl 1 rfl) ?_
      refine lv_icmp_ne (tgt := 82) hx hb dX2_leftOf_33 (by decide) (fun h33 => ?_) (fun h33 => ?_)
      · refine lv_iconst (v := 0) hx hb dX2_leftOf_82 (by decide) ?_
        refine lv_isub hx hb dX2_leftOf_83 ?_
        refine lv_istore_n (lv' := [(3, .int (loM td M b o k - 0)), (0, .ref (qm 0)), (1, .int (nI b)), (2, .int (nI o)), (4, .int (nI k))]) hx hb dX2_leftOf_84 rfl hl (by decide) rfl (fun ls hl => ?_)
        refine lv_iinc (v := nI (k + 1)) (lv' := [(4, .int (nI (k + 1))), (3, .int (loM td M b o k - 0)), (0, .ref (qm 0)), (1, .int (nI b)), (2, .int (nI o))]) hx hb dX2_leftOf_85 hl (k := 4) rfl (kinc k) (by decide) rfl (fun ls hl => ?_)
        refine lv_goto (tgt := 15) hx hb dX2_leftOf_88 (by decide) ?_
        exact (ih (k + 1)  ls H locs (by omega) hP hD hS (by rw [loM_f (fun q => h33 q.1)]; exact lv_sub hl [2, 3, 4, 1, 0] rfl))
      · refine lv_aload_n hx hb dX2_leftOf_36 rfl (lv_at hl 0 rfl) ?_
        refine kget (ci := 3) (C := RX2) (T := TX2) (N := 18) hx hb hts hown hG hP 0 rfl rfl hinX2 3 (by decide) (by decide +kernel) rfl dX2_leftOf_37 ?_
        refine lv_iload hx hb dX2_leftOf_40 (lv_at hl 4 rfl) ?_
        refine kiald (n := 30) (j := k) hx hb hG hP 2 rfl (by omega) (by decide) dX2_leftOf_42 ?_
        refine lv_iload_n hx hb dX2_leftOf_43 rfl (lv_at hl 2 rfl) ?_
        refine lv_icmp_ne (tgt := 82) hx hb dX2_leftOf_44 (by decide) (fun h44 => ?_) (fun h44 => ?_)
        · refine lv_iconst (v := 0) hx hb dX2_leftOf_82 (by decide) ?_
          refine lv_isub hx hb dX2_leftOf_83 ?_
          refine lv_istore_n (lv' := [(3, .int (loM td M b o k - 0)), (0, .ref (qm 0)), (1, .int (nI b)), (2, .int (nI o)), (4, .int (nI k))]) hx hb dX2_leftOf_84 rfl hl (by decide) rfl (fun ls hl => ?_)
          refine lv_iinc (v := nI (k + 1)) (lv' := [(4, .int (nI (k + 1))), (3, .int (loM td M b o k - 0)), (0, .ref (qm 0)), (1, .int (nI b)), (2, .int (nI o))]) hx hb dX2_leftOf_85 hl (k := 4) rfl (kinc k) (by decide) rfl (fun ls hl => ?_)
          refine lv_goto (tgt := 15) hx hb dX2_leftOf_88 (by decide) ?_
          exact (ih (k + 1)  ls H locs (by omega) hP hD hS (by rw [loM_f (fun q => h44 q.2.1)]; exact lv_sub hl [2, 3, 4, 1, 0] rfl))
        · refine lv_aload_n hx hb dX2_leftOf_47 rfl (lv_at hl 0 rfl) ?_
          refine kget (ci := 3) (C := RX2) (T := TX2) (N := 18) hx hb hts hown hG hP 0 rfl rfl hinX2 6 (by decide) (by decide +kernel) rfl dX2_leftOf_48 ?_
          refine lv_iload hx hb dX2_leftOf_51 (lv_at hl 4 rfl) ?_
          refine kiald (n := 30) (j := k) hx hb hG hP 5 rfl (by omega) (by decide) dX2_leftOf_53 ?_
          refine lv_iconst (v := 3) hx hb dX2_leftOf_54 (by decide) ?_
          refine lv_icmp_ne (tgt := 82) hx hb dX2_leftOf_55 (by decide) (fun h55 => ?_) (fun h55 => ?_)
          · refine lv_iconst (v := 0) hx hb dX2_leftOf_82 (by decide) ?_
            refine lv_isub hx hb dX2_leftOf_83 ?_
            refine lv_istore_n (lv' := [(3, .int (loM td M b o k - 0)), (0, .ref (qm 0)), (1, .int (nI b)), (2, .int (nI o)), (4, .int (nI k))]) hx hb dX2_leftOf_84 rfl hl (by decide) rfl (fun ls hl => ?_)
            refine lv_iinc (v := nI (k + 1)) (lv' := [(4, .int (nI (k + 1))), (3, .int (loM td M b o k - 0)), (0, .ref (qm 0)), (1, .int (nI b)), (2, .int (nI o))]) hx hb dX2_leftOf_85 hl (k := 4) rfl (kinc k) (by decide) rfl (fun ls hl => ?_)
            refine lv_goto (tgt := 15) hx hb dX2_leftOf_88 (by decide) ?_
            exact (ih (k + 1)  ls H locs (by omega) hP hD hS (by rw [loM_f (fun q => h55 q.2.2.1)]; exact lv_sub hl [2, 3, 4, 1, 0] rfl))
          · refine lv_aload_n hx hb dX2_leftOf_58 rfl (lv_at hl 0 rfl) ?_
            refine kget (ci := 3) (C := RX2) (T := TX2) (N := 18) hx hb hts hown hG hP 0 rfl rfl hinX2 5 (by decide) (by decide +kernel) rfl dX2_leftOf_59 ?_
            refine lv_iload hx hb dX2_leftOf_62 (lv_at hl 4 rfl) ?_
            refine kiald (n := 30) (j := k) hx hb hG hP 4 rfl (by omega) (by decide) dX2_leftOf_64 ?_
            refine lv_aload_n hx hb dX2_leftOf_65 rfl (lv_at hl 0 rfl) ?_
            refine kget (ci := 3) (C := RX2) (T := TX2) (N := 18) hx hb hts hown hG hP 0 rfl rfl hinX2 0 (by decide) (by decide +kernel) rfl dX2_leftOf_66 ?_
            refine lv_icmp_le (tgt := 82) hx hb dX2_leftOf_69 (by decide) (fun h69 => ?_) (fun h69 => ?_)
            · refine lv_iconst (v := 0) hx hb dX2_leftOf_82 (by decide) ?_
              refine lv_isub hx hb dX2_leftOf_83 ?_
              refine lv_istore_n (lv' := [(3, .int (loM td M b o k - 0)), (0, .ref (qm 0)), (1, .int (nI b)), (2, .int (nI o)), (4, .int (nI k))]) hx hb dX2_leftOf_84 rfl hl (by decide) rfl (fun ls hl => ?_)
              refine lv_iinc (v := nI (k + 1)) (lv' := [(4, .int (nI (k + 1))), (3, .int (loM td M b o k - 0)), (0, .ref (qm 0)), (1, .int (nI b)), (2, .int (nI o))]) hx hb dX2_leftOf_85 hl (k := 4) rfl (kinc k) (by decide) rfl (fun ls hl => ?_)
              refine lv_goto (tgt := 15) hx hb dX2_leftOf_88 (by decide) ?_
              exact (ih (k + 1)  ls H locs (by omega) hP hD hS (by rw [loM_f (fun q => q.2.2.2 h69)]; exact lv_sub hl [2, 3, 4, 1, 0] rfl))
            · refine lv_aload_n hx hb dX2_leftOf_72 rfl (lv_at hl 0 rfl) ?_
              refine kget (ci := 3) (C := RX2) (T := TX2) (N := 18) hx hb hts hown hG hP 0 rfl rfl hinX2 8 (by decide) (by decide +kernel) rfl dX2_leftOf_73 ?_
              refine lv_iload hx hb dX2_leftOf_76 (lv_at hl 4 rfl) ?_
              refine kiald (n := 30) (j := k) hx hb hG hP 7 rfl (by omega) (by decide) dX2_leftOf_78 ?_
              refine lv_goto (tgt := 83) hx hb dX2_leftOf_79 (by decide) ?_
              refine lv_isub hx hb dX2_leftOf_83 ?_
              refine lv_istore_n (lv' := [(3, .int (loM td M b o k - (M 8 k))), (0, .ref (qm 0)), (1, .int (nI b)), (2, .int (nI o)), (4, .int (nI k))]) hx hb dX2_leftOf_84 rfl hl (by decide) rfl (fun ls hl => ?_)
              refine lv_iinc (v := nI (k + 1)) (lv' := [(4, .int (nI (k + 1))), (3, .int (loM td M b o k - (M 8 k))), (0, .ref (qm 0)), (1, .int (nI b)), (2, .int (nI o))]) hx hb dX2_leftOf_85 hl (k := 4) rfl (kinc k) (by decide) rfl (fun ls hl => ?_)
              refine lv_goto (tgt := 15) hx hb dX2_leftOf_88 (by decide) ?_
              exact (ih (k + 1)  ls H locs (by omega) hP hD hS (by rw [loM_t ⟨h33, h44, h55, h69⟩]; exact lv_sub hl [2, 3, 4, 1, 0] rfl))
  refine LOOP _ (fun  ls H locs hP hD hS hl => ?_) n 0  ls _ _ (by omega) hP hD hS (lv_sub hl [2, 3, 4, 1, 0] rfl)
  refine lv_iload_n hx hb dX2_leftOf_91 rfl (lv_at hl 3 rfl) ?_
  exact kr_i hx hb hr hlocks hP hD hS (Nat.zero_le _) (Nat.zero_le _) (⟨rfl, rfl⟩) dX2_leftOf_92
set_option maxHeartbeats 4000000 in
set_option maxRecDepth 100000 in
theorem c_X2_left_1b {l : Launch} {K : Ks} {A : Nat → Prop} {qm : Nat → Nat} {td nb th : Int32} {M X : Nat → Nat → Int32} {x y : Int32} (hx4 : ixBad 4 x) : Met l yX2_left wsX2_left (kR 3 0 0) (kPr K A [.ref (qm 0), .int x, .int y] (Mfix K qm td nb th M X)) (kQi K A (fun _ w => w = Mfix K qm td nb 1 M X)) 0 0 A := by
  refine kent (cc := cX2_left) (maxL := 3) (ret := (some .int)) (by decide) rfl (Nat.le_of_ble_eq_true rfl) ?_
  intro p e s m args below meth c ls hx hb hr hts hown hlocks hml hini hG hP hD hS hl
  have hinX2 : ∀ x ∈ wsX20, x ∈ wsX2_left := by decide +kernel
  have hl : lv_has ls 3 [(0, .ref (qm 0)), (1, .int x), (2, .int y)] := hl
  refine lv_aload_n hx hb dX2_left_0 rfl (lv_at hl 0 rfl) ?_
  refine lv_iload_n hx hb dX2_left_1 rfl (lv_at hl 1 rfl) ?_
  refine lv_iload_n hx hb dX2_left_2 rfl (lv_at hl 2 rfl) ?_
  refine kc_i (va_runS (As := [.int x, .int y]) (rest := [.ref (qm 0)]) ⟨hx, hb, hml, hown, hts⟩ (c_X2_isPair_b hx4) (va_cwS 2 hts gX2_left_X2_isPair rfl rfl rfl (by decide +kernel) ⟨Nat.le_of_ble_eq_true rfl, Nat.le_of_ble_eq_true rfl⟩) (kps hG hP hD hS) rfl rfl hl.1 rfl (lv_room (Nat.le_of_ble_eq_true rfl)) dX2_left_3 ⟨Nat.le_of_ble_eq_true rfl, Nat.le_of_ble_eq_true rfl⟩) hS (fun r3 w H locs hp hP hD hS => ?_)
  rw [hp.2] at hP hD
  rw [hp.1]
  refine lv_if_eq (tgt := 13) hx hb dX2_left_6 (by decide) (fun h6 => ?_) (fun h6 => False.elim (absurd rfl h6))
  refine lv_iconst (v := 1) hx hb dX2_left_13 (by decide) ?_
  refine kc_i (va_runV (As := [.int 1]) (rest := []) ⟨hx, hb, hml, hown, hts⟩ (c_X2_fails (x := 1) (z := 1) (by decide)) (cwV 1 hts gX2_left_X2_fails rfl rfl rfl (by decide +kernel) ⟨Nat.le_of_ble_eq_true rfl, Nat.le_of_ble_eq_true rfl⟩) (kpv (q0 := 0) hG hP hD hS rfl rfl) rfl rfl hl.1 rfl (lv_room (Nat.le_of_ble_eq_true rfl)) dX2_left_14 ⟨Nat.le_of_ble_eq_true rfl, Nat.le_of_ble_eq_true rfl⟩) hS (fun r14 w H locs hp hP hD hS => ?_)
  rw [hp.2] at hP hD
  rw [hp.1]
  refine lv_if_eq (tgt := 24) hx hb dX2_left_17 (by decide) (fun h17 => False.elim (absurd h17 (by decide))) (fun h17 => ?_)
  refine lv_iconst (v := 0) hx hb dX2_left_20 (by decide) ?_
  refine lv_goto (tgt := 30) hx hb dX2_left_21 (by decide) ?_
  exact kr_i hx hb hr hlocks hP hD hS (Nat.zero_le _) (Nat.zero_le _) (rfl) dX2_left_30
set_option maxHeartbeats 4000000 in
set_option maxRecDepth 100000 in
theorem c_X2_left_1s {l : Launch} {K : Ks} {A : Nat → Prop} {qm : Nat → Nat} {td nb th : Int32} {M X : Nat → Nat → Int32} {b : Nat} {y : Int32} (hx4 : b < 4) (hx8 : ixBad 8 y) : Met l yX2_left wsX2_left (kR 3 0 0) (kPr K A [.ref (qm 0), .int (nI b), .int y] (Mfix K qm td nb th M X)) (kQi K A (fun _ w => w = Mfix K qm td nb 1 M X)) 0 0 A := by
  refine kent (cc := cX2_left) (maxL := 3) (ret := (some .int)) (by decide) rfl (Nat.le_of_ble_eq_true rfl) ?_
  intro p e s m args below meth c ls hx hb hr hts hown hlocks hml hini hG hP hD hS hl
  have hinX2 : ∀ x ∈ wsX20, x ∈ wsX2_left := by decide +kernel
  have hl : lv_has ls 3 [(0, .ref (qm 0)), (1, .int (nI b)), (2, .int y)] := hl
  refine lv_aload_n hx hb dX2_left_0 rfl (lv_at hl 0 rfl) ?_
  refine lv_iload_n hx hb dX2_left_1 rfl (lv_at hl 1 rfl) ?_
  refine lv_iload_n hx hb dX2_left_2 rfl (lv_at hl 2 rfl) ?_
  refine kc_i (va_runS (As := [.int (nI b), .int y]) (rest := [.ref (qm 0)]) ⟨hx, hb, hml, hown, hts⟩ (c_X2_isPair_s hx4 hx8) (va_cwS 2 hts gX2_left_X2_isPair rfl rfl rfl (by decide +kernel) ⟨Nat.le_of_ble_eq_true rfl, Nat.le_of_ble_eq_true rfl⟩) (kps hG hP hD hS) rfl rfl hl.1 rfl (lv_room (Nat.le_of_ble_eq_true rfl)) dX2_left_3 ⟨Nat.le_of_ble_eq_true rfl, Nat.le_of_ble_eq_true rfl⟩) hS (fun r3 w H locs hp hP hD hS => ?_)
  rw [hp.2] at hP hD
  rw [hp.1]
  refine lv_if_eq (tgt := 13) hx hb dX2_left_6 (by decide) (fun h6 => ?_) (fun h6 => False.elim (absurd rfl h6))
  refine lv_iconst (v := 1) hx hb dX2_left_13 (by decide) ?_
  refine kc_i (va_runV (As := [.int 1]) (rest := []) ⟨hx, hb, hml, hown, hts⟩ (c_X2_fails (x := 1) (z := 1) (by decide)) (cwV 1 hts gX2_left_X2_fails rfl rfl rfl (by decide +kernel) ⟨Nat.le_of_ble_eq_true rfl, Nat.le_of_ble_eq_true rfl⟩) (kpv (q0 := 0) hG hP hD hS rfl rfl) rfl rfl hl.1 rfl (lv_room (Nat.le_of_ble_eq_true rfl)) dX2_left_14 ⟨Nat.le_of_ble_eq_true rfl, Nat.le_of_ble_eq_true rfl⟩) hS (fun r14 w H locs hp hP hD hS => ?_)
  rw [hp.2] at hP hD
  rw [hp.1]
  refine lv_if_eq (tgt := 24) hx hb dX2_left_17 (by decide) (fun h17 => False.elim (absurd h17 (by decide))) (fun h17 => ?_)
  refine lv_iconst (v := 0) hx hb dX2_left_20 (by decide) ?_
  refine lv_goto (tgt := 30) hx hb dX2_left_21 (by decide) ?_
  exact kr_i hx hb hr hlocks hP hD hS (Nat.zero_le _) (Nat.zero_le _) (rfl) dX2_left_30
set_option maxHeartbeats 4000000 in
set_option maxRecDepth 100000 in
theorem c_X2_left_ok {l : Launch} {K : Ks} {A : Nat → Prop} {qm : Nat → Nat} {td th : Int32} {M X : Nat → Nat → Int32} {n b o : Nat} (hn : n ≤ 30) (hx4 : b < 4) (hx8 : o < 8) : Met l yX2_left wsX2_left (kR 3 0 0) (kPr K A [.ref (qm 0), .int (nI b), .int (nI o)] (Mfix K qm td (nI n) th M X)) (kQi K A (fun r w => r = loM td M b o n ∧ w = Mfix K qm td (nI n) 0 M X)) 0 0 A := by
  refine kent (cc := cX2_left) (maxL := 3) (ret := (some .int)) (by decide) rfl (Nat.le_of_ble_eq_true rfl) ?_
  intro p e s m args below meth c ls hx hb hr hts hown hlocks hml hini hG hP hD hS hl
  have hinX2 : ∀ x ∈ wsX20, x ∈ wsX2_left := by decide +kernel
  have hl : lv_has ls 3 [(0, .ref (qm 0)), (1, .int (nI b)), (2, .int (nI o))] := hl
  refine lv_aload_n hx hb dX2_left_0 rfl (lv_at hl 0 rfl) ?_
  refine lv_iload_n hx hb dX2_left_1 rfl (lv_at hl 1 rfl) ?_
  refine lv_iload_n hx hb dX2_left_2 rfl (lv_at hl 2 rfl) ?_
  refine kc_i (va_runS (As := [.int (nI b), .int (nI o)]) (rest := [.ref (qm 0)]) ⟨hx, hb, hml, hown, hts⟩ (c_X2_isPair_ok hx4 hx8) (va_cwS 2 hts gX2_left_X2_isPair rfl rfl rfl (by decide +kernel) ⟨Nat.le_of_ble_eq_true rfl, Nat.le_of_ble_eq_true rfl⟩) (kps hG hP hD hS) rfl rfl hl.1 rfl (lv_room (Nat.le_of_ble_eq_true rfl)) dX2_left_3 ⟨Nat.le_of_ble_eq_true rfl, Nat.le_of_ble_eq_true rfl⟩) hS (fun r3 w H locs hp hP hD hS => ?_)
  rw [hp.2] at hP hD
  rw [hp.1]
  refine lv_if_eq (tgt := 13) hx hb dX2_left_6 (by decide) (fun h6 => False.elim (absurd h6 (by decide))) (fun h6 => ?_)
  refine lv_iconst (v := 0) hx hb dX2_left_9 (by decide) ?_
  refine lv_goto (tgt := 14) hx hb dX2_left_10 (by decide) ?_
  refine kc_i (va_runV (As := [.int 0]) (rest := []) ⟨hx, hb, hml, hown, hts⟩ (c_X2_fails (x := 0) (z := 0) (by decide)) (cwV 1 hts gX2_left_X2_fails rfl rfl rfl (by decide +kernel) ⟨Nat.le_of_ble_eq_true rfl, Nat.le_of_ble_eq_true rfl⟩) (kpv (q0 := 0) hG hP hD hS rfl rfl) rfl rfl hl.1 rfl (lv_room (Nat.le_of_ble_eq_true rfl)) dX2_left_14 ⟨Nat.le_of_ble_eq_true rfl, Nat.le_of_ble_eq_true rfl⟩) hS (fun r14 w H locs hp hP hD hS => ?_)
  rw [hp.2] at hP hD
  rw [hp.1]
  refine lv_if_eq (tgt := 24) hx hb dX2_left_17 (by decide) (fun h17 => ?_) (fun h17 => False.elim (absurd rfl h17))
  refine lv_aload_n hx hb dX2_left_24 rfl (lv_at hl 0 rfl) ?_
  refine lv_iload_n hx hb dX2_left_25 rfl (lv_at hl 1 rfl) ?_
  refine lv_iload_n hx hb dX2_left_26 rfl (lv_at hl 2 rfl) ?_
  refine kc_i (va_runV (As := [.int (nI b), .int (nI o)]) (rest := []) ⟨hx, hb, hml, hown, hts⟩ (c_X2_leftOf hn hx4 hx8) (cwV 2 hts gX2_left_X2_leftOf rfl rfl rfl (by decide +kernel) ⟨Nat.le_of_ble_eq_true rfl, Nat.le_of_ble_eq_true rfl⟩) (kpv (q0 := 0) hG hP hD hS rfl rfl) rfl rfl hl.1 rfl (lv_room (Nat.le_of_ble_eq_true rfl)) dX2_left_27 ⟨Nat.le_of_ble_eq_true rfl, Nat.le_of_ble_eq_true rfl⟩) hS (fun r27 w H locs hp hP hD hS => ?_)
  rw [hp.2] at hP hD
  rw [hp.1]
  exact kr_i hx hb hr hlocks hP hD hS (Nat.zero_le _) (Nat.zero_le _) (⟨rfl, rfl⟩) dX2_left_30
set_option maxHeartbeats 4000000 in
set_option maxRecDepth 100000 in
theorem c_X2_bill_1b {l : Launch} {K : Ks} {A : Nat → Prop} {qm : Nat → Nat} {td nb th : Int32} {M X : Nat → Nat → Int32} {x y ct dd : Int32} (hx4 : ixBad 4 x) : Met l yX2_bill wsX2_bill (kR 3 0 0) (kPr K A [.ref (qm 0), .int x, .int y, .int ct, .int dd] (Mfix K qm td nb th M X)) (kQi K A (fun _ w => w = Mfix K qm td nb 1 M X)) 0 0 A := by
  refine kent (cc := cX2_bill) (maxL := 6) (ret := (some .int)) (by decide) rfl (Nat.le_of_ble_eq_true rfl) ?_
  intro p e s m args below meth c ls hx hb hr hts hown hlocks hml hini hG hP hD hS hl
  have hinX2 : ∀ x ∈ wsX20, x ∈ wsX2_bill := by decide +kernel
  have hl : lv_has ls 6 [(0, .ref (qm 0)), (1, .int x), (2, .int y), (3, .int ct), (4, .int dd)] := hl
  refine lv_iload_n hx hb dX2_bill_0 rfl (lv_at hl 3 rfl) ?_
  refine lv_iconst (v := 1) hx hb dX2_bill_1 (by decide) ?_
  refine lv_ldc (v := 1000000) hx hb hown (hts (.constant RX2 80 1000000) (by decide +kernel)) dX2_bill_2 ?_
  refine kc_i (va_runS (As := [.int ct, .int 1, .int 1000000]) (rest := []) ⟨hx, hb, hml, hown, hts⟩ (c_X2_isIn (z := (bi (decide (inR 1 1000000 ct)))) rfl) (va_cwS 3 hts gX2_bill_X2_isIn rfl rfl rfl (by decide +kernel) ⟨Nat.le_of_ble_eq_true rfl, Nat.le_of_ble_eq_true rfl⟩) (kps hG hP hD hS) rfl rfl hl.1 rfl (lv_room (Nat.le_of_ble_eq_true rfl)) dX2_bill_4 ⟨Nat.le_of_ble_eq_true rfl, Nat.le_of_ble_eq_true rfl⟩) hS (fun r4 w H locs hp hP hD hS => ?_)
  rw [hp.2] at hP hD
  rw [hp.1]
  refine lv_if_eq (tgt := 26) hx hb dX2_bill_7 (by decide) (fun h7 => ?_) (fun h7 => ?_)
  · refine lv_iconst (v := 0) hx hb dX2_bill_26 (by decide) ?_
    refine lv_istore (lv' := [(5, .int 0), (0, .ref (qm 0)), (1, .int x), (2, .int y), (3, .int ct), (4, .int dd)]) hx hb dX2_bill_27 hl (by decide) rfl (fun ls hl => ?_)
    refine lv_aload_n hx hb dX2_bill_29 rfl (lv_at hl 1 rfl) ?_
    refine lv_iload_n hx hb dX2_bill_30 rfl (lv_at hl 2 rfl) ?_
    refine lv_iload_n hx hb dX2_bill_31 rfl (lv_at hl 3 rfl) ?_
    refine kc_i (va_runS (As := [.int x, .int y]) (rest := [.ref (qm 0)]) ⟨hx, hb, hml, hown, hts⟩ (c_X2_isPair_b hx4) (va_cwS 2 hts gX2_bill_X2_isPair rfl rfl rfl (by decide +kernel) ⟨Nat.le_of_ble_eq_true rfl, Nat.le_of_ble_eq_true rfl⟩) (kps hG hP hD hS) rfl rfl hl.1 rfl (lv_room (Nat.le_of_ble_eq_true rfl)) dX2_bill_32 ⟨Nat.le_of_ble_eq_true rfl, Nat.le_of_ble_eq_true rfl⟩) hS (fun r32 w H locs hp hP hD hS => ?_)
    rw [hp.2] at hP hD
    rw [hp.1]
    refine lv_if_ne (tgt := 42) hx hb dX2_bill_35 (by decide) (fun h35 => False.elim (absurd rfl h35)) (fun h35 => ?_)
    refine lv_iconst (v := 1) hx hb dX2_bill_38 (by decide) ?_
    refine lv_goto (tgt := 65) hx hb dX2_bill_39 (by decide) ?_
    refine kc_i (va_runV (As := [.int 1]) (rest := []) ⟨hx, hb, hml, hown, hts⟩ (c_X2_fails (x := 1) (z := 1) (by decide)) (cwV 1 hts gX2_bill_X2_fails rfl rfl rfl (by decide +kernel) ⟨Nat.le_of_ble_eq_true rfl, Nat.le_of_ble_eq_true rfl⟩) (kpv (q0 := 0) hG hP hD hS rfl rfl) rfl rfl hl.1 rfl (lv_room (Nat.le_of_ble_eq_true rfl)) dX2_bill_65 ⟨Nat.le_of_ble_eq_true rfl, Nat.le_of_ble_eq_true rfl⟩) hS (fun r65 w H locs hp hP hD hS => ?_)
    rw [hp.2] at hP hD
    rw [hp.1]
    refine lv_if_eq (tgt := 73) hx hb dX2_bill_68 (by decide) (fun h68 => False.elim (absurd h68 (by decide))) (fun h68 => ?_)
    refine lv_iconst (v := 0) hx hb dX2_bill_71 (by decide) ?_
    exact kr_i hx hb hr hlocks hP hD hS (Nat.zero_le _) (Nat.zero_le _) (rfl) dX2_bill_72
  · refine lv_iload hx hb dX2_bill_10 (lv_at hl 4 rfl) ?_
    refine lv_iconst (v := 1) hx hb dX2_bill_12 (by decide) ?_
    refine lv_sipush (v := 360) hx hb dX2_bill_13 (by decide) ?_
    refine kc_i (va_runS (As := [.int dd, .int 1, .int 360]) (rest := []) ⟨hx, hb, hml, hown, hts⟩ (c_X2_isIn (z := (bi (decide (inR 1 360 dd)))) rfl) (va_cwS 3 hts gX2_bill_X2_isIn rfl rfl rfl (by decide +kernel) ⟨Nat.le_of_ble_eq_true rfl, Nat.le_of_ble_eq_true rfl⟩) (kps hG hP hD hS) rfl rfl hl.1 rfl (lv_room (Nat.le_of_ble_eq_true rfl)) dX2_bill_16 ⟨Nat.le_of_ble_eq_true rfl, Nat.le_of_ble_eq_true rfl⟩) hS (fun r16 w H locs hp hP hD hS => ?_)
    rw [hp.2] at hP hD
    rw [hp.1]
    refine lv_if_eq (tgt := 26) hx hb dX2_bill_19 (by decide) (fun h19 => ?_) (fun h19 => ?_)
    · refine lv_iconst (v := 0) hx hb dX2_bill_26 (by decide) ?_
      refine lv_istore (lv' := [(5, .int 0), (0, .ref (qm 0)), (1, .int x), (2, .int y), (3, .int ct), (4, .int dd)]) hx hb dX2_bill_27 hl (by decide) rfl (fun ls hl => ?_)
      refine lv_aload_n hx hb dX2_bill_29 rfl (lv_at hl 1 rfl) ?_
      refine lv_iload_n hx hb dX2_bill_30 rfl (lv_at hl 2 rfl) ?_
      refine lv_iload_n hx hb dX2_bill_31 rfl (lv_at hl 3 rfl) ?_
      refine kc_i (va_runS (As := [.int x, .int y]) (rest := [.ref (qm 0)]) ⟨hx, hb, hml, hown, hts⟩ (c_X2_isPair_b hx4) (va_cwS 2 hts gX2_bill_X2_isPair rfl rfl rfl (by decide +kernel) ⟨Nat.le_of_ble_eq_true rfl, Nat.le_of_ble_eq_true rfl⟩) (kps hG hP hD hS) rfl rfl hl.1 rfl (lv_room (Nat.le_of_ble_eq_true rfl)) dX2_bill_32 ⟨Nat.le_of_ble_eq_true rfl, Nat.le_of_ble_eq_true rfl⟩) hS (fun r32 w H locs hp hP hD hS => ?_)
      rw [hp.2] at hP hD
      rw [hp.1]
      refine lv_if_ne (tgt := 42) hx hb dX2_bill_35 (by decide) (fun h35 => False.elim (absurd rfl h35)) (fun h35 => ?_)
      refine lv_iconst (v := 1) hx hb dX2_bill_38 (by decide) ?_
      refine lv_goto (tgt := 65) hx hb dX2_bill_39 (by decide) ?_
      refine kc_i (va_runV (As := [.int 1]) (rest := []) ⟨hx, hb, hml, hown, hts⟩ (c_X2_fails (x := 1) (z := 1) (by decide)) (cwV 1 hts gX2_bill_X2_fails rfl rfl rfl (by decide +kernel) ⟨Nat.le_of_ble_eq_true rfl, Nat.le_of_ble_eq_true rfl⟩) (kpv (q0 := 0) hG hP hD hS rfl rfl) rfl rfl hl.1 rfl (lv_room (Nat.le_of_ble_eq_true rfl)) dX2_bill_65 ⟨Nat.le_of_ble_eq_true rfl, Nat.le_of_ble_eq_true rfl⟩) hS (fun r65 w H locs hp hP hD hS => ?_)
      rw [hp.2] at hP hD
      rw [hp.1]
      refine lv_if_eq (tgt := 73) hx hb dX2_bill_68 (by decide) (fun h68 => False.elim (absurd h68 (by decide))) (fun h68 => ?_)
      refine lv_iconst (v := 0) hx hb dX2_bill_71 (by decide) ?_
      exact kr_i hx hb hr hlocks hP hD hS (Nat.zero_le _) (Nat.zero_le _) (rfl) dX2_bill_72
    · refine lv_iconst (v := 1) hx hb dX2_bill_22 (by decide) ?_
      refine lv_goto (tgt := 27) hx hb dX2_bill_23 (by decide) ?_
      refine lv_istore (lv' := [(5, .int 1), (0, .ref (qm 0)), (1, .int x), (2, .int y), (3, .int ct), (4, .int dd)]) hx hb dX2_bill_27 hl (by decide) rfl (fun ls hl => ?_)
      refine lv_aload_n hx hb dX2_bill_29 rfl (lv_at hl 1 rfl) ?_
      refine lv_iload_n hx hb dX2_bill_30 rfl (lv_at hl 2 rfl) ?_
      refine lv_iload_n hx hb dX2_bill_31 rfl (lv_at hl 3 rfl) ?_
      refine kc_i (va_runS (As := [.int x, .int y]) (rest := [.ref (qm 0)]) ⟨hx, hb, hml, hown, hts⟩ (c_X2_isPair_b hx4) (va_cwS 2 hts gX2_bill_X2_isPair rfl rfl rfl (by decide +kernel) ⟨Nat.le_of_ble_eq_true rfl, Nat.le_of_ble_eq_true rfl⟩) (kps hG hP hD hS) rfl rfl hl.1 rfl (lv_room (Nat.le_of_ble_eq_true rfl)) dX2_bill_32 ⟨Nat.le_of_ble_eq_true rfl, Nat.le_of_ble_eq_true rfl⟩) hS (fun r32 w H locs hp hP hD hS => ?_)
      rw [hp.2] at hP hD
      rw [hp.1]
      refine lv_if_ne (tgt := 42) hx hb dX2_bill_35 (by decide) (fun h35 => False.elim (absurd rfl h35)) (fun h35 => ?_)
      refine lv_iconst (v := 1) hx hb dX2_bill_38 (by decide) ?_
      refine lv_goto (tgt := 65) hx hb dX2_bill_39 (by decide) ?_
      refine kc_i (va_runV (As := [.int 1]) (rest := []) ⟨hx, hb, hml, hown, hts⟩ (c_X2_fails (x := 1) (z := 1) (by decide)) (cwV 1 hts gX2_bill_X2_fails rfl rfl rfl (by decide +kernel) ⟨Nat.le_of_ble_eq_true rfl, Nat.le_of_ble_eq_true rfl⟩) (kpv (q0 := 0) hG hP hD hS rfl rfl) rfl rfl hl.1 rfl (lv_room (Nat.le_of_ble_eq_true rfl)) dX2_bill_65 ⟨Nat.le_of_ble_eq_true rfl, Nat.le_of_ble_eq_true rfl⟩) hS (fun r65 w H locs hp hP hD hS => ?_)
      rw [hp.2] at hP hD
      rw [hp.1]
      refine lv_if_eq (tgt := 73) hx hb dX2_bill_68 (by decide) (fun h68 => False.elim (absurd h68 (by decide))) (fun h68 => ?_)
      refine lv_iconst (v := 0) hx hb dX2_bill_71 (by decide) ?_
      exact kr_i hx hb hr hlocks hP hD hS (Nat.zero_le _) (Nat.zero_le _) (rfl) dX2_bill_72
set_option maxHeartbeats 4000000 in
set_option maxRecDepth 100000 in
theorem c_X2_bill_1s {l : Launch} {K : Ks} {A : Nat → Prop} {qm : Nat → Nat} {td nb th : Int32} {M X : Nat → Nat → Int32} {b : Nat} {y ct dd : Int32} (hx4 : b < 4) (hx8 : ixBad 8 y) : Met l yX2_bill wsX2_bill (kR 3 0 0) (kPr K A [.ref (qm 0), .int (nI b), .int y, .int ct, .int dd] (Mfix K qm td nb th M X)) (kQi K A (fun _ w => w = Mfix K qm td nb 1 M X)) 0 0 A := by
  refine kent (cc := cX2_bill) (maxL := 6) (ret := (some .int)) (by decide) rfl (Nat.le_of_ble_eq_true rfl) ?_
  intro p e s m args below meth c ls hx hb hr hts hown hlocks hml hini hG hP hD hS hl
  have hinX2 : ∀ x ∈ wsX20, x ∈ wsX2_bill := by decide +kernel
  have hl : lv_has ls 6 [(0, .ref (qm 0)), (1, .int (nI b)), (2, .int y), (3, .int ct), (4, .int dd)] := hl
  refine lv_iload_n hx hb dX2_bill_0 rfl (lv_at hl 3 rfl) ?_
  refine lv_iconst (v := 1) hx hb dX2_bill_1 (by decide) ?_
  refine lv_ldc (v := 1000000) hx hb hown (hts (.constant RX2 80 1000000) (by decide +kernel)) dX2_bill_2 ?_
  refine kc_i (va_runS (As := [.int ct, .int 1, .int 1000000]) (rest := []) ⟨hx, hb, hml, hown, hts⟩ (c_X2_isIn (z := (bi (decide (inR 1 1000000 ct)))) rfl) (va_cwS 3 hts gX2_bill_X2_isIn rfl rfl rfl (by decide +kernel) ⟨Nat.le_of_ble_eq_true rfl, Nat.le_of_ble_eq_true rfl⟩) (kps hG hP hD hS) rfl rfl hl.1 rfl (lv_room (Nat.le_of_ble_eq_true rfl)) dX2_bill_4 ⟨Nat.le_of_ble_eq_true rfl, Nat.le_of_ble_eq_true rfl⟩) hS (fun r4 w H locs hp hP hD hS => ?_)
  rw [hp.2] at hP hD
  rw [hp.1]
  refine lv_if_eq (tgt := 26) hx hb dX2_bill_7 (by decide) (fun h7 => ?_) (fun h7 => ?_)
  · refine lv_iconst (v := 0) hx hb dX2_bill_26 (by decide) ?_
    refine lv_istore (lv' := [(5, .int 0), (0, .ref (qm 0)), (1, .int (nI b)), (2, .int y), (3, .int ct), (4, .int dd)]) hx hb dX2_bill_27 hl (by decide) rfl (fun ls hl => ?_)
    refine lv_aload_n hx hb dX2_bill_29 rfl (lv_at hl 1 rfl) ?_
    refine lv_iload_n hx hb dX2_bill_30 rfl (lv_at hl 2 rfl) ?_
    refine lv_iload_n hx hb dX2_bill_31 rfl (lv_at hl 3 rfl) ?_
    refine kc_i (va_runS (As := [.int (nI b), .int y]) (rest := [.ref (qm 0)]) ⟨hx, hb, hml, hown, hts⟩ (c_X2_isPair_s hx4 hx8) (va_cwS 2 hts gX2_bill_X2_isPair rfl rfl rfl (by decide +kernel) ⟨Nat.le_of_ble_eq_true rfl, Nat.le_of_ble_eq_true rfl⟩) (kps hG hP hD hS) rfl rfl hl.1 rfl (lv_room (Nat.le_of_ble_eq_true rfl)) dX2_bill_32 ⟨Nat.le_of_ble_eq_true rfl, Nat.le_of_ble_eq_true rfl⟩) hS (fun r32 w H locs hp hP hD hS => ?_)
    rw [hp.2] at hP hD
    rw [hp.1]
    refine lv_if_ne (tgt := 42) hx hb dX2_bill_35 (by decide) (fun h35 => False.elim (absurd rfl h35)) (fun h35 => ?_)
    refine lv_iconst (v := 1) hx hb dX2_bill_38 (by decide) ?_
    refine lv_goto (tgt := 65) hx hb dX2_bill_39 (by decide) ?_
    refine kc_i (va_runV (As := [.int 1]) (rest := []) ⟨hx, hb, hml, hown, hts⟩ (c_X2_fails (x := 1) (z := 1) (by decide)) (cwV 1 hts gX2_bill_X2_fails rfl rfl rfl (by decide +kernel) ⟨Nat.le_of_ble_eq_true rfl, Nat.le_of_ble_eq_true rfl⟩) (kpv (q0 := 0) hG hP hD hS rfl rfl) rfl rfl hl.1 rfl (lv_room (Nat.le_of_ble_eq_true rfl)) dX2_bill_65 ⟨Nat.le_of_ble_eq_true rfl, Nat.le_of_ble_eq_true rfl⟩) hS (fun r65 w H locs hp hP hD hS => ?_)
    rw [hp.2] at hP hD
    rw [hp.1]
    refine lv_if_eq (tgt := 73) hx hb dX2_bill_68 (by decide) (fun h68 => False.elim (absurd h68 (by decide))) (fun h68 => ?_)
    refine lv_iconst (v := 0) hx hb dX2_bill_71 (by decide) ?_
    exact kr_i hx hb hr hlocks hP hD hS (Nat.zero_le _) (Nat.zero_le _) (rfl) dX2_bill_72
  · refine lv_iload hx hb dX2_bill_10 (lv_at hl 4 rfl) ?_
    refine lv_iconst (v := 1) hx hb dX2_bill_12 (by decide) ?_
    refine lv_sipush (v := 360) hx hb dX2_bill_13 (by decide) ?_
    refine kc_i (va_runS (As := [.int dd, .int 1, .int 360]) (rest := []) ⟨hx, hb, hml, hown, hts⟩ (c_X2_isIn (z := (bi (decide (inR 1 360 dd)))) rfl) (va_cwS 3 hts gX2_bill_X2_isIn rfl rfl rfl (by decide +kernel) ⟨Nat.le_of_ble_eq_true rfl, Nat.le_of_ble_eq_true rfl⟩) (kps hG hP hD hS) rfl rfl hl.1 rfl (lv_room (Nat.le_of_ble_eq_true rfl)) dX2_bill_16 ⟨Nat.le_of_ble_eq_true rfl, Nat.le_of_ble_eq_true rfl⟩) hS (fun r16 w H locs hp hP hD hS => ?_)
    rw [hp.2] at hP hD
    rw [hp.1]
    refine lv_if_eq (tgt := 26) hx hb dX2_bill_19 (by decide) (fun h19 => ?_) (fun h19 => ?_)
    · refine lv_iconst (v := 0) hx hb dX2_bill_26 (by decide) ?_
      refine lv_istore (lv' := [(5, .int 0), (0, .ref (qm 0)), (1, .int (nI b)), (2, .int y), (3, .int ct), (4, .int dd)]) hx hb dX2_bill_27 hl (by decide) rfl (fun ls hl => ?_)
      refine lv_aload_n hx hb dX2_bill_29 rfl (lv_at hl 1 rfl) ?_
      refine lv_iload_n hx hb dX2_bill_30 rfl (lv_at hl 2 rfl) ?_
      refine lv_iload_n hx hb dX2_bill_31 rfl (lv_at hl 3 rfl) ?_
      refine kc_i (va_runS (As := [.int (nI b), .int y]) (rest := [.ref (qm 0)]) ⟨hx, hb, hml, hown, hts⟩ (c_X2_isPair_s hx4 hx8) (va_cwS 2 hts gX2_bill_X2_isPair rfl rfl rfl (by decide +kernel) ⟨Nat.le_of_ble_eq_true rfl, Nat.le_of_ble_eq_true rfl⟩) (kps hG hP hD hS) rfl rfl hl.1 rfl (lv_room (Nat.le_of_ble_eq_true rfl)) dX2_bill_32 ⟨Nat.le_of_ble_eq_true rfl, Nat.le_of_ble_eq_true rfl⟩) hS (fun r32 w H locs hp hP hD hS => ?_)
      rw [hp.2] at hP hD
      rw [hp.1]
      refine lv_if_ne (tgt := 42) hx hb dX2_bill_35 (by decide) (fun h35 => False.elim (absurd rfl h35)) (fun h35 => ?_)
      refine lv_iconst (v := 1) hx hb dX2_bill_38 (by decide) ?_
      refine lv_goto (tgt := 65) hx hb dX2_bill_39 (by decide) ?_
      refine kc_i (va_runV (As := [.int 1]) (rest := []) ⟨hx, hb, hml, hown, hts⟩ (c_X2_fails (x := 1) (z := 1) (by decide)) (cwV 1 hts gX2_bill_X2_fails rfl rfl rfl (by decide +kernel) ⟨Nat.le_of_ble_eq_true rfl, Nat.le_of_ble_eq_true rfl⟩) (kpv (q0 := 0) hG hP hD hS rfl rfl) rfl rfl hl.1 rfl (lv_room (Nat.le_of_ble_eq_true rfl)) dX2_bill_65 ⟨Nat.le_of_ble_eq_true rfl, Nat.le_of_ble_eq_true rfl⟩) hS (fun r65 w H locs hp hP hD hS => ?_)
      rw [hp.2] at hP hD
      rw [hp.1]
      refine lv_if_eq (tgt := 73) hx hb dX2_bill_68 (by decide) (fun h68 => False.elim (absurd h68 (by decide))) (fun h68 => ?_)
      refine lv_iconst (v := 0) hx hb dX2_bill_71 (by decide) ?_
      exact kr_i hx hb hr hlocks hP hD hS (Nat.zero_le _) (Nat.zero_le _) (rfl) dX2_bill_72
    · refine lv_iconst (v := 1) hx hb dX2_bill_22 (by decide) ?_
      refine lv_goto (tgt := 27) hx hb dX2_bill_23 (by decide) ?_
      refine lv_istore (lv' := [(5, .int 1), (0, .ref (qm 0)), (1, .int (nI b)), (2, .int y), (3, .int ct), (4, .int dd)]) hx hb dX2_bill_27 hl (by decide) rfl (fun ls hl => ?_)
      refine lv_aload_n hx hb dX2_bill_29 rfl (lv_at hl 1 rfl) ?_
      refine lv_iload_n hx hb dX2_bill_30 rfl (lv_at hl 2 rfl) ?_
      refine lv_iload_n hx hb dX2_bill_31 rfl (lv_at hl 3 rfl) ?_
      refine kc_i (va_runS (As := [.int (nI b), .int y]) (rest := [.ref (qm 0)]) ⟨hx, hb, hml, hown, hts⟩ (c_X2_isPair_s hx4 hx8) (va_cwS 2 hts gX2_bill_X2_isPair rfl rfl rfl (by decide +kernel) ⟨Nat.le_of_ble_eq_true rfl, Nat.le_of_ble_eq_true rfl⟩) (kps hG hP hD hS) rfl rfl hl.1 rfl (lv_room (Nat.le_of_ble_eq_true rfl)) dX2_bill_32 ⟨Nat.le_of_ble_eq_true rfl, Nat.le_of_ble_eq_true rfl⟩) hS (fun r32 w H locs hp hP hD hS => ?_)
      rw [hp.2] at hP hD
      rw [hp.1]
      refine lv_if_ne (tgt := 42) hx hb dX2_bill_35 (by decide) (fun h35 => False.elim (absurd rfl h35)) (fun h35 => ?_)
      refine lv_iconst (v := 1) hx hb dX2_bill_38 (by decide) ?_
      refine lv_goto (tgt := 65) hx hb dX2_bill_39 (by decide) ?_
      refine kc_i (va_runV (As := [.int 1]) (rest := []) ⟨hx, hb, hml, hown, hts⟩ (c_X2_fails (x := 1) (z := 1) (by decide)) (cwV 1 hts gX2_bill_X2_fails rfl rfl rfl (by decide +kernel) ⟨Nat.le_of_ble_eq_true rfl, Nat.le_of_ble_eq_true rfl⟩) (kpv (q0 := 0) hG hP hD hS rfl rfl) rfl rfl hl.1 rfl (lv_room (Nat.le_of_ble_eq_true rfl)) dX2_bill_65 ⟨Nat.le_of_ble_eq_true rfl, Nat.le_of_ble_eq_true rfl⟩) hS (fun r65 w H locs hp hP hD hS => ?_)
      rw [hp.2] at hP hD
      rw [hp.1]
      refine lv_if_eq (tgt := 73) hx hb dX2_bill_68 (by decide) (fun h68 => False.elim (absurd h68 (by decide))) (fun h68 => ?_)
      refine lv_iconst (v := 0) hx hb dX2_bill_71 (by decide) ?_
      exact kr_i hx hb hr hlocks hP hD hS (Nat.zero_le _) (Nat.zero_le _) (rfl) dX2_bill_72
set_option maxHeartbeats 4000000 in
set_option maxRecDepth 100000 in
theorem c_X2_bill_2c {l : Launch} {K : Ks} {A : Nat → Prop} {qm : Nat → Nat} {td th : Int32} {M X : Nat → Nat → Int32} {n b o : Nat} {ct dd : Int32} (hn : n ≤ 30) (hx4 : b < 4) (hx8 : o < 8) (hc : ¬ inR 1 1000000 ct) : Met l yX2_bill wsX2_bill (kR 3 0 0) (kPr K A [.ref (qm 0), .int (nI b), .int (nI o), .int ct, .int dd] (Mfix K qm td (nI n) th M X)) (kQi K A (fun _ w => w = Mfix K qm td (nI n) 2 M X)) 0 0 A := by
  refine kent (cc := cX2_bill) (maxL := 6) (ret := (some .int)) (by decide) rfl (Nat.le_of_ble_eq_true rfl) ?_
  intro p e s m args below meth c ls hx hb hr hts hown hlocks hml hini hG hP hD hS hl
  have hinX2 : ∀ x ∈ wsX20, x ∈ wsX2_bill := by decide +kernel
  have hl : lv_has ls 6 [(0, .ref (qm 0)), (1, .int (nI b)), (2, .int (nI o)), (3, .int ct), (4, .int dd)] := hl
  refine lv_iload_n hx hb dX2_bill_0 rfl (lv_at hl 3 rfl) ?_
  refine lv_iconst (v := 1) hx hb dX2_bill_1 (by decide) ?_
  refine lv_ldc (v := 1000000) hx hb hown (hts (.constant RX2 80 1000000) (by decide +kernel)) dX2_bill_2 ?_
  refine kc_i (va_runS (As := [.int ct, .int 1, .int 1000000]) (rest := []) ⟨hx, hb, hml, hown, hts⟩ (c_X2_isIn (z := 0) (bi_f hc).symm) (va_cwS 3 hts gX2_bill_X2_isIn rfl rfl rfl (by decide +kernel) ⟨Nat.le_of_ble_eq_true rfl, Nat.le_of_ble_eq_true rfl⟩) (kps hG hP hD hS) rfl rfl hl.1 rfl (lv_room (Nat.le_of_ble_eq_true rfl)) dX2_bill_4 ⟨Nat.le_of_ble_eq_true rfl, Nat.le_of_ble_eq_true rfl⟩) hS (fun r4 w H locs hp hP hD hS => ?_)
  rw [hp.2] at hP hD
  rw [hp.1]
  refine lv_if_eq (tgt := 26) hx hb dX2_bill_7 (by decide) (fun h7 => ?_) (fun h7 => False.elim (absurd rfl h7))
  refine lv_iconst (v := 0) hx hb dX2_bill_26 (by decide) ?_
  refine lv_istore (lv' := [(5, .int 0), (0, .ref (qm 0)), (1, .int (nI b)), (2, .int (nI o)), (3, .int ct), (4, .int dd)]) hx hb dX2_bill_27 hl (by decide) rfl (fun ls hl => ?_)
  refine lv_aload_n hx hb dX2_bill_29 rfl (lv_at hl 1 rfl) ?_
  refine lv_iload_n hx hb dX2_bill_30 rfl (lv_at hl 2 rfl) ?_
  refine lv_iload_n hx hb dX2_bill_31 rfl (lv_at hl 3 rfl) ?_
  refine kc_i (va_runS (As := [.int (nI b), .int (nI o)]) (rest := [.ref (qm 0)]) ⟨hx, hb, hml, hown, hts⟩ (c_X2_isPair_ok hx4 hx8) (va_cwS 2 hts gX2_bill_X2_isPair rfl rfl rfl (by decide +kernel) ⟨Nat.le_of_ble_eq_true rfl, Nat.le_of_ble_eq_true rfl⟩) (kps hG hP hD hS) rfl rfl hl.1 rfl (lv_room (Nat.le_of_ble_eq_true rfl)) dX2_bill_32 ⟨Nat.le_of_ble_eq_true rfl, Nat.le_of_ble_eq_true rfl⟩) hS (fun r32 w H locs hp hP hD hS => ?_)
  rw [hp.2] at hP hD
  rw [hp.1]
  refine lv_if_ne (tgt := 42) hx hb dX2_bill_35 (by decide) (fun h35 => ?_) (fun h35 => False.elim (absurd h35 (by decide)))
  refine lv_iload hx hb dX2_bill_42 (lv_at hl 0 rfl) ?_
  refine lv_if_ne (tgt := 51) hx hb dX2_bill_44 (by decide) (fun h44 => False.elim (absurd rfl h44)) (fun h44 => ?_)
  refine lv_iconst (v := 2) hx hb dX2_bill_47 (by decide) ?_
  refine lv_goto (tgt := 65) hx hb dX2_bill_48 (by decide) ?_
  refine kc_i (va_runV (As := [.int 2]) (rest := []) ⟨hx, hb, hml, hown, hts⟩ (c_X2_fails (x := 2) (z := 1) (by decide)) (cwV 1 hts gX2_bill_X2_fails rfl rfl rfl (by decide +kernel) ⟨Nat.le_of_ble_eq_true rfl, Nat.le_of_ble_eq_true rfl⟩) (kpv (q0 := 0) hG hP hD hS rfl rfl) rfl rfl hl.1 rfl (lv_room (Nat.le_of_ble_eq_true rfl)) dX2_bill_65 ⟨Nat.le_of_ble_eq_true rfl, Nat.le_of_ble_eq_true rfl⟩) hS (fun r65 w H locs hp hP hD hS => ?_)
  rw [hp.2] at hP hD
  rw [hp.1]
  refine lv_if_eq (tgt := 73) hx hb dX2_bill_68 (by decide) (fun h68 => False.elim (absurd h68 (by decide))) (fun h68 => ?_)
  refine lv_iconst (v := 0) hx hb dX2_bill_71 (by decide) ?_
  exact kr_i hx hb hr hlocks hP hD hS (Nat.zero_le _) (Nat.zero_le _) (rfl) dX2_bill_72
set_option maxHeartbeats 4000000 in
set_option maxRecDepth 100000 in
theorem c_X2_bill_2d {l : Launch} {K : Ks} {A : Nat → Prop} {qm : Nat → Nat} {td th : Int32} {M X : Nat → Nat → Int32} {n b o : Nat} {ct dd : Int32} (hn : n ≤ 30) (hx4 : b < 4) (hx8 : o < 8) (hc : inR 1 1000000 ct) (hd : ¬ inR 1 360 dd) : Met l yX2_bill wsX2_bill (kR 3 0 0) (kPr K A [.ref (qm 0), .int (nI b), .int (nI o), .int ct, .int dd] (Mfix K qm td (nI n) th M X)) (kQi K A (fun _ w => w = Mfix K qm td (nI n) 2 M X)) 0 0 A := by
  refine kent (cc := cX2_bill) (maxL := 6) (ret := (some .int)) (by decide) rfl (Nat.le_of_ble_eq_true rfl) ?_
  intro p e s m args below meth c ls hx hb hr hts hown hlocks hml hini hG hP hD hS hl
  have hinX2 : ∀ x ∈ wsX20, x ∈ wsX2_bill := by decide +kernel
  have hl : lv_has ls 6 [(0, .ref (qm 0)), (1, .int (nI b)), (2, .int (nI o)), (3, .int ct), (4, .int dd)] := hl
  refine lv_iload_n hx hb dX2_bill_0 rfl (lv_at hl 3 rfl) ?_
  refine lv_iconst (v := 1) hx hb dX2_bill_1 (by decide) ?_
  refine lv_ldc (v := 1000000) hx hb hown (hts (.constant RX2 80 1000000) (by decide +kernel)) dX2_bill_2 ?_
  refine kc_i (va_runS (As := [.int ct, .int 1, .int 1000000]) (rest := []) ⟨hx, hb, hml, hown, hts⟩ (c_X2_isIn (z := 1) (bi_t hc).symm) (va_cwS 3 hts gX2_bill_X2_isIn rfl rfl rfl (by decide +kernel) ⟨Nat.le_of_ble_eq_true rfl, Nat.le_of_ble_eq_true rfl⟩) (kps hG hP hD hS) rfl rfl hl.1 rfl (lv_room (Nat.le_of_ble_eq_true rfl)) dX2_bill_4 ⟨Nat.le_of_ble_eq_true rfl, Nat.le_of_ble_eq_true rfl⟩) hS (fun r4 w H locs hp hP hD hS => ?_)
  rw [hp.2] at hP hD
  rw [hp.1]
  refine lv_if_eq (tgt := 26) hx hb dX2_bill_7 (by decide) (fun h7 => False.elim (absurd h7 (by decide))) (fun h7 => ?_)
  refine lv_iload hx hb dX2_bill_10 (lv_at hl 4 rfl) ?_
  refine lv_iconst (v := 1) hx hb dX2_bill_12 (by decide) ?_
  refine lv_sipush (v := 360) hx hb dX2_bill_13 (by decide) ?_
  refine kc_i (va_runS (As := [.int dd, .int 1, .int 360]) (rest := []) ⟨hx, hb, hml, hown, hts⟩ (c_X2_isIn (z := 0) (bi_f hd).symm) (va_cwS 3 hts gX2_bill_X2_isIn rfl rfl rfl (by decide +kernel) ⟨Nat.le_of_ble_eq_true rfl, Nat.le_of_ble_eq_true rfl⟩) (kps hG hP hD hS) rfl rfl hl.1 rfl (lv_room (Nat.le_of_ble_eq_true rfl)) dX2_bill_16 ⟨Nat.le_of_ble_eq_true rfl, Nat.le_of_ble_eq_true rfl⟩) hS (fun r16 w H locs hp hP hD hS => ?_)
  rw [hp.2] at hP hD
  rw [hp.1]
  refine lv_if_eq (tgt := 26) hx hb dX2_bill_19 (by decide) (fun h19 => ?_) (fun h19 => False.elim (absurd rfl h19))
  refine lv_iconst (v := 0) hx hb dX2_bill_26 (by decide) ?_
  refine lv_istore (lv' := [(5, .int 0), (0, .ref (qm 0)), (1, .int (nI b)), (2, .int (nI o)), (3, .int ct), (4, .int dd)]) hx hb dX2_bill_27 hl (by decide) rfl (fun ls hl => ?_)
  refine lv_aload_n hx hb dX2_bill_29 rfl (lv_at hl 1 rfl) ?_
  refine lv_iload_n hx hb dX2_bill_30 rfl (lv_at hl 2 rfl) ?_
  refine lv_iload_n hx hb dX2_bill_31 rfl (lv_at hl 3 rfl) ?_
  refine kc_i (va_runS (As := [.int (nI b), .int (nI o)]) (rest := [.ref (qm 0)]) ⟨hx, hb, hml, hown, hts⟩ (c_X2_isPair_ok hx4 hx8) (va_cwS 2 hts gX2_bill_X2_isPair rfl rfl rfl (by decide +kernel) ⟨Nat.le_of_ble_eq_true rfl, Nat.le_of_ble_eq_true rfl⟩) (kps hG hP hD hS) rfl rfl hl.1 rfl (lv_room (Nat.le_of_ble_eq_true rfl)) dX2_bill_32 ⟨Nat.le_of_ble_eq_true rfl, Nat.le_of_ble_eq_true rfl⟩) hS (fun r32 w H locs hp hP hD hS => ?_)
  rw [hp.2] at hP hD
  rw [hp.1]
  refine lv_if_ne (tgt := 42) hx hb dX2_bill_35 (by decide) (fun h35 => ?_) (fun h35 => False.elim (absurd h35 (by decide)))
  refine lv_iload hx hb dX2_bill_42 (lv_at hl 0 rfl) ?_
  refine lv_if_ne (tgt := 51) hx hb dX2_bill_44 (by decide) (fun h44 => False.elim (absurd rfl h44)) (fun h44 => ?_)
  refine lv_iconst (v := 2) hx hb dX2_bill_47 (by decide) ?_
  refine lv_goto (tgt := 65) hx hb dX2_bill_48 (by decide) ?_
  refine kc_i (va_runV (As := [.int 2]) (rest := []) ⟨hx, hb, hml, hown, hts⟩ (c_X2_fails (x := 2) (z := 1) (by decide)) (cwV 1 hts gX2_bill_X2_fails rfl rfl rfl (by decide +kernel) ⟨Nat.le_of_ble_eq_true rfl, Nat.le_of_ble_eq_true rfl⟩) (kpv (q0 := 0) hG hP hD hS rfl rfl) rfl rfl hl.1 rfl (lv_room (Nat.le_of_ble_eq_true rfl)) dX2_bill_65 ⟨Nat.le_of_ble_eq_true rfl, Nat.le_of_ble_eq_true rfl⟩) hS (fun r65 w H locs hp hP hD hS => ?_)
  rw [hp.2] at hP hD
  rw [hp.1]
  refine lv_if_eq (tgt := 73) hx hb dX2_bill_68 (by decide) (fun h68 => False.elim (absurd h68 (by decide))) (fun h68 => ?_)
  refine lv_iconst (v := 0) hx hb dX2_bill_71 (by decide) ?_
  exact kr_i hx hb hr hlocks hP hD hS (Nat.zero_le _) (Nat.zero_le _) (rfl) dX2_bill_72
set_option maxHeartbeats 4000000 in
set_option maxRecDepth 100000 in
theorem c_X2_bill_3 {l : Launch} {K : Ks} {A : Nat → Prop} {qm : Nat → Nat} {td th : Int32} {M X : Nat → Nat → Int32} {n b o : Nat} {ct dd : Int32} (hn : n ≤ 30) (hx4 : b < 4) (hx8 : o < 8) (hc : inR 1 1000000 ct) (hd : inR 1 360 dd) (h30 : n = 30) : Met l yX2_bill wsX2_bill (kR 3 0 0) (kPr K A [.ref (qm 0), .int (nI b), .int (nI o), .int ct, .int dd] (Mfix K qm td (nI n) th M X)) (kQi K A (fun _ w => w = Mfix K qm td (nI n) 3 M X)) 0 0 A := by
  refine kent (cc := cX2_bill) (maxL := 6) (ret := (some .int)) (by decide) rfl (Nat.le_of_ble_eq_true rfl) ?_
  intro p e s m args below meth c ls hx hb hr hts hown hlocks hml hini hG hP hD hS hl
  have hinX2 : ∀ x ∈ wsX20, x ∈ wsX2_bill := by decide +kernel
  have hl : lv_has ls 6 [(0, .ref (qm 0)), (1, .int (nI b)), (2, .int (nI o)), (3, .int ct), (4, .int dd)] := hl
  refine lv_iload_n hx hb dX2_bill_0 rfl (lv_at hl 3 rfl) ?_
  refine lv_iconst (v := 1) hx hb dX2_bill_1 (by decide) ?_
  refine lv_ldc (v := 1000000) hx hb hown (hts (.constant RX2 80 1000000) (by decide +kernel)) dX2_bill_2 ?_
  refine kc_i (va_runS (As := [.int ct, .int 1, .int 1000000]) (rest := []) ⟨hx, hb, hml, hown, hts⟩ (c_X2_isIn (z := 1) (bi_t hc).symm) (va_cwS 3 hts gX2_bill_X2_isIn rfl rfl rfl (by decide +kernel) ⟨Nat.le_of_ble_eq_true rfl, Nat.le_of_ble_eq_true rfl⟩) (kps hG hP hD hS) rfl rfl hl.1 rfl (lv_room (Nat.le_of_ble_eq_true rfl)) dX2_bill_4 ⟨Nat.le_of_ble_eq_true rfl, Nat.le_of_ble_eq_true rfl⟩) hS (fun r4 w H locs hp hP hD hS => ?_)
  rw [hp.2] at hP hD
  rw [hp.1]
  refine lv_if_eq (tgt := 26) hx hb dX2_bill_7 (by decide) (fun h7 => False.elim (absurd h7 (by decide))) (fun h7 => ?_)
  refine lv_iload hx hb dX2_bill_10 (lv_at hl 4 rfl) ?_
  refine lv_iconst (v := 1) hx hb dX2_bill_12 (by decide) ?_
  refine lv_sipush (v := 360) hx hb dX2_bill_13 (by decide) ?_
  refine kc_i (va_runS (As := [.int dd, .int 1, .int 360]) (rest := []) ⟨hx, hb, hml, hown, hts⟩ (c_X2_isIn (z := 1) (bi_t hd).symm) (va_cwS 3 hts gX2_bill_X2_isIn rfl rfl rfl (by decide +kernel) ⟨Nat.le_of_ble_eq_true rfl, Nat.le_of_ble_eq_true rfl⟩) (kps hG hP hD hS) rfl rfl hl.1 rfl (lv_room (Nat.le_of_ble_eq_true rfl)) dX2_bill_16 ⟨Nat.le_of_ble_eq_true rfl, Nat.le_of_ble_eq_true rfl⟩) hS (fun r16 w H locs hp hP hD hS => ?_)
  rw [hp.2] at hP hD
  rw [hp.1]
  refine lv_if_eq (tgt := 26) hx hb dX2_bill_19 (by decide) (fun h19 => False.elim (absurd h19 (by decide))) (fun h19 => ?_)
  refine lv_iconst (v := 1) hx hb dX2_bill_22 (by decide) ?_
  refine lv_goto (tgt := 27) hx hb dX2_bill_23 (by decide) ?_
  refine lv_istore (lv' := [(5, .int 1), (0, .ref (qm 0)), (1, .int (nI b)), (2, .int (nI o)), (3, .int ct), (4, .int dd)]) hx hb dX2_bill_27 hl (by decide) rfl (fun ls hl => ?_)
  refine lv_aload_n hx hb dX2_bill_29 rfl (lv_at hl 1 rfl) ?_
  refine lv_iload_n hx hb dX2_bill_30 rfl (lv_at hl 2 rfl) ?_
  refine lv_iload_n hx hb dX2_bill_31 rfl (lv_at hl 3 rfl) ?_
  refine kc_i (va_runS (As := [.int (nI b), .int (nI o)]) (rest := [.ref (qm 0)]) ⟨hx, hb, hml, hown, hts⟩ (c_X2_isPair_ok hx4 hx8) (va_cwS 2 hts gX2_bill_X2_isPair rfl rfl rfl (by decide +kernel) ⟨Nat.le_of_ble_eq_true rfl, Nat.le_of_ble_eq_true rfl⟩) (kps hG hP hD hS) rfl rfl hl.1 rfl (lv_room (Nat.le_of_ble_eq_true rfl)) dX2_bill_32 ⟨Nat.le_of_ble_eq_true rfl, Nat.le_of_ble_eq_true rfl⟩) hS (fun r32 w H locs hp hP hD hS => ?_)
  rw [hp.2] at hP hD
  rw [hp.1]
  refine lv_if_ne (tgt := 42) hx hb dX2_bill_35 (by decide) (fun h35 => ?_) (fun h35 => False.elim (absurd h35 (by decide)))
  refine lv_iload hx hb dX2_bill_42 (lv_at hl 0 rfl) ?_
  refine lv_if_ne (tgt := 51) hx hb dX2_bill_44 (by decide) (fun h44 => ?_) (fun h44 => False.elim (absurd h44 (by decide)))
  refine lv_aload_n hx hb dX2_bill_51 rfl (lv_at hl 1 rfl) ?_
  refine kget (ci := 3) (C := RX2) (T := TX2) (N := 18) hx hb hts hown hG hP 0 rfl rfl hinX2 1 (by decide) (by decide +kernel) rfl dX2_bill_52 ?_
  refine lv_bipush (v := 30) hx hb dX2_bill_55 (by decide) ?_
  refine lv_icmp_ne (tgt := 64) hx hb dX2_bill_57 (by decide) (fun h57 => False.elim (h57 (by rw [h30]; rfl))) (fun h57 => ?_)
  refine lv_iconst (v := 3) hx hb dX2_bill_60 (by decide) ?_
  refine lv_goto (tgt := 65) hx hb dX2_bill_61 (by decide) ?_
  refine kc_i (va_runV (As := [.int 3]) (rest := []) ⟨hx, hb, hml, hown, hts⟩ (c_X2_fails (x := 3) (z := 1) (by decide)) (cwV 1 hts gX2_bill_X2_fails rfl rfl rfl (by decide +kernel) ⟨Nat.le_of_ble_eq_true rfl, Nat.le_of_ble_eq_true rfl⟩) (kpv (q0 := 0) hG hP hD hS rfl rfl) rfl rfl hl.1 rfl (lv_room (Nat.le_of_ble_eq_true rfl)) dX2_bill_65 ⟨Nat.le_of_ble_eq_true rfl, Nat.le_of_ble_eq_true rfl⟩) hS (fun r65 w H locs hp hP hD hS => ?_)
  rw [hp.2] at hP hD
  rw [hp.1]
  refine lv_if_eq (tgt := 73) hx hb dX2_bill_68 (by decide) (fun h68 => False.elim (absurd h68 (by decide))) (fun h68 => ?_)
  refine lv_iconst (v := 0) hx hb dX2_bill_71 (by decide) ?_
  exact kr_i hx hb hr hlocks hP hD hS (Nat.zero_le _) (Nat.zero_le _) (rfl) dX2_bill_72
set_option maxHeartbeats 4000000 in
set_option maxRecDepth 100000 in
theorem c_X2_bill_ok {l : Launch} {K : Ks} {A : Nat → Prop} {qm : Nat → Nat} {td th : Int32} {M X : Nat → Nat → Int32} {n b o : Nat} {ct dd : Int32} (hn : n ≤ 30) (hx4 : b < 4) (hx8 : o < 8) (hc : inR 1 1000000 ct) (hd : inR 1 360 dd) (h30 : n < 30) : Met l yX2_bill wsX2_bill (kR 3 0 0) (kPr K A [.ref (qm 0), .int (nI b), .int (nI o), .int ct, .int dd] (Mfix K qm td (nI n) th M X)) (kQi K A (fun r w => r = nI n ∧ w = Mfix K qm td (nI (n + 1)) 0 (billM td n M b o ct dd) X)) 0 0 A := by
  refine kent (cc := cX2_bill) (maxL := 6) (ret := (some .int)) (by decide) rfl (Nat.le_of_ble_eq_true rfl) ?_
  intro p e s m args below meth c ls hx hb hr hts hown hlocks hml hini hG hP hD hS hl
  have hinX2 : ∀ x ∈ wsX20, x ∈ wsX2_bill := by decide +kernel
  have hl : lv_has ls 6 [(0, .ref (qm 0)), (1, .int (nI b)), (2, .int (nI o)), (3, .int ct), (4, .int dd)] := hl
  refine lv_iload_n hx hb dX2_bill_0 rfl (lv_at hl 3 rfl) ?_
  refine lv_iconst (v := 1) hx hb dX2_bill_1 (by decide) ?_
  refine lv_ldc (v := 1000000) hx hb hown (hts (.constant RX2 80 1000000) (by decide +kernel)) dX2_bill_2 ?_
  refine kc_i (va_runS (As := [.int ct, .int 1, .int 1000000]) (rest := []) ⟨hx, hb, hml, hown, hts⟩ (c_X2_isIn (z := 1) (bi_t hc).symm) (va_cwS 3 hts gX2_bill_X2_isIn rfl rfl rfl (by decide +kernel) ⟨Nat.le_of_ble_eq_true rfl, Nat.le_of_ble_eq_true rfl⟩) (kps hG hP hD hS) rfl rfl hl.1 rfl (lv_room (Nat.le_of_ble_eq_true rfl)) dX2_bill_4 ⟨Nat.le_of_ble_eq_true rfl, Nat.le_of_ble_eq_true rfl⟩) hS (fun r4 w H locs hp hP hD hS => ?_)
  rw [hp.2] at hP hD
  rw [hp.1]
  refine lv_if_eq (tgt := 26) hx hb dX2_bill_7 (by decide) (fun h7 => False.elim (absurd h7 (by decide))) (fun h7 => ?_)
  refine lv_iload hx hb dX2_bill_10 (lv_at hl 4 rfl) ?_
  refine lv_iconst (v := 1) hx hb dX2_bill_12 (by decide) ?_
  refine lv_sipush (v := 360) hx hb dX2_bill_13 (by decide) ?_
  refine kc_i (va_runS (As := [.int dd, .int 1, .int 360]) (rest := []) ⟨hx, hb, hml, hown, hts⟩ (c_X2_isIn (z := 1) (bi_t hd).symm) (va_cwS 3 hts gX2_bill_X2_isIn rfl rfl rfl (by decide +kernel) ⟨Nat.le_of_ble_eq_true rfl, Nat.le_of_ble_eq_true rfl⟩) (kps hG hP hD hS) rfl rfl hl.1 rfl (lv_room (Nat.le_of_ble_eq_true rfl)) dX2_bill_16 ⟨Nat.le_of_ble_eq_true rfl, Nat.le_of_ble_eq_true rfl⟩) hS (fun r16 w H locs hp hP hD hS => ?_)
  rw [hp.2] at hP hD
  rw [hp.1]
  refine lv_if_eq (tgt := 26) hx hb dX2_bill_19 (by decide) (fun h19 => False.elim (absurd h19 (by decide))) (fun h19 => ?_)
  refine lv_iconst (v := 1) hx hb dX2_bill_22 (by decide) ?_
  refine lv_goto (tgt := 27) hx hb dX2_bill_23 (by decide) ?_
  refine lv_istore (lv' := [(5, .int 1), (0, .ref (qm 0)), (1, .int (nI b)), (2, .int (nI o)), (3, .int ct), (4, .int dd)]) hx hb dX2_bill_27 hl (by decide) rfl (fun ls hl => ?_)
  refine lv_aload_n hx hb dX2_bill_29 rfl (lv_at hl 1 rfl) ?_
  refine lv_iload_n hx hb dX2_bill_30 rfl (lv_at hl 2 rfl) ?_
  refine lv_iload_n hx hb dX2_bill_31 rfl (lv_at hl 3 rfl) ?_
  refine kc_i (va_runS (As := [.int (nI b), .int (nI o)]) (rest := [.ref (qm 0)]) ⟨hx, hb, hml, hown, hts⟩ (c_X2_isPair_ok hx4 hx8) (va_cwS 2 hts gX2_bill_X2_isPair rfl rfl rfl (by decide +kernel) ⟨Nat.le_of_ble_eq_true rfl, Nat.le_of_ble_eq_true rfl⟩) (kps hG hP hD hS) rfl rfl hl.1 rfl (lv_room (Nat.le_of_ble_eq_true rfl)) dX2_bill_32 ⟨Nat.le_of_ble_eq_true rfl, Nat.le_of_ble_eq_true rfl⟩) hS (fun r32 w H locs hp hP hD hS => ?_)
  rw [hp.2] at hP hD
  rw [hp.1]
  refine lv_if_ne (tgt := 42) hx hb dX2_bill_35 (by decide) (fun h35 => ?_) (fun h35 => False.elim (absurd h35 (by decide)))
  refine lv_iload hx hb dX2_bill_42 (lv_at hl 0 rfl) ?_
  refine lv_if_ne (tgt := 51) hx hb dX2_bill_44 (by decide) (fun h44 => ?_) (fun h44 => False.elim (absurd h44 (by decide)))
  refine lv_aload_n hx hb dX2_bill_51 rfl (lv_at hl 1 rfl) ?_
  refine kget (ci := 3) (C := RX2) (T := TX2) (N := 18) hx hb hts hown hG hP 0 rfl rfl hinX2 1 (by decide) (by decide +kernel) rfl dX2_bill_52 ?_
  refine lv_bipush (v := 30) hx hb dX2_bill_55 (by decide) ?_
  refine lv_icmp_ne (tgt := 64) hx hb dX2_bill_57 (by decide) (fun h57 => ?_) (fun h57 => False.elim (absurd h57 (fun q => absurd ((nI_eq (b := 30) (by omega) (by decide)).mp q) (by omega))))
  refine lv_iconst (v := 0) hx hb dX2_bill_64 (by decide) ?_
  refine kc_i (va_runV (As := [.int 0]) (rest := []) ⟨hx, hb, hml, hown, hts⟩ (c_X2_fails (x := 0) (z := 0) (by decide)) (cwV 1 hts gX2_bill_X2_fails rfl rfl rfl (by decide +kernel) ⟨Nat.le_of_ble_eq_true rfl, Nat.le_of_ble_eq_true rfl⟩) (kpv (q0 := 0) hG hP hD hS rfl rfl) rfl rfl hl.1 rfl (lv_room (Nat.le_of_ble_eq_true rfl)) dX2_bill_65 ⟨Nat.le_of_ble_eq_true rfl, Nat.le_of_ble_eq_true rfl⟩) hS (fun r65 w H locs hp hP hD hS => ?_)
  rw [hp.2] at hP hD
  rw [hp.1]
  refine lv_if_eq (tgt := 73) hx hb dX2_bill_68 (by decide) (fun h68 => ?_) (fun h68 => False.elim (absurd rfl h68))
  refine lv_aload_n hx hb dX2_bill_73 rfl (lv_at hl 1 rfl) ?_
  refine kget (ci := 3) (C := RX2) (T := TX2) (N := 18) hx hb hts hown hG hP 0 rfl rfl hinX2 2 (by decide) (by decide +kernel) rfl dX2_bill_74 ?_
  refine lv_aload_n hx hb dX2_bill_77 rfl (lv_at hl 1 rfl) ?_
  refine kget (ci := 3) (C := RX2) (T := TX2) (N := 18) hx hb hts hown hG hP 0 rfl rfl hinX2 1 (by decide) (by decide +kernel) rfl dX2_bill_78 ?_
  refine lv_iload_n hx hb dX2_bill_81 rfl (lv_at hl 2 rfl) ?_
  refine kiast (n := 30) (j := n) hx hb hG hP hD hS 1 rfl (by omega) (by decide) dX2_bill_82 (fun H locs hP hD hS => ?_)
  have hP : va_P K.1 kCl (Mfix K qm td (nI n) 0 (up2 M 2 n (nI b)) X) H := hP
  have hD : va_D A (Mfix K qm td (nI n) 0 (up2 M 2 n (nI b)) X) := hD
  refine lv_aload_n hx hb dX2_bill_83 rfl (lv_at hl 1 rfl) ?_
  refine kget (ci := 3) (C := RX2) (T := TX2) (N := 18) hx hb hts hown hG hP 0 rfl rfl hinX2 3 (by decide) (by decide +kernel) rfl dX2_bill_84 ?_
  refine lv_aload_n hx hb dX2_bill_87 rfl (lv_at hl 1 rfl) ?_
  refine kget (ci := 3) (C := RX2) (T := TX2) (N := 18) hx hb hts hown hG hP 0 rfl rfl hinX2 1 (by decide) (by decide +kernel) rfl dX2_bill_88 ?_
  refine lv_iload_n hx hb dX2_bill_91 rfl (lv_at hl 3 rfl) ?_
  refine kiast (n := 30) (j := n) hx hb hG hP hD hS 2 rfl (by omega) (by decide) dX2_bill_92 (fun H locs hP hD hS => ?_)
  have hP : va_P K.1 kCl (Mfix K qm td (nI n) 0 (up2 (up2 M 2 n (nI b)) 3 n (nI o)) X) H := hP
  have hD : va_D A (Mfix K qm td (nI n) 0 (up2 (up2 M 2 n (nI b)) 3 n (nI o)) X) := hD
  refine lv_aload_n hx hb dX2_bill_93 rfl (lv_at hl 1 rfl) ?_
  refine kget (ci := 3) (C := RX2) (T := TX2) (N := 18) hx hb hts hown hG hP 0 rfl rfl hinX2 4 (by decide) (by decide +kernel) rfl dX2_bill_94 ?_
  refine lv_aload_n hx hb dX2_bill_97 rfl (lv_at hl 1 rfl) ?_
  refine kget (ci := 3) (C := RX2) (T := TX2) (N := 18) hx hb hts hown hG hP 0 rfl rfl hinX2 1 (by decide) (by decide +kernel) rfl dX2_bill_98 ?_
  refine lv_iload_n hx hb dX2_bill_101 rfl (lv_at hl 4 rfl) ?_
  refine kiast (n := 30) (j := n) hx hb hG hP hD hS 3 rfl (by omega) (by decide) dX2_bill_102 (fun H locs hP hD hS => ?_)
  have hP : va_P K.1 kCl (Mfix K qm td (nI n) 0 (up2 (up2 (up2 M 2 n (nI b)) 3 n (nI o)) 4 n ct) X) H := hP
  have hD : va_D A (Mfix K qm td (nI n) 0 (up2 (up2 (up2 M 2 n (nI b)) 3 n (nI o)) 4 n ct) X) := hD
  refine lv_aload_n hx hb dX2_bill_103 rfl (lv_at hl 1 rfl) ?_
  refine kget (ci := 3) (C := RX2) (T := TX2) (N := 18) hx hb hts hown hG hP 0 rfl rfl hinX2 5 (by decide) (by decide +kernel) rfl dX2_bill_104 ?_
  refine lv_aload_n hx hb dX2_bill_107 rfl (lv_at hl 1 rfl) ?_
  refine kget (ci := 3) (C := RX2) (T := TX2) (N := 18) hx hb hts hown hG hP 0 rfl rfl hinX2 1 (by decide) (by decide +kernel) rfl dX2_bill_108 ?_
  refine lv_aload_n hx hb dX2_bill_111 rfl (lv_at hl 1 rfl) ?_
  refine kget (ci := 3) (C := RX2) (T := TX2) (N := 18) hx hb hts hown hG hP 0 rfl rfl hinX2 0 (by decide) (by decide +kernel) rfl dX2_bill_112 ?_
  refine lv_iload hx hb dX2_bill_115 (lv_at hl 5 rfl) ?_
  refine lv_iadd hx hb dX2_bill_117 ?_
  refine kiast (n := 30) (j := n) hx hb hG hP hD hS 4 rfl (by omega) (by decide) dX2_bill_118 (fun H locs hP hD hS => ?_)
  have hP : va_P K.1 kCl (Mfix K qm td (nI n) 0 (up2 (up2 (up2 (up2 M 2 n (nI b)) 3 n (nI o)) 4 n ct) 5 n (td + dd)) X) H := hP
  have hD : va_D A (Mfix K qm td (nI n) 0 (up2 (up2 (up2 (up2 M 2 n (nI b)) 3 n (nI o)) 4 n ct) 5 n (td + dd)) X) := hD
  refine lv_aload_n hx hb dX2_bill_119 rfl (lv_at hl 1 rfl) ?_
  refine kget (ci := 3) (C := RX2) (T := TX2) (N := 18) hx hb hts hown hG hP 0 rfl rfl hinX2 7 (by decide) (by decide +kernel) rfl dX2_bill_120 ?_
  refine lv_aload_n hx hb dX2_bill_123 rfl (lv_at hl 1 rfl) ?_
  refine kget (ci := 3) (C := RX2) (T := TX2) (N := 18) hx hb hts hown hG hP 0 rfl rfl hinX2 1 (by decide) (by decide +kernel) rfl dX2_bill_124 ?_
  refine lv_iconst (v := (-1)) hx hb dX2_bill_127 (by decide) ?_
  refine kiast (n := 30) (j := n) hx hb hG hP hD hS 6 rfl (by omega) (by decide) dX2_bill_128 (fun H locs hP hD hS => ?_)
  have hP : va_P K.1 kCl (Mfix K qm td (nI n) 0 (up2 (up2 (up2 (up2 (up2 M 2 n (nI b)) 3 n (nI o)) 4 n ct) 5 n (td + dd)) 7 n (-1)) X) H := hP
  have hD : va_D A (Mfix K qm td (nI n) 0 (up2 (up2 (up2 (up2 (up2 M 2 n (nI b)) 3 n (nI o)) 4 n ct) 5 n (td + dd)) 7 n (-1)) X) := hD
  refine lv_aload_n hx hb dX2_bill_129 rfl (lv_at hl 1 rfl) ?_
  refine lv_dup hx hb dX2_bill_130 rfl ?_
  refine kget (ci := 3) (C := RX2) (T := TX2) (N := 18) hx hb hts hown hG hP 0 rfl rfl hinX2 1 (by decide) (by decide +kernel) rfl dX2_bill_131 ?_
  refine lv_iconst (v := 1) hx hb dX2_bill_134 (by decide) ?_
  refine lv_iadd hx hb dX2_bill_135 ?_
  refine ktop (z := nI (n + 1)) (nI_1 n) ?_
  refine kput (ci := 3) (C := RX2) (T := TX2) (N := 18) hx hb hts hown hG hP hD hS 0 rfl rfl hinX2 tyX2 tyX2_ok nmX2 1 (by decide) (by decide +kernel) rfl (by decide +kernel) (Nat.le_of_ble_eq_true rfl) dX2_bill_136 (fun H locs hP hD hS => ?_)
  have hP : va_P K.1 kCl (Mfix K qm td (nI (n + 1)) 0 (up2 (up2 (up2 (up2 (up2 M 2 n (nI b)) 3 n (nI o)) 4 n ct) 5 n (td + dd)) 7 n (-1)) X) H := hP
  have hD : va_D A (Mfix K qm td (nI (n + 1)) 0 (up2 (up2 (up2 (up2 (up2 M 2 n (nI b)) 3 n (nI o)) 4 n ct) 5 n (td + dd)) 7 n (-1)) X) := hD
  refine lv_aload_n hx hb dX2_bill_139 rfl (lv_at hl 1 rfl) ?_
  refine kget (ci := 3) (C := RX2) (T := TX2) (N := 18) hx hb hts hown hG hP 0 rfl rfl hinX2 1 (by decide) (by decide +kernel) rfl dX2_bill_140 ?_
  refine lv_iconst (v := 1) hx hb dX2_bill_143 (by decide) ?_
  refine lv_isub hx hb dX2_bill_144 ?_
  exact kr_i hx hb hr hlocks hP hD hS (Nat.zero_le _) (Nat.zero_le _) (⟨nI_pred n, rfl⟩) dX2_bill_145
