/-! The reference, 6: next, plans, plan, clear -/
section KZ
variable {p : Program} {l : Launch} {e : Env} {R : Room} {s : State} {m : MethodId} {args : Array Value} {below : List Frame} {meth : Method} {c : Code} {H : Heap} {locs : List Loc} {cells slots : Nat} {Q : State → Prop}
variable {cc : ByteArray} {pc : Nat} {ls : Array Slot} {rest : List Value} {K : Ks} {A : Nat → Prop} {w : va_W} {b : Nat}
theorem kzast (hexec : p.tables.exec = Jvm.exec) (hb : c.code = cc) (hG : kGd K A s) (hP : va_P K.1 kCl w H) (hD : va_D A w) (hS : va_S A s.heap H locs) (q0 : Nat) {n j : Nat} {f : Nat → Int32} {x : Int32} (ha : w[q0]? = some (b, .inl (kZ K, n, .inl f))) (hj : j < n) (hn : n < 2 ^ 31) (hnar : vp_nar .boolean x = x) (hdg : decode cc pc = .ok (.bastore, 1))
    (kk : ∀ (H1 : Heap) (locs1 : List Loc), va_P K.1 kCl (w.set q0 (b, .inl (kZ K, n, .inl (upd f j x)))) H1 → va_D A (w.set q0 (b, .inl (kZ K, n, .inl (upd f j x)))) → va_S A s.heap H1 locs1 → W p l e R s m args below meth c H1 locs1 cells slots Q (F0 m (pc + 1) ls rest)) : W p l e R s m args below meth c H locs cells slots Q (F0 m pc ls (.int x :: .int (nI j) :: .ref b :: rest)) :=
  va_zast hexec hb hG.1 hP hD hS q0 1 ha rfl (vp_in_nI hj hn) hdg (by rw [nI_clamp (Nat.lt_trans hj hn), hnar]; exact kk)
end KZ
/-- a number or -1 -/
def enc : Option Nat → Int32
  | none => -1
  | some j => nI j
theorem nI_ne1 {j : Nat} (h : j < 2 ^ 31) (e : nI j = -1) : False := by
  have h1 := congrArg Int32.toInt e
  rw [nI_toInt h] at h1
  have h2 : (-1 : Int32).toInt = -1 := rfl
  omega
theorem nI_nle9 {i j : Nat} (h : i < j) (hj : j < 2 ^ 31) : ¬ nI j ≤ nI i := by rw [i32_le, nI_toInt hj, nI_toInt (by omega)]; omega
theorem nI_ltof {i j : Nat} (hi : i < 2 ^ 31) (hj : j < 2 ^ 31) (h : ¬ nI j ≤ nI i) : i < j := by
  rcases Nat.lt_or_ge i j with h1 | h1
  · exact h1
  · exact absurd (by rw [i32_le, nI_toInt hj, nI_toInt hi]; omega) h
/-- k comes behind the last one -/
def bhM (M : Nat → Nat → Int32) (last : Option Nat) (k : Nat) : Prop := match last with
  | none => True
  | some j => M 7 k < M 7 j ∨ (M 7 k = M 7 j ∧ j < k)
theorem bhM_s {M : Nat → Nat → Int32} {j k : Nat} : bhM M (some j) k ↔ (M 7 k < M 7 j ∨ (M 7 k = M 7 j ∧ j < k)) := Iff.rfl
/-- the best offer behind the last one, among the bills 0 .. k - 1 -/
noncomputable def nxB (td : Int32) (M : Nat → Nat → Int32) (b : Nat) (last : Option Nat) : Nat → Option Nat
  | 0 => none
  | k + 1 => @ite _ (offM td M b k ∧ bhM M last k ∧ ∀ jb, nxB td M b last k = some jb → M 7 jb < M 7 k) (Classical.propDecidable _) (some k) (nxB td M b last k)
theorem nxB_t {td : Int32} {M : Nat → Nat → Int32} {b k : Nat} {last : Option Nat} (h : offM td M b k ∧ bhM M last k ∧ ∀ jb, nxB td M b last k = some jb → M 7 jb < M 7 k) : nxB td M b last (k + 1) = some k := by rw [nxB, if_pos h]
theorem nxB_f {td : Int32} {M : Nat → Nat → Int32} {b k : Nat} {last : Option Nat} (h : ¬ (offM td M b k ∧ bhM M last k ∧ ∀ jb, nxB td M b last k = some jb → M 7 jb < M 7 k)) : nxB td M b last (k + 1) = nxB td M b last k := by rw [nxB, if_neg h]
theorem nxB_lt {td : Int32} {M : Nat → Nat → Int32} {b : Nat} {last : Option Nat} : ∀ {k jb : Nat}, nxB td M b last k = some jb → jb < k
  | 0, jb, h => by cases h
  | k + 1, jb, h => by
    by_cases hc : offM td M b k ∧ bhM M last k ∧ ∀ jb, nxB td M b last k = some jb → M 7 jb < M 7 k
    · rw [nxB_t hc] at h; cases h; omega
    · rw [nxB_f hc] at h; have := nxB_lt h; omega
theorem ix_at {L : List Nat} {k : Nat} (h : k < L.length) : L[k]? = some (ix L k) := by
  unfold ix
  rw [List.getD_eq_getElem?_getD, List.getElem?_eq_getElem h]
  rfl
/-- a work array cleared up to k -/
def zX (X : Nat → Nat → Int32) (f : Nat) : Nat → Nat → Nat → Int32
  | 0 => X
  | k + 1 => up2 (zX X f k) f k 0
/-- the plan: the first offers gone through; the money left, the work space -/
def plS (td : Int32) (n : Nat) (M : Nat → Nat → Int32) (L : List Nat) (b : Nat) (X : Nat → Nat → Int32) : Nat → Int32 × (Nat → Nat → Int32)
  | 0 => (M 11 b, zX (zX X 15 8) 14 30)
  | k + 1 => if ¬ (plS td n M L b X k).1 < price td M (ix L k) ∧ ¬ loM td M b (su M (ix L k)) n - (plS td n M L b X k).2 15 (su M (ix L k)) < price td M (ix L k) then
      ((plS td n M L b X k).1 - price td M (ix L k), up2 (up2 (plS td n M L b X k).2 14 (ix L k) 1) 15 (su M (ix L k)) ((plS td n M L b X k).2 15 (su M (ix L k)) + price td M (ix L k)))
    else plS td n M L b X k
theorem plS_t {td : Int32} {n : Nat} {M : Nat → Nat → Int32} {L : List Nat} {b : Nat} {X : Nat → Nat → Int32} {k : Nat} (h : ¬ (plS td n M L b X k).1 < price td M (ix L k) ∧ ¬ loM td M b (su M (ix L k)) n - (plS td n M L b X k).2 15 (su M (ix L k)) < price td M (ix L k)) : plS td n M L b X (k + 1) = ((plS td n M L b X k).1 - price td M (ix L k), up2 (up2 (plS td n M L b X k).2 14 (ix L k) 1) 15 (su M (ix L k)) ((plS td n M L b X k).2 15 (su M (ix L k)) + price td M (ix L k))) := if_pos h
theorem plS_f {td : Int32} {n : Nat} {M : Nat → Nat → Int32} {L : List Nat} {b : Nat} {X : Nat → Nat → Int32} {k : Nat} (h : ¬ (¬ (plS td n M L b X k).1 < price td M (ix L k) ∧ ¬ loM td M b (su M (ix L k)) n - (plS td n M L b X k).2 15 (su M (ix L k)) < price td M (ix L k))) : plS td n M L b X (k + 1) = plS td n M L b X k := if_neg h
/-- those chosen, as bits -/
def bitS (X : Nat → Nat → Int32) : Nat → Int32
  | 0 => 0
  | k + 1 => bitS X k ||| (if X 14 k = 0 then (0 : Int32) else (1 : Int32) <<< (nI k &&& 31))
theorem bitS_f {X : Nat → Nat → Int32} {k : Nat} (h : X 14 k = 0) : bitS X (k + 1) = bitS X k ||| 0 := by rw [bitS, if_pos h]
theorem bitS_t {X : Nat → Nat → Int32} {k : Nat} (h : ¬ X 14 k = 0) : bitS X (k + 1) = bitS X k ||| ((1 : Int32) <<< (nI k &&& 31)) := by rw [bitS, if_neg h]
/-- clearing: the first offers gone through; the table, the discounts -/
def clR (td : Int32) (M : Nat → Nat → Int32) (L : List Nat) (b : Nat) (X : Nat → Nat → Int32) : Nat → (Nat → Nat → Int32) × Int32
  | 0 => (M, 0)
  | k + 1 => if X 14 (ix L k) = 0 then clR td M L b X k else
      (payM (up2 (clR td M L b X k).1 11 b ((clR td M L b X k).1 11 b - price td (clR td M L b X k).1 (ix L k))) (ix L k) (price td (clR td M L b X k).1 (ix L k)) 3, (clR td M L b X k).2 + disc td (clR td M L b X k).1 (ix L k))
theorem clR_f {td : Int32} {M : Nat → Nat → Int32} {L : List Nat} {b : Nat} {X : Nat → Nat → Int32} {k : Nat} (h : X 14 (ix L k) = 0) : clR td M L b X (k + 1) = clR td M L b X k := if_pos h
theorem clR_t {td : Int32} {M : Nat → Nat → Int32} {L : List Nat} {b : Nat} {X : Nat → Nat → Int32} {k : Nat} (h : ¬ X 14 (ix L k) = 0) : clR td M L b X (k + 1) = (payM (up2 (clR td M L b X k).1 11 b ((clR td M L b X k).1 11 b - price td (clR td M L b X k).1 (ix L k))) (ix L k) (price td (clR td M L b X k).1 (ix L k)) 3, (clR td M L b X k).2 + disc td (clR td M L b X k).1 (ix L k)) := if_neg h
theorem clR_23 {td : Int32} {M : Nat → Nat → Int32} {L : List Nat} {b : Nat} {X : Nat → Nat → Int32} {f : Nat} (h6 : f ≠ 6) (h8 : f ≠ 8) (h9 : f ≠ 9) (h13 : f ≠ 13) (h11 : f ≠ 11) : ∀ k, (clR td M L b X k).1 f = M f
  | 0 => rfl
  | k + 1 => by
    have ih := clR_23 (td := td) (M := M) (L := L) (b := b) (X := X) h6 h8 h9 h13 h11 k
    by_cases h : X 14 (ix L k) = 0
    · rw [clR_f h]; exact ih
    · rw [clR_t h]
      show payM _ _ _ _ f = M f
      rw [payM_n _ _ _ _ h6 h8 h9 h13, up2_n _ _ h11]
      exact ih
theorem okP_clR {td : Int32} {M : Nat → Nat → Int32} {L : List Nat} {b : Nat} {X : Nat → Nat → Int32} {k i : Nat} (h : okP M i) : okP (clR td M L b X k).1 i := okP_of (clR_23 (by decide) (by decide) (by decide) (by decide) (by decide) k) (clR_23 (by decide) (by decide) (by decide) (by decide) (by decide) k) h
set_option maxHeartbeats 4000000 in
set_option maxRecDepth 100000 in
theorem c_X2_next_n {l : Launch} {K : Ks} {A : Nat → Prop} {qm : Nat → Nat} {td th : Int32} {M X : Nat → Nat → Int32} {n b : Nat} (hn : n ≤ 30) : Met l yX2_next wsX2_next (kR 1 0 0) (kPr K A [.ref (qm 0), .int (nI b), .int (-1)] (Mfix K qm td (nI n) th M X)) (kQi K A (fun r w => r = enc (nxB td M b none n) ∧ w = Mfix K qm td (nI n) th M X)) 0 0 A := by
  refine kent (cc := cX2_next) (maxL := 6) (ret := (some .int)) (by decide) rfl (Nat.le_of_ble_eq_true rfl) ?_
  intro p e s m args below meth c ls hx hb hr hts hown hlocks hml hini hG hP hD hS hl
  have hinX2 : ∀ x ∈ wsX20, x ∈ wsX2_next := by decide +kernel
  have hl : lv_has ls 6 [(0, .ref (qm 0)), (1, .int (nI b)), (2, .int (-1))] := hl
  refine lv_iconst (v := (-1)) hx hb dX2_next_0 (by decide) ?_
  refine lv_istore_n (lv' := [(3, .int (-1)), (0, .ref (qm 0)), (1, .int (nI b)), (2, .int (-1))]) hx hb dX2_next_1 rfl hl (by decide) rfl (fun ls hl => ?_)
  refine lv_iconst (v := 0) hx hb dX2_next_2 (by decide) ?_
  refine lv_istore (lv' := [(4, .int 0), (3, .int (-1)), (0, .ref (qm 0)), (1, .int (nI b)), (2, .int (-1))]) hx hb dX2_next_3 hl (by decide) rfl (fun ls hl => ?_)
  have LOOP : ∀ (Q' : State → Prop), (∀  (ls : Array Slot) (H : Heap) (locs : List Loc), va_P K.1 kCl (Mfix K qm td (nI n) th M X) H → va_D A (Mfix K qm td (nI n) th M X) → va_S A s.heap H locs → lv_has ls 6 [(0, .ref (qm 0)), (1, .int (nI b)), (2, .int (-1)), (3, .int (enc (nxB td M b none n))), (4, .int (nI n))] → W p l e (kR 1 0 0) s m args below meth c H locs 0 0 Q' (F0 m 123 ls [])) → ∀ (d k : Nat)  (ls : Array Slot) (H : Heap) (locs : List Loc), k + d = n → va_P K.1 kCl (Mfix K qm td (nI n) th M X) H → va_D A (Mfix K qm td (nI n) th M X) → va_S A s.heap H locs → lv_has ls 6 [(0, .ref (qm 0)), (1, .int (nI b)), (2, .int (-1)), (3, .int (enc (nxB td M b none k))), (4, .int (nI k))] → W p l e (kR 1 0 0) s m args below meth c H locs 0 0 Q' (F0 m 5 ls []) := by
    intro Q' kx d
    induction d with
    | zero =>
      intro k  ls H locs hk hP hD hS hl
      have hk2 : k = n := by omega
      refine lv_iload hx hb dX2_next_5 (lv_at hl 4 rfl) ?_
      refine lv_aload_n hx hb dX2_next_7 rfl (lv_at hl 0 rfl) ?_
      refine kget (ci := 3) (C := RX2) (T := TX2) (N := 18) hx hb hts hown hG hP 0 rfl rfl hinX2 1 (by decide) (by decide +kernel) rfl dX2_next_8 ?_
      refine lv_icmp_ge (tgt := 123) hx hb dX2_next_11 (by decide) (fun h11 => ?_) (fun h11 => False.elim (absurd (nI_le (Nat.le_of_eq hk2.symm) (by omega)) h11))
      have hk3 : n = k := hk2.symm
      subst hk3
      exact kx  ls H locs hP hD hS (lv_sub hl [0, 1, 2, 3, 4] rfl)
    | succ d ih =>
      intro k  ls H locs hk hP hD hS hl
      have hk2 : k < n := by omega
      refine lv_iload hx hb dX2_next_5 (lv_at hl 4 rfl) ?_
      refine lv_aload_n hx hb dX2_next_7 rfl (lv_at hl 0 rfl) ?_
      refine kget (ci := 3) (C := RX2) (T := TX2) (N := 18) hx hb hts hown hG hP 0 rfl rfl hinX2 1 (by decide) (by decide +kernel) rfl dX2_next_8 ?_
      refine lv_icmp_ge (tgt := 123) hx hb dX2_next_11 (by decide) (fun h11 => False.elim (absurd h11 (nI_ge hk2 (by omega)))) (fun h11 => ?_)
      rcases hbst : nxB td M b none k with _ | jb
      · rw [hbst] at hl
        have hl : lv_has ls 6 [(0, .ref (qm 0)), (1, .int (nI b)), (2, .int (-1)), (3, .int (-1)), (4, .int (nI k))] := hl
        refine lv_iload_n hx hb dX2_next_14 rfl (lv_at hl 2 rfl) ?_
        refine lv_iconst (v := (-1)) hx hb dX2_next_15 (by decide) ?_
        refine lv_icmp_eq (tgt := 67) hx hb dX2_next_16 (by decide) (fun h16 => ?_) (fun h16 => False.elim (h16 rfl))
        refine lv_iconst (v := 1) hx hb dX2_next_67 (by decide) ?_
        refine lv_goto (tgt := 72) hx hb dX2_next_68 (by decide) ?_
        refine lv_istore (lv' := [(5, .int 1), (0, .ref (qm 0)), (1, .int (nI b)), (2, .int (-1)), (3, .int (-1)), (4, .int (nI k))]) hx hb dX2_next_72 hl (by decide) rfl (fun ls hl => ?_)
        refine lv_aload_n hx hb dX2_next_74 rfl (lv_at hl 1 rfl) ?_
        refine lv_iload hx hb dX2_next_75 (lv_at hl 5 rfl) ?_
        refine lv_iload_n hx hb dX2_next_77 rfl (lv_at hl 2 rfl) ?_
        refine kc_i (va_runV (As := [.int (nI k), .int (nI b)]) (rest := []) ⟨hx, hb, hml, hown, hts⟩ (c_X2_isOffer (by omega)) (cwV 2 hts gX2_next_X2_isOffer rfl rfl rfl (by decide +kernel) ⟨Nat.le_of_ble_eq_true rfl, Nat.le_of_ble_eq_true rfl⟩) (kpv (q0 := 0) hG hP hD hS rfl rfl) rfl rfl hl.1 rfl (lv_room (Nat.le_of_ble_eq_true rfl)) dX2_next_78 ⟨Nat.le_of_ble_eq_true rfl, Nat.le_of_ble_eq_true rfl⟩) hS (fun r78 w H locs hp hP hD hS => ?_)
        rw [hp.2] at hP hD
        rw [hp.1]
        refine lv_if_eq (tgt := 115) hx hb dX2_next_81 (by decide) (fun h81 => ?_) (fun h81 => ?_)
        · refine lv_iload_n hx hb dX2_next_115 rfl (lv_at hl 4 rfl) ?_
          refine lv_istore_n (lv' := [(3, .int (-1)), (5, .int 1), (0, .ref (qm 0)), (1, .int (nI b)), (2, .int (-1)), (4, .int (nI k))]) hx hb dX2_next_116 rfl hl (by decide) rfl (fun ls hl => ?_)
          refine lv_iinc (v := nI (k + 1)) (lv' := [(4, .int (nI (k + 1))), (3, .int (-1)), (5, .int 1), (0, .ref (qm 0)), (1, .int (nI b)), (2, .int (-1))]) hx hb dX2_next_117 hl (k := 5) rfl (kinc k) (by decide) rfl (fun ls hl => ?_)
          refine lv_goto (tgt := 5) hx hb dX2_next_120 (by decide) ?_
          exact (ih (k + 1)  ls H locs (by omega) hP hD hS (by rw [nxB_f (last := none) (fun q => (bi_d0.mp h81) q.1), hbst]; exact lv_sub hl [3, 4, 5, 1, 0] rfl))
        · refine lv_iload hx hb dX2_next_84 (lv_at hl 0 rfl) ?_
          refine lv_if_eq (tgt := 115) hx hb dX2_next_86 (by decide) (fun h86 => False.elim (absurd h86 (by decide))) (fun h86 => ?_)
          refine lv_iload_n hx hb dX2_next_89 rfl (lv_at hl 4 rfl) ?_
          refine lv_iconst (v := (-1)) hx hb dX2_next_90 (by decide) ?_
          refine lv_icmp_eq (tgt := 110) hx hb dX2_next_91 (by decide) (fun h91 => ?_) (fun h91 => False.elim (h91 rfl))
          refine lv_iload hx hb dX2_next_110 (lv_at hl 5 rfl) ?_
          refine lv_goto (tgt := 116) hx hb dX2_next_112 (by decide) ?_
          refine lv_istore_n (lv' := [(3, .int (nI k)), (5, .int 1), (0, .ref (qm 0)), (1, .int (nI b)), (2, .int (-1)), (4, .int (nI k))]) hx hb dX2_next_116 rfl hl (by decide) rfl (fun ls hl => ?_)
          refine lv_iinc (v := nI (k + 1)) (lv' := [(4, .int (nI (k + 1))), (3, .int (nI k)), (5, .int 1), (0, .ref (qm 0)), (1, .int (nI b)), (2, .int (-1))]) hx hb dX2_next_117 hl (k := 5) rfl (kinc k) (by decide) rfl (fun ls hl => ?_)
          refine lv_goto (tgt := 5) hx hb dX2_next_120 (by decide) ?_
          exact (ih (k + 1)  ls H locs (by omega) hP hD hS (by rw [nxB_t (last := none) ⟨(bi_dn.mp h81), (show bhM M none k from True.intro), (fun jb q => by rw [hbst] at q; cases q)⟩]; exact lv_sub hl [3, 4, 5, 1, 0] rfl))
      · rw [hbst] at hl
        have hl : lv_has ls 6 [(0, .ref (qm 0)), (1, .int (nI b)), (2, .int (-1)), (3, .int (nI jb)), (4, .int (nI k))] := hl
        refine lv_iload_n hx hb dX2_next_14 rfl (lv_at hl 2 rfl) ?_
        refine lv_iconst (v := (-1)) hx hb dX2_next_15 (by decide) ?_
        refine lv_icmp_eq (tgt := 67) hx hb dX2_next_16 (by decide) (fun h16 => ?_) (fun h16 => False.elim (h16 rfl))
        refine lv_iconst (v := 1) hx hb dX2_next_67 (by decide) ?_
        refine lv_goto (tgt := 72) hx hb dX2_next_68 (by decide) ?_
        refine lv_istore (lv' := [(5, .int 1), (0, .ref (qm 0)), (1, .int (nI b)), (2, .int (-1)), (3, .int (nI jb)), (4, .int (nI k))]) hx hb dX2_next_72 hl (by decide) rfl (fun ls hl => ?_)
        refine lv_aload_n hx hb dX2_next_74 rfl (lv_at hl 1 rfl) ?_
        refine lv_iload hx hb dX2_next_75 (lv_at hl 5 rfl) ?_
        refine lv_iload_n hx hb dX2_next_77 rfl (lv_at hl 2 rfl) ?_
        refine kc_i (va_runV (As := [.int (nI k), .int (nI b)]) (rest := []) ⟨hx, hb, hml, hown, hts⟩ (c_X2_isOffer (by omega)) (cwV 2 hts gX2_next_X2_isOffer rfl rfl rfl (by decide +kernel) ⟨Nat.le_of_ble_eq_true rfl, Nat.le_of_ble_eq_true rfl⟩) (kpv (q0 := 0) hG hP hD hS rfl rfl) rfl rfl hl.1 rfl (lv_room (Nat.le_of_ble_eq_true rfl)) dX2_next_78 ⟨Nat.le_of_ble_eq_true rfl, Nat.le_of_ble_eq_true rfl⟩) hS (fun r78 w H locs hp hP hD hS => ?_)
        rw [hp.2] at hP hD
        rw [hp.1]
        refine lv_if_eq (tgt := 115) hx hb dX2_next_81 (by decide) (fun h81 => ?_) (fun h81 => ?_)
        · refine lv_iload_n hx hb dX2_next_115 rfl (lv_at hl 4 rfl) ?_
          refine lv_istore_n (lv' := [(3, .int (nI jb)), (5, .int 1), (0, .ref (qm 0)), (1, .int (nI b)), (2, .int (-1)), (4, .int (nI k))]) hx hb dX2_next_116 rfl hl (by decide) rfl (fun ls hl => ?_)
          refine lv_iinc (v := nI (k + 1)) (lv' := [(4, .int (nI (k + 1))), (3, .int (nI jb)), (5, .int 1), (0, .ref (qm 0)), (1, .int (nI b)), (2, .int (-1))]) hx hb dX2_next_117 hl (k := 5) rfl (kinc k) (by decide) rfl (fun ls hl => ?_)
          refine lv_goto (tgt := 5) hx hb dX2_next_120 (by decide) ?_
          exact (ih (k + 1)  ls H locs (by omega) hP hD hS (by rw [nxB_f (last := none) (fun q => (bi_d0.mp h81) q.1), hbst]; exact lv_sub hl [3, 4, 5, 1, 0] rfl))
        · refine lv_iload hx hb dX2_next_84 (lv_at hl 0 rfl) ?_
          refine lv_if_eq (tgt := 115) hx hb dX2_next_86 (by decide) (fun h86 => False.elim (absurd h86 (by decide))) (fun h86 => ?_)
          refine lv_iload_n hx hb dX2_next_89 rfl (lv_at hl 4 rfl) ?_
          refine lv_iconst (v := (-1)) hx hb dX2_next_90 (by decide) ?_
          refine lv_icmp_eq (tgt := 110) hx hb dX2_next_91 (by decide) (fun h91 => False.elim (nI_ne1 (by have := nxB_lt hbst; omega) h91)) (fun h91 => ?_)
          refine lv_aload_n hx hb dX2_next_94 rfl (lv_at hl 1 rfl) ?_
          refine kget (ci := 3) (C := RX2) (T := TX2) (N := 18) hx hb hts hown hG hP 0 rfl rfl hinX2 7 (by decide) (by decide +kernel) rfl dX2_next_95 ?_
          refine lv_iload hx hb dX2_next_98 (lv_at hl 5 rfl) ?_
          refine kiald (n := 30) (j := k) hx hb hG hP 6 rfl (by omega) (by decide) dX2_next_100 ?_
          refine lv_aload_n hx hb dX2_next_101 rfl (lv_at hl 1 rfl) ?_
          refine kget (ci := 3) (C := RX2) (T := TX2) (N := 18) hx hb hts hown hG hP 0 rfl rfl hinX2 7 (by decide) (by decide +kernel) rfl dX2_next_102 ?_
          refine lv_iload_n hx hb dX2_next_105 rfl (lv_at hl 4 rfl) ?_
          refine kiald (n := 30) (j := jb) hx hb hG hP 6 rfl (by have := nxB_lt hbst; omega) (by decide) dX2_next_106 ?_
          refine lv_icmp_le (tgt := 115) hx hb dX2_next_107 (by decide) (fun h107 => ?_) (fun h107 => ?_)
          · refine lv_iload_n hx hb dX2_next_115 rfl (lv_at hl 4 rfl) ?_
            refine lv_istore_n (lv' := [(3, .int (nI jb)), (5, .int 1), (0, .ref (qm 0)), (1, .int (nI b)), (2, .int (-1)), (4, .int (nI k))]) hx hb dX2_next_116 rfl hl (by decide) rfl (fun ls hl => ?_)
            refine lv_iinc (v := nI (k + 1)) (lv' := [(4, .int (nI (k + 1))), (3, .int (nI jb)), (5, .int 1), (0, .ref (qm 0)), (1, .int (nI b)), (2, .int (-1))]) hx hb dX2_next_117 hl (k := 5) rfl (kinc k) (by decide) rfl (fun ls hl => ?_)
            refine lv_goto (tgt := 5) hx hb dX2_next_120 (by decide) ?_
            exact (ih (k + 1)  ls H locs (by omega) hP hD hS (by rw [nxB_f (last := none) (fun q => absurd (q.2.2 _ hbst) (i32_nlt.mpr h107)), hbst]; exact lv_sub hl [3, 4, 5, 1, 0] rfl))
          · refine lv_iload hx hb dX2_next_110 (lv_at hl 5 rfl) ?_
            refine lv_goto (tgt := 116) hx hb dX2_next_112 (by decide) ?_
            refine lv_istore_n (lv' := [(3, .int (nI k)), (5, .int 1), (0, .ref (qm 0)), (1, .int (nI b)), (2, .int (-1)), (4, .int (nI k))]) hx hb dX2_next_116 rfl hl (by decide) rfl (fun ls hl => ?_)
            refine lv_iinc (v := nI (k + 1)) (lv' := [(4, .int (nI (k + 1))), (3, .int (nI k)), (5, .int 1), (0, .ref (qm 0)), (1, .int (nI b)), (2, .int (-1))]) hx hb dX2_next_117 hl (k := 5) rfl (kinc k) (by decide) rfl (fun ls hl => ?_)
            refine lv_goto (tgt := 5) hx hb dX2_next_120 (by decide) ?_
            exact (ih (k + 1)  ls H locs (by omega) hP hD hS (by rw [nxB_t (last := none) ⟨(bi_dn.mp h81), (show bhM M none k from True.intro), (fun jb2 q => by rw [hbst] at q; cases q; exact i32_nle.mp h107)⟩]; exact lv_sub hl [3, 4, 5, 1, 0] rfl))
  refine LOOP _ (fun  ls H locs hP hD hS hl => ?_) n 0  ls _ _ (by omega) hP hD hS (lv_sub hl [2, 3, 4, 1, 0] rfl)
  refine lv_iload_n hx hb dX2_next_123 rfl (lv_at hl 3 rfl) ?_
  exact kr_i hx hb hr hlocks hP hD hS (Nat.zero_le _) (Nat.zero_le _) (⟨rfl, rfl⟩) dX2_next_124
set_option maxHeartbeats 4000000 in
set_option maxRecDepth 100000 in
theorem c_X2_next_s {l : Launch} {K : Ks} {A : Nat → Prop} {qm : Nat → Nat} {td th : Int32} {M X : Nat → Nat → Int32} {n b j : Nat} (hn : n ≤ 30) (hj : j < 30) : Met l yX2_next wsX2_next (kR 1 0 0) (kPr K A [.ref (qm 0), .int (nI b), .int (nI j)] (Mfix K qm td (nI n) th M X)) (kQi K A (fun r w => r = enc (nxB td M b (some j) n) ∧ w = Mfix K qm td (nI n) th M X)) 0 0 A := by
  refine kent (cc := cX2_next) (maxL := 6) (ret := (some .int)) (by decide) rfl (Nat.le_of_ble_eq_true rfl) ?_
  intro p e s m args below meth c ls hx hb hr hts hown hlocks hml hini hG hP hD hS hl
  have hinX2 : ∀ x ∈ wsX20, x ∈ wsX2_next := by decide +kernel
  have hl : lv_has ls 6 [(0, .ref (qm 0)), (1, .int (nI b)), (2, .int (nI j))] := hl
  refine lv_iconst (v := (-1)) hx hb dX2_next_0 (by decide) ?_
  refine lv_istore_n (lv' := [(3, .int (-1)), (0, .ref (qm 0)), (1, .int (nI b)), (2, .int (nI j))]) hx hb dX2_next_1 rfl hl (by decide) rfl (fun ls hl => ?_)
  refine lv_iconst (v := 0) hx hb dX2_next_2 (by decide) ?_
  refine lv_istore (lv' := [(4, .int 0), (3, .int (-1)), (0, .ref (qm 0)), (1, .int (nI b)), (2, .int (nI j))]) hx hb dX2_next_3 hl (by decide) rfl (fun ls hl => ?_)
  have LOOP : ∀ (Q' : State → Prop), (∀  (ls : Array Slot) (H : Heap) (locs : List Loc), va_P K.1 kCl (Mfix K qm td (nI n) th M X) H → va_D A (Mfix K qm td (nI n) th M X) → va_S A s.heap H locs → lv_has ls 6 [(0, .ref (qm 0)), (1, .int (nI b)), (2, .int (nI j)), (3, .int (enc (nxB td M b (some j) n))), (4, .int (nI n))] → W p l e (kR 1 0 0) s m args below meth c H locs 0 0 Q' (F0 m 123 ls [])) → ∀ (d k : Nat)  (ls : Array Slot) (H : Heap) (locs : List Loc), k + d = n → va_P K.1 kCl (Mfix K qm td (nI n) th M X) H → va_D A (Mfix K qm td (nI n) th M X) → va_S A s.heap H locs → lv_has ls 6 [(0, .ref (qm 0)), (1, .int (nI b)), (2, .int (nI j)), (3, .int (enc (nxB td M b (some j) k))), (4, .int (nI k))] → W p l e (kR 1 0 0) s m args below meth c H locs 0 0 Q' (F0 m 5 ls []) := by
    intro Q' kx d
    induction d with
    | zero =>
      intro k  ls H locs hk hP hD hS hl
      have hk2 : k = n := by omega
      refine lv_iload hx hb dX2_next_5 (lv_at hl 4 rfl) ?_
      refine lv_aload_n hx hb dX2_next_7 rfl (lv_at hl 0 rfl) ?_
      refine kget (ci := 3) (C := RX2) (T := TX2) (N := 18) hx hb hts hown hG hP 0 rfl rfl hinX2 1 (by decide) (by decide +kernel) rfl dX2_next_8 ?_
      refine lv_icmp_ge (tgt := 123) hx hb dX2_next_11 (by decide) (fun h11 => ?_) (fun h11 => False.elim (absurd (nI_le (Nat.le_of_eq hk2.symm) (by omega)) h11))
      have hk3 : n = k := hk2.symm
      subst hk3
      exact kx  ls H locs hP hD hS (lv_sub hl [0, 1, 2, 3, 4] rfl)
    | succ d ih =>
      intro k  ls H locs hk hP hD hS hl
      have hk2 : k < n := by omega
      refine lv_iload hx hb dX2_next_5 (lv_at hl 4 rfl) ?_
      refine lv_aload_n hx hb dX2_next_7 rfl (lv_at hl 0 rfl) ?_
      refine kget (ci := 3) (C := RX2) (T := TX2) (N := 18) hx hb hts hown hG hP 0 rfl rfl hinX2 1 (by decide) (by decide +kernel) rfl dX2_next_8 ?_
      refine lv_icmp_ge (tgt := 123) hx hb dX2_next_11 (by decide) (fun h11 => False.elim (absurd h11 (nI_ge hk2 (by omega)))) (fun h11 => ?_)
      rcases hbst : nxB td M b (some j) k with _ | jb
      · rw [hbst] at hl
        have hl : lv_has ls 6 [(0, .ref (qm 0)), (1, .int (nI b)), (2, .int (nI j)), (3, .int (-1)), (4, .int (nI k))] := hl
        refine lv_iload_n hx hb dX2_next_14 rfl (lv_at hl 2 rfl) ?_
        refine lv_iconst (v := (-1)) hx hb dX2_next_15 (by decide) ?_
        refine lv_icmp_eq (tgt := 67) hx hb dX2_next_16 (by decide) (fun h16 => False.elim (nI_ne1 (by omega) h16)) (fun h16 => ?_)
        refine lv_aload_n hx hb dX2_next_19 rfl (lv_at hl 0 rfl) ?_
        refine lv_iload hx hb dX2_next_20 (lv_at hl 4 rfl) ?_
        refine lv_iload_n hx hb dX2_next_22 rfl (lv_at hl 1 rfl) ?_
        refine kc_i (va_runV (As := [.int (nI k), .int (nI b)]) (rest := []) ⟨hx, hb, hml, hown, hts⟩ (c_X2_isOffer (by omega)) (cwV 2 hts gX2_next_X2_isOffer rfl rfl rfl (by decide +kernel) ⟨Nat.le_of_ble_eq_true rfl, Nat.le_of_ble_eq_true rfl⟩) (kpv (q0 := 0) hG hP hD hS rfl rfl) rfl rfl hl.1 rfl (lv_room (Nat.le_of_ble_eq_true rfl)) dX2_next_23 ⟨Nat.le_of_ble_eq_true rfl, Nat.le_of_ble_eq_true rfl⟩) hS (fun r23 w H locs hp hP hD hS => ?_)
        rw [hp.2] at hP hD
        rw [hp.1]
        refine lv_if_eq (tgt := 71) hx hb dX2_next_26 (by decide) (fun h26 => ?_) (fun h26 => ?_)
        · refine lv_iconst (v := 0) hx hb dX2_next_71 (by decide) ?_
          refine lv_istore (lv' := [(5, .int 0), (0, .ref (qm 0)), (1, .int (nI b)), (2, .int (nI j)), (3, .int (-1)), (4, .int (nI k))]) hx hb dX2_next_72 hl (by decide) rfl (fun ls hl => ?_)
          refine lv_aload_n hx hb dX2_next_74 rfl (lv_at hl 1 rfl) ?_
          refine lv_iload hx hb dX2_next_75 (lv_at hl 5 rfl) ?_
          refine lv_iload_n hx hb dX2_next_77 rfl (lv_at hl 2 rfl) ?_
          refine kc_i (va_runV (As := [.int (nI k), .int (nI b)]) (rest := []) ⟨hx, hb, hml, hown, hts⟩ (c_X2_isOffer (by omega)) (cwV 2 hts gX2_next_X2_isOffer rfl rfl rfl (by decide +kernel) ⟨Nat.le_of_ble_eq_true rfl, Nat.le_of_ble_eq_true rfl⟩) (kpv (q0 := 0) hG hP hD hS rfl rfl) rfl rfl hl.1 rfl (lv_room (Nat.le_of_ble_eq_true rfl)) dX2_next_78 ⟨Nat.le_of_ble_eq_true rfl, Nat.le_of_ble_eq_true rfl⟩) hS (fun r78 w H locs hp hP hD hS => ?_)
          rw [hp.2] at hP hD
          rw [hp.1]
          refine lv_if_eq (tgt := 115) hx hb dX2_next_81 (by decide) (fun h81 => ?_) (fun h81 => False.elim (h81 h26))
          refine lv_iload_n hx hb dX2_next_115 rfl (lv_at hl 4 rfl) ?_
          refine lv_istore_n (lv' := [(3, .int (-1)), (5, .int 0), (0, .ref (qm 0)), (1, .int (nI b)), (2, .int (nI j)), (4, .int (nI k))]) hx hb dX2_next_116 rfl hl (by decide) rfl (fun ls hl => ?_)
          refine lv_iinc (v := nI (k + 1)) (lv' := [(4, .int (nI (k + 1))), (3, .int (-1)), (5, .int 0), (0, .ref (qm 0)), (1, .int (nI b)), (2, .int (nI j))]) hx hb dX2_next_117 hl (k := 5) rfl (kinc k) (by decide) rfl (fun ls hl => ?_)
          refine lv_goto (tgt := 5) hx hb dX2_next_120 (by decide) ?_
          exact (ih (k + 1)  ls H locs (by omega) hP hD hS (by rw [nxB_f (last := some j) (fun q => (bi_d0.mp h81) q.1), hbst]; exact lv_sub hl [3, 4, 5, 1, 0] rfl))
        · refine lv_aload_n hx hb dX2_next_29 rfl (lv_at hl 0 rfl) ?_
          refine kget (ci := 3) (C := RX2) (T := TX2) (N := 18) hx hb hts hown hG hP 0 rfl rfl hinX2 7 (by decide) (by decide +kernel) rfl dX2_next_30 ?_
          refine lv_iload hx hb dX2_next_33 (lv_at hl 4 rfl) ?_
          refine kiald (n := 30) (j := k) hx hb hG hP 6 rfl (by omega) (by decide) dX2_next_35 ?_
          refine lv_aload_n hx hb dX2_next_36 rfl (lv_at hl 0 rfl) ?_
          refine kget (ci := 3) (C := RX2) (T := TX2) (N := 18) hx hb hts hown hG hP 0 rfl rfl hinX2 7 (by decide) (by decide +kernel) rfl dX2_next_37 ?_
          refine lv_iload_n hx hb dX2_next_40 rfl (lv_at hl 2 rfl) ?_
          refine kiald (n := 30) (j := j) hx hb hG hP 6 rfl (by omega) (by decide) dX2_next_41 ?_
          refine lv_icmp_lt (tgt := 67) hx hb dX2_next_42 (by decide) (fun h42 => ?_) (fun h42 => ?_)
          · refine lv_iconst (v := 1) hx hb dX2_next_67 (by decide) ?_
            refine lv_goto (tgt := 72) hx hb dX2_next_68 (by decide) ?_
            refine lv_istore (lv' := [(5, .int 1), (0, .ref (qm 0)), (1, .int (nI b)), (2, .int (nI j)), (3, .int (-1)), (4, .int (nI k))]) hx hb dX2_next_72 hl (by decide) rfl (fun ls hl => ?_)
            refine lv_aload_n hx hb dX2_next_74 rfl (lv_at hl 1 rfl) ?_
            refine lv_iload hx hb dX2_next_75 (lv_at hl 5 rfl) ?_
            refine lv_iload_n hx hb dX2_next_77 rfl (lv_at hl 2 rfl) ?_
            refine kc_i (va_runV (As := [.int (nI k), .int (nI b)]) (rest := []) ⟨hx, hb, hml, hown, hts⟩ (c_X2_isOffer (by omega)) (cwV 2 hts gX2_next_X2_isOffer rfl rfl rfl (by decide +kernel) ⟨Nat.le_of_ble_eq_true rfl, Nat.le_of_ble_eq_true rfl⟩) (kpv (q0 := 0) hG hP hD hS rfl rfl) rfl rfl hl.1 rfl (lv_room (Nat.le_of_ble_eq_true rfl)) dX2_next_78 ⟨Nat.le_of_ble_eq_true rfl, Nat.le_of_ble_eq_true rfl⟩) hS (fun r78 w H locs hp hP hD hS => ?_)
            rw [hp.2] at hP hD
            rw [hp.1]
            refine lv_if_eq (tgt := 115) hx hb dX2_next_81 (by decide) (fun h81 => False.elim (h26 h81)) (fun h81 => ?_)
            refine lv_iload hx hb dX2_next_84 (lv_at hl 0 rfl) ?_
            refine lv_if_eq (tgt := 115) hx hb dX2_next_86 (by decide) (fun h86 => False.elim (absurd h86 (by decide))) (fun h86 => ?_)
            refine lv_iload_n hx hb dX2_next_89 rfl (lv_at hl 4 rfl) ?_
            refine lv_iconst (v := (-1)) hx hb dX2_next_90 (by decide) ?_
            refine lv_icmp_eq (tgt := 110) hx hb dX2_next_91 (by decide) (fun h91 => ?_) (fun h91 => False.elim (h91 rfl))
            refine lv_iload hx hb dX2_next_110 (lv_at hl 5 rfl) ?_
            refine lv_goto (tgt := 116) hx hb dX2_next_112 (by decide) ?_
            refine lv_istore_n (lv' := [(3, .int (nI k)), (5, .int 1), (0, .ref (qm 0)), (1, .int (nI b)), (2, .int (nI j)), (4, .int (nI k))]) hx hb dX2_next_116 rfl hl (by decide) rfl (fun ls hl => ?_)
            refine lv_iinc (v := nI (k + 1)) (lv' := [(4, .int (nI (k + 1))), (3, .int (nI k)), (5, .int 1), (0, .ref (qm 0)), (1, .int (nI b)), (2, .int (nI j))]) hx hb dX2_next_117 hl (k := 5) rfl (kinc k) (by decide) rfl (fun ls hl => ?_)
            refine lv_goto (tgt := 5) hx hb dX2_next_120 (by decide) ?_
            exact (ih (k + 1)  ls H locs (by omega) hP hD hS (by rw [nxB_t (last := some j) ⟨(bi_dn.mp h81), (bhM_s.mpr (Or.inl h42)), (fun jb q => by rw [hbst] at q; cases q)⟩]; exact lv_sub hl [3, 4, 5, 1, 0] rfl))
          · refine lv_aload_n hx hb dX2_next_45 rfl (lv_at hl 0 rfl) ?_
            refine kget (ci := 3) (C := RX2) (T := TX2) (N := 18) hx hb hts hown hG hP 0 rfl rfl hinX2 7 (by decide) (by decide +kernel) rfl dX2_next_46 ?_
            refine lv_iload hx hb dX2_next_49 (lv_at hl 4 rfl) ?_
            refine kiald (n := 30) (j := k) hx hb hG hP 6 rfl (by omega) (by decide) dX2_next_51 ?_
            refine lv_aload_n hx hb dX2_next_52 rfl (lv_at hl 0 rfl) ?_
            refine kget (ci := 3) (C := RX2) (T := TX2) (N := 18) hx hb hts hown hG hP 0 rfl rfl hinX2 7 (by decide) (by decide +kernel) rfl dX2_next_53 ?_
            refine lv_iload_n hx hb dX2_next_56 rfl (lv_at hl 2 rfl) ?_
            refine kiald (n := 30) (j := j) hx hb hG hP 6 rfl (by omega) (by decide) dX2_next_57 ?_
            refine lv_icmp_ne (tgt := 71) hx hb dX2_next_58 (by decide) (fun h58 => ?_) (fun h58 => ?_)
            · refine lv_iconst (v := 0) hx hb dX2_next_71 (by decide) ?_
              refine lv_istore (lv' := [(5, .int 0), (0, .ref (qm 0)), (1, .int (nI b)), (2, .int (nI j)), (3, .int (-1)), (4, .int (nI k))]) hx hb dX2_next_72 hl (by decide) rfl (fun ls hl => ?_)
              refine lv_aload_n hx hb dX2_next_74 rfl (lv_at hl 1 rfl) ?_
              refine lv_iload hx hb dX2_next_75 (lv_at hl 5 rfl) ?_
              refine lv_iload_n hx hb dX2_next_77 rfl (lv_at hl 2 rfl) ?_
              refine kc_i (va_runV (As := [.int (nI k), .int (nI b)]) (rest := []) ⟨hx, hb, hml, hown, hts⟩ (c_X2_isOffer (by omega)) (cwV 2 hts gX2_next_X2_isOffer rfl rfl rfl (by decide +kernel) ⟨Nat.le_of_ble_eq_true rfl, Nat.le_of_ble_eq_true rfl⟩) (kpv (q0 := 0) hG hP hD hS rfl rfl) rfl rfl hl.1 rfl (lv_room (Nat.le_of_ble_eq_true rfl)) dX2_next_78 ⟨Nat.le_of_ble_eq_true rfl, Nat.le_of_ble_eq_true rfl⟩) hS (fun r78 w H locs hp hP hD hS => ?_)
              rw [hp.2] at hP hD
              rw [hp.1]
              refine lv_if_eq (tgt := 115) hx hb dX2_next_81 (by decide) (fun h81 => False.elim (h26 h81)) (fun h81 => ?_)
              refine lv_iload hx hb dX2_next_84 (lv_at hl 0 rfl) ?_
              refine lv_if_eq (tgt := 115) hx hb dX2_next_86 (by decide) (fun h86 => ?_) (fun h86 => False.elim (absurd rfl h86))
              refine lv_iload_n hx hb dX2_next_115 rfl (lv_at hl 4 rfl) ?_
              refine lv_istore_n (lv' := [(3, .int (-1)), (5, .int 0), (0, .ref (qm 0)), (1, .int (nI b)), (2, .int (nI j)), (4, .int (nI k))]) hx hb dX2_next_116 rfl hl (by decide) rfl (fun ls hl => ?_)
              refine lv_iinc (v := nI (k + 1)) (lv' := [(4, .int (nI (k + 1))), (3, .int (-1)), (5, .int 0), (0, .ref (qm 0)), (1, .int (nI b)), (2, .int (nI j))]) hx hb dX2_next_117 hl (k := 5) rfl (kinc k) (by decide) rfl (fun ls hl => ?_)
              refine lv_goto (tgt := 5) hx hb dX2_next_120 (by decide) ?_
              exact (ih (k + 1)  ls H locs (by omega) hP hD hS (by rw [nxB_f (last := some j) (fun q => (bhM_s.mp q.2.1).elim h42 (fun z => h58 z.1)), hbst]; exact lv_sub hl [3, 4, 5, 1, 0] rfl))
            · refine lv_iload hx hb dX2_next_61 (lv_at hl 4 rfl) ?_
              refine lv_iload_n hx hb dX2_next_63 rfl (lv_at hl 2 rfl) ?_
              refine lv_icmp_le (tgt := 71) hx hb dX2_next_64 (by decide) (fun h64 => ?_) (fun h64 => ?_)
              · refine lv_iconst (v := 0) hx hb dX2_next_71 (by decide) ?_
                refine lv_istore (lv' := [(5, .int 0), (0, .ref (qm 0)), (1, .int (nI b)), (2, .int (nI j)), (3, .int (-1)), (4, .int (nI k))]) hx hb dX2_next_72 hl (by decide) rfl (fun ls hl => ?_)
                refine lv_aload_n hx hb dX2_next_74 rfl (lv_at hl 1 rfl) ?_
                refine lv_iload hx hb dX2_next_75 (lv_at hl 5 rfl) ?_
                refine lv_iload_n hx hb dX2_next_77 rfl (lv_at hl 2 rfl) ?_
                refine kc_i (va_runV (As := [.int (nI k), .int (nI b)]) (rest := []) ⟨hx, hb, hml, hown, hts⟩ (c_X2_isOffer (by omega)) (cwV 2 hts gX2_next_X2_isOffer rfl rfl rfl (by decide +kernel) ⟨Nat.le_of_ble_eq_true rfl, Nat.le_of_ble_eq_true rfl⟩) (kpv (q0 := 0) hG hP hD hS rfl rfl) rfl rfl hl.1 rfl (lv_room (Nat.le_of_ble_eq_true rfl)) dX2_next_78 ⟨Nat.le_of_ble_eq_true rfl, Nat.le_of_ble_eq_true rfl⟩) hS (fun r78 w H locs hp hP hD hS => ?_)
                rw [hp.2] at hP hD
                rw [hp.1]
                refine lv_if_eq (tgt := 115) hx hb dX2_next_81 (by decide) (fun h81 => False.elim (h26 h81)) (fun h81 => ?_)
                refine lv_iload hx hb dX2_next_84 (lv_at hl 0 rfl) ?_
                refine lv_if_eq (tgt := 115) hx hb dX2_next_86 (by decide) (fun h86 => ?_) (fun h86 => False.elim (absurd rfl h86))
                refine lv_iload_n hx hb dX2_next_115 rfl (lv_at hl 4 rfl) ?_
                refine lv_istore_n (lv' := [(3, .int (-1)), (5, .int 0), (0, .ref (qm 0)), (1, .int (nI b)), (2, .int (nI j)), (4, .int (nI k))]) hx hb dX2_next_116 rfl hl (by decide) rfl (fun ls hl => ?_)
                refine lv_iinc (v := nI (k + 1)) (lv' := [(4, .int (nI (k + 1))), (3, .int (-1)), (5, .int 0), (0, .ref (qm 0)), (1, .int (nI b)), (2, .int (nI j))]) hx hb dX2_next_117 hl (k := 5) rfl (kinc k) (by decide) rfl (fun ls hl => ?_)
                refine lv_goto (tgt := 5) hx hb dX2_next_120 (by decide) ?_
                exact (ih (k + 1)  ls H locs (by omega) hP hD hS (by rw [nxB_f (last := some j) (fun q => (bhM_s.mp q.2.1).elim h42 (fun z => nI_nle9 z.2 (by omega) h64)), hbst]; exact lv_sub hl [3, 4, 5, 1, 0] rfl))
              · refine lv_iconst (v := 1) hx hb dX2_next_67 (by decide) ?_
                refine lv_goto (tgt := 72) hx hb dX2_next_68 (by decide) ?_
                refine lv_istore (lv' := [(5, .int 1), (0, .ref (qm 0)), (1, .int (nI b)), (2, .int (nI j)), (3, .int (-1)), (4, .int (nI k))]) hx hb dX2_next_72 hl (by decide) rfl (fun ls hl => ?_)
                refine lv_aload_n hx hb dX2_next_74 rfl (lv_at hl 1 rfl) ?_
                refine lv_iload hx hb dX2_next_75 (lv_at hl 5 rfl) ?_
                refine lv_iload_n hx hb dX2_next_77 rfl (lv_at hl 2 rfl) ?_
                refine kc_i (va_runV (As := [.int (nI k), .int (nI b)]) (rest := []) ⟨hx, hb, hml, hown, hts⟩ (c_X2_isOffer (by omega)) (cwV 2 hts gX2_next_X2_isOffer rfl rfl rfl (by decide +kernel) ⟨Nat.le_of_ble_eq_true rfl, Nat.le_of_ble_eq_true rfl⟩) (kpv (q0 := 0) hG hP hD hS rfl rfl) rfl rfl hl.1 rfl (lv_room (Nat.le_of_ble_eq_true rfl)) dX2_next_78 ⟨Nat.le_of_ble_eq_true rfl, Nat.le_of_ble_eq_true rfl⟩) hS (fun r78 w H locs hp hP hD hS => ?_)
                rw [hp.2] at hP hD
                rw [hp.1]
                refine lv_if_eq (tgt := 115) hx hb dX2_next_81 (by decide) (fun h81 => False.elim (h26 h81)) (fun h81 => ?_)
                refine lv_iload hx hb dX2_next_84 (lv_at hl 0 rfl) ?_
                refine lv_if_eq (tgt := 115) hx hb dX2_next_86 (by decide) (fun h86 => False.elim (absurd h86 (by decide))) (fun h86 => ?_)
                refine lv_iload_n hx hb dX2_next_89 rfl (lv_at hl 4 rfl) ?_
                refine lv_iconst (v := (-1)) hx hb dX2_next_90 (by decide) ?_
                refine lv_icmp_eq (tgt := 110) hx hb dX2_next_91 (by decide) (fun h91 => ?_) (fun h91 => False.elim (h91 rfl))
                refine lv_iload hx hb dX2_next_110 (lv_at hl 5 rfl) ?_
                refine lv_goto (tgt := 116) hx hb dX2_next_112 (by decide) ?_
                refine lv_istore_n (lv' := [(3, .int (nI k)), (5, .int 1), (0, .ref (qm 0)), (1, .int (nI b)), (2, .int (nI j)), (4, .int (nI k))]) hx hb dX2_next_116 rfl hl (by decide) rfl (fun ls hl => ?_)
                refine lv_iinc (v := nI (k + 1)) (lv' := [(4, .int (nI (k + 1))), (3, .int (nI k)), (5, .int 1), (0, .ref (qm 0)), (1, .int (nI b)), (2, .int (nI j))]) hx hb dX2_next_117 hl (k := 5) rfl (kinc k) (by decide) rfl (fun ls hl => ?_)
                refine lv_goto (tgt := 5) hx hb dX2_next_120 (by decide) ?_
                exact (ih (k + 1)  ls H locs (by omega) hP hD hS (by rw [nxB_t (last := some j) ⟨(bi_dn.mp h81), (bhM_s.mpr (Or.inr ⟨h58, nI_ltof (by omega) (by omega) h64⟩)), (fun jb q => by rw [hbst] at q; cases q)⟩]; exact lv_sub hl [3, 4, 5, 1, 0] rfl))
      · rw [hbst] at hl
        have hl : lv_has ls 6 [(0, .ref (qm 0)), (1, .int (nI b)), (2, .int (nI j)), (3, .int (nI jb)), (4, .int (nI k))] := hl
        refine lv_iload_n hx hb dX2_next_14 rfl (lv_at hl 2 rfl) ?_
        refine lv_iconst (v := (-1)) hx hb dX2_next_15 (by decide) ?_
        refine lv_icmp_eq (tgt := 67) hx hb dX2_next_16 (by decide) (fun h16 => False.elim (nI_ne1 (by omega) h16)) (fun h16 => ?_)
        refine lv_aload_n hx hb dX2_next_19 rfl (lv_at hl 0 rfl) ?_
        refine lv_iload hx hb dX2_next_20 (lv_at hl 4 rfl) ?_
        refine lv_iload_n hx hb dX2_next_22 rfl (lv_at hl 1 rfl) ?_
        refine kc_i (va_runV (As := [.int (nI k), .int (nI b)]) (rest := []) ⟨hx, hb, hml, hown, hts⟩ (c_X2_isOffer (by omega)) (cwV 2 hts gX2_next_X2_isOffer rfl rfl rfl (by decide +kernel) ⟨Nat.le_of_ble_eq_true rfl, Nat.le_of_ble_eq_true rfl⟩) (kpv (q0 := 0) hG hP hD hS rfl rfl) rfl rfl hl.1 rfl (lv_room (Nat.le_of_ble_eq_true rfl)) dX2_next_23 ⟨Nat.le_of_ble_eq_true rfl, Nat.le_of_ble_eq_true rfl⟩) hS (fun r23 w H locs hp hP hD hS => ?_)
        rw [hp.2] at hP hD
        rw [hp.1]
        refine lv_if_eq (tgt := 71) hx hb dX2_next_26 (by decide) (fun h26 => ?_) (fun h26 => ?_)
        · refine lv_iconst (v := 0) hx hb dX2_next_71 (by decide) ?_
          refine lv_istore (lv' := [(5, .int 0), (0, .ref (qm 0)), (1, .int (nI b)), (2, .int (nI j)), (3, .int (nI jb)), (4, .int (nI k))]) hx hb dX2_next_72 hl (by decide) rfl (fun ls hl => ?_)
          refine lv_aload_n hx hb dX2_next_74 rfl (lv_at hl 1 rfl) ?_
          refine lv_iload hx hb dX2_next_75 (lv_at hl 5 rfl) ?_
          refine lv_iload_n hx hb dX2_next_77 rfl (lv_at hl 2 rfl) ?_
          refine kc_i (va_runV (As := [.int (nI k), .int (nI b)]) (rest := []) ⟨hx, hb, hml, hown, hts⟩ (c_X2_isOffer (by omega)) (cwV 2 hts gX2_next_X2_isOffer rfl rfl rfl (by decide +kernel) ⟨Nat.le_of_ble_eq_true rfl, Nat.le_of_ble_eq_true rfl⟩) (kpv (q0 := 0) hG hP hD hS rfl rfl) rfl rfl hl.1 rfl (lv_room (Nat.le_of_ble_eq_true rfl)) dX2_next_78 ⟨Nat.le_of_ble_eq_true rfl, Nat.le_of_ble_eq_true rfl⟩) hS (fun r78 w H locs hp hP hD hS => ?_)
          rw [hp.2] at hP hD
          rw [hp.1]
          refine lv_if_eq (tgt := 115) hx hb dX2_next_81 (by decide) (fun h81 => ?_) (fun h81 => False.elim (h81 h26))
          refine lv_iload_n hx hb dX2_next_115 rfl (lv_at hl 4 rfl) ?_
          refine lv_istore_n (lv' := [(3, .int (nI jb)), (5, .int 0), (0, .ref (qm 0)), (1, .int (nI b)), (2, .int (nI j)), (4, .int (nI k))]) hx hb dX2_next_116 rfl hl (by decide) rfl (fun ls hl => ?_)
          refine lv_iinc (v := nI (k + 1)) (lv' := [(4, .int (nI (k + 1))), (3, .int (nI jb)), (5, .int 0), (0, .ref (qm 0)), (1, .int (nI b)), (2, .int (nI j))]) hx hb dX2_next_117 hl (k := 5) rfl (kinc k) (by decide) rfl (fun ls hl => ?_)
          refine lv_goto (tgt := 5) hx hb dX2_next_120 (by decide) ?_
          exact (ih (k + 1)  ls H locs (by omega) hP hD hS (by rw [nxB_f (last := some j) (fun q => (bi_d0.mp h81) q.1), hbst]; exact lv_sub hl [3, 4, 5, 1, 0] rfl))
        · refine lv_aload_n hx hb dX2_next_29 rfl (lv_at hl 0 rfl) ?_
          refine kget (ci := 3) (C := RX2) (T := TX2) (N := 18) hx hb hts hown hG hP 0 rfl rfl hinX2 7 (by decide) (by decide +kernel) rfl dX2_next_30 ?_
          refine lv_iload hx hb dX2_next_33 (lv_at hl 4 rfl) ?_
          refine kiald (n := 30) (j := k) hx hb hG hP 6 rfl (by omega) (by decide) dX2_next_35 ?_
          refine lv_aload_n hx hb dX2_next_36 rfl (lv_at hl 0 rfl) ?_
          refine kget (ci := 3) (C := RX2) (T := TX2) (N := 18) hx hb hts hown hG hP 0 rfl rfl hinX2 7 (by decide) (by decide +kernel) rfl dX2_next_37 ?_
          refine lv_iload_n hx hb dX2_next_40 rfl (lv_at hl 2 rfl) ?_
          refine kiald (n := 30) (j := j) hx hb hG hP 6 rfl (by omega) (by decide) dX2_next_41 ?_
          refine lv_icmp_lt (tgt := 67) hx hb dX2_next_42 (by decide) (fun h42 => ?_) (fun h42 => ?_)
          · refine lv_iconst (v := 1) hx hb dX2_next_67 (by decide) ?_
            refine lv_goto (tgt := 72) hx hb dX2_next_68 (by decide) ?_
            refine lv_istore (lv' := [(5, .int 1), (0, .ref (qm 0)), (1, .int (nI b)), (2, .int (nI j)), (3, .int (nI jb)), (4, .int (nI k))]) hx hb dX2_next_72 hl (by decide) rfl (fun ls hl => ?_)
            refine lv_aload_n hx hb dX2_next_74 rfl (lv_at hl 1 rfl) ?_
            refine lv_iload hx hb dX2_next_75 (lv_at hl 5 rfl) ?_
            refine lv_iload_n hx hb dX2_next_77 rfl (lv_at hl 2 rfl) ?_
            refine kc_i (va_runV (As := [.int (nI k), .int (nI b)]) (rest := []) ⟨hx, hb, hml, hown, hts⟩ (c_X2_isOffer (by omega)) (cwV 2 hts gX2_next_X2_isOffer rfl rfl rfl (by decide +kernel) ⟨Nat.le_of_ble_eq_true rfl, Nat.le_of_ble_eq_true rfl⟩) (kpv (q0 := 0) hG hP hD hS rfl rfl) rfl rfl hl.1 rfl (lv_room (Nat.le_of_ble_eq_true rfl)) dX2_next_78 ⟨Nat.le_of_ble_eq_true rfl, Nat.le_of_ble_eq_true rfl⟩) hS (fun r78 w H locs hp hP hD hS => ?_)
            rw [hp.2] at hP hD
            rw [hp.1]
            refine lv_if_eq (tgt := 115) hx hb dX2_next_81 (by decide) (fun h81 => False.elim (h26 h81)) (fun h81 => ?_)
            refine lv_iload hx hb dX2_next_84 (lv_at hl 0 rfl) ?_
            refine lv_if_eq (tgt := 115) hx hb dX2_next_86 (by decide) (fun h86 => False.elim (absurd h86 (by decide))) (fun h86 => ?_)
            refine lv_iload_n hx hb dX2_next_89 rfl (lv_at hl 4 rfl) ?_
            refine lv_iconst (v := (-1)) hx hb dX2_next_90 (by decide) ?_
            refine lv_icmp_eq (tgt := 110) hx hb dX2_next_91 (by decide) (fun h91 => False.elim (nI_ne1 (by have := nxB_lt hbst; omega) h91)) (fun h91 => ?_)
            refine lv_aload_n hx hb dX2_next_94 rfl (lv_at hl 1 rfl) ?_
            refine kget (ci := 3) (C := RX2) (T := TX2) (N := 18) hx hb hts hown hG hP 0 rfl rfl hinX2 7 (by decide) (by decide +kernel) rfl dX2_next_95 ?_
            refine lv_iload hx hb dX2_next_98 (lv_at hl 5 rfl) ?_
            refine kiald (n := 30) (j := k) hx hb hG hP 6 rfl (by omega) (by decide) dX2_next_100 ?_
            refine lv_aload_n hx hb dX2_next_101 rfl (lv_at hl 1 rfl) ?_
            refine kget (ci := 3) (C := RX2) (T := TX2) (N := 18) hx hb hts hown hG hP 0 rfl rfl hinX2 7 (by decide) (by decide +kernel) rfl dX2_next_102 ?_
            refine lv_iload_n hx hb dX2_next_105 rfl (lv_at hl 4 rfl) ?_
            refine kiald (n := 30) (j := jb) hx hb hG hP 6 rfl (by have := nxB_lt hbst; omega) (by decide) dX2_next_106 ?_
            refine lv_icmp_le (tgt := 115) hx hb dX2_next_107 (by decide) (fun h107 => ?_) (fun h107 => ?_)
            · refine lv_iload_n hx hb dX2_next_115 rfl (lv_at hl 4 rfl) ?_
              refine lv_istore_n (lv' := [(3, .int (nI jb)), (5, .int 1), (0, .ref (qm 0)), (1, .int (nI b)), (2, .int (nI j)), (4, .int (nI k))]) hx hb dX2_next_116 rfl hl (by decide) rfl (fun ls hl => ?_)
              refine lv_iinc (v := nI (k + 1)) (lv' := [(4, .int (nI (k + 1))), (3, .int (nI jb)), (5, .int 1), (0, .ref (qm 0)), (1, .int (nI b)), (2, .int (nI j))]) hx hb dX2_next_117 hl (k := 5) rfl (kinc k) (by decide) rfl (fun ls hl => ?_)
              refine lv_goto (tgt := 5) hx hb dX2_next_120 (by decide) ?_
              exact (ih (k + 1)  ls H locs (by omega) hP hD hS (by rw [nxB_f (last := some j) (fun q => absurd (q.2.2 _ hbst) (i32_nlt.mpr h107)), hbst]; exact lv_sub hl [3, 4, 5, 1, 0] rfl))
            · refine lv_iload hx hb dX2_next_110 (lv_at hl 5 rfl) ?_
              refine lv_goto (tgt := 116) hx hb dX2_next_112 (by decide) ?_
              refine lv_istore_n (lv' := [(3, .int (nI k)), (5, .int 1), (0, .ref (qm 0)), (1, .int (nI b)), (2, .int (nI j)), (4, .int (nI k))]) hx hb dX2_next_116 rfl hl (by decide) rfl (fun ls hl => ?_)
              refine lv_iinc (v := nI (k + 1)) (lv' := [(4, .int (nI (k + 1))), (3, .int (nI k)), (5, .int 1), (0, .ref (qm 0)), (1, .int (nI b)), (2, .int (nI j))]) hx hb dX2_next_117 hl (k := 5) rfl (kinc k) (by decide) rfl (fun ls hl => ?_)
              refine lv_goto (tgt := 5) hx hb dX2_next_120 (by decide) ?_
              exact (ih (k + 1)  ls H locs (by omega) hP hD hS (by rw [nxB_t (last := some j) ⟨(bi_dn.mp h81), (bhM_s.mpr (Or.inl h42)), (fun jb2 q => by rw [hbst] at q; cases q; exact i32_nle.mp h107)⟩]; exact lv_sub hl [3, 4, 5, 1, 0] rfl))
          · refine lv_aload_n hx hb dX2_next_45 rfl (lv_at hl 0 rfl) ?_
            refine kget (ci := 3) (C := RX2) (T := TX2) (N := 18) hx hb hts hown hG hP 0 rfl rfl hinX2 7 (by decide) (by decide +kernel) rfl dX2_next_46 ?_
            refine lv_iload hx hb dX2_next_49 (lv_at hl 4 rfl) ?_
            refine kiald (n := 30) (j := k) hx hb hG hP 6 rfl (by omega) (by decide) dX2_next_51 ?_
            refine lv_aload_n hx hb dX2_next_52 rfl (lv_at hl 0 rfl) ?_
            refine kget (ci := 3) (C := RX2) (T := TX2) (N := 18) hx hb hts hown hG hP 0 rfl rfl hinX2 7 (by decide) (by decide +kernel) rfl dX2_next_53 ?_
            refine lv_iload_n hx hb dX2_next_56 rfl (lv_at hl 2 rfl) ?_
            refine kiald (n := 30) (j := j) hx hb hG hP 6 rfl (by omega) (by decide) dX2_next_57 ?_
            refine lv_icmp_ne (tgt := 71) hx hb dX2_next_58 (by decide) (fun h58 => ?_) (fun h58 => ?_)
            · refine lv_iconst (v := 0) hx hb dX2_next_71 (by decide) ?_
              refine lv_istore (lv' := [(5, .int 0), (0, .ref (qm 0)), (1, .int (nI b)), (2, .int (nI j)), (3, .int (nI jb)), (4, .int (nI k))]) hx hb dX2_next_72 hl (by decide) rfl (fun ls hl => ?_)
              refine lv_aload_n hx hb dX2_next_74 rfl (lv_at hl 1 rfl) ?_
              refine lv_iload hx hb dX2_next_75 (lv_at hl 5 rfl) ?_
              refine lv_iload_n hx hb dX2_next_77 rfl (lv_at hl 2 rfl) ?_
              refine kc_i (va_runV (As := [.int (nI k), .int (nI b)]) (rest := []) ⟨hx, hb, hml, hown, hts⟩ (c_X2_isOffer (by omega)) (cwV 2 hts gX2_next_X2_isOffer rfl rfl rfl (by decide +kernel) ⟨Nat.le_of_ble_eq_true rfl, Nat.le_of_ble_eq_true rfl⟩) (kpv (q0 := 0) hG hP hD hS rfl rfl) rfl rfl hl.1 rfl (lv_room (Nat.le_of_ble_eq_true rfl)) dX2_next_78 ⟨Nat.le_of_ble_eq_true rfl, Nat.le_of_ble_eq_true rfl⟩) hS (fun r78 w H locs hp hP hD hS => ?_)
              rw [hp.2] at hP hD
              rw [hp.1]
              refine lv_if_eq (tgt := 115) hx hb dX2_next_81 (by decide) (fun h81 => False.elim (h26 h81)) (fun h81 => ?_)
              refine lv_iload hx hb dX2_next_84 (lv_at hl 0 rfl) ?_
              refine lv_if_eq (tgt := 115) hx hb dX2_next_86 (by decide) (fun h86 => ?_) (fun h86 => False.elim (absurd rfl h86))
              refine lv_iload_n hx hb dX2_next_115 rfl (lv_at hl 4 rfl) ?_
              refine lv_istore_n (lv' := [(3, .int (nI jb)), (5, .int 0), (0, .ref (qm 0)), (1, .int (nI b)), (2, .int (nI j)), (4, .int (nI k))]) hx hb dX2_next_116 rfl hl (by decide) rfl (fun ls hl => ?_)
              refine lv_iinc (v := nI (k + 1)) (lv' := [(4, .int (nI (k + 1))), (3, .int (nI jb)), (5, .int 0), (0, .ref (qm 0)), (1, .int (nI b)), (2, .int (nI j))]) hx hb dX2_next_117 hl (k := 5) rfl (kinc k) (by decide) rfl (fun ls hl => ?_)
              refine lv_goto (tgt := 5) hx hb dX2_next_120 (by decide) ?_
              exact (ih (k + 1)  ls H locs (by omega) hP hD hS (by rw [nxB_f (last := some j) (fun q => (bhM_s.mp q.2.1).elim h42 (fun z => h58 z.1)), hbst]; exact lv_sub hl [3, 4, 5, 1, 0] rfl))
            · refine lv_iload hx hb dX2_next_61 (lv_at hl 4 rfl) ?_
              refine lv_iload_n hx hb dX2_next_63 rfl (lv_at hl 2 rfl) ?_
              refine lv_icmp_le (tgt := 71) hx hb dX2_next_64 (by decide) (fun h64 => ?_) (fun h64 => ?_)
              · refine lv_iconst (v := 0) hx hb dX2_next_71 (by decide) ?_
                refine lv_istore (lv' := [(5, .int 0), (0, .ref (qm 0)), (1, .int (nI b)), (2, .int (nI j)), (3, .int (nI jb)), (4, .int (nI k))]) hx hb dX2_next_72 hl (by decide) rfl (fun ls hl => ?_)
                refine lv_aload_n hx hb dX2_next_74 rfl (lv_at hl 1 rfl) ?_
                refine lv_iload hx hb dX2_next_75 (lv_at hl 5 rfl) ?_
                refine lv_iload_n hx hb dX2_next_77 rfl (lv_at hl 2 rfl) ?_
                refine kc_i (va_runV (As := [.int (nI k), .int (nI b)]) (rest := []) ⟨hx, hb, hml, hown, hts⟩ (c_X2_isOffer (by omega)) (cwV 2 hts gX2_next_X2_isOffer rfl rfl rfl (by decide +kernel) ⟨Nat.le_of_ble_eq_true rfl, Nat.le_of_ble_eq_true rfl⟩) (kpv (q0 := 0) hG hP hD hS rfl rfl) rfl rfl hl.1 rfl (lv_room (Nat.le_of_ble_eq_true rfl)) dX2_next_78 ⟨Nat.le_of_ble_eq_true rfl, Nat.le_of_ble_eq_true rfl⟩) hS (fun r78 w H locs hp hP hD hS => ?_)
                rw [hp.2] at hP hD
                rw [hp.1]
                refine lv_if_eq (tgt := 115) hx hb dX2_next_81 (by decide) (fun h81 => False.elim (h26 h81)) (fun h81 => ?_)
                refine lv_iload hx hb dX2_next_84 (lv_at hl 0 rfl) ?_
                refine lv_if_eq (tgt := 115) hx hb dX2_next_86 (by decide) (fun h86 => ?_) (fun h86 => False.elim (absurd rfl h86))
                refine lv_iload_n hx hb dX2_next_115 rfl (lv_at hl 4 rfl) ?_
                refine lv_istore_n (lv' := [(3, .int (nI jb)), (5, .int 0), (0, .ref (qm 0)), (1, .int (nI b)), (2, .int (nI j)), (4, .int (nI k))]) hx hb dX2_next_116 rfl hl (by decide) rfl (fun ls hl => ?_)
                refine lv_iinc (v := nI (k + 1)) (lv' := [(4, .int (nI (k + 1))), (3, .int (nI jb)), (5, .int 0), (0, .ref (qm 0)), (1, .int (nI b)), (2, .int (nI j))]) hx hb dX2_next_117 hl (k := 5) rfl (kinc k) (by decide) rfl (fun ls hl => ?_)
                refine lv_goto (tgt := 5) hx hb dX2_next_120 (by decide) ?_
                exact (ih (k + 1)  ls H locs (by omega) hP hD hS (by rw [nxB_f (last := some j) (fun q => (bhM_s.mp q.2.1).elim h42 (fun z => nI_nle9 z.2 (by omega) h64)), hbst]; exact lv_sub hl [3, 4, 5, 1, 0] rfl))
              · refine lv_iconst (v := 1) hx hb dX2_next_67 (by decide) ?_
                refine lv_goto (tgt := 72) hx hb dX2_next_68 (by decide) ?_
                refine lv_istore (lv' := [(5, .int 1), (0, .ref (qm 0)), (1, .int (nI b)), (2, .int (nI j)), (3, .int (nI jb)), (4, .int (nI k))]) hx hb dX2_next_72 hl (by decide) rfl (fun ls hl => ?_)
                refine lv_aload_n hx hb dX2_next_74 rfl (lv_at hl 1 rfl) ?_
                refine lv_iload hx hb dX2_next_75 (lv_at hl 5 rfl) ?_
                refine lv_iload_n hx hb dX2_next_77 rfl (lv_at hl 2 rfl) ?_
                refine kc_i (va_runV (As := [.int (nI k), .int (nI b)]) (rest := []) ⟨hx, hb, hml, hown, hts⟩ (c_X2_isOffer (by omega)) (cwV 2 hts gX2_next_X2_isOffer rfl rfl rfl (by decide +kernel) ⟨Nat.le_of_ble_eq_true rfl, Nat.le_of_ble_eq_true rfl⟩) (kpv (q0 := 0) hG hP hD hS rfl rfl) rfl rfl hl.1 rfl (lv_room (Nat.le_of_ble_eq_true rfl)) dX2_next_78 ⟨Nat.le_of_ble_eq_true rfl, Nat.le_of_ble_eq_true rfl⟩) hS (fun r78 w H locs hp hP hD hS => ?_)
                rw [hp.2] at hP hD
                rw [hp.1]
                refine lv_if_eq (tgt := 115) hx hb dX2_next_81 (by decide) (fun h81 => False.elim (h26 h81)) (fun h81 => ?_)
                refine lv_iload hx hb dX2_next_84 (lv_at hl 0 rfl) ?_
                refine lv_if_eq (tgt := 115) hx hb dX2_next_86 (by decide) (fun h86 => False.elim (absurd h86 (by decide))) (fun h86 => ?_)
                refine lv_iload_n hx hb dX2_next_89 rfl (lv_at hl 4 rfl) ?_
                refine lv_iconst (v := (-1)) hx hb dX2_next_90 (by decide) ?_
                refine lv_icmp_eq (tgt := 110) hx hb dX2_next_91 (by decide) (fun h91 => False.elim (nI_ne1 (by have := nxB_lt hbst; omega) h91)) (fun h91 => ?_)
                refine lv_aload_n hx hb dX2_next_94 rfl (lv_at hl 1 rfl) ?_
                refine kget (ci := 3) (C := RX2) (T := TX2) (N := 18) hx hb hts hown hG hP 0 rfl rfl hinX2 7 (by decide) (by decide +kernel) rfl dX2_next_95 ?_
                refine lv_iload hx hb dX2_next_98 (lv_at hl 5 rfl) ?_
                refine kiald (n := 30) (j := k) hx hb hG hP 6 rfl (by omega) (by decide) dX2_next_100 ?_
                refine lv_aload_n hx hb dX2_next_101 rfl (lv_at hl 1 rfl) ?_
                refine kget (ci := 3) (C := RX2) (T := TX2) (N := 18) hx hb hts hown hG hP 0 rfl rfl hinX2 7 (by decide) (by decide +kernel) rfl dX2_next_102 ?_
                refine lv_iload_n hx hb dX2_next_105 rfl (lv_at hl 4 rfl) ?_
                refine kiald (n := 30) (j := jb) hx hb hG hP 6 rfl (by have := nxB_lt hbst; omega) (by decide) dX2_next_106 ?_
                refine lv_icmp_le (tgt := 115) hx hb dX2_next_107 (by decide) (fun h107 => ?_) (fun h107 => ?_)
                · refine lv_iload_n hx hb dX2_next_115 rfl (lv_at hl 4 rfl) ?_
                  refine lv_istore_n (lv' := [(3, .int (nI jb)), (5, .int 1), (0, .ref (qm 0)), (1, .int (nI b)), (2, .int (nI j)), (4, .int (nI k))]) hx hb dX2_next_116 rfl hl (by decide) rfl (fun ls hl => ?_)
                  refine lv_iinc (v := nI (k + 1)) (lv' := [(4, .int (nI (k + 1))), (3, .int (nI jb)), (5, .int 1), (0, .ref (qm 0)), (1, .int (nI b)), (2, .int (nI j))]) hx hb dX2_next_117 hl (k := 5) rfl (kinc k) (by decide) rfl (fun ls hl => ?_)
                  refine lv_goto (tgt := 5) hx hb dX2_next_120 (by decide) ?_
                  exact (ih (k + 1)  ls H locs (by omega) hP hD hS (by rw [nxB_f (last := some j) (fun q => absurd (q.2.2 _ hbst) (i32_nlt.mpr h107)), hbst]; exact lv_sub hl [3, 4, 5, 1, 0] rfl))
                · refine lv_iload hx hb dX2_next_110 (lv_at hl 5 rfl) ?_
                  refine lv_goto (tgt := 116) hx hb dX2_next_112 (by decide) ?_
                  refine lv_istore_n (lv' := [(3, .int (nI k)), (5, .int 1), (0, .ref (qm 0)), (1, .int (nI b)), (2, .int (nI j)), (4, .int (nI k))]) hx hb dX2_next_116 rfl hl (by decide) rfl (fun ls hl => ?_)
                  refine lv_iinc (v := nI (k + 1)) (lv' := [(4, .int (nI (k + 1))), (3, .int (nI k)), (5, .int 1), (0, .ref (qm 0)), (1, .int (nI b)), (2, .int (nI j))]) hx hb dX2_next_117 hl (k := 5) rfl (kinc k) (by decide) rfl (fun ls hl => ?_)
                  refine lv_goto (tgt := 5) hx hb dX2_next_120 (by decide) ?_
                  exact (ih (k + 1)  ls H locs (by omega) hP hD hS (by rw [nxB_t (last := some j) ⟨(bi_dn.mp h81), (bhM_s.mpr (Or.inr ⟨h58, nI_ltof (by omega) (by omega) h64⟩)), (fun jb2 q => by rw [hbst] at q; cases q; exact i32_nle.mp h107)⟩]; exact lv_sub hl [3, 4, 5, 1, 0] rfl))
  refine LOOP _ (fun  ls H locs hP hD hS hl => ?_) n 0  ls _ _ (by omega) hP hD hS (lv_sub hl [2, 3, 4, 1, 0] rfl)
  refine lv_iload_n hx hb dX2_next_123 rfl (lv_at hl 3 rfl) ?_
  exact kr_i hx hb hr hlocks hP hD hS (Nat.zero_le _) (Nat.zero_le _) (⟨rfl, rfl⟩) dX2_next_124
set_option maxHeartbeats 4000000 in
set_option maxRecDepth 100000 in
theorem c_X2_plans {l : Launch} {K : Ks} {A : Nat → Prop} {qm : Nat → Nat} {td th : Int32} {M X : Nat → Nat → Int32} {n b : Nat} {L : List Nat} (hn : n ≤ 30) (hx4 : b < 4) (hok : ∀ j, j < n → okP M j) (hL : ∀ k, k < L.length → ix L k < n) (hc0 : nxB td M b none n = L[0]?) (hch : ∀ k, k < L.length → nxB td M b (some (ix L k)) n = L[k + 1]?) : Met l yX2_plans wsX2_plans (kR 2 0 0) (kPr K A [.ref (qm 0), .int (nI b)] (Mfix K qm td (nI n) th M X)) (kQv K A (fun w => w = Mfix K qm td (nI n) th M (plS td n M L b X L.length).2)) 0 0 A := by
  refine kent (cc := cX2_plans) (maxL := 6) (ret := none) (by decide) rfl (Nat.le_of_ble_eq_true rfl) ?_
  intro p e s m args below meth c ls hx hb hr hts hown hlocks hml hini hG hP hD hS hl
  have hinX2 : ∀ x ∈ wsX20, x ∈ wsX2_plans := by decide +kernel
  have hl : lv_has ls 6 [(0, .ref (qm 0)), (1, .int (nI b))] := hl
  refine lv_aload_n hx hb dX2_plans_0 rfl (lv_at hl 0 rfl) ?_
  refine kget (ci := 3) (C := RX2) (T := TX2) (N := 18) hx hb hts hown hG hP 0 rfl rfl hinX2 11 (by decide) (by decide +kernel) rfl dX2_plans_1 ?_
  refine lv_iload_n hx hb dX2_plans_4 rfl (lv_at hl 1 rfl) ?_
  refine kiald (n := 4) (j := b) hx hb hG hP 10 rfl hx4 (by decide) dX2_plans_5 ?_
  refine lv_istore_n (lv' := [(2, .int (M 11 b)), (0, .ref (qm 0)), (1, .int (nI b))]) hx hb dX2_plans_6 rfl hl (by decide) rfl (fun ls hl => ?_)
  refine lv_iconst (v := 0) hx hb dX2_plans_7 (by decide) ?_
  refine lv_istore_n (lv' := [(3, .int 0), (2, .int (M 11 b)), (0, .ref (qm 0)), (1, .int (nI b))]) hx hb dX2_plans_8 rfl hl (by decide) rfl (fun ls hl => ?_)
  have LOOPA : ∀ (Q' : State → Prop), (∀  (ls : Array Slot) (H : Heap) (locs : List Loc), va_P K.1 kCl (Mfix K qm td (nI n) th M (zX X 15 8)) H → va_D A (Mfix K qm td (nI n) th M (zX X 15 8)) → va_S A s.heap H locs → lv_has ls 6 [(0, .ref (qm 0)), (1, .int (nI b)), (2, .int (M 11 b)), (3, .int (nI 8))] → W p l e (kR 2 0 0) s m args below meth c H locs 0 0 Q' (F0 m 28 ls [])) → ∀ (d k : Nat)  (ls : Array Slot) (H : Heap) (locs : List Loc), k + d = 8 → va_P K.1 kCl (Mfix K qm td (nI n) th M (zX X 15 k)) H → va_D A (Mfix K qm td (nI n) th M (zX X 15 k)) → va_S A s.heap H locs → lv_has ls 6 [(0, .ref (qm 0)), (1, .int (nI b)), (2, .int (M 11 b)), (3, .int (nI k))] → W p l e (kR 2 0 0) s m args below meth c H locs 0 0 Q' (F0 m 9 ls []) := by
    intro Q' kx d
    induction d with
    | zero =>
      intro k  ls H locs hk hP hD hS hl
      have hk2 : k = 8 := by omega
      refine lv_iload_n hx hb dX2_plans_9 rfl (lv_at hl 3 rfl) ?_
      refine lv_bipush (v := 8) hx hb dX2_plans_10 (by decide) ?_
      refine lv_icmp_ge (tgt := 28) hx hb dX2_plans_12 (by decide) (fun h12 => ?_) (fun h12 => False.elim (h12 (by rw [hk2]; exact Int32.le_refl _)))
      have hk3 : 8 = k := hk2.symm
      subst hk3
      exact kx  ls H locs hP hD hS (lv_sub hl [0, 1, 2, 3] rfl)
    | succ d ih =>
      intro k  ls H locs hk hP hD hS hl
      have hk2 : k < 8 := by omega
      refine lv_iload_n hx hb dX2_plans_9 rfl (lv_at hl 3 rfl) ?_
      refine lv_bipush (v := 8) hx hb dX2_plans_10 (by decide) ?_
      refine lv_icmp_ge (tgt := 28) hx hb dX2_plans_12 (by decide) (fun h12 => False.elim ((by have h9 := i32_le.mp h12; have ej : (nI k).toInt = k := nI_toInt (by omega); have e33 : (8 : Int32).toInt = 8 := rfl; omega))) (fun h12 => ?_)
      refine lv_aload_n hx hb dX2_plans_15 rfl (lv_at hl 0 rfl) ?_
      refine kget (ci := 3) (C := RX2) (T := TX2) (N := 18) hx hb hts hown hG hP 0 rfl rfl hinX2 15 (by decide) (by decide +kernel) rfl dX2_plans_16 ?_
      refine lv_iload_n hx hb dX2_plans_19 rfl (lv_at hl 3 rfl) ?_
      refine lv_iconst (v := 0) hx hb dX2_plans_20 (by decide) ?_
      refine kiast (n := 8) (j := k) hx hb hG hP hD hS 14 rfl (by omega) (by decide) dX2_plans_21 (fun H locs hP hD hS => ?_)
      have hP : va_P K.1 kCl (Mfix K qm td (nI n) th M (up2 (zX X 15 k) 15 k 0)) H := hP
      have hD : va_D A (Mfix K qm td (nI n) th M (up2 (zX X 15 k) 15 k 0)) := hD
      refine lv_iinc (v := nI (k + 1)) (lv' := [(3, .int (nI (k + 1))), (0, .ref (qm 0)), (1, .int (nI b)), (2, .int (M 11 b))]) hx hb dX2_plans_22 hl (k := 3) rfl (kinc k) (by decide) rfl (fun ls hl => ?_)
      refine lv_goto (tgt := 9) hx hb dX2_plans_25 (by decide) ?_
      exact (ih (k + 1)  ls H locs (by omega) hP hD hS (lv_sub hl [1, 2, 3, 0] rfl))
  refine LOOPA _ (fun  ls H locs hP hD hS hl => ?_) 8 0  ls _ _ (by omega) hP hD hS (lv_sub hl [2, 3, 1, 0] rfl)
  refine lv_iconst (v := 0) hx hb dX2_plans_28 (by decide) ?_
  refine lv_istore_n (lv' := [(3, .int 0), (0, .ref (qm 0)), (1, .int (nI b)), (2, .int (M 11 b))]) hx hb dX2_plans_29 rfl hl (by decide) rfl (fun ls hl => ?_)
  have LOOPB : ∀ (Q' : State → Prop), (∀  (ls : Array Slot) (H : Heap) (locs : List Loc), va_P K.1 kCl (Mfix K qm td (nI n) th M (zX (zX X 15 8) 14 30)) H → va_D A (Mfix K qm td (nI n) th M (zX (zX X 15 8) 14 30)) → va_S A s.heap H locs → lv_has ls 6 [(0, .ref (qm 0)), (1, .int (nI b)), (2, .int (M 11 b)), (3, .int (nI 30))] → W p l e (kR 2 0 0) s m args below meth c H locs 0 0 Q' (F0 m 49 ls [])) → ∀ (d k : Nat)  (ls : Array Slot) (H : Heap) (locs : List Loc), k + d = 30 → va_P K.1 kCl (Mfix K qm td (nI n) th M (zX (zX X 15 8) 14 k)) H → va_D A (Mfix K qm td (nI n) th M (zX (zX X 15 8) 14 k)) → va_S A s.heap H locs → lv_has ls 6 [(0, .ref (qm 0)), (1, .int (nI b)), (2, .int (M 11 b)), (3, .int (nI k))] → W p l e (kR 2 0 0) s m args below meth c H locs 0 0 Q' (F0 m 30 ls []) := by
    intro Q' kx d
    induction d with
    | zero =>
      intro k  ls H locs hk hP hD hS hl
      have hk2 : k = 30 := by omega
      refine lv_iload_n hx hb dX2_plans_30 rfl (lv_at hl 3 rfl) ?_
      refine lv_bipush (v := 30) hx hb dX2_plans_31 (by decide) ?_
      refine lv_icmp_ge (tgt := 49) hx hb dX2_plans_33 (by decide) (fun h33 => ?_) (fun h33 => False.elim (h33 (by rw [hk2]; exact Int32.le_refl _)))
      have hk3 : 30 = k := hk2.symm
      subst hk3
      exact kx  ls H locs hP hD hS (lv_sub hl [0, 1, 2, 3] rfl)
    | succ d ih =>
      intro k  ls H locs hk hP hD hS hl
      have hk2 : k < 30 := by omega
      refine lv_iload_n hx hb dX2_plans_30 rfl (lv_at hl 3 rfl) ?_
      refine lv_bipush (v := 30) hx hb dX2_plans_31 (by decide) ?_
      refine lv_icmp_ge (tgt := 49) hx hb dX2_plans_33 (by decide) (fun h33 => False.elim ((by have h9 := i32_le.mp h33; have ej : (nI k).toInt = k := nI_toInt (by omega); have e33 : (30 : Int32).toInt = 30 := rfl; omega))) (fun h33 => ?_)
      refine lv_aload_n hx hb dX2_plans_36 rfl (lv_at hl 0 rfl) ?_
      refine kget (ci := 3) (C := RX2) (T := TX2) (N := 18) hx hb hts hown hG hP 0 rfl rfl hinX2 14 (by decide) (by decide +kernel) rfl dX2_plans_37 ?_
      refine lv_iload_n hx hb dX2_plans_40 rfl (lv_at hl 3 rfl) ?_
      refine lv_iconst (v := 0) hx hb dX2_plans_41 (by decide) ?_
      refine kzast (n := 30) (j := k) hx hb hG hP hD hS 13 rfl (by omega) (by decide) rfl dX2_plans_42 (fun H locs hP hD hS => ?_)
      have hP : va_P K.1 kCl (Mfix K qm td (nI n) th M (up2 (zX (zX X 15 8) 14 k) 14 k 0)) H := hP
      have hD : va_D A (Mfix K qm td (nI n) th M (up2 (zX (zX X 15 8) 14 k) 14 k 0)) := hD
      refine lv_iinc (v := nI (k + 1)) (lv' := [(3, .int (nI (k + 1))), (0, .ref (qm 0)), (1, .int (nI b)), (2, .int (M 11 b))]) hx hb dX2_plans_43 hl (k := 3) rfl (kinc k) (by decide) rfl (fun ls hl => ?_)
      refine lv_goto (tgt := 30) hx hb dX2_plans_46 (by decide) ?_
      exact (ih (k + 1)  ls H locs (by omega) hP hD hS (lv_sub hl [1, 2, 3, 0] rfl))
  refine LOOPB _ (fun  ls H locs hP hD hS hl => ?_) 30 0  ls _ _ (by omega) hP hD hS (lv_sub hl [1, 2, 3, 0] rfl)
  refine lv_aload_n hx hb dX2_plans_49 rfl (lv_at hl 0 rfl) ?_
  refine lv_iload_n hx hb dX2_plans_50 rfl (lv_at hl 1 rfl) ?_
  refine lv_iconst (v := (-1)) hx hb dX2_plans_51 (by decide) ?_
  refine kc_i (va_runV (As := [.int (nI b), .int (-1)]) (rest := []) ⟨hx, hb, hml, hown, hts⟩ (c_X2_next_n hn) (cwV 2 hts gX2_plans_X2_next rfl rfl rfl (by decide +kernel) ⟨Nat.le_of_ble_eq_true rfl, Nat.le_of_ble_eq_true rfl⟩) (kpv (q0 := 0) hG hP hD hS rfl rfl) rfl rfl hl.1 rfl (lv_room (Nat.le_of_ble_eq_true rfl)) dX2_plans_52 ⟨Nat.le_of_ble_eq_true rfl, Nat.le_of_ble_eq_true rfl⟩) hS (fun r52 w H locs hp hP hD hS => ?_)
  rw [hp.2] at hP hD
  rw [hp.1, hc0]
  refine lv_istore_n (lv' := [(3, .int (enc (L[0]?))), (0, .ref (qm 0)), (1, .int (nI b)), (2, .int (M 11 b))]) hx hb dX2_plans_55 rfl hl (by decide) rfl (fun ls hl => ?_)
  have LOOP : ∀ (Q' : State → Prop), (∀  (ls : Array Slot) (H : Heap) (locs : List Loc), va_P K.1 kCl (Mfix K qm td (nI n) th M ((plS td n M L b X L.length).2)) H → va_D A (Mfix K qm td (nI n) th M ((plS td n M L b X L.length).2)) → va_S A s.heap H locs → lv_has ls 6 [(0, .ref (qm 0)), (1, .int (nI b)), (2, .int ((plS td n M L b X L.length).1)), (3, .int (enc (L[L.length]?)))] → W p l e (kR 2 0 0) s m args below meth c H locs 0 0 Q' (F0 m 136 ls [])) → ∀ (d k : Nat)  (ls : Array Slot) (H : Heap) (locs : List Loc), k + d = L.length → va_P K.1 kCl (Mfix K qm td (nI n) th M ((plS td n M L b X k).2)) H → va_D A (Mfix K qm td (nI n) th M ((plS td n M L b X k).2)) → va_S A s.heap H locs → lv_has ls 6 [(0, .ref (qm 0)), (1, .int (nI b)), (2, .int ((plS td n M L b X k).1)), (3, .int (enc (L[k]?)))] → W p l e (kR 2 0 0) s m args below meth c H locs 0 0 Q' (F0 m 56 ls []) := by
    intro Q' kx d
    induction d with
    | zero =>
      intro k  ls H locs hk hP hD hS hl
      have hk2 : k = L.length := by omega
      refine lv_iload_n hx hb dX2_plans_56 rfl (lv_at hl 3 rfl) ?_
      refine lv_iconst (v := (-1)) hx hb dX2_plans_57 (by decide) ?_
      refine lv_icmp_eq (tgt := 136) hx hb dX2_plans_58 (by decide) (fun h58 => ?_) (fun h58 => False.elim (h58 (by rw [hk2, List.getElem?_eq_none (Nat.le_refl _)]; rfl)))
      have hk3 : L.length = k := hk2.symm
      subst hk3
      exact kx  ls H locs hP hD hS (lv_sub hl [0, 1, 2, 3] rfl)
    | succ d ih =>
      intro k  ls H locs hk hP hD hS hl
      have hk2 : k < L.length := by omega
      rw [ix_at hk2] at hl
      have hl : lv_has ls 6 [(0, .ref (qm 0)), (1, .int (nI b)), (2, .int ((plS td n M L b X k).1)), (3, .int (nI (ix L k)))] := hl
      refine lv_iload_n hx hb dX2_plans_56 rfl (lv_at hl 3 rfl) ?_
      refine lv_iconst (v := (-1)) hx hb dX2_plans_57 (by decide) ?_
      refine lv_icmp_eq (tgt := 136) hx hb dX2_plans_58 (by decide) (fun h58 => False.elim (nI_ne1 (by have := hL k hk2; omega) h58)) (fun h58 => ?_)
      refine lv_aload_n hx hb dX2_plans_61 rfl (lv_at hl 0 rfl) ?_
      refine lv_iload_n hx hb dX2_plans_62 rfl (lv_at hl 3 rfl) ?_
      refine kc_i (va_runV (As := [.int (nI (ix L k))]) (rest := []) ⟨hx, hb, hml, hown, hts⟩ (c_X2_price (by have := hL k hk2; omega)) (cwV 1 hts gX2_plans_X2_price rfl rfl rfl (by decide +kernel) ⟨Nat.le_of_ble_eq_true rfl, Nat.le_of_ble_eq_true rfl⟩) (kpv (q0 := 0) hG hP hD hS rfl rfl) rfl rfl hl.1 rfl (lv_room (Nat.le_of_ble_eq_true rfl)) dX2_plans_63 ⟨Nat.le_of_ble_eq_true rfl, Nat.le_of_ble_eq_true rfl⟩) hS (fun r63 w H locs hp hP hD hS => ?_)
      rw [hp.2] at hP hD
      rw [hp.1]
      refine lv_istore (lv' := [(4, .int (price td M (ix L k))), (0, .ref (qm 0)), (1, .int (nI b)), (2, .int ((plS td n M L b X k).1)), (3, .int (nI (ix L k)))]) hx hb dX2_plans_66 hl (by decide) rfl (fun ls hl => ?_)
      refine lv_aload_n hx hb dX2_plans_68 rfl (lv_at hl 1 rfl) ?_
      refine kget (ci := 3) (C := RX2) (T := TX2) (N := 18) hx hb hts hown hG hP 0 rfl rfl hinX2 3 (by decide) (by decide +kernel) rfl dX2_plans_69 ?_
      refine lv_iload_n hx hb dX2_plans_72 rfl (lv_at hl 4 rfl) ?_
      refine kiald (n := 30) (j := (ix L k)) hx hb hG hP 2 rfl (by have := hL k hk2; omega) (by decide) dX2_plans_73 ?_
      refine ktop (z := nI (su M (ix L k))) ((hok _ (hL k hk2)).2.2.1) ?_
      refine lv_istore (lv' := [(5, .int (nI (su M (ix L k)))), (4, .int (price td M (ix L k))), (0, .ref (qm 0)), (1, .int (nI b)), (2, .int ((plS td n M L b X k).1)), (3, .int (nI (ix L k)))]) hx hb dX2_plans_74 hl (by decide) rfl (fun ls hl => ?_)
      refine lv_iload hx hb dX2_plans_76 (lv_at hl 1 rfl) ?_
      refine lv_iload_n hx hb dX2_plans_78 rfl (lv_at hl 4 rfl) ?_
      refine lv_icmp_gt (tgt := 126) hx hb dX2_plans_79 (by decide) (fun h79 => ?_) (fun h79 => ?_)
      · refine lv_aload_n hx hb dX2_plans_126 rfl (lv_at hl 2 rfl) ?_
        refine lv_iload_n hx hb dX2_plans_127 rfl (lv_at hl 3 rfl) ?_
        refine lv_iload_n hx hb dX2_plans_128 rfl (lv_at hl 5 rfl) ?_
        refine kc_i (va_runV (As := [.int (nI b), .int (nI (ix L k))]) (rest := []) ⟨hx, hb, hml, hown, hts⟩ (c_X2_next_s hn (by have := hL k hk2; omega)) (cwV 2 hts gX2_plans_X2_next rfl rfl rfl (by decide +kernel) ⟨Nat.le_of_ble_eq_true rfl, Nat.le_of_ble_eq_true rfl⟩) (kpv (q0 := 0) hG hP hD hS rfl rfl) rfl rfl hl.1 rfl (lv_room (Nat.le_of_ble_eq_true rfl)) dX2_plans_129 ⟨Nat.le_of_ble_eq_true rfl, Nat.le_of_ble_eq_true rfl⟩) hS (fun r129 w H locs hp hP hD hS => ?_)
        rw [hp.2] at hP hD
        rw [hp.1, hch k hk2]
        refine lv_istore_n (lv' := [(3, .int (enc (L[k + 1]?))), (5, .int (nI (su M (ix L k)))), (4, .int (price td M (ix L k))), (0, .ref (qm 0)), (1, .int (nI b)), (2, .int ((plS td n M L b X k).1))]) hx hb dX2_plans_132 rfl hl (by decide) rfl (fun ls hl => ?_)
        refine lv_goto (tgt := 56) hx hb dX2_plans_133 (by decide) ?_
        exact (ih (k + 1)  ls H locs (by omega) (by rw [plS_f (fun q => q.1 h79)]; exact hP) (by rw [plS_f (fun q => q.1 h79)]; exact hD) hS (by rw [plS_f (fun q => q.1 h79)]; exact lv_sub hl [3, 4, 5, 0] rfl))
      · refine lv_iload hx hb dX2_plans_82 (lv_at hl 1 rfl) ?_
        refine lv_aload_n hx hb dX2_plans_84 rfl (lv_at hl 2 rfl) ?_
        refine lv_iload_n hx hb dX2_plans_85 rfl (lv_at hl 3 rfl) ?_
        refine lv_iload hx hb dX2_plans_86 (lv_at hl 0 rfl) ?_
        refine kc_i (va_runV (As := [.int (nI b), .int (nI (su M (ix L k)))]) (rest := [.int (price td M (ix L k))]) ⟨hx, hb, hml, hown, hts⟩ (c_X2_leftOf hn hx4 (hok _ (hL k hk2)).2.2.2) (cwV 2 hts gX2_plans_X2_leftOf rfl rfl rfl (by decide +kernel) ⟨Nat.le_of_ble_eq_true rfl, Nat.le_of_ble_eq_true rfl⟩) (kpv (q0 := 0) hG hP hD hS rfl rfl) rfl rfl hl.1 rfl (lv_room (Nat.le_of_ble_eq_true rfl)) dX2_plans_88 ⟨Nat.le_of_ble_eq_true rfl, Nat.le_of_ble_eq_true rfl⟩) hS (fun r88 w H locs hp hP hD hS => ?_)
        rw [hp.2] at hP hD
        rw [hp.1]
        refine lv_aload_n hx hb dX2_plans_91 rfl (lv_at hl 2 rfl) ?_
        refine kget (ci := 3) (C := RX2) (T := TX2) (N := 18) hx hb hts hown hG hP 0 rfl rfl hinX2 15 (by decide) (by decide +kernel) rfl dX2_plans_92 ?_
        refine lv_iload hx hb dX2_plans_95 (lv_at hl 0 rfl) ?_
        refine kiald (n := 8) (j := (su M (ix L k))) hx hb hG hP 14 rfl (hok _ (hL k hk2)).2.2.2 (by decide) dX2_plans_97 ?_
        refine lv_isub hx hb dX2_plans_98 ?_
        refine lv_icmp_gt (tgt := 126) hx hb dX2_plans_99 (by decide) (fun h99 => ?_) (fun h99 => ?_)
        · refine lv_aload_n hx hb dX2_plans_126 rfl (lv_at hl 2 rfl) ?_
          refine lv_iload_n hx hb dX2_plans_127 rfl (lv_at hl 3 rfl) ?_
          refine lv_iload_n hx hb dX2_plans_128 rfl (lv_at hl 5 rfl) ?_
          refine kc_i (va_runV (As := [.int (nI b), .int (nI (ix L k))]) (rest := []) ⟨hx, hb, hml, hown, hts⟩ (c_X2_next_s hn (by have := hL k hk2; omega)) (cwV 2 hts gX2_plans_X2_next rfl rfl rfl (by decide +kernel) ⟨Nat.le_of_ble_eq_true rfl, Nat.le_of_ble_eq_true rfl⟩) (kpv (q0 := 0) hG hP hD hS rfl rfl) rfl rfl hl.1 rfl (lv_room (Nat.le_of_ble_eq_true rfl)) dX2_plans_129 ⟨Nat.le_of_ble_eq_true rfl, Nat.le_of_ble_eq_true rfl⟩) hS (fun r129 w H locs hp hP hD hS => ?_)
          rw [hp.2] at hP hD
          rw [hp.1, hch k hk2]
          refine lv_istore_n (lv' := [(3, .int (enc (L[k + 1]?))), (5, .int (nI (su M (ix L k)))), (4, .int (price td M (ix L k))), (0, .ref (qm 0)), (1, .int (nI b)), (2, .int ((plS td n M L b X k).1))]) hx hb dX2_plans_132 rfl hl (by decide) rfl (fun ls hl => ?_)
          refine lv_goto (tgt := 56) hx hb dX2_plans_133 (by decide) ?_
          exact (ih (k + 1)  ls H locs (by omega) (by rw [plS_f (fun q => q.2 h99)]; exact hP) (by rw [plS_f (fun q => q.2 h99)]; exact hD) hS (by rw [plS_f (fun q => q.2 h99)]; exact lv_sub hl [3, 4, 5, 0] rfl))
        · refine lv_aload_n hx hb dX2_plans_102 rfl (lv_at hl 2 rfl) ?_
          refine kget (ci := 3) (C := RX2) (T := TX2) (N := 18) hx hb hts hown hG hP 0 rfl rfl hinX2 14 (by decide) (by decide +kernel) rfl dX2_plans_103 ?_
          refine lv_iload_n hx hb dX2_plans_106 rfl (lv_at hl 5 rfl) ?_
          refine lv_iconst (v := 1) hx hb dX2_plans_107 (by decide) ?_
          refine kzast (n := 30) (j := (ix L k)) hx hb hG hP hD hS 13 rfl (by have := hL k hk2; omega) (by decide) rfl dX2_plans_108 (fun H locs hP hD hS => ?_)
          have hP : va_P K.1 kCl (Mfix K qm td (nI n) th M (up2 ((plS td n M L b X k).2) 14 (ix L k) 1)) H := hP
          have hD : va_D A (Mfix K qm td (nI n) th M (up2 ((plS td n M L b X k).2) 14 (ix L k) 1)) := hD
          refine lv_iload_n hx hb dX2_plans_109 rfl (lv_at hl 4 rfl) ?_
          refine lv_iload hx hb dX2_plans_110 (lv_at hl 1 rfl) ?_
          refine lv_isub hx hb dX2_plans_112 ?_
          refine lv_istore_n (lv' := [(2, .int ((plS td n M L b X k).1 - (price td M (ix L k)))), (5, .int (nI (su M (ix L k)))), (4, .int (price td M (ix L k))), (0, .ref (qm 0)), (1, .int (nI b)), (3, .int (nI (ix L k)))]) hx hb dX2_plans_113 rfl hl (by decide) rfl (fun ls hl => ?_)
          refine lv_aload_n hx hb dX2_plans_114 rfl (lv_at hl 3 rfl) ?_
          refine kget (ci := 3) (C := RX2) (T := TX2) (N := 18) hx hb hts hown hG hP 0 rfl rfl hinX2 15 (by decide) (by decide +kernel) rfl dX2_plans_115 ?_
          refine lv_iload hx hb dX2_plans_118 (lv_at hl 1 rfl) ?_
          refine lv_dup2_11 hx hb dX2_plans_120 rfl rfl ?_
          refine kiald (n := 8) (j := (su M (ix L k))) hx hb hG hP 14 rfl (hok _ (hL k hk2)).2.2.2 (by decide) dX2_plans_121 ?_
          refine lv_iload hx hb dX2_plans_122 (lv_at hl 2 rfl) ?_
          refine lv_iadd hx hb dX2_plans_124 ?_
          refine kiast (n := 8) (j := (su M (ix L k))) hx hb hG hP hD hS 14 rfl (hok _ (hL k hk2)).2.2.2 (by decide) dX2_plans_125 (fun H locs hP hD hS => ?_)
          have hP : va_P K.1 kCl (Mfix K qm td (nI n) th M (up2 (up2 ((plS td n M L b X k).2) 14 (ix L k) 1) 15 (su M (ix L k)) (((up2 ((plS td n M L b X k).2) 14 (ix L k) 1) 15 (su M (ix L k))) + (price td M (ix L k))))) H := hP
          have hD : va_D A (Mfix K qm td (nI n) th M (up2 (up2 ((plS td n M L b X k).2) 14 (ix L k) 1) 15 (su M (ix L k)) (((up2 ((plS td n M L b X k).2) 14 (ix L k) 1) 15 (su M (ix L k))) + (price td M (ix L k))))) := hD
          refine lv_aload_n hx hb dX2_plans_126 rfl (lv_at hl 3 rfl) ?_
          refine lv_iload_n hx hb dX2_plans_127 rfl (lv_at hl 4 rfl) ?_
          refine lv_iload_n hx hb dX2_plans_128 rfl (lv_at hl 5 rfl) ?_
          refine kc_i (va_runV (As := [.int (nI b), .int (nI (ix L k))]) (rest := []) ⟨hx, hb, hml, hown, hts⟩ (c_X2_next_s hn (by have := hL k hk2; omega)) (cwV 2 hts gX2_plans_X2_next rfl rfl rfl (by decide +kernel) ⟨Nat.le_of_ble_eq_true rfl, Nat.le_of_ble_eq_true rfl⟩) (kpv (q0 := 0) hG hP hD hS rfl rfl) rfl rfl hl.1 rfl (lv_room (Nat.le_of_ble_eq_true rfl)) dX2_plans_129 ⟨Nat.le_of_ble_eq_true rfl, Nat.le_of_ble_eq_true rfl⟩) hS (fun r129 w H locs hp hP hD hS => ?_)
          rw [hp.2] at hP hD
          rw [hp.1, hch k hk2]
          refine lv_istore_n (lv' := [(3, .int (enc (L[k + 1]?))), (2, .int ((plS td n M L b X k).1 - (price td M (ix L k)))), (5, .int (nI (su M (ix L k)))), (4, .int (price td M (ix L k))), (0, .ref (qm 0)), (1, .int (nI b))]) hx hb dX2_plans_132 rfl hl (by decide) rfl (fun ls hl => ?_)
          refine lv_goto (tgt := 56) hx hb dX2_plans_133 (by decide) ?_
          exact (ih (k + 1)  ls H locs (by omega) (by rw [plS_t ⟨h79, h99⟩]; exact hP) (by rw [plS_t ⟨h79, h99⟩]; exact hD) hS (by rw [plS_t ⟨h79, h99⟩]; exact lv_sub hl [4, 5, 1, 0] rfl))
  refine LOOP _ (fun  ls H locs hP hD hS hl => ?_) L.length 0  ls _ _ (by omega) hP hD hS (lv_sub hl [1, 2, 3, 0] rfl)
  exact kr_v hx hb hr hlocks hP hD hS (Nat.zero_le _) (Nat.zero_le _) (rfl) dX2_plans_136
set_option maxHeartbeats 4000000 in
set_option maxRecDepth 100000 in
theorem c_X2_plan_1 {l : Launch} {K : Ks} {A : Nat → Prop} {qm : Nat → Nat} {td nb th : Int32} {M X : Nat → Nat → Int32} {x : Int32} (hx4 : ixBad 4 x) : Met l yX2_plan wsX2_plan (kR 3 0 0) (kPr K A [.ref (qm 0), .int x] (Mfix K qm td nb th M X)) (kQi K A (fun _ w => w = Mfix K qm td nb 1 M X)) 0 0 A := by
  refine kent (cc := cX2_plan) (maxL := 4) (ret := (some .int)) (by decide) rfl (Nat.le_of_ble_eq_true rfl) ?_
  intro p e s m args below meth c ls hx hb hr hts hown hlocks hml hini hG hP hD hS hl
  have hinX2 : ∀ x ∈ wsX20, x ∈ wsX2_plan := by decide +kernel
  have hl : lv_has ls 4 [(0, .ref (qm 0)), (1, .int x)] := hl
  refine lv_aload_n hx hb dX2_plan_0 rfl (lv_at hl 0 rfl) ?_
  refine lv_iload_n hx hb dX2_plan_1 rfl (lv_at hl 1 rfl) ?_
  refine kc_i (va_runS (As := [.int x]) (rest := [.ref (qm 0)]) ⟨hx, hb, hml, hown, hts⟩ (c_X2_isBuyer (z := 0) (bi_f (ix4b hx4)).symm) (va_cwS 1 hts gX2_plan_X2_isBuyer rfl rfl rfl (by decide +kernel) ⟨Nat.le_of_ble_eq_true rfl, Nat.le_of_ble_eq_true rfl⟩) (kps hG hP hD hS) rfl rfl hl.1 rfl (lv_room (Nat.le_of_ble_eq_true rfl)) dX2_plan_2 ⟨Nat.le_of_ble_eq_true rfl, Nat.le_of_ble_eq_true rfl⟩) hS (fun r2 w H locs hp hP hD hS => ?_)
  rw [hp.2] at hP hD
  rw [hp.1]
  refine lv_if_eq (tgt := 12) hx hb dX2_plan_5 (by decide) (fun h5 => ?_) (fun h5 => False.elim (absurd rfl h5))
  refine lv_iconst (v := 1) hx hb dX2_plan_12 (by decide) ?_
  refine kc_i (va_runV (As := [.int 1]) (rest := []) ⟨hx, hb, hml, hown, hts⟩ (c_X2_fails (x := 1) (z := 1) (by decide)) (cwV 1 hts gX2_plan_X2_fails rfl rfl rfl (by decide +kernel) ⟨Nat.le_of_ble_eq_true rfl, Nat.le_of_ble_eq_true rfl⟩) (kpv (q0 := 0) hG hP hD hS rfl rfl) rfl rfl hl.1 rfl (lv_room (Nat.le_of_ble_eq_true rfl)) dX2_plan_13 ⟨Nat.le_of_ble_eq_true rfl, Nat.le_of_ble_eq_true rfl⟩) hS (fun r13 w H locs hp hP hD hS => ?_)
  rw [hp.2] at hP hD
  rw [hp.1]
  refine lv_if_eq (tgt := 21) hx hb dX2_plan_16 (by decide) (fun h16 => False.elim (absurd h16 (by decide))) (fun h16 => ?_)
  refine lv_iconst (v := 0) hx hb dX2_plan_19 (by decide) ?_
  exact kr_i hx hb hr hlocks hP hD hS (Nat.zero_le _) (Nat.zero_le _) (rfl) dX2_plan_20
set_option maxHeartbeats 4000000 in
set_option maxRecDepth 100000 in
theorem c_X2_plan_ok {l : Launch} {K : Ks} {A : Nat → Prop} {qm : Nat → Nat} {td th : Int32} {M X : Nat → Nat → Int32} {n b : Nat} {L : List Nat} (hn : n ≤ 30) (hx4 : b < 4) (hok : ∀ j, j < n → okP M j) (hL : ∀ k, k < L.length → ix L k < n) (hc0 : nxB td M b none n = L[0]?) (hch : ∀ k, k < L.length → nxB td M b (some (ix L k)) n = L[k + 1]?) : Met l yX2_plan wsX2_plan (kR 3 0 0) (kPr K A [.ref (qm 0), .int (nI b)] (Mfix K qm td (nI n) th M X)) (kQi K A (fun r w => r = (bitS (plS td n M L b X L.length).2 n) ∧ w = Mfix K qm td (nI n) 0 M ((plS td n M L b X L.length).2))) 0 0 A := by
  refine kent (cc := cX2_plan) (maxL := 4) (ret := (some .int)) (by decide) rfl (Nat.le_of_ble_eq_true rfl) ?_
  intro p e s m args below meth c ls hx hb hr hts hown hlocks hml hini hG hP hD hS hl
  have hinX2 : ∀ x ∈ wsX20, x ∈ wsX2_plan := by decide +kernel
  have hl : lv_has ls 4 [(0, .ref (qm 0)), (1, .int (nI b))] := hl
  refine lv_aload_n hx hb dX2_plan_0 rfl (lv_at hl 0 rfl) ?_
  refine lv_iload_n hx hb dX2_plan_1 rfl (lv_at hl 1 rfl) ?_
  refine kc_i (va_runS (As := [.int (nI b)]) (rest := [.ref (qm 0)]) ⟨hx, hb, hml, hown, hts⟩ (c_X2_isBuyer (z := 1) (bi_t (ix4 hx4)).symm) (va_cwS 1 hts gX2_plan_X2_isBuyer rfl rfl rfl (by decide +kernel) ⟨Nat.le_of_ble_eq_true rfl, Nat.le_of_ble_eq_true rfl⟩) (kps hG hP hD hS) rfl rfl hl.1 rfl (lv_room (Nat.le_of_ble_eq_true rfl)) dX2_plan_2 ⟨Nat.le_of_ble_eq_true rfl, Nat.le_of_ble_eq_true rfl⟩) hS (fun r2 w H locs hp hP hD hS => ?_)
  rw [hp.2] at hP hD
  rw [hp.1]
  refine lv_if_eq (tgt := 12) hx hb dX2_plan_5 (by decide) (fun h5 => False.elim (absurd h5 (by decide))) (fun h5 => ?_)
  refine lv_iconst (v := 0) hx hb dX2_plan_8 (by decide) ?_
  refine lv_goto (tgt := 13) hx hb dX2_plan_9 (by decide) ?_
  refine kc_i (va_runV (As := [.int 0]) (rest := []) ⟨hx, hb, hml, hown, hts⟩ (c_X2_fails (x := 0) (z := 0) (by decide)) (cwV 1 hts gX2_plan_X2_fails rfl rfl rfl (by decide +kernel) ⟨Nat.le_of_ble_eq_true rfl, Nat.le_of_ble_eq_true rfl⟩) (kpv (q0 := 0) hG hP hD hS rfl rfl) rfl rfl hl.1 rfl (lv_room (Nat.le_of_ble_eq_true rfl)) dX2_plan_13 ⟨Nat.le_of_ble_eq_true rfl, Nat.le_of_ble_eq_true rfl⟩) hS (fun r13 w H locs hp hP hD hS => ?_)
  rw [hp.2] at hP hD
  rw [hp.1]
  refine lv_if_eq (tgt := 21) hx hb dX2_plan_16 (by decide) (fun h16 => ?_) (fun h16 => False.elim (absurd rfl h16))
  refine lv_aload_n hx hb dX2_plan_21 rfl (lv_at hl 0 rfl) ?_
  refine lv_iload_n hx hb dX2_plan_22 rfl (lv_at hl 1 rfl) ?_
  refine kc_v (va_runV (As := [.int (nI b)]) (rest := []) ⟨hx, hb, hml, hown, hts⟩ (c_X2_plans hn hx4 hok hL hc0 hch) (cwV 1 hts gX2_plan_X2_plans rfl rfl rfl (by decide +kernel) ⟨Nat.le_of_ble_eq_true rfl, Nat.le_of_ble_eq_true rfl⟩) (kpv (q0 := 0) hG hP hD hS rfl rfl) rfl rfl hl.1 rfl (lv_room (Nat.le_of_ble_eq_true rfl)) dX2_plan_23 ⟨Nat.le_of_ble_eq_true rfl, Nat.le_of_ble_eq_true rfl⟩) hS (fun w H locs hp hP hD hS => ?_)
  rw [hp] at hP hD
  refine lv_iconst (v := 0) hx hb dX2_plan_26 (by decide) ?_
  refine lv_istore_n (lv' := [(2, .int 0), (0, .ref (qm 0)), (1, .int (nI b))]) hx hb dX2_plan_27 rfl hl (by decide) rfl (fun ls hl => ?_)
  refine lv_iconst (v := 0) hx hb dX2_plan_28 (by decide) ?_
  refine lv_istore_n (lv' := [(3, .int 0), (2, .int 0), (0, .ref (qm 0)), (1, .int (nI b))]) hx hb dX2_plan_29 rfl hl (by decide) rfl (fun ls hl => ?_)
  have LOOP : ∀ (Q' : State → Prop), (∀  (ls : Array Slot) (H : Heap) (locs : List Loc), va_P K.1 kCl (Mfix K qm td (nI n) 0 M ((plS td n M L b X L.length).2)) H → va_D A (Mfix K qm td (nI n) 0 M ((plS td n M L b X L.length).2)) → va_S A s.heap H locs → lv_has ls 4 [(0, .ref (qm 0)), (1, .int (nI b)), (2, .int (bitS (plS td n M L b X L.length).2 n)), (3, .int (nI n))] → W p l e (kR 3 0 0) s m args below meth c H locs 0 0 Q' (F0 m 63 ls [])) → ∀ (d k : Nat)  (ls : Array Slot) (H : Heap) (locs : List Loc), k + d = n → va_P K.1 kCl (Mfix K qm td (nI n) 0 M ((plS td n M L b X L.length).2)) H → va_D A (Mfix K qm td (nI n) 0 M ((plS td n M L b X L.length).2)) → va_S A s.heap H locs → lv_has ls 4 [(0, .ref (qm 0)), (1, .int (nI b)), (2, .int (bitS (plS td n M L b X L.length).2 k)), (3, .int (nI k))] → W p l e (kR 3 0 0) s m args below meth c H locs 0 0 Q' (F0 m 30 ls []) := by
    intro Q' kx d
    induction d with
    | zero =>
      intro k  ls H locs hk hP hD hS hl
      have hk2 : k = n := by omega
      refine lv_iload_n hx hb dX2_plan_30 rfl (lv_at hl 3 rfl) ?_
      refine lv_aload_n hx hb dX2_plan_31 rfl (lv_at hl 0 rfl) ?_
      refine kget (ci := 3) (C := RX2) (T := TX2) (N := 18) hx hb hts hown hG hP 0 rfl rfl hinX2 1 (by decide) (by decide +kernel) rfl dX2_plan_32 ?_
      refine lv_icmp_ge (tgt := 63) hx hb dX2_plan_35 (by decide) (fun h35 => ?_) (fun h35 => False.elim (absurd (nI_le (Nat.le_of_eq hk2.symm) (by omega)) h35))
      have hk3 : n = k := hk2.symm
      subst hk3
      exact kx  ls H locs hP hD hS (lv_sub hl [0, 1, 2, 3] rfl)
    | succ d ih =>
      intro k  ls H locs hk hP hD hS hl
      have hk2 : k < n := by omega
      refine lv_iload_n hx hb dX2_plan_30 rfl (lv_at hl 3 rfl) ?_
      refine lv_aload_n hx hb dX2_plan_31 rfl (lv_at hl 0 rfl) ?_
      refine kget (ci := 3) (C := RX2) (T := TX2) (N := 18) hx hb hts hown hG hP 0 rfl rfl hinX2 1 (by decide) (by decide +kernel) rfl dX2_plan_32 ?_
      refine lv_icmp_ge (tgt := 63) hx hb dX2_plan_35 (by decide) (fun h35 => False.elim (absurd h35 (nI_ge hk2 (by omega)))) (fun h35 => ?_)
      refine lv_iload_n hx hb dX2_plan_38 rfl (lv_at hl 2 rfl) ?_
      refine lv_aload_n hx hb dX2_plan_39 rfl (lv_at hl 0 rfl) ?_
      refine kget (ci := 3) (C := RX2) (T := TX2) (N := 18) hx hb hts hown hG hP 0 rfl rfl hinX2 14 (by decide) (by decide +kernel) rfl dX2_plan_40 ?_
      refine lv_iload_n hx hb dX2_plan_43 rfl (lv_at hl 3 rfl) ?_
      refine kzald (n := 30) (j := k) hx hb hG hP 13 rfl (by omega) (by decide) dX2_plan_44 ?_
      refine lv_if_eq (tgt := 54) hx hb dX2_plan_45 (by decide) (fun h45 => ?_) (fun h45 => ?_)
      · refine lv_iconst (v := 0) hx hb dX2_plan_54 (by decide) ?_
        refine lv_ior hx hb dX2_plan_55 ?_
        refine lv_istore_n (lv' := [(2, .int ((bitS (plS td n M L b X L.length).2 k) ||| 0)), (0, .ref (qm 0)), (1, .int (nI b)), (3, .int (nI k))]) hx hb dX2_plan_56 rfl hl (by decide) rfl (fun ls hl => ?_)
        refine lv_iinc (v := nI (k + 1)) (lv' := [(3, .int (nI (k + 1))), (2, .int ((bitS (plS td n M L b X L.length).2 k) ||| 0)), (0, .ref (qm 0)), (1, .int (nI b))]) hx hb dX2_plan_57 hl (k := 3) rfl (kinc k) (by decide) rfl (fun ls hl => ?_)
        refine lv_goto (tgt := 30) hx hb dX2_plan_60 (by decide) ?_
        exact (ih (k + 1)  ls H locs (by omega) hP hD hS (by rw [bitS_f h45]; exact lv_sub hl [2, 3, 1, 0] rfl))
      · refine lv_iconst (v := 1) hx hb dX2_plan_48 (by decide) ?_
        refine lv_iload_n hx hb dX2_plan_49 rfl (lv_at hl 3 rfl) ?_
        refine lv_ishl hx hb dX2_plan_50 ?_
        refine lv_goto (tgt := 55) hx hb dX2_plan_51 (by decide) ?_
        refine lv_ior hx hb dX2_plan_55 ?_
        refine lv_istore_n (lv' := [(2, .int ((bitS (plS td n M L b X L.length).2 k) ||| (1 <<< (nI k &&& 31)))), (0, .ref (qm 0)), (1, .int (nI b)), (3, .int (nI k))]) hx hb dX2_plan_56 rfl hl (by decide) rfl (fun ls hl => ?_)
        refine lv_iinc (v := nI (k + 1)) (lv' := [(3, .int (nI (k + 1))), (2, .int ((bitS (plS td n M L b X L.length).2 k) ||| (1 <<< (nI k &&& 31)))), (0, .ref (qm 0)), (1, .int (nI b))]) hx hb dX2_plan_57 hl (k := 3) rfl (kinc k) (by decide) rfl (fun ls hl => ?_)
        refine lv_goto (tgt := 30) hx hb dX2_plan_60 (by decide) ?_
        exact (ih (k + 1)  ls H locs (by omega) hP hD hS (by rw [bitS_t h45]; exact lv_sub hl [2, 3, 1, 0] rfl))
  refine LOOP _ (fun  ls H locs hP hD hS hl => ?_) n 0  ls _ _ (by omega) hP hD hS (lv_sub hl [2, 3, 1, 0] rfl)
  refine lv_iload_n hx hb dX2_plan_63 rfl (lv_at hl 2 rfl) ?_
  exact kr_i hx hb hr hlocks hP hD hS (Nat.zero_le _) (Nat.zero_le _) (⟨rfl, rfl⟩) dX2_plan_64
set_option maxHeartbeats 4000000 in
set_option maxRecDepth 100000 in
theorem c_X2_clear_1 {l : Launch} {K : Ks} {A : Nat → Prop} {qm : Nat → Nat} {td nb th : Int32} {M X : Nat → Nat → Int32} {x : Int32} (hx4 : ixBad 4 x) : Met l yX2_clear wsX2_clear (kR 3 0 0) (kPr K A [.ref (qm 0), .int x] (Mfix K qm td nb th M X)) (kQi K A (fun _ w => w = Mfix K qm td nb 1 M X)) 0 0 A := by
  refine kent (cc := cX2_clear) (maxL := 6) (ret := (some .int)) (by decide) rfl (Nat.le_of_ble_eq_true rfl) ?_
  intro p e s m args below meth c ls hx hb hr hts hown hlocks hml hini hG hP hD hS hl
  have hinX2 : ∀ x ∈ wsX20, x ∈ wsX2_clear := by decide +kernel
  have hl : lv_has ls 6 [(0, .ref (qm 0)), (1, .int x)] := hl
  refine lv_aload_n hx hb dX2_clear_0 rfl (lv_at hl 0 rfl) ?_
  refine lv_iload_n hx hb dX2_clear_1 rfl (lv_at hl 1 rfl) ?_
  refine kc_i (va_runS (As := [.int x]) (rest := [.ref (qm 0)]) ⟨hx, hb, hml, hown, hts⟩ (c_X2_isBuyer (z := 0) (bi_f (ix4b hx4)).symm) (va_cwS 1 hts gX2_clear_X2_isBuyer rfl rfl rfl (by decide +kernel) ⟨Nat.le_of_ble_eq_true rfl, Nat.le_of_ble_eq_true rfl⟩) (kps hG hP hD hS) rfl rfl hl.1 rfl (lv_room (Nat.le_of_ble_eq_true rfl)) dX2_clear_2 ⟨Nat.le_of_ble_eq_true rfl, Nat.le_of_ble_eq_true rfl⟩) hS (fun r2 w H locs hp hP hD hS => ?_)
  rw [hp.2] at hP hD
  rw [hp.1]
  refine lv_if_eq (tgt := 12) hx hb dX2_clear_5 (by decide) (fun h5 => ?_) (fun h5 => False.elim (absurd rfl h5))
  refine lv_iconst (v := 1) hx hb dX2_clear_12 (by decide) ?_
  refine kc_i (va_runV (As := [.int 1]) (rest := []) ⟨hx, hb, hml, hown, hts⟩ (c_X2_fails (x := 1) (z := 1) (by decide)) (cwV 1 hts gX2_clear_X2_fails rfl rfl rfl (by decide +kernel) ⟨Nat.le_of_ble_eq_true rfl, Nat.le_of_ble_eq_true rfl⟩) (kpv (q0 := 0) hG hP hD hS rfl rfl) rfl rfl hl.1 rfl (lv_room (Nat.le_of_ble_eq_true rfl)) dX2_clear_13 ⟨Nat.le_of_ble_eq_true rfl, Nat.le_of_ble_eq_true rfl⟩) hS (fun r13 w H locs hp hP hD hS => ?_)
  rw [hp.2] at hP hD
  rw [hp.1]
  refine lv_if_eq (tgt := 21) hx hb dX2_clear_16 (by decide) (fun h16 => False.elim (absurd h16 (by decide))) (fun h16 => ?_)
  refine lv_iconst (v := 0) hx hb dX2_clear_19 (by decide) ?_
  exact kr_i hx hb hr hlocks hP hD hS (Nat.zero_le _) (Nat.zero_le _) (rfl) dX2_clear_20
set_option maxHeartbeats 4000000 in
set_option maxRecDepth 100000 in
theorem c_X2_clear_ok {l : Launch} {K : Ks} {A : Nat → Prop} {qm : Nat → Nat} {td th : Int32} {M X : Nat → Nat → Int32} {n b : Nat} {L : List Nat} (hn : n ≤ 30) (hx4 : b < 4) (hok : ∀ j, j < n → okP M j) (hL : ∀ k, k < L.length → ix L k < n) (hc0 : nxB td M b none n = L[0]?) (hch0 : ∀ k, k < L.length → nxB td M b (some (ix L k)) n = L[k + 1]?) (hch1 : ∀ k, k < L.length → nxB td (clR td M L b ((plS td n M L b X L.length).2) k).1 b (some (ix L k)) n = L[k + 1]?) : Met l yX2_clear wsX2_clear (kR 3 0 0) (kPr K A [.ref (qm 0), .int (nI b)] (Mfix K qm td (nI n) th M X)) (kQi K A (fun r w => r = (clR td M L b ((plS td n M L b X L.length).2) L.length).2 ∧ w = Mfix K qm td (nI n) 0 (clR td M L b ((plS td n M L b X L.length).2) L.length).1 ((plS td n M L b X L.length).2))) 0 0 A := by
  refine kent (cc := cX2_clear) (maxL := 6) (ret := (some .int)) (by decide) rfl (Nat.le_of_ble_eq_true rfl) ?_
  intro p e s m args below meth c ls hx hb hr hts hown hlocks hml hini hG hP hD hS hl
  have hinX2 : ∀ x ∈ wsX20, x ∈ wsX2_clear := by decide +kernel
  have hl : lv_has ls 6 [(0, .ref (qm 0)), (1, .int (nI b))] := hl
  have hch : ∀ k, k < L.length → nxB td M b (some (ix L k)) n = L[k + 1]? := hch0
  refine lv_aload_n hx hb dX2_clear_0 rfl (lv_at hl 0 rfl) ?_
  refine lv_iload_n hx hb dX2_clear_1 rfl (lv_at hl 1 rfl) ?_
  refine kc_i (va_runS (As := [.int (nI b)]) (rest := [.ref (qm 0)]) ⟨hx, hb, hml, hown, hts⟩ (c_X2_isBuyer (z := 1) (bi_t (ix4 hx4)).symm) (va_cwS 1 hts gX2_clear_X2_isBuyer rfl rfl rfl (by decide +kernel) ⟨Nat.le_of_ble_eq_true rfl, Nat.le_of_ble_eq_true rfl⟩) (kps hG hP hD hS) rfl rfl hl.1 rfl (lv_room (Nat.le_of_ble_eq_true rfl)) dX2_clear_2 ⟨Nat.le_of_ble_eq_true rfl, Nat.le_of_ble_eq_true rfl⟩) hS (fun r2 w H locs hp hP hD hS => ?_)
  rw [hp.2] at hP hD
  rw [hp.1]
  refine lv_if_eq (tgt := 12) hx hb dX2_clear_5 (by decide) (fun h5 => False.elim (absurd h5 (by decide))) (fun h5 => ?_)
  refine lv_iconst (v := 0) hx hb dX2_clear_8 (by decide) ?_
  refine lv_goto (tgt := 13) hx hb dX2_clear_9 (by decide) ?_
  refine kc_i (va_runV (As := [.int 0]) (rest := []) ⟨hx, hb, hml, hown, hts⟩ (c_X2_fails (x := 0) (z := 0) (by decide)) (cwV 1 hts gX2_clear_X2_fails rfl rfl rfl (by decide +kernel) ⟨Nat.le_of_ble_eq_true rfl, Nat.le_of_ble_eq_true rfl⟩) (kpv (q0 := 0) hG hP hD hS rfl rfl) rfl rfl hl.1 rfl (lv_room (Nat.le_of_ble_eq_true rfl)) dX2_clear_13 ⟨Nat.le_of_ble_eq_true rfl, Nat.le_of_ble_eq_true rfl⟩) hS (fun r13 w H locs hp hP hD hS => ?_)
  rw [hp.2] at hP hD
  rw [hp.1]
  refine lv_if_eq (tgt := 21) hx hb dX2_clear_16 (by decide) (fun h16 => ?_) (fun h16 => False.elim (absurd rfl h16))
  refine lv_aload_n hx hb dX2_clear_21 rfl (lv_at hl 0 rfl) ?_
  refine lv_iload_n hx hb dX2_clear_22 rfl (lv_at hl 1 rfl) ?_
  refine kc_v (va_runV (As := [.int (nI b)]) (rest := []) ⟨hx, hb, hml, hown, hts⟩ (c_X2_plans hn hx4 hok hL hc0 hch) (cwV 1 hts gX2_clear_X2_plans rfl rfl rfl (by decide +kernel) ⟨Nat.le_of_ble_eq_true rfl, Nat.le_of_ble_eq_true rfl⟩) (kpv (q0 := 0) hG hP hD hS rfl rfl) rfl rfl hl.1 rfl (lv_room (Nat.le_of_ble_eq_true rfl)) dX2_clear_23 ⟨Nat.le_of_ble_eq_true rfl, Nat.le_of_ble_eq_true rfl⟩) hS (fun w H locs hp hP hD hS => ?_)
  rw [hp] at hP hD
  refine lv_iconst (v := 0) hx hb dX2_clear_26 (by decide) ?_
  refine lv_istore_n (lv' := [(2, .int 0), (0, .ref (qm 0)), (1, .int (nI b))]) hx hb dX2_clear_27 rfl hl (by decide) rfl (fun ls hl => ?_)
  refine lv_aload_n hx hb dX2_clear_28 rfl (lv_at hl 1 rfl) ?_
  refine lv_iload_n hx hb dX2_clear_29 rfl (lv_at hl 2 rfl) ?_
  refine lv_iconst (v := (-1)) hx hb dX2_clear_30 (by decide) ?_
  refine kc_i (va_runV (As := [.int (nI b), .int (-1)]) (rest := []) ⟨hx, hb, hml, hown, hts⟩ (c_X2_next_n hn) (cwV 2 hts gX2_clear_X2_next rfl rfl rfl (by decide +kernel) ⟨Nat.le_of_ble_eq_true rfl, Nat.le_of_ble_eq_true rfl⟩) (kpv (q0 := 0) hG hP hD hS rfl rfl) rfl rfl hl.1 rfl (lv_room (Nat.le_of_ble_eq_true rfl)) dX2_clear_31 ⟨Nat.le_of_ble_eq_true rfl, Nat.le_of_ble_eq_true rfl⟩) hS (fun r31 w H locs hp hP hD hS => ?_)
  rw [hp.2] at hP hD
  rw [hp.1, hc0]
  refine lv_istore_n (lv' := [(3, .int (enc (L[0]?))), (2, .int 0), (0, .ref (qm 0)), (1, .int (nI b))]) hx hb dX2_clear_34 rfl hl (by decide) rfl (fun ls hl => ?_)
  have LOOP : ∀ (Q' : State → Prop), (∀  (ls : Array Slot) (H : Heap) (locs : List Loc), va_P K.1 kCl (Mfix K qm td (nI n) 0 ((clR td M L b ((plS td n M L b X L.length).2) L.length).1) ((plS td n M L b X L.length).2)) H → va_D A (Mfix K qm td (nI n) 0 ((clR td M L b ((plS td n M L b X L.length).2) L.length).1) ((plS td n M L b X L.length).2)) → va_S A s.heap H locs → lv_has ls 6 [(0, .ref (qm 0)), (1, .int (nI b)), (2, .int ((clR td M L b ((plS td n M L b X L.length).2) L.length).2)), (3, .int (enc (L[L.length]?)))] → W p l e (kR 3 0 0) s m args below meth c H locs 0 0 Q' (F0 m 97 ls [])) → ∀ (d k : Nat)  (ls : Array Slot) (H : Heap) (locs : List Loc), k + d = L.length → va_P K.1 kCl (Mfix K qm td (nI n) 0 ((clR td M L b ((plS td n M L b X L.length).2) k).1) ((plS td n M L b X L.length).2)) H → va_D A (Mfix K qm td (nI n) 0 ((clR td M L b ((plS td n M L b X L.length).2) k).1) ((plS td n M L b X L.length).2)) → va_S A s.heap H locs → lv_has ls 6 [(0, .ref (qm 0)), (1, .int (nI b)), (2, .int ((clR td M L b ((plS td n M L b X L.length).2) k).2)), (3, .int (enc (L[k]?)))] → W p l e (kR 3 0 0) s m args below meth c H locs 0 0 Q' (F0 m 35 ls []) := by
    intro Q' kx d
    induction d with
    | zero =>
      intro k  ls H locs hk hP hD hS hl
      have hk2 : k = L.length := by omega
      refine lv_iload_n hx hb dX2_clear_35 rfl (lv_at hl 3 rfl) ?_
      refine lv_iconst (v := (-1)) hx hb dX2_clear_36 (by decide) ?_
      refine lv_icmp_eq (tgt := 97) hx hb dX2_clear_37 (by decide) (fun h37 => ?_) (fun h37 => False.elim (h37 (by rw [hk2, List.getElem?_eq_none (Nat.le_refl _)]; rfl)))
      have hk3 : L.length = k := hk2.symm
      subst hk3
      exact kx  ls H locs hP hD hS (lv_sub hl [0, 1, 2, 3] rfl)
    | succ d ih =>
      intro k  ls H locs hk hP hD hS hl
      have hk2 : k < L.length := by omega
      rw [ix_at hk2] at hl
      have hl : lv_has ls 6 [(0, .ref (qm 0)), (1, .int (nI b)), (2, .int ((clR td M L b ((plS td n M L b X L.length).2) k).2)), (3, .int (nI (ix L k)))] := hl
      refine lv_iload_n hx hb dX2_clear_35 rfl (lv_at hl 3 rfl) ?_
      refine lv_iconst (v := (-1)) hx hb dX2_clear_36 (by decide) ?_
      refine lv_icmp_eq (tgt := 97) hx hb dX2_clear_37 (by decide) (fun h37 => False.elim (nI_ne1 (by have := hL k hk2; omega) h37)) (fun h37 => ?_)
      refine lv_aload_n hx hb dX2_clear_40 rfl (lv_at hl 0 rfl) ?_
      refine lv_iload_n hx hb dX2_clear_41 rfl (lv_at hl 1 rfl) ?_
      refine lv_iload_n hx hb dX2_clear_42 rfl (lv_at hl 3 rfl) ?_
      refine kc_i (va_runV (As := [.int (nI b), .int (nI (ix L k))]) (rest := []) ⟨hx, hb, hml, hown, hts⟩ (c_X2_next_s (M := (clR td M L b ((plS td n M L b X L.length).2) k).1) hn (by have := hL k hk2; omega)) (cwV 2 hts gX2_clear_X2_next rfl rfl rfl (by decide +kernel) ⟨Nat.le_of_ble_eq_true rfl, Nat.le_of_ble_eq_true rfl⟩) (kpv (q0 := 0) hG hP hD hS rfl rfl) rfl rfl hl.1 rfl (lv_room (Nat.le_of_ble_eq_true rfl)) dX2_clear_43 ⟨Nat.le_of_ble_eq_true rfl, Nat.le_of_ble_eq_true rfl⟩) hS (fun r43 w H locs hp hP hD hS => ?_)
      rw [hp.2] at hP hD
      rw [hp.1, hch1 k hk2]
      refine lv_istore (lv' := [(4, .int (enc (L[k + 1]?))), (0, .ref (qm 0)), (1, .int (nI b)), (2, .int ((clR td M L b ((plS td n M L b X L.length).2) k).2)), (3, .int (nI (ix L k)))]) hx hb dX2_clear_46 hl (by decide) rfl (fun ls hl => ?_)
      refine lv_aload_n hx hb dX2_clear_48 rfl (lv_at hl 1 rfl) ?_
      refine kget (ci := 3) (C := RX2) (T := TX2) (N := 18) hx hb hts hown hG hP 0 rfl rfl hinX2 14 (by decide) (by decide +kernel) rfl dX2_clear_49 ?_
      refine lv_iload_n hx hb dX2_clear_52 rfl (lv_at hl 4 rfl) ?_
      refine kzald (n := 30) (j := (ix L k)) hx hb hG hP 13 rfl (by have := hL k hk2; omega) (by decide) dX2_clear_53 ?_
      refine lv_if_eq (tgt := 91) hx hb dX2_clear_54 (by decide) (fun h54 => ?_) (fun h54 => ?_)
      · refine lv_iload hx hb dX2_clear_91 (lv_at hl 0 rfl) ?_
        refine lv_istore_n (lv' := [(3, .int (enc (L[k + 1]?))), (4, .int (enc (L[k + 1]?))), (0, .ref (qm 0)), (1, .int (nI b)), (2, .int ((clR td M L b ((plS td n M L b X L.length).2) k).2))]) hx hb dX2_clear_93 rfl hl (by decide) rfl (fun ls hl => ?_)
        refine lv_goto (tgt := 35) hx hb dX2_clear_94 (by decide) ?_
        exact (ih (k + 1)  ls H locs (by omega) (by rw [clR_f h54]; exact hP) (by rw [clR_f h54]; exact hD) hS (by rw [clR_f h54]; exact lv_sub hl [2, 3, 4, 0] rfl))
      · refine lv_aload_n hx hb dX2_clear_57 rfl (lv_at hl 1 rfl) ?_
        refine lv_iload_n hx hb dX2_clear_58 rfl (lv_at hl 4 rfl) ?_
        refine kc_i (va_runV (As := [.int (nI (ix L k))]) (rest := []) ⟨hx, hb, hml, hown, hts⟩ (c_X2_price (M := (clR td M L b ((plS td n M L b X L.length).2) k).1) (by have := hL k hk2; omega)) (cwV 1 hts gX2_clear_X2_price rfl rfl rfl (by decide +kernel) ⟨Nat.le_of_ble_eq_true rfl, Nat.le_of_ble_eq_true rfl⟩) (kpv (q0 := 0) hG hP hD hS rfl rfl) rfl rfl hl.1 rfl (lv_room (Nat.le_of_ble_eq_true rfl)) dX2_clear_59 ⟨Nat.le_of_ble_eq_true rfl, Nat.le_of_ble_eq_true rfl⟩) hS (fun r59 w H locs hp hP hD hS => ?_)
        rw [hp.2] at hP hD
        rw [hp.1]
        refine lv_istore (lv' := [(5, .int (price td ((clR td M L b ((plS td n M L b X L.length).2) k).1) (ix L k))), (4, .int (enc (L[k + 1]?))), (0, .ref (qm 0)), (1, .int (nI b)), (2, .int ((clR td M L b ((plS td n M L b X L.length).2) k).2)), (3, .int (nI (ix L k)))]) hx hb dX2_clear_62 hl (by decide) rfl (fun ls hl => ?_)
        refine lv_iload_n hx hb dX2_clear_64 rfl (lv_at hl 4 rfl) ?_
        refine lv_aload_n hx hb dX2_clear_65 rfl (lv_at hl 2 rfl) ?_
        refine lv_iload_n hx hb dX2_clear_66 rfl (lv_at hl 5 rfl) ?_
        refine kc_i (va_runV (As := [.int (nI (ix L k))]) (rest := [.int ((clR td M L b ((plS td n M L b X L.length).2) k).2)]) ⟨hx, hb, hml, hown, hts⟩ (c_X2_discount (M := (clR td M L b ((plS td n M L b X L.length).2) k).1) (by have := hL k hk2; omega)) (cwV 1 hts gX2_clear_X2_discount rfl rfl rfl (by decide +kernel) ⟨Nat.le_of_ble_eq_true rfl, Nat.le_of_ble_eq_true rfl⟩) (kpv (q0 := 0) hG hP hD hS rfl rfl) rfl rfl hl.1 rfl (lv_room (Nat.le_of_ble_eq_true rfl)) dX2_clear_67 ⟨Nat.le_of_ble_eq_true rfl, Nat.le_of_ble_eq_true rfl⟩) hS (fun r67 w H locs hp hP hD hS => ?_)
        rw [hp.2] at hP hD
        rw [hp.1]
        refine lv_iadd hx hb dX2_clear_70 ?_
        refine lv_istore_n (lv' := [(2, .int ((clR td M L b ((plS td n M L b X L.length).2) k).2 + (disc td ((clR td M L b ((plS td n M L b X L.length).2) k).1) (ix L k)))), (5, .int (price td ((clR td M L b ((plS td n M L b X L.length).2) k).1) (ix L k))), (4, .int (enc (L[k + 1]?))), (0, .ref (qm 0)), (1, .int (nI b)), (3, .int (nI (ix L k)))]) hx hb dX2_clear_71 rfl hl (by decide) rfl (fun ls hl => ?_)
        refine lv_aload_n hx hb dX2_clear_72 rfl (lv_at hl 3 rfl) ?_
        refine kget (ci := 3) (C := RX2) (T := TX2) (N := 18) hx hb hts hown hG hP 0 rfl rfl hinX2 11 (by decide) (by decide +kernel) rfl dX2_clear_73 ?_
        refine lv_iload_n hx hb dX2_clear_76 rfl (lv_at hl 4 rfl) ?_
        refine lv_dup2_11 hx hb dX2_clear_77 rfl rfl ?_
        refine kiald (n := 4) (j := b) hx hb hG hP 10 rfl hx4 (by decide) dX2_clear_78 ?_
        refine lv_iload hx hb dX2_clear_79 (lv_at hl 1 rfl) ?_
        refine lv_isub hx hb dX2_clear_81 ?_
        refine kiast (n := 4) (j := b) hx hb hG hP hD hS 10 rfl hx4 (by decide) dX2_clear_82 (fun H locs hP hD hS => ?_)
        have hP : va_P K.1 kCl (Mfix K qm td (nI n) 0 (up2 ((clR td M L b ((plS td n M L b X L.length).2) k).1) 11 b ((((clR td M L b ((plS td n M L b X L.length).2) k).1) 11 b) - (price td ((clR td M L b ((plS td n M L b X L.length).2) k).1) (ix L k)))) ((plS td n M L b X L.length).2)) H := hP
        have hD : va_D A (Mfix K qm td (nI n) 0 (up2 ((clR td M L b ((plS td n M L b X L.length).2) k).1) 11 b ((((clR td M L b ((plS td n M L b X L.length).2) k).1) 11 b) - (price td ((clR td M L b ((plS td n M L b X L.length).2) k).1) (ix L k)))) ((plS td n M L b X L.length).2)) := hD
        refine lv_aload_n hx hb dX2_clear_83 rfl (lv_at hl 3 rfl) ?_
        refine lv_iload_n hx hb dX2_clear_84 rfl (lv_at hl 5 rfl) ?_
        refine lv_iload hx hb dX2_clear_85 (lv_at hl 1 rfl) ?_
        refine lv_iconst (v := 3) hx hb dX2_clear_87 (by decide) ?_
        refine kc_v (va_runV (As := [.int (nI (ix L k)), .int (price td ((clR td M L b ((plS td n M L b X L.length).2) k).1) (ix L k)), .int 3]) (rest := []) ⟨hx, hb, hml, hown, hts⟩ (c_X2_pays (M := (up2 ((clR td M L b ((plS td n M L b X L.length).2) k).1) 11 b (((clR td M L b ((plS td n M L b X L.length).2) k).1) 11 b - price td ((clR td M L b ((plS td n M L b X L.length).2) k).1) (ix L k)))) (by have := hL k hk2; omega) (okP_of (N := (up2 ((clR td M L b ((plS td n M L b X L.length).2) k).1) 11 b (((clR td M L b ((plS td n M L b X L.length).2) k).1) 11 b - price td ((clR td M L b ((plS td n M L b X L.length).2) k).1) (ix L k)))) rfl rfl (okP_clR (hok _ (hL k hk2))))) (cwV 3 hts gX2_clear_X2_pays rfl rfl rfl (by decide +kernel) ⟨Nat.le_of_ble_eq_true rfl, Nat.le_of_ble_eq_true rfl⟩) (kpv (q0 := 0) hG hP hD hS rfl rfl) rfl rfl hl.1 rfl (lv_room (Nat.le_of_ble_eq_true rfl)) dX2_clear_88 ⟨Nat.le_of_ble_eq_true rfl, Nat.le_of_ble_eq_true rfl⟩) hS (fun w H locs hp hP hD hS => ?_)
        rw [hp] at hP hD
        refine lv_iload hx hb dX2_clear_91 (lv_at hl 2 rfl) ?_
        refine lv_istore_n (lv' := [(3, .int (enc (L[k + 1]?))), (2, .int ((clR td M L b ((plS td n M L b X L.length).2) k).2 + (disc td ((clR td M L b ((plS td n M L b X L.length).2) k).1) (ix L k)))), (5, .int (price td ((clR td M L b ((plS td n M L b X L.length).2) k).1) (ix L k))), (4, .int (enc (L[k + 1]?))), (0, .ref (qm 0)), (1, .int (nI b))]) hx hb dX2_clear_93 rfl hl (by decide) rfl (fun ls hl => ?_)
        refine lv_goto (tgt := 35) hx hb dX2_clear_94 (by decide) ?_
        exact (ih (k + 1)  ls H locs (by omega) (by rw [clR_t h54]; exact hP) (by rw [clR_t h54]; exact hD) hS (by rw [clR_t h54]; exact lv_sub hl [4, 5, 1, 0] rfl))
  refine LOOP _ (fun  ls H locs hP hD hS hl => ?_) L.length 0  ls _ _ (by omega) hP hD hS (lv_sub hl [2, 3, 1, 0] rfl)
  refine lv_iload_n hx hb dX2_clear_97 rfl (lv_at hl 2 rfl) ?_
  exact kr_i hx hb hr hlocks hP hD hS (Nat.zero_le _) (Nat.zero_le _) (⟨rfl, rfl⟩) dX2_clear_98
