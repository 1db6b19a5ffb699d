/-! The reference, 7: most -/
theorem shl_12 : ∀ c, c < 13 → (1 : Int32) <<< (nI c &&& 31) = nI (2 ^ c) := by decide +kernel
theorem bi_c1 {c : Bool} (h : ¬ bi c = 0) : c = true := bi_n0.mp h
theorem bi_c0 {c : Bool} (h : bi c = 0) : ¬ c = true := by rw [bi_0.mp h]; decide
/-- the work space with other sums -/
def brX (X : Nat → Nat → Int32) (sp : Nat → Int32) : Nat → Nat → Int32 := va_up X 15 sp
theorem brX_up {X : Nat → Nat → Int32} {sp : Nat → Int32} {o : Nat} {v : Int32} : up2 (brX X sp) 15 o v = brX X (upd sp o v) := by
  funext f
  by_cases h : f = 15
  · subst h; simp [up2, brX, va_up]
  · simp [up2, brX, va_up, h]
theorem brX_s {X : Nat → Nat → Int32} {k : Nat} : up2 (brX X (flU (X 15) 0 k)) 15 k 0 = brX X (flU (X 15) 0 (k + 1)) := brX_up
theorem brX_0 {X : Nat → Nat → Int32} : brX X (X 15) = X := by
  funext f
  by_cases h : f = 15
  · subst h; simp [brX, va_up]
  · simp [brX, va_up, h]
/-- a set of offers, the first k gone through: discounts, prices, whether all suppliers' sums fit, the sums -/
def brS (td : Int32) (n : Nat) (M : Nat → Nat → Int32) (b : Nat) (O : List Nat) (v : Nat) (sp0 : Nat → Int32) : Nat → Int32 × Int32 × Bool × (Nat → Int32)
  | 0 => (0, 0, true, sp0)
  | k + 1 => if (nI v >>> (nI k &&& 31)) &&& 1 = 1 then
      ((brS td n M b O v sp0 k).1 + disc td M (ix O k), (brS td n M b O v sp0 k).2.1 + price td M (ix O k),
        ((brS td n M b O v sp0 k).2.2.1 && decide (¬ loM td M b (su M (ix O k)) n < upd (brS td n M b O v sp0 k).2.2.2 (su M (ix O k)) ((brS td n M b O v sp0 k).2.2.2 (su M (ix O k)) + price td M (ix O k)) (su M (ix O k)))),
        upd (brS td n M b O v sp0 k).2.2.2 (su M (ix O k)) ((brS td n M b O v sp0 k).2.2.2 (su M (ix O k)) + price td M (ix O k)))
    else brS td n M b O v sp0 k
section BRS
variable {td : Int32} {n : Nat} {M : Nat → Nat → Int32} {b : Nat} {O : List Nat} {v : Nat} {sp0 : Nat → Int32} {k : Nat}
theorem brS_f (h : ¬ (nI v >>> (nI k &&& 31)) &&& 1 = 1) : brS td n M b O v sp0 (k + 1) = brS td n M b O v sp0 k := if_neg h
theorem brS_t (h : (nI v >>> (nI k &&& 31)) &&& 1 = 1) : brS td n M b O v sp0 (k + 1) = ((brS td n M b O v sp0 k).1 + disc td M (ix O k), (brS td n M b O v sp0 k).2.1 + price td M (ix O k),
        ((brS td n M b O v sp0 k).2.2.1 && decide (¬ loM td M b (su M (ix O k)) n < upd (brS td n M b O v sp0 k).2.2.2 (su M (ix O k)) ((brS td n M b O v sp0 k).2.2.2 (su M (ix O k)) + price td M (ix O k)) (su M (ix O k)))),
        upd (brS td n M b O v sp0 k).2.2.2 (su M (ix O k)) ((brS td n M b O v sp0 k).2.2.2 (su M (ix O k)) + price td M (ix O k))) := if_pos h
theorem brS_1 (h : (nI v >>> (nI k &&& 31)) &&& 1 = 1) (hc : (brS td n M b O v sp0 k).2.2.1 = true) (hl : ¬ loM td M b (su M (ix O k)) n < upd (brS td n M b O v sp0 k).2.2.2 (su M (ix O k)) ((brS td n M b O v sp0 k).2.2.2 (su M (ix O k)) + price td M (ix O k)) (su M (ix O k))) : brS td n M b O v sp0 (k + 1) = ((brS td n M b O v sp0 k).1 + disc td M (ix O k), (brS td n M b O v sp0 k).2.1 + price td M (ix O k), true,
        upd (brS td n M b O v sp0 k).2.2.2 (su M (ix O k)) ((brS td n M b O v sp0 k).2.2.2 (su M (ix O k)) + price td M (ix O k))) := by rw [brS_t h, hc, decide_eq_true hl]; rfl
theorem brS_0 (h : (nI v >>> (nI k &&& 31)) &&& 1 = 1) (hc : ¬ (brS td n M b O v sp0 k).2.2.1 = true ∨ loM td M b (su M (ix O k)) n < upd (brS td n M b O v sp0 k).2.2.2 (su M (ix O k)) ((brS td n M b O v sp0 k).2.2.2 (su M (ix O k)) + price td M (ix O k)) (su M (ix O k))) : brS td n M b O v sp0 (k + 1) = ((brS td n M b O v sp0 k).1 + disc td M (ix O k), (brS td n M b O v sp0 k).2.1 + price td M (ix O k), false,
        upd (brS td n M b O v sp0 k).2.2.2 (su M (ix O k)) ((brS td n M b O v sp0 k).2.2.2 (su M (ix O k)) + price td M (ix O k))) := by
  rw [brS_t h]
  rcases hc with hc | hc
  · rw [Bool.eq_false_iff.mpr hc]; rfl
  · rw [decide_eq_false (fun q => q hc), Bool.and_false]
/-- what a set brings: its discounts, or -1 if it does not fit -/
def brR (td : Int32) (n : Nat) (M : Nat → Nat → Int32) (b : Nat) (O : List Nat) (sp0 : Nat → Int32) (v : Nat) : Int32 := if (brS td n M b O v sp0 O.length).2.2.1 = true ∧ ¬ M 11 b < (brS td n M b O v sp0 O.length).2.1 then (brS td n M b O v sp0 O.length).1 else -1
theorem brR_t (h1 : (brS td n M b O v sp0 O.length).2.2.1 = true) (h2 : ¬ M 11 b < (brS td n M b O v sp0 O.length).2.1) : brR td n M b O sp0 v = (brS td n M b O v sp0 O.length).1 := if_pos ⟨h1, h2⟩
theorem brR_f (h : ¬ ((brS td n M b O v sp0 O.length).2.2.1 = true ∧ ¬ M 11 b < (brS td n M b O v sp0 O.length).2.1)) : brR td n M b O sp0 v = -1 := if_neg h
theorem brS_sp {s1 : Nat → Int32} (hs : ∀ k, k < O.length → su M (ix O k) < 8) (he : ∀ o, o < 8 → sp0 o = s1 o) : ∀ k, k ≤ O.length → (brS td n M b O v sp0 k).1 = (brS td n M b O v s1 k).1 ∧ (brS td n M b O v sp0 k).2.1 = (brS td n M b O v s1 k).2.1 ∧ (brS td n M b O v sp0 k).2.2.1 = (brS td n M b O v s1 k).2.2.1 ∧ ∀ o, o < 8 → (brS td n M b O v sp0 k).2.2.2 o = (brS td n M b O v s1 k).2.2.2 o
  | 0, _ => ⟨rfl, rfl, rfl, he⟩
  | k + 1, hk => by
    obtain ⟨h1, h2, h3, h4⟩ := brS_sp hs he k (by omega)
    have e := h4 _ (hs k (by omega))
    by_cases hc : (nI v >>> (nI k &&& 31)) &&& 1 = 1
    · rw [brS_t hc, brS_t hc]
      refine ⟨by rw [h1], by rw [h2], ?_, fun o ho => ?_⟩
      · show (_ && _) = (_ && _)
        rw [h3]
        simp only [upd, if_true, e]
      · show upd _ _ _ o = upd _ _ _ o
        by_cases h9 : o = su M (ix O k)
        · simp [upd, h9, e]
        · simp [upd, h9, h4 o ho]
    · rw [brS_f hc, brS_f hc]
      exact ⟨h1, h2, h3, h4⟩
theorem flU_at (f : Nat → Int32) (c : Int32) : ∀ k o, flU f c k o = if o < k then c else f o
  | 0, o => by simp [flU]
  | k + 1, o => by
    rw [← flU_s]
    by_cases h : o = k
    · subst h; simp [upd]
    · simp only [upd, if_neg h, flU_at f c k o]
      by_cases h2 : o < k
      · rw [if_pos h2, if_pos (by omega)]
      · rw [if_neg h2, if_neg (by omega)]
theorem brR_sp {X : Nat → Nat → Int32} (hok : ∀ j, j < n → okP M j) (hOn : ∀ k, k < O.length → ix O k < n) (sp : Nat → Int32) (hsp : sp = flU (X 15) 0 8 := by rfl) : brR td n M b O sp v = brR td n M b O (fun _ => 0) v := by
  obtain ⟨h1, h2, h3, -⟩ := brS_sp (td := td) (n := n) (M := M) (b := b) (O := O) (v := v) (sp0 := sp) (s1 := fun _ => 0) (fun k hk => (hok _ (hOn k hk)).2.2.2) (fun o ho => by rw [hsp, flU_at, if_pos ho]) O.length (Nat.le_refl _)
  unfold brR
  rw [h1, h2, h3]
end BRS
/-- the greatest of what the sets 1 .. v bring, at least 0 -/
def bmS (f : Nat → Int32) : Nat → Int32
  | 0 => 0
  | v + 1 => if bmS f v < f (v + 1) then f (v + 1) else bmS f v
theorem bmS_t {f : Nat → Int32} {v : Nat} (h : ¬ f (v + 1) ≤ bmS f v) : bmS f (v + 1) = f (v + 1) := if_pos (i32_nle.mp h)
theorem bmS_f {f : Nat → Int32} {v : Nat} (h : f (v + 1) ≤ bmS f v) : bmS f (v + 1) = bmS f v := if_neg (i32_nlt.mpr h)
/-- the offers by rising numbers; the work space that holds the first twelve -/
def ofL (td : Int32) (M : Nat → Nat → Int32) (b : Nat) : Nat → List Nat
  | 0 => []
  | j + 1 => if offM td M b j then ofL td M b j ++ [j] else ofL td M b j
def ofX (td : Int32) (M : Nat → Nat → Int32) (b : Nat) (X : Nat → Nat → Int32) : Nat → Nat → Nat → Int32
  | 0 => X
  | j + 1 => if offM td M b j then (if (ofL td M b j).length < 12 then up2 (ofX td M b X j) 16 (ofL td M b j).length (nI j) else ofX td M b X j) else ofX td M b X j
section OFL
variable {td : Int32} {M : Nat → Nat → Int32} {b j : Nat} {X : Nat → Nat → Int32}
theorem ofL_t (h : offM td M b j) : ofL td M b (j + 1) = ofL td M b j ++ [j] := if_pos h
theorem ofL_f (h : ¬ offM td M b j) : ofL td M b (j + 1) = ofL td M b j := if_neg h
theorem ofX_f (h : ¬ offM td M b j) : ofX td M b X (j + 1) = ofX td M b X j := if_neg h
theorem ofX_t (h : offM td M b j) (hc : (ofL td M b j).length < 12) : ofX td M b X (j + 1) = up2 (ofX td M b X j) 16 (ofL td M b j).length (nI j) := by rw [ofX, if_pos h, if_pos hc]
theorem ofX_g (h : offM td M b j) (hc : ¬ (ofL td M b j).length < 12) : ofX td M b X (j + 1) = ofX td M b X j := by rw [ofX, if_pos h, if_neg hc]
theorem ofL_len (td : Int32) (M : Nat → Nat → Int32) (b : Nat) : ∀ j, (ofL td M b j).length ≤ j
  | 0 => Nat.le_refl _
  | j + 1 => by
    have ih := ofL_len td M b j
    unfold ofL
    split
    · rw [List.length_append]; show (ofL td M b j).length + 1 ≤ j + 1; omega
    · omega
theorem ofL_lt {i : Nat} : ∀ {j}, i ∈ ofL td M b j → i < j
  | 0, h => by simp [ofL] at h
  | j + 1, h => by
    unfold ofL at h
    split at h
    · rcases List.mem_append.mp h with h | h
      · have := ofL_lt h; omega
      · simp at h; omega
    · have := ofL_lt h; omega
theorem ofX_at : ∀ {j k : Nat}, (ofL td M b j).length ≤ 12 → k < (ofL td M b j).length → ofX td M b X j 16 k = nI (ix (ofL td M b j) k)
  | 0, k, _, h => by simp [ofL] at h
  | j + 1, k, h12, h => by
    by_cases hc : offM td M b j
    · rw [ofL_t hc] at h h12 ⊢
      rw [List.length_append] at h h12
      have hl : (ofL td M b j).length < 12 := by have : [j].length = 1 := rfl; omega
      rw [ofX_t hc hl]
      show upd (ofX td M b X j 16) _ _ k = _
      by_cases h9 : k = (ofL td M b j).length
      · subst h9
        simp [upd, ix]
      · have h8 : k < (ofL td M b j).length := by have : [j].length = 1 := rfl; omega
        have ih := ofX_at (j := j) (k := k) (by omega) h8
        simp only [upd, if_neg h9, ih]
        unfold ix
        rw [List.getD_eq_getElem?_getD, List.getD_eq_getElem?_getD, List.getElem?_append_left h8]
    · rw [ofL_f hc] at h h12 ⊢
      rw [ofX_f hc]
      exact ofX_at h12 h
end OFL
set_option maxHeartbeats 4000000 in
set_option maxRecDepth 100000 in
theorem c_X2_brings {l : Launch} {K : Ks} {A : Nat → Prop} {qm : Nat → Nat} {td th : Int32} {M X : Nat → Nat → Int32} {n b v : Nat} {O : List Nat} (hn : n ≤ 30) (hx4 : b < 4) (hok : ∀ j, j < n → okP M j) (hO : ∀ k, k < O.length → X 16 k = nI (ix O k)) (hOn : ∀ k, k < O.length → ix O k < n) (hO12 : O.length ≤ 12) : Met l yX2_brings wsX2_brings (kR 2 0 0) (kPr K A [.ref (qm 0), .int (nI b), .int (nI v), .int (nI O.length)] (Mfix K qm td (nI n) th M X)) (kQi K A (fun r w => r = brR td n M b O (fun _ => 0) v ∧ ∃ X1 : Nat → Nat → Int32, X1 16 = X 16 ∧ w = Mfix K qm td (nI n) th M X1)) 0 0 A := by
  refine kent (cc := cX2_brings) (maxL := 9) (ret := (some .int)) (by decide) rfl (Nat.le_of_ble_eq_true rfl) ?_
  intro p e s m args below meth c ls hx hb hr hts hown hlocks hml hini hG hP hD hS hl
  have hinX2 : ∀ x ∈ wsX20, x ∈ wsX2_brings := by decide +kernel
  have hl : lv_has ls 9 [(0, .ref (qm 0)), (1, .int (nI b)), (2, .int (nI v)), (3, .int (nI O.length))] := hl
  refine lv_iconst (v := 0) hx hb dX2_brings_0 (by decide) ?_
  refine lv_istore (lv' := [(4, .int 0), (0, .ref (qm 0)), (1, .int (nI b)), (2, .int (nI v)), (3, .int (nI O.length))]) hx hb dX2_brings_1 hl (by decide) rfl (fun ls hl => ?_)
  refine lv_iconst (v := 0) hx hb dX2_brings_3 (by decide) ?_
  refine lv_istore (lv' := [(5, .int 0), (4, .int 0), (0, .ref (qm 0)), (1, .int (nI b)), (2, .int (nI v)), (3, .int (nI O.length))]) hx hb dX2_brings_4 hl (by decide) rfl (fun ls hl => ?_)
  refine lv_iconst (v := 1) hx hb dX2_brings_6 (by decide) ?_
  refine lv_istore (lv' := [(6, .int 1), (5, .int 0), (4, .int 0), (0, .ref (qm 0)), (1, .int (nI b)), (2, .int (nI v)), (3, .int (nI O.length))]) hx hb dX2_brings_7 hl (by decide) rfl (fun ls hl => ?_)
  refine lv_iconst (v := 0) hx hb dX2_brings_9 (by decide) ?_
  refine lv_istore (lv' := [(7, .int 0), (6, .int 1), (5, .int 0), (4, .int 0), (0, .ref (qm 0)), (1, .int (nI b)), (2, .int (nI v)), (3, .int (nI O.length))]) hx hb dX2_brings_10 hl (by decide) rfl (fun ls hl => ?_)
  have hP : va_P K.1 kCl (Mfix K qm td (nI n) th M (brX X (flU (X 15) 0 0))) s.heap := by rw [show brX X (flU (X 15) 0 0) = X from brX_0]; exact hP
  have hD : va_D A (Mfix K qm td (nI n) th M (brX X (flU (X 15) 0 0))) := by rw [show brX X (flU (X 15) 0 0) = X from brX_0]; exact hD
  have LOOPA : ∀ (Q' : State → Prop), (∀  (ls : Array Slot) (H : Heap) (locs : List Loc), va_P K.1 kCl (Mfix K qm td (nI n) th M (brX X (flU (X 15) 0 8))) H → va_D A (Mfix K qm td (nI n) th M (brX X (flU (X 15) 0 8))) → va_S A s.heap H locs → lv_has ls 9 [(0, .ref (qm 0)), (1, .int (nI b)), (2, .int (nI v)), (3, .int (nI O.length)), (4, .int 0), (5, .int 0), (6, .int 1), (7, .int (nI 8))] → W p l e (kR 2 0 0) s m args below meth c H locs 0 0 Q' (F0 m 33 ls [])) → ∀ (d k : Nat)  (ls : Array Slot) (H : Heap) (locs : List Loc), k + d = 8 → va_P K.1 kCl (Mfix K qm td (nI n) th M (brX X (flU (X 15) 0 k))) H → va_D A (Mfix K qm td (nI n) th M (brX X (flU (X 15) 0 k))) → va_S A s.heap H locs → lv_has ls 9 [(0, .ref (qm 0)), (1, .int (nI b)), (2, .int (nI v)), (3, .int (nI O.length)), (4, .int 0), (5, .int 0), (6, .int 1), (7, .int (nI k))] → W p l e (kR 2 0 0) s m args below meth c H locs 0 0 Q' (F0 m 12 ls []) := by
    intro Q' kx d
    induction d with
    | zero =>
      intro k  ls H locs hk hP hD hS hl
      have hk2 : k = 8 := by omega
      refine lv_iload hx hb dX2_brings_12 (lv_at hl 7 rfl) ?_
      refine lv_bipush (v := 8) hx hb dX2_brings_14 (by decide) ?_
      refine lv_icmp_ge (tgt := 33) hx hb dX2_brings_16 (by decide) (fun h16 => ?_) (fun h16 => False.elim (h16 (by rw [hk2]; exact Int32.le_refl _)))
      have hk3 : 8 = k := hk2.symm
      subst hk3
      exact kx  ls H locs hP hD hS (lv_sub hl [0, 1, 2, 3, 4, 5, 6, 7] rfl)
    | succ d ih =>
      intro k  ls H locs hk hP hD hS hl
      have hk2 : k < 8 := by omega
      refine lv_iload hx hb dX2_brings_12 (lv_at hl 7 rfl) ?_
      refine lv_bipush (v := 8) hx hb dX2_brings_14 (by decide) ?_
      refine lv_icmp_ge (tgt := 33) hx hb dX2_brings_16 (by decide) (fun h16 => False.elim ((by have h9 := i32_le.mp h16; have ej : (nI k).toInt = k := nI_toInt (by omega); have e33 : (8 : Int32).toInt = 8 := rfl; omega))) (fun h16 => ?_)
      refine lv_aload_n hx hb dX2_brings_19 rfl (lv_at hl 0 rfl) ?_
      refine kget (ci := 3) (C := RX2) (T := TX2) (N := 18) hx hb hts hown hG hP 0 rfl rfl hinX2 15 (by decide) (by decide +kernel) rfl dX2_brings_20 ?_
      refine lv_iload hx hb dX2_brings_23 (lv_at hl 7 rfl) ?_
      refine lv_iconst (v := 0) hx hb dX2_brings_25 (by decide) ?_
      refine kiast (n := 8) (j := k) hx hb hG hP hD hS 14 rfl (by omega) (by decide) dX2_brings_26 (fun H locs hP hD hS => ?_)
      have hP : va_P K.1 kCl (Mfix K qm td (nI n) th M (up2 (brX X (flU (X 15) 0 k)) 15 k 0)) H := hP
      have hD : va_D A (Mfix K qm td (nI n) th M (up2 (brX X (flU (X 15) 0 k)) 15 k 0)) := hD
      refine lv_iinc (v := nI (k + 1)) (lv' := [(7, .int (nI (k + 1))), (0, .ref (qm 0)), (1, .int (nI b)), (2, .int (nI v)), (3, .int (nI O.length)), (4, .int 0), (5, .int 0), (6, .int 1)]) hx hb dX2_brings_27 hl (k := 7) rfl (kinc k) (by decide) rfl (fun ls hl => ?_)
      refine lv_goto (tgt := 12) hx hb dX2_brings_30 (by decide) ?_
      exact (ih (k + 1)  ls H locs (by omega) (by rw [← brX_s]; exact hP) (by rw [← brX_s]; exact hD) hS (lv_sub hl [1, 2, 3, 4, 5, 6, 7, 0] rfl))
  refine LOOPA _ (fun  ls H locs hP hD hS hl => ?_) 8 0  ls _ _ (by omega) hP hD hS (lv_sub hl [4, 5, 6, 7, 3, 2, 1, 0] rfl)
  refine lv_iconst (v := 0) hx hb dX2_brings_33 (by decide) ?_
  refine lv_istore (lv' := [(7, .int 0), (0, .ref (qm 0)), (1, .int (nI b)), (2, .int (nI v)), (3, .int (nI O.length)), (4, .int 0), (5, .int 0), (6, .int 1)]) hx hb dX2_brings_34 hl (by decide) rfl (fun ls hl => ?_)
  have LOOP : ∀ (Q' : State → Prop), (∀  (ls : Array Slot) (H : Heap) (locs : List Loc), va_P K.1 kCl (Mfix K qm td (nI n) th M (brX X (brS td n M b O v (flU (X 15) 0 8) O.length).2.2.2)) H → va_D A (Mfix K qm td (nI n) th M (brX X (brS td n M b O v (flU (X 15) 0 8) O.length).2.2.2)) → va_S A s.heap H locs → lv_has ls 9 [(0, .ref (qm 0)), (1, .int (nI b)), (2, .int (nI v)), (3, .int (nI O.length)), (4, .int ((brS td n M b O v (flU (X 15) 0 8) O.length).1)), (5, .int ((brS td n M b O v (flU (X 15) 0 8) O.length).2.1)), (6, .int (bi (brS td n M b O v (flU (X 15) 0 8) O.length).2.2.1)), (7, .int (nI O.length))] → W p l e (kR 2 0 0) s m args below meth c H locs 0 0 Q' (F0 m 149 ls [])) → ∀ (d k : Nat)  (ls : Array Slot) (H : Heap) (locs : List Loc), k + d = O.length → va_P K.1 kCl (Mfix K qm td (nI n) th M (brX X (brS td n M b O v (flU (X 15) 0 8) k).2.2.2)) H → va_D A (Mfix K qm td (nI n) th M (brX X (brS td n M b O v (flU (X 15) 0 8) k).2.2.2)) → va_S A s.heap H locs → lv_has ls 9 [(0, .ref (qm 0)), (1, .int (nI b)), (2, .int (nI v)), (3, .int (nI O.length)), (4, .int ((brS td n M b O v (flU (X 15) 0 8) k).1)), (5, .int ((brS td n M b O v (flU (X 15) 0 8) k).2.1)), (6, .int (bi (brS td n M b O v (flU (X 15) 0 8) k).2.2.1)), (7, .int (nI k))] → W p l e (kR 2 0 0) s m args below meth c H locs 0 0 Q' (F0 m 36 ls []) := by
    intro Q' kx d
    induction d with
    | zero =>
      intro k  ls H locs hk hP hD hS hl
      have hk2 : k = O.length := by omega
      refine lv_iload hx hb dX2_brings_36 (lv_at hl 7 rfl) ?_
      refine lv_iload_n hx hb dX2_brings_38 rfl (lv_at hl 3 rfl) ?_
      refine lv_icmp_ge (tgt := 149) hx hb dX2_brings_39 (by decide) (fun h39 => ?_) (fun h39 => False.elim (absurd (nI_le (Nat.le_of_eq hk2.symm) (by omega)) h39))
      have hk3 : O.length = k := hk2.symm
      subst hk3
      exact kx  ls H locs hP hD hS (lv_sub hl [0, 1, 2, 3, 4, 5, 6, 7] rfl)
    | succ d ih =>
      intro k  ls H locs hk hP hD hS hl
      have hk2 : k < O.length := by omega
      refine lv_iload hx hb dX2_brings_36 (lv_at hl 7 rfl) ?_
      refine lv_iload_n hx hb dX2_brings_38 rfl (lv_at hl 3 rfl) ?_
      refine lv_icmp_ge (tgt := 149) hx hb dX2_brings_39 (by decide) (fun h39 => False.elim (absurd h39 (nI_ge hk2 (by omega)))) (fun h39 => ?_)
      refine lv_iload_n hx hb dX2_brings_42 rfl (lv_at hl 2 rfl) ?_
      refine lv_iload hx hb dX2_brings_43 (lv_at hl 7 rfl) ?_
      refine lv_ishr hx hb dX2_brings_45 ?_
      refine lv_iconst (v := 1) hx hb dX2_brings_46 (by decide) ?_
      refine lv_iand hx hb dX2_brings_47 ?_
      refine lv_iconst (v := 1) hx hb dX2_brings_48 (by decide) ?_
      refine lv_icmp_ne (tgt := 143) hx hb dX2_brings_49 (by decide) (fun h49 => ?_) (fun h49 => ?_)
      · refine lv_iinc (v := nI (k + 1)) (lv' := [(7, .int (nI (k + 1))), (0, .ref (qm 0)), (1, .int (nI b)), (2, .int (nI v)), (3, .int (nI O.length)), (4, .int ((brS td n M b O v (flU (X 15) 0 8) k).1)), (5, .int ((brS td n M b O v (flU (X 15) 0 8) k).2.1)), (6, .int (bi (brS td n M b O v (flU (X 15) 0 8) k).2.2.1))]) hx hb dX2_brings_143 hl (k := 7) rfl (kinc k) (by decide) rfl (fun ls hl => ?_)
        refine lv_goto (tgt := 36) hx hb dX2_brings_146 (by decide) ?_
        exact (ih (k + 1)  ls H locs (by omega) (by rw [brS_f h49]; exact hP) (by rw [brS_f h49]; exact hD) hS (by rw [brS_f h49]; exact lv_sub hl [1, 2, 3, 4, 5, 6, 7, 0] rfl))
      · refine lv_aload_n hx hb dX2_brings_52 rfl (lv_at hl 0 rfl) ?_
        refine kget (ci := 3) (C := RX2) (T := TX2) (N := 18) hx hb hts hown hG hP 0 rfl rfl hinX2 16 (by decide) (by decide +kernel) rfl dX2_brings_53 ?_
        refine lv_iload hx hb dX2_brings_56 (lv_at hl 7 rfl) ?_
        refine kiald (n := 12) (j := k) hx hb hG hP 15 rfl (by omega) (by decide) dX2_brings_58 ?_
        refine ktop (z := nI (ix O k)) (hO k hk2) ?_
        refine lv_istore (lv' := [(8, .int (nI (ix O k))), (0, .ref (qm 0)), (1, .int (nI b)), (2, .int (nI v)), (3, .int (nI O.length)), (4, .int ((brS td n M b O v (flU (X 15) 0 8) k).1)), (5, .int ((brS td n M b O v (flU (X 15) 0 8) k).2.1)), (6, .int (bi (brS td n M b O v (flU (X 15) 0 8) k).2.2.1)), (7, .int (nI k))]) hx hb dX2_brings_59 hl (by decide) rfl (fun ls hl => ?_)
        refine lv_iload hx hb dX2_brings_61 (lv_at hl 5 rfl) ?_
        refine lv_aload_n hx hb dX2_brings_63 rfl (lv_at hl 1 rfl) ?_
        refine lv_iload hx hb dX2_brings_64 (lv_at hl 0 rfl) ?_
        refine kc_i (va_runV (As := [.int (nI (ix O k))]) (rest := [.int ((brS td n M b O v (flU (X 15) 0 8) k).1)]) ⟨hx, hb, hml, hown, hts⟩ (c_X2_discount (by have := hOn k hk2; omega)) (cwV 1 hts gX2_brings_X2_discount rfl rfl rfl (by decide +kernel) ⟨Nat.le_of_ble_eq_true rfl, Nat.le_of_ble_eq_true rfl⟩) (kpv (q0 := 0) hG hP hD hS rfl rfl) rfl rfl hl.1 rfl (lv_room (Nat.le_of_ble_eq_true rfl)) dX2_brings_66 ⟨Nat.le_of_ble_eq_true rfl, Nat.le_of_ble_eq_true rfl⟩) hS (fun r66 w H locs hp hP hD hS => ?_)
        rw [hp.2] at hP hD
        rw [hp.1]
        refine lv_iadd hx hb dX2_brings_69 ?_
        refine lv_istore (lv' := [(4, .int ((brS td n M b O v (flU (X 15) 0 8) k).1 + (disc td M (ix O k)))), (8, .int (nI (ix O k))), (0, .ref (qm 0)), (1, .int (nI b)), (2, .int (nI v)), (3, .int (nI O.length)), (5, .int ((brS td n M b O v (flU (X 15) 0 8) k).2.1)), (6, .int (bi (brS td n M b O v (flU (X 15) 0 8) k).2.2.1)), (7, .int (nI k))]) hx hb dX2_brings_70 hl (by decide) rfl (fun ls hl => ?_)
        refine lv_iload hx hb dX2_brings_72 (lv_at hl 6 rfl) ?_
        refine lv_aload_n hx hb dX2_brings_74 rfl (lv_at hl 2 rfl) ?_
        refine lv_iload hx hb dX2_brings_75 (lv_at hl 1 rfl) ?_
        refine kc_i (va_runV (As := [.int (nI (ix O k))]) (rest := [.int ((brS td n M b O v (flU (X 15) 0 8) k).2.1)]) ⟨hx, hb, hml, hown, hts⟩ (c_X2_price (by have := hOn k hk2; omega)) (cwV 1 hts gX2_brings_X2_price rfl rfl rfl (by decide +kernel) ⟨Nat.le_of_ble_eq_true rfl, Nat.le_of_ble_eq_true rfl⟩) (kpv (q0 := 0) hG hP hD hS rfl rfl) rfl rfl hl.1 rfl (lv_room (Nat.le_of_ble_eq_true rfl)) dX2_brings_77 ⟨Nat.le_of_ble_eq_true rfl, Nat.le_of_ble_eq_true rfl⟩) hS (fun r77 w H locs hp hP hD hS => ?_)
        rw [hp.2] at hP hD
        rw [hp.1]
        refine lv_iadd hx hb dX2_brings_80 ?_
        refine lv_istore (lv' := [(5, .int ((brS td n M b O v (flU (X 15) 0 8) k).2.1 + (price td M (ix O k)))), (4, .int ((brS td n M b O v (flU (X 15) 0 8) k).1 + (disc td M (ix O k)))), (8, .int (nI (ix O k))), (0, .ref (qm 0)), (1, .int (nI b)), (2, .int (nI v)), (3, .int (nI O.length)), (6, .int (bi (brS td n M b O v (flU (X 15) 0 8) k).2.2.1)), (7, .int (nI k))]) hx hb dX2_brings_81 hl (by decide) rfl (fun ls hl => ?_)
        refine lv_aload_n hx hb dX2_brings_83 rfl (lv_at hl 3 rfl) ?_
        refine kget (ci := 3) (C := RX2) (T := TX2) (N := 18) hx hb hts hown hG hP 0 rfl rfl hinX2 15 (by decide) (by decide +kernel) rfl dX2_brings_84 ?_
        refine lv_aload_n hx hb dX2_brings_87 rfl (lv_at hl 3 rfl) ?_
        refine kget (ci := 3) (C := RX2) (T := TX2) (N := 18) hx hb hts hown hG hP 0 rfl rfl hinX2 3 (by decide) (by decide +kernel) rfl dX2_brings_88 ?_
        refine lv_iload hx hb dX2_brings_91 (lv_at hl 2 rfl) ?_
        refine kiald (n := 30) (j := (ix O k)) hx hb hG hP 2 rfl (by have := hOn k hk2; omega) (by decide) dX2_brings_93 ?_
        refine ktop (z := nI (su M (ix O k))) ((hok _ (hOn k hk2)).2.2.1) ?_
        refine lv_dup2_11 hx hb dX2_brings_94 rfl rfl ?_
        refine kiald (n := 8) (j := (su M (ix O k))) hx hb hG hP 14 rfl (hok _ (hOn k hk2)).2.2.2 (by decide) dX2_brings_95 ?_
        refine lv_aload_n hx hb dX2_brings_96 rfl (lv_at hl 3 rfl) ?_
        refine lv_iload hx hb dX2_brings_97 (lv_at hl 2 rfl) ?_
        refine kc_i (va_runV (As := [.int (nI (ix O k))]) (rest := [.int ((brX X (brS td n M b O v (flU (X 15) 0 8) k).2.2.2) 15 (su M (ix O k))), .int (nI (su M (ix O k))), .ref (qm 15)]) ⟨hx, hb, hml, hown, hts⟩ (c_X2_price (by have := hOn k hk2; omega)) (cwV 1 hts gX2_brings_X2_price rfl rfl rfl (by decide +kernel) ⟨Nat.le_of_ble_eq_true rfl, Nat.le_of_ble_eq_true rfl⟩) (kpv (q0 := 0) hG hP hD hS rfl rfl) rfl rfl hl.1 rfl (lv_room (Nat.le_of_ble_eq_true rfl)) dX2_brings_99 ⟨Nat.le_of_ble_eq_true rfl, Nat.le_of_ble_eq_true rfl⟩) hS (fun r99 w H locs hp hP hD hS => ?_)
        rw [hp.2] at hP hD
        rw [hp.1]
        refine lv_iadd hx hb dX2_brings_102 ?_
        refine kiast (n := 8) (j := (su M (ix O k))) hx hb hG hP hD hS 14 rfl (hok _ (hOn k hk2)).2.2.2 (by decide) dX2_brings_103 (fun H locs hP hD hS => ?_)
        have hP : va_P K.1 kCl (Mfix K qm td (nI n) th M (up2 (brX X (brS td n M b O v (flU (X 15) 0 8) k).2.2.2) 15 (su M (ix O k)) (((brX X (brS td n M b O v (flU (X 15) 0 8) k).2.2.2) 15 (su M (ix O k))) + (price td M (ix O k))))) H := hP
        have hD : va_D A (Mfix K qm td (nI n) th M (up2 (brX X (brS td n M b O v (flU (X 15) 0 8) k).2.2.2) 15 (su M (ix O k)) (((brX X (brS td n M b O v (flU (X 15) 0 8) k).2.2.2) 15 (su M (ix O k))) + (price td M (ix O k))))) := hD
        refine lv_iload hx hb dX2_brings_104 (lv_at hl 7 rfl) ?_
        refine lv_if_eq (tgt := 140) hx hb dX2_brings_106 (by decide) (fun h106 => ?_) (fun h106 => ?_)
        · refine lv_iconst (v := 0) hx hb dX2_brings_140 (by decide) ?_
          refine lv_istore (lv' := [(6, .int 0), (5, .int ((brS td n M b O v (flU (X 15) 0 8) k).2.1 + (price td M (ix O k)))), (4, .int ((brS td n M b O v (flU (X 15) 0 8) k).1 + (disc td M (ix O k)))), (8, .int (nI (ix O k))), (0, .ref (qm 0)), (1, .int (nI b)), (2, .int (nI v)), (3, .int (nI O.length)), (7, .int (nI k))]) hx hb dX2_brings_141 hl (by decide) rfl (fun ls hl => ?_)
          refine lv_iinc (v := nI (k + 1)) (lv' := [(7, .int (nI (k + 1))), (6, .int 0), (5, .int ((brS td n M b O v (flU (X 15) 0 8) k).2.1 + (price td M (ix O k)))), (4, .int ((brS td n M b O v (flU (X 15) 0 8) k).1 + (disc td M (ix O k)))), (8, .int (nI (ix O k))), (0, .ref (qm 0)), (1, .int (nI b)), (2, .int (nI v)), (3, .int (nI O.length))]) hx hb dX2_brings_143 hl (k := 8) rfl (kinc k) (by decide) rfl (fun ls hl => ?_)
          refine lv_goto (tgt := 36) hx hb dX2_brings_146 (by decide) ?_
          exact (ih (k + 1)  ls H locs (by omega) (by rw [brS_0 h49 (Or.inl (bi_c0 h106)), ← brX_up]; exact hP) (by rw [brS_0 h49 (Or.inl (bi_c0 h106)), ← brX_up]; exact hD) hS (by rw [brS_0 h49 (Or.inl (bi_c0 h106))]; exact lv_sub hl [5, 6, 7, 8, 3, 2, 1, 0] rfl))
        · refine lv_aload_n hx hb dX2_brings_109 rfl (lv_at hl 3 rfl) ?_
          refine kget (ci := 3) (C := RX2) (T := TX2) (N := 18) hx hb hts hown hG hP 0 rfl rfl hinX2 15 (by decide) (by decide +kernel) rfl dX2_brings_110 ?_
          refine lv_aload_n hx hb dX2_brings_113 rfl (lv_at hl 3 rfl) ?_
          refine kget (ci := 3) (C := RX2) (T := TX2) (N := 18) hx hb hts hown hG hP 0 rfl rfl hinX2 3 (by decide) (by decide +kernel) rfl dX2_brings_114 ?_
          refine lv_iload hx hb dX2_brings_117 (lv_at hl 2 rfl) ?_
          refine kiald (n := 30) (j := (ix O k)) hx hb hG hP 2 rfl (by have := hOn k hk2; omega) (by decide) dX2_brings_119 ?_
          refine ktop (z := nI (su M (ix O k))) ((hok _ (hOn k hk2)).2.2.1) ?_
          refine kiald (n := 8) (j := (su M (ix O k))) hx hb hG hP 14 rfl (hok _ (hOn k hk2)).2.2.2 (by decide) dX2_brings_120 ?_
          refine lv_aload_n hx hb dX2_brings_121 rfl (lv_at hl 3 rfl) ?_
          refine lv_iload_n hx hb dX2_brings_122 rfl (lv_at hl 4 rfl) ?_
          refine lv_aload_n hx hb dX2_brings_123 rfl (lv_at hl 3 rfl) ?_
          refine kget (ci := 3) (C := RX2) (T := TX2) (N := 18) hx hb hts hown hG hP 0 rfl rfl hinX2 3 (by decide) (by decide +kernel) rfl dX2_brings_124 ?_
          refine lv_iload hx hb dX2_brings_127 (lv_at hl 2 rfl) ?_
          refine kiald (n := 30) (j := (ix O k)) hx hb hG hP 2 rfl (by have := hOn k hk2; omega) (by decide) dX2_brings_129 ?_
          refine ktop (z := nI (su M (ix O k))) ((hok _ (hOn k hk2)).2.2.1) ?_
          refine kc_i (va_runV (As := [.int (nI b), .int (nI (su M (ix O k)))]) (rest := [.int ((up2 (brX X (brS td n M b O v (flU (X 15) 0 8) k).2.2.2) 15 (su M (ix O k)) (((brX X (brS td n M b O v (flU (X 15) 0 8) k).2.2.2) 15 (su M (ix O k))) + (price td M (ix O k)))) 15 (su M (ix O k)))]) ⟨hx, hb, hml, hown, hts⟩ (c_X2_leftOf hn hx4 (hok _ (hOn k hk2)).2.2.2) (cwV 2 hts gX2_brings_X2_leftOf rfl rfl rfl (by decide +kernel) ⟨Nat.le_of_ble_eq_true rfl, Nat.le_of_ble_eq_true rfl⟩) (kpv (q0 := 0) hG hP hD hS rfl rfl) rfl rfl hl.1 rfl (lv_room (Nat.le_of_ble_eq_true rfl)) dX2_brings_130 ⟨Nat.le_of_ble_eq_true rfl, Nat.le_of_ble_eq_true rfl⟩) hS (fun r130 w H locs hp hP hD hS => ?_)
          rw [hp.2] at hP hD
          rw [hp.1]
          refine lv_icmp_gt (tgt := 140) hx hb dX2_brings_133 (by decide) (fun h133 => ?_) (fun h133 => ?_)
          · refine lv_iconst (v := 0) hx hb dX2_brings_140 (by decide) ?_
            refine lv_istore (lv' := [(6, .int 0), (5, .int ((brS td n M b O v (flU (X 15) 0 8) k).2.1 + (price td M (ix O k)))), (4, .int ((brS td n M b O v (flU (X 15) 0 8) k).1 + (disc td M (ix O k)))), (8, .int (nI (ix O k))), (0, .ref (qm 0)), (1, .int (nI b)), (2, .int (nI v)), (3, .int (nI O.length)), (7, .int (nI k))]) hx hb dX2_brings_141 hl (by decide) rfl (fun ls hl => ?_)
            refine lv_iinc (v := nI (k + 1)) (lv' := [(7, .int (nI (k + 1))), (6, .int 0), (5, .int ((brS td n M b O v (flU (X 15) 0 8) k).2.1 + (price td M (ix O k)))), (4, .int ((brS td n M b O v (flU (X 15) 0 8) k).1 + (disc td M (ix O k)))), (8, .int (nI (ix O k))), (0, .ref (qm 0)), (1, .int (nI b)), (2, .int (nI v)), (3, .int (nI O.length))]) hx hb dX2_brings_143 hl (k := 8) rfl (kinc k) (by decide) rfl (fun ls hl => ?_)
            refine lv_goto (tgt := 36) hx hb dX2_brings_146 (by decide) ?_
            exact (ih (k + 1)  ls H locs (by omega) (by rw [brS_0 h49 (Or.inr h133), ← brX_up]; exact hP) (by rw [brS_0 h49 (Or.inr h133), ← brX_up]; exact hD) hS (by rw [brS_0 h49 (Or.inr h133)]; exact lv_sub hl [5, 6, 7, 8, 3, 2, 1, 0] rfl))
          · refine lv_iconst (v := 1) hx hb dX2_brings_136 (by decide) ?_
            refine lv_goto (tgt := 141) hx hb dX2_brings_137 (by decide) ?_
            refine lv_istore (lv' := [(6, .int 1), (5, .int ((brS td n M b O v (flU (X 15) 0 8) k).2.1 + (price td M (ix O k)))), (4, .int ((brS td n M b O v (flU (X 15) 0 8) k).1 + (disc td M (ix O k)))), (8, .int (nI (ix O k))), (0, .ref (qm 0)), (1, .int (nI b)), (2, .int (nI v)), (3, .int (nI O.length)), (7, .int (nI k))]) hx hb dX2_brings_141 hl (by decide) rfl (fun ls hl => ?_)
            refine lv_iinc (v := nI (k + 1)) (lv' := [(7, .int (nI (k + 1))), (6, .int 1), (5, .int ((brS td n M b O v (flU (X 15) 0 8) k).2.1 + (price td M (ix O k)))), (4, .int ((brS td n M b O v (flU (X 15) 0 8) k).1 + (disc td M (ix O k)))), (8, .int (nI (ix O k))), (0, .ref (qm 0)), (1, .int (nI b)), (2, .int (nI v)), (3, .int (nI O.length))]) hx hb dX2_brings_143 hl (k := 8) rfl (kinc k) (by decide) rfl (fun ls hl => ?_)
            refine lv_goto (tgt := 36) hx hb dX2_brings_146 (by decide) ?_
            exact (ih (k + 1)  ls H locs (by omega) (by rw [brS_1 h49 (bi_c1 h106) h133, ← brX_up]; exact hP) (by rw [brS_1 h49 (bi_c1 h106) h133, ← brX_up]; exact hD) hS (by rw [brS_1 h49 (bi_c1 h106) h133]; exact lv_sub hl [5, 6, 7, 8, 3, 2, 1, 0] rfl))
  refine LOOP _ (fun  ls H locs hP hD hS hl => ?_) O.length 0  ls _ _ (by omega) hP hD hS (lv_sub hl [1, 2, 3, 4, 5, 6, 7, 0] rfl)
  refine lv_iload hx hb dX2_brings_149 (lv_at hl 6 rfl) ?_
  refine lv_if_eq (tgt := 170) hx hb dX2_brings_151 (by decide) (fun h151 => ?_) (fun h151 => ?_)
  · refine lv_iconst (v := (-1)) hx hb dX2_brings_170 (by decide) ?_
    exact kr_i hx hb hr hlocks hP hD hS (Nat.zero_le _) (Nat.zero_le _) (⟨by rw [← brR_sp hok hOn (flU (X 15) 0 8)]; exact (brR_f (fun q => bi_c0 h151 q.1)).symm, (brX X (brS td n M b O v (flU (X 15) 0 8) O.length).2.2.2), rfl, rfl⟩) dX2_brings_171
  · refine lv_iload hx hb dX2_brings_154 (lv_at hl 5 rfl) ?_
    refine lv_aload_n hx hb dX2_brings_156 rfl (lv_at hl 0 rfl) ?_
    refine kget (ci := 3) (C := RX2) (T := TX2) (N := 18) hx hb hts hown hG hP 0 rfl rfl hinX2 11 (by decide) (by decide +kernel) rfl dX2_brings_157 ?_
    refine lv_iload_n hx hb dX2_brings_160 rfl (lv_at hl 1 rfl) ?_
    refine kiald (n := 4) (j := b) hx hb hG hP 10 rfl hx4 (by decide) dX2_brings_161 ?_
    refine lv_icmp_gt (tgt := 170) hx hb dX2_brings_162 (by decide) (fun h162 => ?_) (fun h162 => ?_)
    · refine lv_iconst (v := (-1)) hx hb dX2_brings_170 (by decide) ?_
      exact kr_i hx hb hr hlocks hP hD hS (Nat.zero_le _) (Nat.zero_le _) (⟨by rw [← brR_sp hok hOn (flU (X 15) 0 8)]; exact (brR_f (fun q => q.2 h162)).symm, (brX X (brS td n M b O v (flU (X 15) 0 8) O.length).2.2.2), rfl, rfl⟩) dX2_brings_171
    · refine lv_iload hx hb dX2_brings_165 (lv_at hl 4 rfl) ?_
      refine lv_goto (tgt := 171) hx hb dX2_brings_167 (by decide) ?_
      exact kr_i hx hb hr hlocks hP hD hS (Nat.zero_le _) (Nat.zero_le _) (⟨by rw [← brR_sp hok hOn (flU (X 15) 0 8)]; exact (brR_t (bi_c1 h151) h162).symm, (brX X (brS td n M b O v (flU (X 15) 0 8) O.length).2.2.2), rfl, rfl⟩) dX2_brings_171
set_option maxHeartbeats 4000000 in
set_option maxRecDepth 100000 in
theorem c_X2_most_1 {l : Launch} {K : Ks} {A : Nat → Prop} {qm : Nat → Nat} {td nb th : Int32} {M X : Nat → Nat → Int32} {x : Int32} (hx4 : ixBad 4 x) : Met l yX2_most wsX2_most (kR 3 0 0) (kPr K A [.ref (qm 0), .int x] (Mfix K qm td nb th M X)) (kQi K A (fun _ w => w = Mfix K qm td nb 1 M X)) 0 0 A := by
  refine kent (cc := cX2_most) (maxL := 7) (ret := (some .int)) (by decide) rfl (Nat.le_of_ble_eq_true rfl) ?_
  intro p e s m args below meth c ls hx hb hr hts hown hlocks hml hini hG hP hD hS hl
  have hinX2 : ∀ x ∈ wsX20, x ∈ wsX2_most := by decide +kernel
  have hl : lv_has ls 7 [(0, .ref (qm 0)), (1, .int x)] := hl
  refine lv_iload_n hx hb dX2_most_0 rfl (lv_at hl 1 rfl) ?_
  refine kc_i (va_runS (As := [.int x]) (rest := []) ⟨hx, hb, hml, hown, hts⟩ (c_X2_isBuyer (z := 0) (bi_f (ix4b hx4)).symm) (va_cwS 1 hts gX2_most_X2_isBuyer rfl rfl rfl (by decide +kernel) ⟨Nat.le_of_ble_eq_true rfl, Nat.le_of_ble_eq_true rfl⟩) (kps hG hP hD hS) rfl rfl hl.1 rfl (lv_room (Nat.le_of_ble_eq_true rfl)) dX2_most_1 ⟨Nat.le_of_ble_eq_true rfl, Nat.le_of_ble_eq_true rfl⟩) hS (fun r1 w H locs hp hP hD hS => ?_)
  rw [hp.2] at hP hD
  rw [hp.1]
  refine lv_istore_n (lv' := [(2, .int 0), (0, .ref (qm 0)), (1, .int x)]) hx hb dX2_most_4 rfl hl (by decide) rfl (fun ls hl => ?_)
  refine lv_iconst (v := 0) hx hb dX2_most_5 (by decide) ?_
  refine lv_istore_n (lv' := [(3, .int 0), (2, .int 0), (0, .ref (qm 0)), (1, .int x)]) hx hb dX2_most_6 rfl hl (by decide) rfl (fun ls hl => ?_)
  refine lv_iconst (v := 0) hx hb dX2_most_7 (by decide) ?_
  refine lv_istore (lv' := [(4, .int 0), (3, .int 0), (2, .int 0), (0, .ref (qm 0)), (1, .int x)]) hx hb dX2_most_8 hl (by decide) rfl (fun ls hl => ?_)
  refine lv_iload hx hb dX2_most_10 (lv_at hl 0 rfl) ?_
  refine lv_aload_n hx hb dX2_most_12 rfl (lv_at hl 3 rfl) ?_
  refine kget (ci := 3) (C := RX2) (T := TX2) (N := 18) hx hb hts hown hG hP 0 rfl rfl hinX2 1 (by decide) (by decide +kernel) rfl dX2_most_13 ?_
  refine lv_icmp_ge (tgt := 56) hx hb dX2_most_16 (by decide) (fun h16 => ?_) (fun h16 => ?_)
  · refine lv_aload_n hx hb dX2_most_56 rfl (lv_at hl 3 rfl) ?_
    refine lv_iload_n hx hb dX2_most_57 rfl (lv_at hl 2 rfl) ?_
    refine lv_if_ne (tgt := 65) hx hb dX2_most_58 (by decide) (fun h58 => False.elim (absurd rfl h58)) (fun h58 => ?_)
    refine lv_iconst (v := 1) hx hb dX2_most_61 (by decide) ?_
    refine lv_goto (tgt := 76) hx hb dX2_most_62 (by decide) ?_
    refine kc_i (va_runV (As := [.int 1]) (rest := []) ⟨hx, hb, hml, hown, hts⟩ (c_X2_fails (x := 1) (z := 1) (by decide)) (cwV 1 hts gX2_most_X2_fails rfl rfl rfl (by decide +kernel) ⟨Nat.le_of_ble_eq_true rfl, Nat.le_of_ble_eq_true rfl⟩) (kpv (q0 := 0) hG hP hD hS rfl rfl) rfl rfl hl.1 rfl (lv_room (Nat.le_of_ble_eq_true rfl)) dX2_most_76 ⟨Nat.le_of_ble_eq_true rfl, Nat.le_of_ble_eq_true rfl⟩) hS (fun r76 w H locs hp hP hD hS => ?_)
    rw [hp.2] at hP hD
    rw [hp.1]
    refine lv_if_eq (tgt := 84) hx hb dX2_most_79 (by decide) (fun h79 => False.elim (absurd h79 (by decide))) (fun h79 => ?_)
    refine lv_iconst (v := 0) hx hb dX2_most_82 (by decide) ?_
    exact kr_i hx hb hr hlocks hP hD hS (Nat.zero_le _) (Nat.zero_le _) (rfl) dX2_most_83
  · refine lv_iload_n hx hb dX2_most_19 rfl (lv_at hl 2 rfl) ?_
    refine lv_if_eq (tgt := 56) hx hb dX2_most_20 (by decide) (fun h20 => ?_) (fun h20 => False.elim (absurd rfl h20))
    refine lv_aload_n hx hb dX2_most_56 rfl (lv_at hl 3 rfl) ?_
    refine lv_iload_n hx hb dX2_most_57 rfl (lv_at hl 2 rfl) ?_
    refine lv_if_ne (tgt := 65) hx hb dX2_most_58 (by decide) (fun h58 => False.elim (absurd rfl h58)) (fun h58 => ?_)
    refine lv_iconst (v := 1) hx hb dX2_most_61 (by decide) ?_
    refine lv_goto (tgt := 76) hx hb dX2_most_62 (by decide) ?_
    refine kc_i (va_runV (As := [.int 1]) (rest := []) ⟨hx, hb, hml, hown, hts⟩ (c_X2_fails (x := 1) (z := 1) (by decide)) (cwV 1 hts gX2_most_X2_fails rfl rfl rfl (by decide +kernel) ⟨Nat.le_of_ble_eq_true rfl, Nat.le_of_ble_eq_true rfl⟩) (kpv (q0 := 0) hG hP hD hS rfl rfl) rfl rfl hl.1 rfl (lv_room (Nat.le_of_ble_eq_true rfl)) dX2_most_76 ⟨Nat.le_of_ble_eq_true rfl, Nat.le_of_ble_eq_true rfl⟩) hS (fun r76 w H locs hp hP hD hS => ?_)
    rw [hp.2] at hP hD
    rw [hp.1]
    refine lv_if_eq (tgt := 84) hx hb dX2_most_79 (by decide) (fun h79 => False.elim (absurd h79 (by decide))) (fun h79 => ?_)
    refine lv_iconst (v := 0) hx hb dX2_most_82 (by decide) ?_
    exact kr_i hx hb hr hlocks hP hD hS (Nat.zero_le _) (Nat.zero_le _) (rfl) dX2_most_83
set_option maxHeartbeats 4000000 in
set_option maxRecDepth 100000 in
theorem c_X2_most_2 {l : Launch} {K : Ks} {A : Nat → Prop} {qm : Nat → Nat} {td th : Int32} {M X : Nat → Nat → Int32} {n b : Nat} (hn : n ≤ 30) (hx4 : b < 4) (hk12 : 12 < (ofL td M b n).length) : Met l yX2_most wsX2_most (kR 3 0 0) (kPr K A [.ref (qm 0), .int (nI b)] (Mfix K qm td (nI n) th M X)) (kQi K A (fun _ w => w = Mfix K qm td (nI n) 2 M (ofX td M b X n))) 0 0 A := by
  refine kent (cc := cX2_most) (maxL := 7) (ret := (some .int)) (by decide) rfl (Nat.le_of_ble_eq_true rfl) ?_
  intro p e s m args below meth c ls hx hb hr hts hown hlocks hml hini hG hP hD hS hl
  have hinX2 : ∀ x ∈ wsX20, x ∈ wsX2_most := by decide +kernel
  have hl : lv_has ls 7 [(0, .ref (qm 0)), (1, .int (nI b))] := hl
  refine lv_iload_n hx hb dX2_most_0 rfl (lv_at hl 1 rfl) ?_
  refine kc_i (va_runS (As := [.int (nI b)]) (rest := []) ⟨hx, hb, hml, hown, hts⟩ (c_X2_isBuyer (z := 1) (bi_t (ix4 hx4)).symm) (va_cwS 1 hts gX2_most_X2_isBuyer rfl rfl rfl (by decide +kernel) ⟨Nat.le_of_ble_eq_true rfl, Nat.le_of_ble_eq_true rfl⟩) (kps hG hP hD hS) rfl rfl hl.1 rfl (lv_room (Nat.le_of_ble_eq_true rfl)) dX2_most_1 ⟨Nat.le_of_ble_eq_true rfl, Nat.le_of_ble_eq_true rfl⟩) hS (fun r1 w H locs hp hP hD hS => ?_)
  rw [hp.2] at hP hD
  rw [hp.1]
  refine lv_istore_n (lv' := [(2, .int 1), (0, .ref (qm 0)), (1, .int (nI b))]) hx hb dX2_most_4 rfl hl (by decide) rfl (fun ls hl => ?_)
  refine lv_iconst (v := 0) hx hb dX2_most_5 (by decide) ?_
  refine lv_istore_n (lv' := [(3, .int 0), (2, .int 1), (0, .ref (qm 0)), (1, .int (nI b))]) hx hb dX2_most_6 rfl hl (by decide) rfl (fun ls hl => ?_)
  refine lv_iconst (v := 0) hx hb dX2_most_7 (by decide) ?_
  refine lv_istore (lv' := [(4, .int 0), (3, .int 0), (2, .int 1), (0, .ref (qm 0)), (1, .int (nI b))]) hx hb dX2_most_8 hl (by decide) rfl (fun ls hl => ?_)
  have LOOP : ∀ (Q' : State → Prop), (∀  (ls : Array Slot) (H : Heap) (locs : List Loc), va_P K.1 kCl (Mfix K qm td (nI n) th M (ofX td M b X n)) H → va_D A (Mfix K qm td (nI n) th M (ofX td M b X n)) → va_S A s.heap H locs → lv_has ls 7 [(0, .ref (qm 0)), (1, .int (nI b)), (2, .int 1), (3, .int (nI (ofL td M b n).length)), (4, .int (nI n))] → W p l e (kR 3 0 0) s m args below meth c H locs 0 0 Q' (F0 m 56 ls [])) → ∀ (d k : Nat)  (ls : Array Slot) (H : Heap) (locs : List Loc), k + d = n → va_P K.1 kCl (Mfix K qm td (nI n) th M (ofX td M b X k)) H → va_D A (Mfix K qm td (nI n) th M (ofX td M b X k)) → va_S A s.heap H locs → lv_has ls 7 [(0, .ref (qm 0)), (1, .int (nI b)), (2, .int 1), (3, .int (nI (ofL td M b k).length)), (4, .int (nI k))] → W p l e (kR 3 0 0) s m args below meth c H locs 0 0 Q' (F0 m 10 ls []) := by
    intro Q' kx d
    induction d with
    | zero =>
      intro k  ls H locs hk hP hD hS hl
      have hk2 : k = n := by omega
      refine lv_iload hx hb dX2_most_10 (lv_at hl 4 rfl) ?_
      refine lv_aload_n hx hb dX2_most_12 rfl (lv_at hl 0 rfl) ?_
      refine kget (ci := 3) (C := RX2) (T := TX2) (N := 18) hx hb hts hown hG hP 0 rfl rfl hinX2 1 (by decide) (by decide +kernel) rfl dX2_most_13 ?_
      refine lv_icmp_ge (tgt := 56) hx hb dX2_most_16 (by decide) (fun h16 => ?_) (fun h16 => False.elim (absurd (nI_le (Nat.le_of_eq hk2.symm) (by omega)) h16))
      have hk3 : n = k := hk2.symm
      subst hk3
      exact kx  ls H locs hP hD hS (lv_sub hl [0, 1, 2, 3, 4] rfl)
    | succ d ih =>
      intro k  ls H locs hk hP hD hS hl
      have hk2 : k < n := by omega
      refine lv_iload hx hb dX2_most_10 (lv_at hl 4 rfl) ?_
      refine lv_aload_n hx hb dX2_most_12 rfl (lv_at hl 0 rfl) ?_
      refine kget (ci := 3) (C := RX2) (T := TX2) (N := 18) hx hb hts hown hG hP 0 rfl rfl hinX2 1 (by decide) (by decide +kernel) rfl dX2_most_13 ?_
      refine lv_icmp_ge (tgt := 56) hx hb dX2_most_16 (by decide) (fun h16 => False.elim (absurd h16 (nI_ge hk2 (by omega)))) (fun h16 => ?_)
      refine lv_iload_n hx hb dX2_most_19 rfl (lv_at hl 2 rfl) ?_
      refine lv_if_eq (tgt := 56) hx hb dX2_most_20 (by decide) (fun h20 => False.elim (absurd h20 (by decide))) (fun h20 => ?_)
      refine lv_aload_n hx hb dX2_most_23 rfl (lv_at hl 0 rfl) ?_
      refine lv_iload hx hb dX2_most_24 (lv_at hl 4 rfl) ?_
      refine lv_iload_n hx hb dX2_most_26 rfl (lv_at hl 1 rfl) ?_
      refine kc_i (va_runV (As := [.int (nI k), .int (nI b)]) (rest := []) ⟨hx, hb, hml, hown, hts⟩ (c_X2_isOffer (by omega)) (cwV 2 hts gX2_most_X2_isOffer rfl rfl rfl (by decide +kernel) ⟨Nat.le_of_ble_eq_true rfl, Nat.le_of_ble_eq_true rfl⟩) (kpv (q0 := 0) hG hP hD hS rfl rfl) rfl rfl hl.1 rfl (lv_room (Nat.le_of_ble_eq_true rfl)) dX2_most_27 ⟨Nat.le_of_ble_eq_true rfl, Nat.le_of_ble_eq_true rfl⟩) hS (fun r27 w H locs hp hP hD hS => ?_)
      rw [hp.2] at hP hD
      rw [hp.1]
      refine lv_if_eq (tgt := 50) hx hb dX2_most_30 (by decide) (fun h30 => ?_) (fun h30 => ?_)
      · refine lv_iinc (v := nI (k + 1)) (lv' := [(4, .int (nI (k + 1))), (0, .ref (qm 0)), (1, .int (nI b)), (2, .int 1), (3, .int (nI (ofL td M b k).length))]) hx hb dX2_most_50 hl (k := 4) rfl (kinc k) (by decide) rfl (fun ls hl => ?_)
        refine lv_goto (tgt := 10) hx hb dX2_most_53 (by decide) ?_
        exact (ih (k + 1)  ls H locs (by omega) (by rw [ofX_f (bi_d0.mp h30)]; exact hP) (by rw [ofX_f (bi_d0.mp h30)]; exact hD) hS (by rw [ofL_f (bi_d0.mp h30)]; exact lv_sub hl [1, 2, 3, 4, 0] rfl))
      · refine lv_iload_n hx hb dX2_most_33 rfl (lv_at hl 3 rfl) ?_
        refine lv_bipush (v := 12) hx hb dX2_most_34 (by decide) ?_
        refine lv_icmp_ge (tgt := 47) hx hb dX2_most_36 (by decide) (fun h36 => ?_) (fun h36 => ?_)
        · refine lv_iinc (v := nI ((ofL td M b k).length + 1)) (lv' := [(3, .int (nI ((ofL td M b k).length + 1))), (0, .ref (qm 0)), (1, .int (nI b)), (2, .int 1), (4, .int (nI k))]) hx hb dX2_most_47 hl (k := 3) rfl (kinc ((ofL td M b k).length)) (by decide) rfl (fun ls hl => ?_)
          refine lv_iinc (v := nI (k + 1)) (lv' := [(4, .int (nI (k + 1))), (3, .int (nI ((ofL td M b k).length + 1))), (0, .ref (qm 0)), (1, .int (nI b)), (2, .int 1)]) hx hb dX2_most_50 hl (k := 4) rfl (kinc k) (by decide) rfl (fun ls hl => ?_)
          refine lv_goto (tgt := 10) hx hb dX2_most_53 (by decide) ?_
          exact (ih (k + 1)  ls H locs (by omega) (by rw [ofX_g (bi_dn.mp h30) (by rw [i32_le, nI_toInt (by have := ofL_len td M b k; omega)] at h36; have e12 : (12 : Int32).toInt = 12 := rfl; omega)]; exact hP) (by rw [ofX_g (bi_dn.mp h30) (by rw [i32_le, nI_toInt (by have := ofL_len td M b k; omega)] at h36; have e12 : (12 : Int32).toInt = 12 := rfl; omega)]; exact hD) hS (by rw [ofL_t (bi_dn.mp h30), List.length_append]; exact lv_sub hl [2, 3, 4, 1, 0] rfl))
        · have hc12 : (ofL td M b k).length < 12 := by rw [i32_le, nI_toInt (by have := ofL_len td M b k; omega)] at h36; have e12 : (12 : Int32).toInt = 12 := rfl; omega
          refine lv_aload_n hx hb dX2_most_39 rfl (lv_at hl 0 rfl) ?_
          refine kget (ci := 3) (C := RX2) (T := TX2) (N := 18) hx hb hts hown hG hP 0 rfl rfl hinX2 16 (by decide) (by decide +kernel) rfl dX2_most_40 ?_
          refine lv_iload_n hx hb dX2_most_43 rfl (lv_at hl 3 rfl) ?_
          refine lv_iload hx hb dX2_most_44 (lv_at hl 4 rfl) ?_
          refine kiast (n := 12) (j := (ofL td M b k).length) hx hb hG hP hD hS 15 rfl hc12 (by decide) dX2_most_46 (fun H locs hP hD hS => ?_)
          have hP : va_P K.1 kCl (Mfix K qm td (nI n) th M (up2 (ofX td M b X k) 16 ((ofL td M b k).length) (nI k))) H := hP
          have hD : va_D A (Mfix K qm td (nI n) th M (up2 (ofX td M b X k) 16 ((ofL td M b k).length) (nI k))) := hD
          refine lv_iinc (v := nI ((ofL td M b k).length + 1)) (lv' := [(3, .int (nI ((ofL td M b k).length + 1))), (0, .ref (qm 0)), (1, .int (nI b)), (2, .int 1), (4, .int (nI k))]) hx hb dX2_most_47 hl (k := 3) rfl (kinc ((ofL td M b k).length)) (by decide) rfl (fun ls hl => ?_)
          refine lv_iinc (v := nI (k + 1)) (lv' := [(4, .int (nI (k + 1))), (3, .int (nI ((ofL td M b k).length + 1))), (0, .ref (qm 0)), (1, .int (nI b)), (2, .int 1)]) hx hb dX2_most_50 hl (k := 4) rfl (kinc k) (by decide) rfl (fun ls hl => ?_)
          refine lv_goto (tgt := 10) hx hb dX2_most_53 (by decide) ?_
          exact (ih (k + 1)  ls H locs (by omega) (by rw [ofX_t (bi_dn.mp h30) hc12]; exact hP) (by rw [ofX_t (bi_dn.mp h30) hc12]; exact hD) hS (by rw [ofL_t (bi_dn.mp h30), List.length_append]; exact lv_sub hl [2, 3, 4, 1, 0] rfl))
  refine LOOP _ (fun  ls H locs hP hD hS hl => ?_) n 0  ls _ _ (by omega) hP hD hS (lv_sub hl [3, 4, 2, 1, 0] rfl)
  refine lv_aload_n hx hb dX2_most_56 rfl (lv_at hl 0 rfl) ?_
  refine lv_iload_n hx hb dX2_most_57 rfl (lv_at hl 2 rfl) ?_
  refine lv_if_ne (tgt := 65) hx hb dX2_most_58 (by decide) (fun h58 => ?_) (fun h58 => False.elim (absurd h58 (by decide)))
  refine lv_iload_n hx hb dX2_most_65 rfl (lv_at hl 3 rfl) ?_
  refine lv_bipush (v := 12) hx hb dX2_most_66 (by decide) ?_
  refine lv_icmp_le (tgt := 75) hx hb dX2_most_68 (by decide) (fun h68 => False.elim ((by rw [i32_le, nI_toInt (by have := ofL_len td M b n; omega)] at h68; have e12 : (12 : Int32).toInt = 12 := rfl; omega))) (fun h68 => ?_)
  refine lv_iconst (v := 2) hx hb dX2_most_71 (by decide) ?_
  refine lv_goto (tgt := 76) hx hb dX2_most_72 (by decide) ?_
  refine kc_i (va_runV (As := [.int 2]) (rest := []) ⟨hx, hb, hml, hown, hts⟩ (c_X2_fails (x := 2) (z := 1) (by decide)) (cwV 1 hts gX2_most_X2_fails rfl rfl rfl (by decide +kernel) ⟨Nat.le_of_ble_eq_true rfl, Nat.le_of_ble_eq_true rfl⟩) (kpv (q0 := 0) hG hP hD hS rfl rfl) rfl rfl hl.1 rfl (lv_room (Nat.le_of_ble_eq_true rfl)) dX2_most_76 ⟨Nat.le_of_ble_eq_true rfl, Nat.le_of_ble_eq_true rfl⟩) hS (fun r76 w H locs hp hP hD hS => ?_)
  rw [hp.2] at hP hD
  rw [hp.1]
  refine lv_if_eq (tgt := 84) hx hb dX2_most_79 (by decide) (fun h79 => False.elim (absurd h79 (by decide))) (fun h79 => ?_)
  refine lv_iconst (v := 0) hx hb dX2_most_82 (by decide) ?_
  exact kr_i hx hb hr hlocks hP hD hS (Nat.zero_le _) (Nat.zero_le _) (rfl) dX2_most_83
set_option maxHeartbeats 4000000 in
set_option maxRecDepth 100000 in
theorem c_X2_most_ok {l : Launch} {K : Ks} {A : Nat → Prop} {qm : Nat → Nat} {td th : Int32} {M X : Nat → Nat → Int32} {n b : Nat} (hn : n ≤ 30) (hx4 : b < 4) (hok : ∀ j, j < n → okP M j) (hk12 : (ofL td M b n).length ≤ 12) : Met l yX2_most wsX2_most (kR 3 0 0) (kPr K A [.ref (qm 0), .int (nI b)] (Mfix K qm td (nI n) th M X)) (kQi K A (fun r w => r = bmS (brR td n M b (ofL td M b n) (fun _ => 0)) (2 ^ (ofL td M b n).length - 1) ∧ ∃ X1, w = Mfix K qm td (nI n) 0 M X1)) 0 0 A := by
  refine kent (cc := cX2_most) (maxL := 7) (ret := (some .int)) (by decide) rfl (Nat.le_of_ble_eq_true rfl) ?_
  intro p e s m args below meth c ls hx hb hr hts hown hlocks hml hini hG hP hD hS hl
  have hinX2 : ∀ x ∈ wsX20, x ∈ wsX2_most := by decide +kernel
  have hl : lv_has ls 7 [(0, .ref (qm 0)), (1, .int (nI b))] := hl
  refine lv_iload_n hx hb dX2_most_0 rfl (lv_at hl 1 rfl) ?_
  refine kc_i (va_runS (As := [.int (nI b)]) (rest := []) ⟨hx, hb, hml, hown, hts⟩ (c_X2_isBuyer (z := 1) (bi_t (ix4 hx4)).symm) (va_cwS 1 hts gX2_most_X2_isBuyer rfl rfl rfl (by decide +kernel) ⟨Nat.le_of_ble_eq_true rfl, Nat.le_of_ble_eq_true rfl⟩) (kps hG hP hD hS) rfl rfl hl.1 rfl (lv_room (Nat.le_of_ble_eq_true rfl)) dX2_most_1 ⟨Nat.le_of_ble_eq_true rfl, Nat.le_of_ble_eq_true rfl⟩) hS (fun r1 w H locs hp hP hD hS => ?_)
  rw [hp.2] at hP hD
  rw [hp.1]
  refine lv_istore_n (lv' := [(2, .int 1), (0, .ref (qm 0)), (1, .int (nI b))]) hx hb dX2_most_4 rfl hl (by decide) rfl (fun ls hl => ?_)
  refine lv_iconst (v := 0) hx hb dX2_most_5 (by decide) ?_
  refine lv_istore_n (lv' := [(3, .int 0), (2, .int 1), (0, .ref (qm 0)), (1, .int (nI b))]) hx hb dX2_most_6 rfl hl (by decide) rfl (fun ls hl => ?_)
  refine lv_iconst (v := 0) hx hb dX2_most_7 (by decide) ?_
  refine lv_istore (lv' := [(4, .int 0), (3, .int 0), (2, .int 1), (0, .ref (qm 0)), (1, .int (nI b))]) hx hb dX2_most_8 hl (by decide) rfl (fun ls hl => ?_)
  have LOOP : ∀ (Q' : State → Prop), (∀  (ls : Array Slot) (H : Heap) (locs : List Loc), va_P K.1 kCl (Mfix K qm td (nI n) th M (ofX td M b X n)) H → va_D A (Mfix K qm td (nI n) th M (ofX td M b X n)) → va_S A s.heap H locs → lv_has ls 7 [(0, .ref (qm 0)), (1, .int (nI b)), (2, .int 1), (3, .int (nI (ofL td M b n).length)), (4, .int (nI n))] → W p l e (kR 3 0 0) s m args below meth c H locs 0 0 Q' (F0 m 56 ls [])) → ∀ (d k : Nat)  (ls : Array Slot) (H : Heap) (locs : List Loc), k + d = n → va_P K.1 kCl (Mfix K qm td (nI n) th M (ofX td M b X k)) H → va_D A (Mfix K qm td (nI n) th M (ofX td M b X k)) → va_S A s.heap H locs → lv_has ls 7 [(0, .ref (qm 0)), (1, .int (nI b)), (2, .int 1), (3, .int (nI (ofL td M b k).length)), (4, .int (nI k))] → W p l e (kR 3 0 0) s m args below meth c H locs 0 0 Q' (F0 m 10 ls []) := by
    intro Q' kx d
    induction d with
    | zero =>
      intro k  ls H locs hk hP hD hS hl
      have hk2 : k = n := by omega
      refine lv_iload hx hb dX2_most_10 (lv_at hl 4 rfl) ?_
      refine lv_aload_n hx hb dX2_most_12 rfl (lv_at hl 0 rfl) ?_
      refine kget (ci := 3) (C := RX2) (T := TX2) (N := 18) hx hb hts hown hG hP 0 rfl rfl hinX2 1 (by decide) (by decide +kernel) rfl dX2_most_13 ?_
      refine lv_icmp_ge (tgt := 56) hx hb dX2_most_16 (by decide) (fun h16 => ?_) (fun h16 => False.elim (absurd (nI_le (Nat.le_of_eq hk2.symm) (by omega)) h16))
      have hk3 : n = k := hk2.symm
      subst hk3
      exact kx  ls H locs hP hD hS (lv_sub hl [0, 1, 2, 3, 4] rfl)
    | succ d ih =>
      intro k  ls H locs hk hP hD hS hl
      have hk2 : k < n := by omega
      refine lv_iload hx hb dX2_most_10 (lv_at hl 4 rfl) ?_
      refine lv_aload_n hx hb dX2_most_12 rfl (lv_at hl 0 rfl) ?_
      refine kget (ci := 3) (C := RX2) (T := TX2) (N := 18) hx hb hts hown hG hP 0 rfl rfl hinX2 1 (by decide) (by decide +kernel) rfl dX2_most_13 ?_
      refine lv_icmp_ge (tgt := 56) hx hb dX2_most_16 (by decide) (fun h16 => False.elim (absurd h16 (nI_ge hk2 (by omega)))) (fun h16 => ?_)
      refine lv_iload_n hx hb dX2_most_19 rfl (lv_at hl 2 rfl) ?_
      refine lv_if_eq (tgt := 56) hx hb dX2_most_20 (by decide) (fun h20 => False.elim (absurd h20 (by decide))) (fun h20 => ?_)
      refine lv_aload_n hx hb dX2_most_23 rfl (lv_at hl 0 rfl) ?_
      refine lv_iload hx hb dX2_most_24 (lv_at hl 4 rfl) ?_
      refine lv_iload_n hx hb dX2_most_26 rfl (lv_at hl 1 rfl) ?_
      refine kc_i (va_runV (As := [.int (nI k), .int (nI b)]) (rest := []) ⟨hx, hb, hml, hown, hts⟩ (c_X2_isOffer (by omega)) (cwV 2 hts gX2_most_X2_isOffer rfl rfl rfl (by decide +kernel) ⟨Nat.le_of_ble_eq_true rfl, Nat.le_of_ble_eq_true rfl⟩) (kpv (q0 := 0) hG hP hD hS rfl rfl) rfl rfl hl.1 rfl (lv_room (Nat.le_of_ble_eq_true rfl)) dX2_most_27 ⟨Nat.le_of_ble_eq_true rfl, Nat.le_of_ble_eq_true rfl⟩) hS (fun r27 w H locs hp hP hD hS => ?_)
      rw [hp.2] at hP hD
      rw [hp.1]
      refine lv_if_eq (tgt := 50) hx hb dX2_most_30 (by decide) (fun h30 => ?_) (fun h30 => ?_)
      · refine lv_iinc (v := nI (k + 1)) (lv' := [(4, .int (nI (k + 1))), (0, .ref (qm 0)), (1, .int (nI b)), (2, .int 1), (3, .int (nI (ofL td M b k).length))]) hx hb dX2_most_50 hl (k := 4) rfl (kinc k) (by decide) rfl (fun ls hl => ?_)
        refine lv_goto (tgt := 10) hx hb dX2_most_53 (by decide) ?_
        exact (ih (k + 1)  ls H locs (by omega) (by rw [ofX_f (bi_d0.mp h30)]; exact hP) (by rw [ofX_f (bi_d0.mp h30)]; exact hD) hS (by rw [ofL_f (bi_d0.mp h30)]; exact lv_sub hl [1, 2, 3, 4, 0] rfl))
      · refine lv_iload_n hx hb dX2_most_33 rfl (lv_at hl 3 rfl) ?_
        refine lv_bipush (v := 12) hx hb dX2_most_34 (by decide) ?_
        refine lv_icmp_ge (tgt := 47) hx hb dX2_most_36 (by decide) (fun h36 => ?_) (fun h36 => ?_)
        · refine lv_iinc (v := nI ((ofL td M b k).length + 1)) (lv' := [(3, .int (nI ((ofL td M b k).length + 1))), (0, .ref (qm 0)), (1, .int (nI b)), (2, .int 1), (4, .int (nI k))]) hx hb dX2_most_47 hl (k := 3) rfl (kinc ((ofL td M b k).length)) (by decide) rfl (fun ls hl => ?_)
          refine lv_iinc (v := nI (k + 1)) (lv' := [(4, .int (nI (k + 1))), (3, .int (nI ((ofL td M b k).length + 1))), (0, .ref (qm 0)), (1, .int (nI b)), (2, .int 1)]) hx hb dX2_most_50 hl (k := 4) rfl (kinc k) (by decide) rfl (fun ls hl => ?_)
          refine lv_goto (tgt := 10) hx hb dX2_most_53 (by decide) ?_
          exact (ih (k + 1)  ls H locs (by omega) (by rw [ofX_g (bi_dn.mp h30) (by rw [i32_le, nI_toInt (by have := ofL_len td M b k; omega)] at h36; have e12 : (12 : Int32).toInt = 12 := rfl; omega)]; exact hP) (by rw [ofX_g (bi_dn.mp h30) (by rw [i32_le, nI_toInt (by have := ofL_len td M b k; omega)] at h36; have e12 : (12 : Int32).toInt = 12 := rfl; omega)]; exact hD) hS (by rw [ofL_t (bi_dn.mp h30), List.length_append]; exact lv_sub hl [2, 3, 4, 1, 0] rfl))
        · have hc12 : (ofL td M b k).length < 12 := by rw [i32_le, nI_toInt (by have := ofL_len td M b k; omega)] at h36; have e12 : (12 : Int32).toInt = 12 := rfl; omega
          refine lv_aload_n hx hb dX2_most_39 rfl (lv_at hl 0 rfl) ?_
          refine kget (ci := 3) (C := RX2) (T := TX2) (N := 18) hx hb hts hown hG hP 0 rfl rfl hinX2 16 (by decide) (by decide +kernel) rfl dX2_most_40 ?_
          refine lv_iload_n hx hb dX2_most_43 rfl (lv_at hl 3 rfl) ?_
          refine lv_iload hx hb dX2_most_44 (lv_at hl 4 rfl) ?_
          refine kiast (n := 12) (j := (ofL td M b k).length) hx hb hG hP hD hS 15 rfl hc12 (by decide) dX2_most_46 (fun H locs hP hD hS => ?_)
          have hP : va_P K.1 kCl (Mfix K qm td (nI n) th M (up2 (ofX td M b X k) 16 ((ofL td M b k).length) (nI k))) H := hP
          have hD : va_D A (Mfix K qm td (nI n) th M (up2 (ofX td M b X k) 16 ((ofL td M b k).length) (nI k))) := hD
          refine lv_iinc (v := nI ((ofL td M b k).length + 1)) (lv' := [(3, .int (nI ((ofL td M b k).length + 1))), (0, .ref (qm 0)), (1, .int (nI b)), (2, .int 1), (4, .int (nI k))]) hx hb dX2_most_47 hl (k := 3) rfl (kinc ((ofL td M b k).length)) (by decide) rfl (fun ls hl => ?_)
          refine lv_iinc (v := nI (k + 1)) (lv' := [(4, .int (nI (k + 1))), (3, .int (nI ((ofL td M b k).length + 1))), (0, .ref (qm 0)), (1, .int (nI b)), (2, .int 1)]) hx hb dX2_most_50 hl (k := 4) rfl (kinc k) (by decide) rfl (fun ls hl => ?_)
          refine lv_goto (tgt := 10) hx hb dX2_most_53 (by decide) ?_
          exact (ih (k + 1)  ls H locs (by omega) (by rw [ofX_t (bi_dn.mp h30) hc12]; exact hP) (by rw [ofX_t (bi_dn.mp h30) hc12]; exact hD) hS (by rw [ofL_t (bi_dn.mp h30), List.length_append]; exact lv_sub hl [2, 3, 4, 1, 0] rfl))
  refine LOOP _ (fun  ls H locs hP hD hS hl => ?_) n 0  ls _ _ (by omega) hP hD hS (lv_sub hl [3, 4, 2, 1, 0] rfl)
  refine lv_aload_n hx hb dX2_most_56 rfl (lv_at hl 0 rfl) ?_
  refine lv_iload_n hx hb dX2_most_57 rfl (lv_at hl 2 rfl) ?_
  refine lv_if_ne (tgt := 65) hx hb dX2_most_58 (by decide) (fun h58 => ?_) (fun h58 => False.elim (absurd h58 (by decide)))
  refine lv_iload_n hx hb dX2_most_65 rfl (lv_at hl 3 rfl) ?_
  refine lv_bipush (v := 12) hx hb dX2_most_66 (by decide) ?_
  refine lv_icmp_le (tgt := 75) hx hb dX2_most_68 (by decide) (fun h68 => ?_) (fun h68 => False.elim ((by rw [i32_le, nI_toInt (by have := ofL_len td M b n; omega)] at h68; have e12 : (12 : Int32).toInt = 12 := rfl; omega)))
  refine lv_iconst (v := 0) hx hb dX2_most_75 (by decide) ?_
  refine kc_i (va_runV (As := [.int 0]) (rest := []) ⟨hx, hb, hml, hown, hts⟩ (c_X2_fails (x := 0) (z := 0) (by decide)) (cwV 1 hts gX2_most_X2_fails rfl rfl rfl (by decide +kernel) ⟨Nat.le_of_ble_eq_true rfl, Nat.le_of_ble_eq_true rfl⟩) (kpv (q0 := 0) hG hP hD hS rfl rfl) rfl rfl hl.1 rfl (lv_room (Nat.le_of_ble_eq_true rfl)) dX2_most_76 ⟨Nat.le_of_ble_eq_true rfl, Nat.le_of_ble_eq_true rfl⟩) hS (fun r76 w H locs hp hP hD hS => ?_)
  rw [hp.2] at hP hD
  rw [hp.1]
  refine lv_if_eq (tgt := 84) hx hb dX2_most_79 (by decide) (fun h79 => ?_) (fun h79 => False.elim (absurd rfl h79))
  refine lv_iconst (v := 0) hx hb dX2_most_84 (by decide) ?_
  refine lv_istore (lv' := [(4, .int 0), (0, .ref (qm 0)), (1, .int (nI b)), (2, .int 1), (3, .int (nI (ofL td M b n).length))]) hx hb dX2_most_85 hl (by decide) rfl (fun ls hl => ?_)
  refine lv_iconst (v := 1) hx hb dX2_most_87 (by decide) ?_
  refine lv_istore (lv' := [(5, .int 1), (4, .int 0), (0, .ref (qm 0)), (1, .int (nI b)), (2, .int 1), (3, .int (nI (ofL td M b n).length))]) hx hb dX2_most_88 hl (by decide) rfl (fun ls hl => ?_)
  obtain ⟨N, hN⟩ : ∃ N, N + 1 = 2 ^ (ofL td M b n).length := ⟨2 ^ (ofL td M b n).length - 1, Nat.sub_add_cancel (Nat.one_le_two_pow)⟩
  have hN4 : N + 1 ≤ 4096 := by rw [hN]; exact Nat.pow_le_pow_right (by decide) hk12
  have hsh : (1 : Int32) <<< (nI (ofL td M b n).length &&& 31) = nI (N + 1) := by rw [hN]; exact shl_12 _ (by omega)
  have LOOPS : ∀ (Q' : State → Prop), (∀ (X1 : Nat → Nat → Int32) (hX1 : X1 16 = (ofX td M b X n) 16) (ls : Array Slot) (H : Heap) (locs : List Loc), va_P K.1 kCl (Mfix K qm td (nI n) 0 M X1) H → va_D A (Mfix K qm td (nI n) 0 M X1) → va_S A s.heap H locs → lv_has ls 7 [(0, .ref (qm 0)), (1, .int (nI b)), (2, .int 1), (3, .int (nI (ofL td M b n).length)), (4, .int (bmS (brR td n M b (ofL td M b n) (fun _ => 0)) N)), (5, .int (nI (N + 1)))] → W p l e (kR 3 0 0) s m args below meth c H locs 0 0 Q' (F0 m 130 ls [])) → ∀ (d k : Nat) (X1 : Nat → Nat → Int32) (hX1 : X1 16 = (ofX td M b X n) 16) (ls : Array Slot) (H : Heap) (locs : List Loc), k + d = N → va_P K.1 kCl (Mfix K qm td (nI n) 0 M X1) H → va_D A (Mfix K qm td (nI n) 0 M X1) → va_S A s.heap H locs → lv_has ls 7 [(0, .ref (qm 0)), (1, .int (nI b)), (2, .int 1), (3, .int (nI (ofL td M b n).length)), (4, .int (bmS (brR td n M b (ofL td M b n) (fun _ => 0)) k)), (5, .int (nI (k + 1)))] → W p l e (kR 3 0 0) s m args below meth c H locs 0 0 Q' (F0 m 90 ls []) := by
    intro Q' kx d
    induction d with
    | zero =>
      intro k X1 hX1 ls H locs hk hP hD hS hl
      have hk2 : k = N := by omega
      refine lv_iload hx hb dX2_most_90 (lv_at hl 5 rfl) ?_
      refine lv_iconst (v := 1) hx hb dX2_most_92 (by decide) ?_
      refine lv_iload_n hx hb dX2_most_93 rfl (lv_at hl 3 rfl) ?_
      refine lv_ishl hx hb dX2_most_94 ?_
      refine ktop (z := nI (N + 1)) hsh ?_
      refine lv_icmp_ge (tgt := 130) hx hb dX2_most_95 (by decide) (fun h95 => ?_) (fun h95 => False.elim (absurd (nI_le (by omega) (by omega)) h95))
      have hk3 : N = k := hk2.symm
      subst hk3
      exact kx X1 hX1 ls H locs hP hD hS (lv_sub hl [0, 1, 2, 3, 4, 5] rfl)
    | succ d ih =>
      intro k X1 hX1 ls H locs hk hP hD hS hl
      have hk2 : k < N := by omega
      refine lv_iload hx hb dX2_most_90 (lv_at hl 5 rfl) ?_
      refine lv_iconst (v := 1) hx hb dX2_most_92 (by decide) ?_
      refine lv_iload_n hx hb dX2_most_93 rfl (lv_at hl 3 rfl) ?_
      refine lv_ishl hx hb dX2_most_94 ?_
      refine ktop (z := nI (N + 1)) hsh ?_
      refine lv_icmp_ge (tgt := 130) hx hb dX2_most_95 (by decide) (fun h95 => False.elim (absurd h95 (nI_ge (by omega) (by omega)))) (fun h95 => ?_)
      refine lv_aload_n hx hb dX2_most_98 rfl (lv_at hl 0 rfl) ?_
      refine lv_iload_n hx hb dX2_most_99 rfl (lv_at hl 1 rfl) ?_
      refine lv_iload hx hb dX2_most_100 (lv_at hl 5 rfl) ?_
      refine lv_iload_n hx hb dX2_most_102 rfl (lv_at hl 3 rfl) ?_
      refine kc_i (va_runV (As := [.int (nI b), .int (nI (k + 1)), .int (nI (ofL td M b n).length)]) (rest := []) ⟨hx, hb, hml, hown, hts⟩ (c_X2_brings (X := X1) hn hx4 hok (fun k hk => by rw [hX1]; exact ofX_at (by omega) hk) (fun k hk => ofL_lt (ix_mem hk)) hk12) (cwV 3 hts gX2_most_X2_brings rfl rfl rfl (by decide +kernel) ⟨Nat.le_of_ble_eq_true rfl, Nat.le_of_ble_eq_true rfl⟩) (kpv (q0 := 0) hG hP hD hS rfl rfl) rfl rfl hl.1 rfl (lv_room (Nat.le_of_ble_eq_true rfl)) dX2_most_103 ⟨Nat.le_of_ble_eq_true rfl, Nat.le_of_ble_eq_true rfl⟩) hS (fun r103 w H locs hp hP hD hS => ?_)
      obtain ⟨hp1, X2, hX2, hp2⟩ := hp
      rw [hp2] at hP hD
      rw [hp1]
      refine lv_istore (lv' := [(6, .int (brR td n M b (ofL td M b n) (fun _ => 0) (k + 1))), (0, .ref (qm 0)), (1, .int (nI b)), (2, .int 1), (3, .int (nI (ofL td M b n).length)), (4, .int (bmS (brR td n M b (ofL td M b n) (fun _ => 0)) k)), (5, .int (nI (k + 1)))]) hx hb dX2_most_106 hl (by decide) rfl (fun ls hl => ?_)
      refine lv_iload hx hb dX2_most_108 (lv_at hl 0 rfl) ?_
      refine lv_iload hx hb dX2_most_110 (lv_at hl 5 rfl) ?_
      refine lv_icmp_le (tgt := 120) hx hb dX2_most_112 (by decide) (fun h112 => ?_) (fun h112 => ?_)
      · refine lv_iload hx hb dX2_most_120 (lv_at hl 5 rfl) ?_
        refine lv_istore (lv' := [(4, .int (bmS (brR td n M b (ofL td M b n) (fun _ => 0)) k)), (6, .int (brR td n M b (ofL td M b n) (fun _ => 0) (k + 1))), (0, .ref (qm 0)), (1, .int (nI b)), (2, .int 1), (3, .int (nI (ofL td M b n).length)), (5, .int (nI (k + 1)))]) hx hb dX2_most_122 hl (by decide) rfl (fun ls hl => ?_)
        refine lv_iinc (v := nI ((k + 1) + 1)) (lv' := [(5, .int (nI ((k + 1) + 1))), (4, .int (bmS (brR td n M b (ofL td M b n) (fun _ => 0)) k)), (6, .int (brR td n M b (ofL td M b n) (fun _ => 0) (k + 1))), (0, .ref (qm 0)), (1, .int (nI b)), (2, .int 1), (3, .int (nI (ofL td M b n).length))]) hx hb dX2_most_124 hl (k := 6) rfl (kinc (k + 1)) (by decide) rfl (fun ls hl => ?_)
        refine lv_goto (tgt := 90) hx hb dX2_most_127 (by decide) ?_
        exact (ih (k + 1) X2 (hX2.trans hX1) ls H locs (by omega) hP hD hS (by rw [bmS_f h112]; exact lv_sub hl [3, 4, 5, 6, 1, 0] rfl))
      · refine lv_iload hx hb dX2_most_115 (lv_at hl 0 rfl) ?_
        refine lv_goto (tgt := 122) hx hb dX2_most_117 (by decide) ?_
        refine lv_istore (lv' := [(4, .int (brR td n M b (ofL td M b n) (fun _ => 0) (k + 1))), (6, .int (brR td n M b (ofL td M b n) (fun _ => 0) (k + 1))), (0, .ref (qm 0)), (1, .int (nI b)), (2, .int 1), (3, .int (nI (ofL td M b n).length)), (5, .int (nI (k + 1)))]) hx hb dX2_most_122 hl (by decide) rfl (fun ls hl => ?_)
        refine lv_iinc (v := nI ((k + 1) + 1)) (lv' := [(5, .int (nI ((k + 1) + 1))), (4, .int (brR td n M b (ofL td M b n) (fun _ => 0) (k + 1))), (6, .int (brR td n M b (ofL td M b n) (fun _ => 0) (k + 1))), (0, .ref (qm 0)), (1, .int (nI b)), (2, .int 1), (3, .int (nI (ofL td M b n).length))]) hx hb dX2_most_124 hl (k := 6) rfl (kinc (k + 1)) (by decide) rfl (fun ls hl => ?_)
        refine lv_goto (tgt := 90) hx hb dX2_most_127 (by decide) ?_
        exact (ih (k + 1) X2 (hX2.trans hX1) ls H locs (by omega) hP hD hS (by rw [bmS_t h112]; exact lv_sub hl [3, 4, 5, 6, 1, 0] rfl))
  refine LOOPS _ (fun X1 hX1 ls H locs hP hD hS hl => ?_) N 0 _ rfl ls _ _ (by omega) hP hD hS (lv_sub hl [2, 3, 4, 5, 1, 0] rfl)
  refine lv_iload hx hb dX2_most_130 (lv_at hl 4 rfl) ?_
  exact kr_i hx hb hr hlocks hP hD hS (Nat.zero_le _) (Nat.zero_le _) (⟨by rw [show 2 ^ (ofL td M b n).length - 1 = N by omega], _, rfl⟩) dX2_most_132
