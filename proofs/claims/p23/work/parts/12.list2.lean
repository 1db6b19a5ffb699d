/-! ArrayList: add at the end, add at a place -/
/-- not an Object[] -/
def nOA (K : Ks) (z : Nat × va_E) : Prop := ∀ (cap : Nat) (f : Nat → Option Nat), z.2 ≠ oA K cap f
theorem nOA_r {K : Ks} {b i : Nat} {vs : List Value} : nOA K (b, .inr (i, vs)) := fun _ _ h => by cases h
theorem nOA_i {K : Ks} {b n : Nat} {cI : ClassId} {f : Nat → Int32} : nOA K (b, .inl (cI, n, .inl f)) := fun _ _ h => by simp [oA] at h
/-- behind add: y stands at pos -/
def lAdd (K : Ks) (w : va_W) (p0 o ea : Nat) (mo : Int32) (n : Nat) (g : Nat → Nat) (pos y : Nat) (w1 : va_W) : Prop := ∃ (r cap' : Nat) (a' : Nat → Option Nat) (r' : Nat), r ≠ kE K ∧ n + 1 ≤ cap' ∧ 2 ≤ cap' ∧ cap' ≤ 60 ∧ w1[p0]? = some (o, .inr (0, [.int mo, .ref r, .int (nI (n + 1))])) ∧ w1[r']? = some (r, oA K cap' a') ∧ (∀ (q : Nat) (z : Nat × va_E), w[q]? = some z → q ≠ p0 → (z.1 ≠ ea ∨ nOA K z) → w1[q]? = some z ∧ q ≠ r' ∧ z.1 ≠ r) ∧ ∀ j, j < n + 1 → a' j = some (insG g pos y j)
theorem ins_end {a : Nat → Option Nat} {g : Nat → Nat} {n y : Nat} (h : ∀ j, j < n → a j = some (g j)) : ∀ j, j < n + 1 → va_up a n (some y) j = some (insG g n y j) := by
  intro j hj
  by_cases e : j = n
  · subst e; rw [va_up_self]; simp [insG]
  · have hj2 : j < n := by omega
    rw [va_up_ne _ _ e, h j hj2]
    simp [insG, hj2]
theorem ins_mid {a : Nat → Option Nat} {g : Nat → Nat} {n pos y : Nat} (hpos : pos ≤ n) (h : ∀ j, j < n → a j = some (g j)) : ∀ j, j < n + 1 → va_up (va_cpy a a pos (pos + 1) (n - pos)) pos (some y) j = some (insG g pos y j) := by
  intro j hj
  by_cases e : j = pos
  · subst e; rw [va_up_self]; simp [insG]
  · rw [va_up_ne _ _ e]
    by_cases h1 : j < pos
    · rw [pk_cpy_out (Or.inl (by omega)), h j (by omega)]
      simp [insG, h1]
    · rw [pk_cpy_in (by omega) (by omega), show pos + (j - (pos + 1)) = j - 1 by omega, h (j - 1) (by omega)]
      simp [insG, h1, e]
set_option maxHeartbeats 4000000 in
set_option maxRecDepth 100000 in
theorem c_add3 {l : Launch} {K : Ks} {A : Nat → Prop} {w : va_W} {p0 o ea n y qy : Nat} {mo : Int32} {vs : List Value} {g : Nat → Nat} (hp : w[p0]? = some (o, .inr (0, [.int mo, .ref ea, .int (nI n)]))) (hls : lst K w ea n g) (hel : bls w n g) (hy : w[qy]? = some (y, .inr (1, vs))) (hn : n ≤ 29) : Met l yJx4a65c_add_72be8 wsJx4a65c_add_72be8 (kR 5 1 60) (kPr K A [.ref o, .ref y, .ref ea, .int (nI n)] (w)) (kQv K A (fun w1 => lAdd K w p0 o ea mo n g n y w1)) 1 60 A := by
  refine kent (cc := cJx4a65c_add_72be8) (maxL := 4) (ret := none) (by decide) rfl (Nat.le_of_ble_eq_true rfl) ?_
  intro p e s m args below meth c ls hx hb hr hts hown hlocks hml hini hG hP hD hS hl
  have hinJx4a65c : ∀ x ∈ wsJx4a65c0, x ∈ wsJx4a65c_add_72be8 := by decide +kernel
  have hl : lv_has ls 4 [(0, .ref o), (1, .ref y), (2, .ref ea), (3, .int (nI n))] := hl
  have hyp : qy ≠ p0 := ws_cls hy hp (by decide)
  have TAIL : ∀ (w0 : va_W) (r r0 cap : Nat) (a : Nat → Option Nat) (ls : Array Slot) (H : Heap) (locs : List Loc), n + 1 ≤ cap → 2 ≤ cap → cap ≤ 60 → w0[p0]? = some (o, .inr (0, [.int mo, .ref r, .int (nI n)])) → w0[r0]? = some (r, oA K cap a) → (∀ (q : Nat) (z : Nat × va_E), w[q]? = some z → q ≠ p0 → (z.1 ≠ ea ∨ nOA K z) → w0[q]? = some z ∧ q ≠ r0) → (∀ j, j < n → a j = some (g j)) → va_P K.1 kCl w0 H → va_D A w0 → va_S A s.heap H locs → lv_has ls 4 [(2, .ref r), (0, .ref o), (1, .ref y), (3, .int (nI n))] → W p l e (kR 5 1 60) s m args below meth c H locs 1 60 (MQ below (kQv K A (fun w1 => lAdd K w p0 o ea mo n g n y w1)) args s 1 60 A) (F0 m 11 ls []) := by
    intro w0 r r0 cap a ls H locs k1 k2 k3 hp0 ha0 hfr hct hP hD hS hl
    have hrp : r0 ≠ p0 := ws_shape ha0 hp0
    have hD0 := hD
    have hrk : r ≠ kE K := fun e9 => va_T.out hG.2.2.1.2.2.2 (by rw [← e9]; exact hD.2 r0 _ ha0)
    have hy0 : w0[qy]? = some (y, .inr (1, vs)) := (hfr qy _ hy hyp (Or.inr nOA_r)).1
    have hyr : qy ≠ r0 := (hfr qy _ hy hyp (Or.inr nOA_r)).2
    refine lv_aload_n hx hb dJx4a65c_add_72be8_11 rfl (lv_at hl 0 rfl) ?_
    refine lv_iload_n hx hb dJx4a65c_add_72be8_12 rfl (lv_at hl 3 rfl) ?_
    refine lv_aload_n hx hb dJx4a65c_add_72be8_13 rfl (lv_at hl 2 rfl) ?_
    refine kaast (j := n) hx hb hG hP hD hS r0 qy ha0 hy0 k1 (by omega) dJx4a65c_add_72be8_14 (fun H locs hP hD hS => ?_)
    obtain ⟨w1, hw1⟩ : ∃ z, z = w0.set r0 (r, oA K cap (va_up a n (some y))) := ⟨_, rfl⟩
    have hP : va_P K.1 kCl w1 H := by rw [hw1]; exact hP
    have hD : va_D A w1 := by rw [hw1]; exact hD
    have hp1 : w1[p0]? = some (o, .inr (0, [.int mo, .ref r, .int (nI n)])) := by rw [hw1]; exact ws_ne hp0 (Ne.symm hrp)
    have ha1 : w1[r0]? = some (r, oA K cap (va_up a n (some y))) := by rw [hw1]; exact ws_self ha0
    refine lv_aload_n hx hb dJx4a65c_add_72be8_15 rfl (lv_at hl 1 rfl) ?_
    refine lv_iload_n hx hb dJx4a65c_add_72be8_16 rfl (lv_at hl 3 rfl) ?_
    refine lv_iconst (v := 1) hx hb dJx4a65c_add_72be8_17 (by decide) ?_
    refine lv_iadd hx hb dJx4a65c_add_72be8_18 ?_
    refine ktop (z := nI (n + 1)) (nI_1 n) ?_
    refine kput (ci := 0) (C := RJx4a65c) (T := TJx4a65c) (N := 3) hx hb hts hown hG hP hD hS p0 hp1 rfl hinJx4a65c tyJx4a65c tyJx4a65c_ok nmJx4a65c 2 (by decide) (by decide +kernel) rfl (by decide +kernel) (Nat.le_of_ble_eq_true rfl) dJx4a65c_add_72be8_19 (fun H locs hP hD hS => ?_)
    obtain ⟨w2, hw2⟩ : ∃ z, z = w1.set p0 (o, .inr (0, [.int mo, .ref r, .int (nI (n + 1))])) := ⟨_, rfl⟩
    have hP : va_P K.1 kCl w2 H := by rw [hw2]; exact hP
    have hD : va_D A w2 := by rw [hw2]; exact hD
    have hp2 : w2[p0]? = some (o, .inr (0, [.int mo, .ref r, .int (nI (n + 1))])) := by rw [hw2]; exact ws_self hp1
    have ha2 : w2[r0]? = some (r, oA K cap (va_up a n (some y))) := by rw [hw2]; exact ws_ne ha1 hrp
    exact kr_v hx hb hr hlocks hP hD hS (Nat.le_refl _) (Nat.le_refl _) (⟨r, cap, va_up a n (some y), r0, hrk, k1, k2, k3, hp2, ha2, fun q z h h2 h3 => ⟨by rw [hw2, hw1]; exact ws_ne (ws_ne (hfr q z h h2 h3).1 (hfr q z h h2 h3).2) h2, (hfr q z h h2 h3).2, fun e9 => (hfr q z h h2 h3).2 (hD0.1 q r0 z _ (hfr q z h h2 h3).1 ha0 e9)⟩, ins_end hct⟩) dJx4a65c_add_72be8_22
  rcases hls with ⟨he0, hn0⟩ | ⟨r1, cp, a1, hek, ha1, hc1, hc2, hc3, hct1⟩
  · subst he0 hn0
    refine lv_iload_n hx hb dJx4a65c_add_72be8_0 rfl (lv_at hl 3 rfl) ?_
    refine lv_aload_n hx hb dJx4a65c_add_72be8_1 rfl (lv_at hl 2 rfl) ?_
    refine va_tlen (v := 0) hx hb hG.2.2.1.2.2.2 hS rfl dJx4a65c_add_72be8_2 ?_
    refine lv_icmp_ne (tgt := 11) hx hb dJx4a65c_add_72be8_3 (by decide) (fun h3 => False.elim (h3 nI_0)) (fun h3 => ?_)
    refine lv_aload_n hx hb dJx4a65c_add_72be8_6 rfl (lv_at hl 0 rfl) ?_
    refine kc_r (va_runV (As := []) (rest := []) ⟨hx, hb, hml, hown, hts⟩ (c_grow_s (fun _ => none) hp) (cwV 0 hts gJx4a65c_add_72be8_Jx4a65c_grow_d5877 rfl rfl rfl (by decide +kernel) ⟨Nat.le_of_ble_eq_true rfl, Nat.le_of_ble_eq_true rfl⟩) (kpv (q0 := p0) hG hP hD hS hp rfl) rfl rfl hl.1 rfl (lv_room (Nat.le_of_ble_eq_true rfl)) dJx4a65c_add_72be8_7 ⟨Nat.le_of_ble_eq_true rfl, Nat.le_of_ble_eq_true rfl⟩) hS (fun r w9 H locs hp hP hD hS => ?_)
    have hp7 := hp
    refine lv_astore_n (lv' := [(2, .ref r), (0, .ref o), (1, .ref y), (3, .int (nI 0))]) hx hb dJx4a65c_add_72be8_10 rfl hl (by decide) rfl (fun ls hl => ?_)
    obtain ⟨cap9, a9, r9, u1, u2, u3, u4, u5, u6, u7⟩ := hp7
    exact TAIL w9 r r9 cap9 a9 ls H locs u1 u2 u3 u4 u5 (fun q z h h2 _ => u6 q z h h2) (fun j hj => absurd hj (Nat.not_lt_zero _)) hP hD hS (lv_sub hl [0, 1, 2, 3] rfl)
  · have hrp1 : r1 ≠ p0 := ws_shape ha1 hp
    refine lv_iload_n hx hb dJx4a65c_add_72be8_0 rfl (lv_at hl 3 rfl) ?_
    refine lv_aload_n hx hb dJx4a65c_add_72be8_1 rfl (lv_at hl 2 rfl) ?_
    refine kalen hx hb hG hP r1 ha1 dJx4a65c_add_72be8_2 ?_
    refine lv_icmp_ne (tgt := 11) hx hb dJx4a65c_add_72be8_3 (by decide) (fun h3 => ?_) (fun h3 => ?_)
    · have hlt : n < cp := Nat.lt_of_le_of_ne hc1 (fun q => h3 (by rw [q]))
      refine W.widen (k := 1) (n := 60) (Nat.zero_le _) (Nat.zero_le _) ?_
      exact TAIL w ea r1 cp a1 ls _ _ hlt hc2 hc3 hp ha1 (fun q z h h2 h3 => ⟨h, fun e => h3.elim (fun k => k (by subst e; exact (congrArg (fun v => Prod.fst v) (Option.some.inj (h.symm.trans ha1))))) (fun k => k _ _ (by subst e; exact (congrArg (fun v => Prod.snd v) (Option.some.inj (h.symm.trans ha1)))))⟩) hct1 hP hD hS (lv_sub hl [2, 0, 1, 3] rfl)
    · have hncp : n = cp := (nI_eq (by omega) (by omega)).mp h3
      refine lv_aload_n hx hb dJx4a65c_add_72be8_6 rfl (lv_at hl 0 rfl) ?_
      refine kc_r (va_runV (As := []) (rest := []) ⟨hx, hb, hml, hown, hts⟩ (c_grow_f hp (r0 := r1) (a := a1) (by rw [hncp]; exact ha1) hrp1 (by omega) hn (fun i hi y hy => by obtain rfl := Option.some.inj ((hct1 i hi).symm.trans hy); exact hel i hi)) (cwV 0 hts gJx4a65c_add_72be8_Jx4a65c_grow_d5877 rfl rfl rfl (by decide +kernel) ⟨Nat.le_of_ble_eq_true rfl, Nat.le_of_ble_eq_true rfl⟩) (kpv (q0 := p0) hG hP hD hS hp rfl) rfl rfl hl.1 rfl (lv_room (Nat.le_of_ble_eq_true rfl)) dJx4a65c_add_72be8_7 ⟨Nat.le_of_ble_eq_true rfl, Nat.le_of_ble_eq_true rfl⟩) hS (fun r w9 H locs hp hP hD hS => ?_)
      have hp7 := hp
      refine lv_astore_n (lv' := [(2, .ref r), (0, .ref o), (1, .ref y), (3, .int (nI n))]) hx hb dJx4a65c_add_72be8_10 rfl hl (by decide) rfl (fun ls hl => ?_)
      obtain ⟨cap9, a9, r9, u1, u2, u3, u4, u5, u6, u7⟩ := hp7
      exact TAIL w9 r r9 cap9 a9 ls H locs u1 u2 u3 u4 u5 (fun q z h h2 _ => u6 q z h h2) (fun j hj => (u7 j hj).trans (hct1 j hj)) hP hD hS (lv_sub hl [0, 1, 2, 3] rfl)
