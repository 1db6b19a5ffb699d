/-! The law's checks: their cells, rows over them -/
abbrev iA (K : Ks) (N : Nat) (f : Nat → Int32) : va_E := .inl (kI K, N, .inl f)
/-- the law's seven arrays -/
abbrev LA (K : Ks) (q : Nat → Nat) (fb ft fn fm fl fu fg : Nat → Int32) : va_W := [(q 1, iA K 60 fb), (q 2, iA K 60 ft), (q 3, iA K 30 fn), (q 4, iA K 32 fm), (q 5, iA K 32 fl), (q 6, iA K 4 fu), (q 7, iA K 2 fg)]
theorem la_at {w W2 : va_W} {j : Nat} {x : Nat × va_E} (h : W2[j]? = some x) : (w ++ W2)[w.length + j]? = some x := by rw [List.getElem?_append_right (by omega), Nat.add_sub_cancel_left]; exact h
theorem la_set {w W2 : va_W} {j : Nat} {x : Nat × va_E} : (w ++ W2).set (w.length + j) x = w ++ W2.set j x := by rw [List.set_append_right _ _ (by omega), Nat.add_sub_cancel_left]
/-- the desk, the arrays, and what holds of them -/
def LSw (K : Ks) (ad q : Nat → Nat) (s : Nat) (w : va_W) : Prop := ∃ (td : Int32) (n : Nat) (M : Nat → Nat → Int32) (w2 : va_W) (fb ft fn fm fl fu fg : Nat → Int32), w = w2 ++ LA K q fb ft fn fm fl fu fg ∧ DE K ad td n M w2 ∧ LR td n M fb ft fn fm fl fu fg ∧ Jv s td n M
theorem LSw.up {K : Ks} {ad q : Nat → Nat} {s : Nat} {w : va_W} (h : LSw K ad q s w) : LSw K ad q (s + 1) w := by
  obtain ⟨td, n, M, w2, fb, ft, fn, fm, fl, fu, fg, h1, h2, h3, h4⟩ := h
  exact ⟨td, n, M, w2, fb, ft, fn, fm, fl, fu, fg, h1, h2, h3, h4.up⟩
theorem ixn {n : Nat} (hn : n ≤ 30) : ixBad n (nI n) := fun j hj e => by
  have h := congrArg Int32.toInt e
  rw [nI_toInt (by omega), nI_toInt (by omega)] at h
  omega
theorem ixm {n : Nat} (hn : n ≤ 30) : ixBad n (-1) := fun j hj e => by
  have h := congrArg Int32.toInt e
  rw [nI_toInt (by omega)] at h
  have e1 : (-1 : Int32).toInt = -1 := rfl
  omega
theorem ix44 : ixBad 4 4 := fun j hj e => ixn (n := 4) (by decide) j hj e
theorem ix88 : ixBad 8 8 := fun j hj e => ixn (n := 8) (by decide) j hj e
theorem nI_iff {a b : Nat} (ha : a < 2 ^ 31) (hb : b < 2 ^ 31) : nI a = nI b ↔ a = b :=
  ⟨fun h => by
    have e := congrArg Int32.toInt h
    rw [nI_toInt ha, nI_toInt hb] at e
    omega, fun h => by rw [h]⟩
theorem x2 (k : Nat) : (2 : Int32) * nI k = nI (2 * k) := pk_mul 2 k
theorem x21 (k : Nat) : (2 : Int32) * nI k + 1 = nI (2 * k + 1) := by rw [x2]; exact nI_1 _
theorem x30 (k : Nat) : (30 : Int32) + nI k = nI (30 + k) := nI_add 30 k
theorem nI_div {a b : Nat} (ha : a < 2 ^ 31) (hb : b < 2 ^ 31) : nI a / nI b = nI (a / b) := by
  refine Int32.toInt_inj.mp ?_
  have h1 : a / b ≤ a := Nat.div_le_self a b
  rw [Int32.toInt_div, nI_toInt ha, nI_toInt hb, nI_toInt (by omega)]
  have e : (a : Int).tdiv (b : Int) = ((a / b : Nat) : Int) := by
    rw [Int.tdiv_eq_ediv_of_nonneg (by omega)]; rfl
  rw [e]
  generalize a / b = d at h1 ⊢
  exact Int.bmod_eq_of_le (by omega) (by omega)
theorem nI_rem {a b : Nat} (ha : a < 2 ^ 31) (hb : b < 2 ^ 31) : nI a - nI a / nI b * nI b = nI (a % b) := by
  have h1 : b * (a / b) + a % b = a := Nat.div_add_mod a b
  have h0 : a / b * b ≤ a := Nat.div_mul_le_self a b
  have h2 : a / b * b + a % b = a := by rw [Nat.mul_comm]; exact h1
  rw [nI_div ha hb, pk_mul]
  refine Int32.toInt_inj.mp ?_
  rw [i32_sub (by rw [nI_toInt ha, nI_toInt (by omega)]; omega) (by rw [nI_toInt ha, nI_toInt (by omega)]; omega), nI_toInt ha, nI_toInt (by omega), nI_toInt (by omega)]
  omega
theorem d8 {a : Nat} (ha : a < 2 ^ 31) : nI a / 8 = nI (a / 8) := nI_div (b := 8) ha (by decide)
theorem m8 {a : Nat} (ha : a < 2 ^ 31) : nI a - nI a / 8 * 8 = nI (a % 8) := nI_rem (b := 8) ha (by decide)
theorem pr_lt {M : Nat → Nat → Int32} {i : Nat} (h : okP M i) : pr M i < 32 ∧ pr M i / 8 = bu M i ∧ pr M i % 8 = su M i := by
  have h1 := h.2.1
  have h2 := h.2.2.2
  unfold pr
  exact ⟨by omega, by omega, by omega⟩
theorem p88 (p : Nat) : 8 * (p / 8) + p % 8 = p := by omega
/-- what the law asks of a bill -/
theorem bill_ok {s n j : Nat} {td : Int32} {M : Nat → Nat → Int32} (h : Jv s td n M) (hj : j < n) : ¬ M 4 j < 0 ∧ ¬ 1000000 < M 4 j ∧ ¬ M 8 j < 0 ∧ ¬ M 4 j < M 8 j ∧ (¬ 2 < M 6 j → M 8 j = 0) ∧ (¬ M 6 j < 4 → M 8 j = M 4 j) ∧ ¬ M 9 j < 0 ∧ ¬ M 8 j < M 9 j ∧ (M 6 j = 1 → ¬ M 5 j ≤ td) ∧ ¬ M 4 j < M 10 j := by
  have hC := h.1.2.1 j hj
  have hB := h.1.1.2.2.1 j hj
  have a4 := hB.2.1
  have g6 := hB.2.2.1
  have e1 : (1000000 : Int32).toInt = 1000000 := rfl
  refine ⟨by rw [i32_lt, z0]; omega, by rw [i32_lt, e1]; omega, by rw [i32_lt, z0]; have := hC.2.1; omega, by rw [i32_lt]; have := hC.2.1; omega, fun q => ?_, fun q => ?_, by rw [i32_lt, z0]; have := hC.2.2.2.1; omega, by rw [i32_lt]; have := hC.2.2.2.1; omega, h.2 j hj, by rw [i32_lt]; have := hC.2.2.2.2; omega⟩
  · refine (hC.unp (fun r => ?_)).1
    rcases r with r | r <;> rw [r] at q <;> exact q (by decide)
  · refine hC.2.2.1 ?_
    rcases g6 with r | r | r | r | r
    · rw [r] at q; exact absurd (by decide) q
    · rw [r] at q; exact absurd (by decide) q
    · rw [r] at q; exact absurd (by decide) q
    · rw [r] at q; exact absurd (by decide) q
    · exact r
section LW
variable {p : Program} {l : Launch} {e : Env} {R : Room} {s : State} {m : MethodId} {args : Array Value} {below : List Frame} {meth : Method} {c : Code} {H : Heap} {locs : List Loc} {cells slots : Nat} {Q : State → Prop}
variable {cc : ByteArray} {pc : Nat} {ls : Array Slot} {rest : List Value} {K : Ks} {A : Nat → Prop} {w W2 : va_W} {b : Nat}
theorem kla_ld (hexec : p.tables.exec = Jvm.exec) (hb : c.code = cc) (hG : kGd K A s) (hP : va_P K.1 kCl (w ++ W2) H) (j0 : Nat) {n j : Nat} {f : Nat → Int32} {v z : Int32} (hv : v = nI j) (he : f j = z) (ha : W2[j0]? = some (b, .inl (kI K, n, .inl f))) (hj : j < n) (hn : n < 2 ^ 31) (hdg : decode cc pc = .ok (.iaload, 1))
    (kk : W p l e R s m args below meth c H locs cells slots Q (F0 m (pc + 1) ls (.int z :: rest))) : W p l e R s m args below meth c H locs cells slots Q (F0 m pc ls (.int v :: .ref b :: rest)) := by
  subst hv
  subst he
  exact kiald hexec hb hG hP (w.length + j0) (la_at ha) hj hn hdg kk
theorem kla_st (hexec : p.tables.exec = Jvm.exec) (hb : c.code = cc) (hG : kGd K A s) (hP : va_P K.1 kCl (w ++ W2) H) (hD : va_D A (w ++ W2)) (hS : va_S A s.heap H locs) (j0 : Nat) {n j : Nat} {f : Nat → Int32} {v x : Int32} (hv : v = nI j) (ha : W2[j0]? = some (b, .inl (kI K, n, .inl f))) (hj : j < n) (hn : n < 2 ^ 31) (hdg : decode cc pc = .ok (.iastore, 1))
    (kk : ∀ (H1 : Heap) (locs1 : List Loc), va_P K.1 kCl (w ++ W2.set j0 (b, .inl (kI K, n, .inl (upd f j x)))) H1 → va_D A (w ++ W2.set j0 (b, .inl (kI K, n, .inl (upd f j x)))) → va_S A s.heap H1 locs1 → W p l e R s m args below meth c H1 locs1 cells slots Q (F0 m (pc + 1) ls rest)) : W p l e R s m args below meth c H locs cells slots Q (F0 m pc ls (.int x :: .int v :: .ref b :: rest)) := by
  subst hv
  refine kiast hexec hb hG hP hD hS (w.length + j0) (la_at ha) hj hn hdg (fun H1 locs1 h1 h2 h3 => ?_)
  rw [la_set] at h1 h2
  exact kk H1 locs1 h1 h2 h3
end LW
/-- a start that knows the script -/
def kPrX (K : Ks) (A : Nat → Prop) (av : List Value) (w : va_W) (b L : Nat) (xs : Nat → Int32) : Array Value → State → Prop := va_Pc av (fun U => (kGd K A U ∧ va_P K.1 kCl w U.heap ∧ va_D A w) ∧ va_X b L xs U U.heap ∧ b < U.heap.size ∧ ¬ A b)
section KX
variable {p : Program} {l : Launch} {e : Env} {s : State} {m : MethodId} {args : Array Value} {below : List Frame} {meth : Method} {c : Code} {H : Heap} {locs : List Loc}
variable {K : Ks} {A : Nat → Prop} {w : va_W} {b L mc ms maxL : Nat} {xs : Nat → Int32} {As : List Value} {y : MethodName} {cc : ByteArray} {ret : Option FieldType} {ws ws' : List Cond} {rm : Room}
theorem X_go {U : State} (hX : va_X b L xs s s.heap) (hbl : b < s.heap.size) (hbA : ¬ A b) (hS : va_S A s.heap H locs) (hU : U.heap = H) (hW : s.vm.Alike U.vm) : va_X b L xs U U.heap ∧ b < U.heap.size ∧ ¬ A b := by
  refine ⟨?_, ?_, hbA⟩
  · rw [hU]; exact (hX.kept (hS.2.1 b hbl hbA)).moved hW
  · rw [hU]; exact Nat.lt_of_lt_of_le hbl hS.1
theorem kPrX.blind : FrameBlind (kPrX K A As w b L xs) := fun a _ g mk q => ⟨q.1, ⟨q.2.1.1.calling g mk a, q.2.1.2⟩, X_go q.2.2.1 q.2.2.2.1 q.2.2.2.2 (va_S.rf (A := A)) rfl (State.WarmedH.refl _).alike⟩
theorem kpsX (hG : kGd K A s) (hP : va_P K.1 kCl w H) (hD : va_D A w) (hS : va_S A s.heap H locs) (hX : va_X b L xs s s.heap) (hbl : b < s.heap.size) (hbA : ¬ A b) : PreS s H (kPrX K A As w b L xs) As :=
  ⟨kPrX.blind, fun U hU hW => ⟨rfl, ⟨hG.go hS hU hW, by rw [hU]; exact hP, hD⟩, X_go hX hbl hbA hS hU hW.alike⟩⟩
theorem kentX {av : List Value} {Qc : Array Value → State → Outcome → State → Prop} (hy : plainName y.cls = true) (hw : ws = Cond.code y cc maxL ret :: ws') (hn : (lg_sl av).length ≤ maxL)
    (body : ∀ (p : Program) (e : Env) (s : State) (m : MethodId) (args : Array Value) (below : List Frame) (meth : Method) (c : Code) (ls : Array Slot), p.tables.exec = Jvm.exec → c.code = cc → meth.sig.returnType = ret → (∀ w ∈ ws, w.before args s = true) → s.vm.findClass y.cls = some m.cls → meth.locks = false → c.maxLocals = maxL → kGd K A s → va_P K.1 kCl w s.heap → va_D A w → va_S A s.heap s.heap [] → va_X b L xs s s.heap → b < s.heap.size → ¬ A b → lv_has ls maxL (lv_args 0 av) →
      W p l e rm s m args below meth c s.heap [] 0 0 (MQ below Qc args s mc ms A) (F0 m 0 ls [])) : Met l y ws rm (kPrX K A av w b L xs) Qc mc ms A := by
  refine Met.ofW (cc := cc) (maxL := maxL) (ret := ret) hy hw ?_
  intro p e s m args below meth c s₁ B hml hv
  obtain ⟨rfl, ⟨hG, hP, hD⟩, hX, hbl, hbA⟩ := hv
  have hl := lv_entry av (n := maxL) hn
  rw [lg_entry_eq]
  exact body p e s m av.toArray below meth c _ B.exec B.bytes B.returns (atoms_spec (ws := ws) B.pre) (findClass_of_methodNamed B.named) B.notSynchronized hml hG hP hD va_S.rf hX hbl hbA hl
end KX
