/-! The class's world: what it holds (Dk), its changes; throws -/
/-- a bill's cell -/
def brow (M : Nat → Nat → Int32) (i : Nat) : List Value := [.int (nI i), .int (M 2 i), .int (M 3 i), .int (M 5 i), .int (M 4 i), .int (M 6 i), .int (M 7 i), .int (M 8 i), .int (M 9 i), .int (M 10 i)]
def Dk (K : Ks) (ad bad : Nat → Nat) (td : Int32) (n : Nat) (M : Nat → Nat → Int32) (rm : Nat → Int32) (k : Nat) (idx : Nat → Nat) (w : va_W) : Prop :=
  (n ≤ 30 ∧ k ≤ 30 ∧ ∀ j, j < k → idx j < n) ∧
  (w[0]? = some (ad 0, .inr (2, [.ref (ad 1), .ref (ad 2), .ref (ad 3), .ref (ad 5), .int td, .ref (ad 6), .ref (ad 4)])) ∧ w[1]? = some (ad 1, .inl (kI K, 4, .inl (M 11))) ∧ w[2]? = some (ad 2, .inl (kI K, 32, .inl (M 12))) ∧ w[3]? = some (ad 3, .inl (kI K, 32, .inl (M 13))) ∧ w[4]? = some (ad 4, .inl (kI K, 8, .inl rm))) ∧
  (∃ (m5 : Int32) (e5 : Nat) (m6 : Int32) (e6 : Nat), w[5]? = some (ad 5, .inr (0, [.int m5, .ref e5, .int (nI n)])) ∧ w[6]? = some (ad 6, .inr (0, [.int m6, .ref e6, .int (nI k)])) ∧ lst K w e5 n bad ∧ lst K w e6 k (fun j => bad (idx j)) ∧ (e5 ≠ e6 ∨ e5 = kE K)) ∧
  (∀ i, i < n → ∃ q : Nat, w[q]? = some (bad i, .inr (1, brow M i))) ∧ ∀ i j, i < n → j < n → bad i = bad j → i = j
section DK
variable {K : Ks} {ad bad : Nat → Nat} {td : Int32} {n : Nat} {M : Nat → Nat → Int32} {rm : Nat → Int32} {k : Nat} {idx : Nat → Nat} {w : va_W}
theorem Dk.n30 (h : Dk K ad bad td n M rm k idx w) : n ≤ 30 := h.1.1
theorem Dk.k30 (h : Dk K ad bad td n M rm k idx w) : k ≤ 30 := h.1.2.1
theorem Dk.ix (h : Dk K ad bad td n M rm k idx w) {j : Nat} (hj : j < k) : idx j < n := h.1.2.2 j hj
theorem Dk.x (h : Dk K ad bad td n M rm k idx w) : w[0]? = some (ad 0, .inr (2, [.ref (ad 1), .ref (ad 2), .ref (ad 3), .ref (ad 5), .int td, .ref (ad 6), .ref (ad 4)])) := h.2.1.1
theorem Dk.a1 (h : Dk K ad bad td n M rm k idx w) : w[1]? = some (ad 1, .inl (kI K, 4, .inl (M 11))) := h.2.1.2.1
theorem Dk.a2 (h : Dk K ad bad td n M rm k idx w) : w[2]? = some (ad 2, .inl (kI K, 32, .inl (M 12))) := h.2.1.2.2.1
theorem Dk.a3 (h : Dk K ad bad td n M rm k idx w) : w[3]? = some (ad 3, .inl (kI K, 32, .inl (M 13))) := h.2.1.2.2.2.1
theorem Dk.a4 (h : Dk K ad bad td n M rm k idx w) : w[4]? = some (ad 4, .inl (kI K, 8, .inl rm)) := h.2.1.2.2.2.2
theorem Dk.l5 (h : Dk K ad bad td n M rm k idx w) : ∃ (m5 : Int32) (e5 : Nat), w[5]? = some (ad 5, .inr (0, [.int m5, .ref e5, .int (nI n)])) := by
  obtain ⟨m5, e5, -, -, h5, -⟩ := h.2.2.1
  exact ⟨m5, e5, h5⟩
theorem Dk.l6 (h : Dk K ad bad td n M rm k idx w) : ∃ (m6 : Int32) (e6 : Nat), w[6]? = some (ad 6, .inr (0, [.int m6, .ref e6, .int (nI k)])) := by
  obtain ⟨-, -, m6, e6, -, h6, -⟩ := h.2.2.1
  exact ⟨m6, e6, h6⟩
theorem Dk.bls (h : Dk K ad bad td n M rm k idx w) : bls w n bad := fun j hj => by
  obtain ⟨q, hq⟩ := h.2.2.2.1 j hj
  exact ⟨q, _, hq⟩
theorem brow_n {N : Nat → Nat → Int32} {i : Nat} (h : ∀ f, 2 ≤ f → f ≤ 10 → N f i = M f i) : brow N i = brow M i := by
  unfold brow
  rw [h 2 (by decide) (by decide), h 3 (by decide) (by decide), h 4 (by decide) (by decide), h 5 (by decide) (by decide), h 6 (by decide) (by decide), h 7 (by decide) (by decide), h 8 (by decide) (by decide), h 9 (by decide) (by decide), h 10 (by decide) (by decide)]
theorem lst_ne {e m p0 : Nat} {g : Nat → Nat} {z : Nat × va_E} (h : lst K w e m g) (hp : ∀ (r0 cap : Nat) (a : Nat → Option Nat), w[r0]? = some (e, oA K cap a) → r0 ≠ p0) : lst K (w.set p0 z) e m g := by
  rcases h with h | ⟨r0, cap, a, h0, h1, h2⟩
  · exact Or.inl h
  · exact Or.inr ⟨r0, cap, a, h0, ws_ne h1 (hp _ _ _ h1), h2⟩
/-- one cell is another now: the rest stays -/
theorem Dk.put (h : Dk K ad bad td n M rm k idx w) (p0 : Nat) (z : Nat × va_E) {td' : Int32} {N : Nat → Nat → Int32} {rm' : Nat → Int32}
    (h0 : (w.set p0 z)[0]? = some (ad 0, .inr (2, [.ref (ad 1), .ref (ad 2), .ref (ad 3), .ref (ad 5), .int td', .ref (ad 6), .ref (ad 4)]))) (h1 : (w.set p0 z)[1]? = some (ad 1, .inl (kI K, 4, .inl (N 11)))) (h2 : (w.set p0 z)[2]? = some (ad 2, .inl (kI K, 32, .inl (N 12)))) (h3 : (w.set p0 z)[3]? = some (ad 3, .inl (kI K, 32, .inl (N 13)))) (h4 : (w.set p0 z)[4]? = some (ad 4, .inl (kI K, 8, .inl rm')))
    (h5 : p0 ≠ 5) (h6 : p0 ≠ 6) (ha : ∀ (r0 e cap : Nat) (a : Nat → Option Nat), w[r0]? = some (e, oA K cap a) → r0 ≠ p0) (hb : ∀ i, i < n → ∃ q : Nat, (w.set p0 z)[q]? = some (bad i, .inr (1, brow N i))) : Dk K ad bad td' n N rm' k idx (w.set p0 z) := by
  obtain ⟨g1, g2, ⟨m5, e5, m6, e6, k5, k6, k7, k8, k9⟩, g4, g5⟩ := h
  exact ⟨g1, ⟨h0, h1, h2, h3, h4⟩, ⟨m5, e5, m6, e6, ws_ne k5 (Ne.symm h5), ws_ne k6 (Ne.symm h6), lst_ne k7 (fun r0 cap a => ha r0 e5 cap a), lst_ne k8 (fun r0 cap a => ha r0 e6 cap a), k9⟩, hb, g5⟩
theorem Dk.set0 (h : Dk K ad bad td n M rm k idx w) (td' : Int32) : Dk K ad bad td' n M rm k idx (w.set 0 (ad 0, .inr (2, [.ref (ad 1), .ref (ad 2), .ref (ad 3), .ref (ad 5), .int td', .ref (ad 6), .ref (ad 4)]))) :=
  h.put 0 _ (ws_self h.x) (ws_ne h.a1 (by decide)) (ws_ne h.a2 (by decide)) (ws_ne h.a3 (by decide)) (ws_ne h.a4 (by decide)) (by decide) (by decide) (fun _ _ _ _ q => ws_shape q h.x) (fun i hi => by
    obtain ⟨q, hq⟩ := h.2.2.2.1 i hi
    exact ⟨q, ws_ne hq (ws_cls hq h.x (by decide))⟩)
theorem nO_i {p q a b n : Nat} {cap : Nat} {f : Nat → Option Nat} {g : Nat → Int32} {cI : ClassId} (h1 : w[p]? = some (a, oA K cap f)) (h2 : w[q]? = some (b, .inl (cI, n, .inl g))) : p ≠ q := fun e => by
  subst e
  have h := congrArg (fun z => Prod.snd z) (Option.some.inj (h1.symm.trans h2))
  simp [oA] at h
theorem Dk.set1 (h : Dk K ad bad td n M rm k idx w) (b : Nat) (v : Int32) : Dk K ad bad td n (up2 M 11 b v) rm k idx (w.set 1 (ad 1, .inl (kI K, 4, .inl (upd (M 11) b v)))) :=
  h.put 1 _ (ws_ne h.x (by decide)) (ws_self h.a1) (ws_ne h.a2 (by decide)) (ws_ne h.a3 (by decide)) (ws_ne h.a4 (by decide)) (by decide) (by decide) (fun _ _ _ _ q => nO_i q h.a1) (fun i hi => by
    obtain ⟨q, hq⟩ := h.2.2.2.1 i hi
    exact ⟨q, ws_ne hq (ws_shape h.a1 hq).symm⟩)
theorem Dk.set2 (h : Dk K ad bad td n M rm k idx w) (b : Nat) (v : Int32) : Dk K ad bad td n (up2 M 12 b v) rm k idx (w.set 2 (ad 2, .inl (kI K, 32, .inl (upd (M 12) b v)))) :=
  h.put 2 _ (ws_ne h.x (by decide)) (ws_ne h.a1 (by decide)) (ws_self h.a2) (ws_ne h.a3 (by decide)) (ws_ne h.a4 (by decide)) (by decide) (by decide) (fun _ _ _ _ q => nO_i q h.a2) (fun i hi => by
    obtain ⟨q, hq⟩ := h.2.2.2.1 i hi
    exact ⟨q, ws_ne hq (ws_shape h.a2 hq).symm⟩)
theorem Dk.set3 (h : Dk K ad bad td n M rm k idx w) (b : Nat) (v : Int32) : Dk K ad bad td n (up2 M 13 b v) rm k idx (w.set 3 (ad 3, .inl (kI K, 32, .inl (upd (M 13) b v)))) :=
  h.put 3 _ (ws_ne h.x (by decide)) (ws_ne h.a1 (by decide)) (ws_ne h.a2 (by decide)) (ws_self h.a3) (ws_ne h.a4 (by decide)) (by decide) (by decide) (fun _ _ _ _ q => nO_i q h.a3) (fun i hi => by
    obtain ⟨q, hq⟩ := h.2.2.2.1 i hi
    exact ⟨q, ws_ne hq (ws_shape h.a3 hq).symm⟩)
theorem Dk.set4 (h : Dk K ad bad td n M rm k idx w) (b : Nat) (v : Int32) : Dk K ad bad td n M (upd rm b v) k idx (w.set 4 (ad 4, .inl (kI K, 8, .inl (upd rm b v)))) :=
  h.put 4 _ (ws_ne h.x (by decide)) (ws_ne h.a1 (by decide)) (ws_ne h.a2 (by decide)) (ws_ne h.a3 (by decide)) (ws_self h.a4) (by decide) (by decide) (fun _ _ _ _ q => nO_i q h.a4) (fun i hi => by
    obtain ⟨q, hq⟩ := h.2.2.2.1 i hi
    exact ⟨q, ws_ne hq (ws_shape h.a4 hq).symm⟩)
/-- the fields of a bill that may change, and their numbers in the table -/
def slotF (s f : Nat) : Prop := (s = 4 ∧ f = 4) ∨ (s = 5 ∧ f = 6) ∨ (s = 6 ∧ f = 7) ∨ (s = 7 ∧ f = 8) ∨ (s = 8 ∧ f = 9) ∨ (s = 9 ∧ f = 10)
theorem Dk.bill (h : Dk K ad bad td n M rm k idx w) {i : Nat} (hi : i < n) : ∃ q : Nat, w[q]? = some (bad i, .inr (1, brow M i)) ∧ ∀ (s f : Nat) (v : Int32), slotF s f → Dk K ad bad td n (up2 M f i v) rm k idx (w.set q (bad i, .inr (1, (brow M i).set s (.int v)))) := by
  obtain ⟨q, hq⟩ := h.2.2.2.1 i hi
  refine ⟨q, hq, fun s f v hs => ?_⟩
  have hf : f ≤ 10 := by rcases hs with h | h | h | h | h | h <;> omega
  have e : (brow M i).set s (.int v) = brow (up2 M f i v) i := by
    rcases hs with ⟨rfl, rfl⟩ | ⟨rfl, rfl⟩ | ⟨rfl, rfl⟩ | ⟨rfl, rfl⟩ | ⟨rfl, rfl⟩ | ⟨rfl, rfl⟩ <;> simp [brow, up2, va_up, upd]
  refine h.put q _ (ws_ne h.x (ws_cls hq h.x (by decide)).symm) ?_ ?_ ?_ (ws_ne h.a4 (ws_shape h.a4 hq)) ?_ ?_ (fun _ _ _ _ z => ws_shape z hq) (fun j hj => ?_)
  · rw [up2_n M v (by omega : 11 ≠ f)]; exact ws_ne h.a1 (ws_shape h.a1 hq)
  · rw [up2_n M v (by omega : 12 ≠ f)]; exact ws_ne h.a2 (ws_shape h.a2 hq)
  · rw [up2_n M v (by omega : 13 ≠ f)]; exact ws_ne h.a3 (ws_shape h.a3 hq)
  · obtain ⟨m5, e5, h5⟩ := h.l5
    exact ws_cls hq h5 (by decide)
  · obtain ⟨m6, e6, h6⟩ := h.l6
    exact ws_cls hq h6 (by decide)
  · by_cases hji : j = i
    · subst hji; exact ⟨q, by rw [e]; exact ws_self hq⟩
    · obtain ⟨q2, hq2⟩ := h.2.2.2.1 j hj
      have hne : q2 ≠ q := fun e2 => by
        subst e2
        exact hji (h.2.2.2.2 j i hj hi (congrArg (fun z => Prod.fst z) (Option.some.inj (hq2.symm.trans hq))))
      refine ⟨q2, ?_⟩
      rw [brow_n (M := M) (N := up2 M f i v) (fun g _ _ => ?_)]
      · exact ws_ne hq2 hne
      · by_cases hg : g = f
        · subst hg; rw [up2_s]; exact pk_un hji
        · rw [up2_n M v hg]
end DK
section KT
variable {p : Program} {l : Launch} {e : Env} {R : Room} {s : State} {m : MethodId} {args : Array Value} {below : List Frame} {meth : Method} {c : Code} {H : Heap} {locs : List Loc} {cells slots : Nat} {Qc : Array Value → State → Outcome → State → Prop}
variable {cc : ByteArray} {pc : Nat} {ls : Array Slot} {rest : List Value} {K : Ks} {A : Nat → Prop} {w : va_W} {Ts : List Cond}
/-- throw new E(text) in the class -/
theorem kthrow (hexec : p.tables.exec = Jvm.exec) (hb : c.code = cc) (hl : l.stackTraces = false) {cls text : String} {ik is ic mc ms sa : Nat} {pw : va_W → Prop} (hown : s.vm.findClass RX1 = some m.cls) (hts : ∀ x ∈ Ts, x.before args s = true) (hG : kGd K A s) (hP : va_P K.1 kCl w H) (hD : va_D A w) (hS : va_S A s.heap H locs)
    (hcls : Bundle.fit cls = true) (hk : Cond.classLink RX1 ik cls ∈ Ts) (hini : Cond.initialized cls ∈ Ts) (hstr : vk_R RX1 is text sa s) (hin : ∀ x ∈ (vx_atS RX1 ic cls ["java/lang/RuntimeException", "java/lang/Exception"]).filter goodWord, x ∈ Ts) (hcast : va_Nw (.castable cls cls) s)
    (hbad : ∀ x ∈ (vx_atS RX1 ic cls ["java/lang/RuntimeException", "java/lang/Exception"]).filter (fun x => !goodWord x), x ∈ [Cond.castable cls cls, Cond.declares (Bundle.initS "java/lang/RuntimeException"), Cond.declares (Bundle.initS "java/lang/Exception"), Cond.declares (Bundle.initS Bundle.tN)]) (hgood : ∀ x ∈ Cond.classLink RX1 ik cls :: Cond.initialized cls :: vx_atS RX1 ic cls ["java/lang/RuntimeException", "java/lang/Exception"], vx_ot x = true) (hsize : ls.size = c.maxLocals)
    (d0 : decode cc pc = .ok (.new ik, 3)) (d3 : decode cc (pc + 3) = .ok (.dup, 1)) (d4 : decode cc (pc + 4) = .ok (.ldc is, 2)) (d6 : decode cc (pc + 6) = .ok (.invokespecial ic, 3)) (d9 : decode cc (pc + 9) = .ok (.athrow, 1)) (hout : ∀ x ∈ c.exceptionTable.toList, False) (hlocks : meth.locks = false)
    (hRf : 5 < R.frames) (hRl : (rest.map fun v => v.category).sum + 82 ≤ R.locals) (hRc : cells + 1 ≤ R.cells) (hRs : slots + 6 ≤ R.slots) (hp : pw w) (hc : cells + 1 ≤ mc) (hs : slots + 6 ≤ ms) :
    W p l e R s m args below meth c H locs cells slots (vx_MQ below Qc (kX K A cls pw) args s mc ms A) (F0 m pc ls rest) :=
  vx_throwS (names := ["java/lang/RuntimeException", "java/lang/Exception"]) hexec hb hl hown hcls (by decide) (hts _ hk) (hts _ hini) hstr (vx_hat (fun x hx => hts x (hin x hx)) hbad (vx_c (va_Nw.use rfl hcast) (vx_c (va_Nw.use rfl hG.2.2.2.2.2.2.2.1.2.1) (vx_c (va_Nw.use rfl hG.2.2.2.2.2.2.2.1.2.2.1) (vx_c (va_Nw.use rfl hG.2.2.2.2.2.2.2.1.2.2.2.1) vx_n))))) hgood hG.2.2.1.1 hG.2.2.1.2.1 hS hsize d0 d3 d4 d6 d9 (fun x hx => (hout x hx).elim) hRf hRl hRc hRs hlocks
    (fun t hvm hz hkept => ⟨w, hp, ⟨rfl, hP.kept (fun k q hq => hkept q.1 (hP k q hq).lt), hD⟩, Nat.le_trans hS.1 hz, fun q h1 h2 => (hkept q (Nat.lt_of_lt_of_le h1 hS.1)).trans (hS.2.1 q h1 h2)⟩) hS.2.2 hc hs
end KT
