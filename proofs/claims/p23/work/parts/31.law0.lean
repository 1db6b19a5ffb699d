/-! Calls beside cells that the called one doesn't see; methods with an exception table -/
theorem P_l {D : va_G} {cl : List vw_C} {H : Heap} {W1 W2 : va_W} (h : va_P D cl (W1 ++ W2) H) : va_P D cl W1 H := fun k q hq => h k q (by rw [List.getElem?_append_left (List.getElem?_eq_some_iff.mp hq).1]; exact hq)
theorem P_r {D : va_G} {cl : List vw_C} {H : Heap} {W1 W2 : va_W} (h : va_P D cl (W1 ++ W2) H) : va_P D cl W2 H := fun k q hq => h (W1.length + k) q (by rw [List.getElem?_append_right (by omega), Nat.add_sub_cancel_left]; exact hq)
theorem P_app {D : va_G} {cl : List vw_C} {H : Heap} {W1 W2 : va_W} (h1 : va_P D cl W1 H) (h2 : va_P D cl W2 H) : va_P D cl (W1 ++ W2) H := fun k q hq => by
  by_cases hk : k < W1.length
  · exact h1 k q (by rw [← List.getElem?_append_left hk]; exact hq)
  · exact h2 (k - W1.length) q (by rw [← List.getElem?_append_right (by omega)]; exact hq)
/-- the addresses but those of these cells -/
abbrev Aw (A : Nat → Prop) (W2 : va_W) : Nat → Prop := fun q => A q ∧ ∀ x ∈ W2, q ≠ x.1
theorem D_l {A : Nat → Prop} {W1 W2 : va_W} (h : va_D A (W1 ++ W2)) : va_D (Aw A W2) W1 := by
  have e : ∀ {k : Nat} {q : Nat × va_E}, W1[k]? = some q → (W1 ++ W2)[k]? = some q := fun hq => by rw [List.getElem?_append_left (List.getElem?_eq_some_iff.mp hq).1]; exact hq
  refine ⟨fun i j p q hi hj he => h.1 i j p q (e hi) (e hj) he, fun k q hk => ⟨h.2 k q (e hk), fun x hx he => ?_⟩⟩
  obtain ⟨m, hm⟩ := List.mem_iff_getElem?.mp hx
  have e2 : (W1 ++ W2)[W1.length + m]? = some x := by rw [List.getElem?_append_right (by omega), Nat.add_sub_cancel_left]; exact hm
  have e3 := h.1 k (W1.length + m) q x (e hk) e2 he
  have := (List.getElem?_eq_some_iff.mp hk).1
  omega
theorem D_r {A : Nat → Prop} {W1 W2 : va_W} (h : va_D A (W1 ++ W2)) : va_D A W2 := by
  have e : ∀ {k : Nat} {q : Nat × va_E}, W2[k]? = some q → (W1 ++ W2)[W1.length + k]? = some q := fun hq => by rw [List.getElem?_append_right (by omega), Nat.add_sub_cancel_left]; exact hq
  exact ⟨fun i j p q hi hj he => by have := h.1 _ _ p q (e hi) (e hj) he; omega, fun k q hk => h.2 _ q (e hk)⟩
theorem D_app {A : Nat → Prop} {W1 W2 : va_W} (h1 : va_D (Aw A W2) W1) (h2 : va_D A W2) : va_D A (W1 ++ W2) := by
  have sp : ∀ {k : Nat} {q : Nat × va_E}, (W1 ++ W2)[k]? = some q → (k < W1.length ∧ W1[k]? = some q) ∨ (W1.length ≤ k ∧ W2[k - W1.length]? = some q) := fun {k q} hq => by
    by_cases hk : k < W1.length
    · left; exact ⟨hk, by rw [← List.getElem?_append_left hk]; exact hq⟩
    · right; exact ⟨by omega, by rw [← List.getElem?_append_right (by omega)]; exact hq⟩
  refine ⟨fun i j p q hi hj he => ?_, fun k q hk => ?_⟩
  · rcases sp hi with ⟨a1, a2⟩ | ⟨a1, a2⟩ <;> rcases sp hj with ⟨b1, b2⟩ | ⟨b1, b2⟩
    · exact h1.1 i j p q a2 b2 he
    · exact absurd he ((h1.2 i p a2).2 q (List.mem_iff_getElem?.mpr ⟨_, b2⟩))
    · exact absurd he.symm ((h1.2 j q b2).2 p (List.mem_iff_getElem?.mpr ⟨_, a2⟩))
    · have := h2.1 _ _ p q a2 b2 he; omega
  · rcases sp hk with ⟨a1, a2⟩ | ⟨a1, a2⟩
    · exact (h1.2 k q a2).1
    · exact h2.2 _ q a2
section LR
variable {p : Program} {l : Launch} {e : Env} {R : Room} {s : State} {m : MethodId} {args : Array Value} {below : List Frame} {meth : Method} {c : Code} {H : Heap} {locs : List Loc} {cells slots : Nat} {Q : State → Prop}
variable {cc : ByteArray} {pc : Nat} {ls : Array Slot} {rest st0 : List Value} {a : Array Value} {K : Ks} {A : Nat → Prop} {W1 W2 : va_W} {mc ms : Nat} {b : Nat} {As : List Value}
theorem lgo (hG : kGd K A s) (hP : va_P K.1 kCl (W1 ++ W2) H) (hS : va_S A s.heap H locs) {U : State} (hU : U.heap = H) (hW : s.WarmedH U.vm) : kGd K (Aw A W2) U := by
  have g := hG.go hS hU hW
  refine ⟨g.1, fun q hq => ⟨g.2.1 q hq, fun x hx he => ?_⟩, g.2.2.1.narrow (fun q h => h.1), g.2.2.2⟩
  obtain ⟨k, hk⟩ := List.mem_iff_getElem?.mp hx
  have := (P_r hP k x hk).lt
  rw [hU] at hq
  omega
theorem lps (hG : kGd K A s) (hP : va_P K.1 kCl (W1 ++ W2) H) (hD : va_D A (W1 ++ W2)) (hS : va_S A s.heap H locs) : PreS s H (kPr K (Aw A W2) As W1) As :=
  ⟨kPr.blind, fun U hU hW => ⟨rfl, lgo hG hP hS hU hW, by rw [hU]; exact P_l hP, D_l hD⟩⟩
theorem lpv {q0 ci : Nat} {fs : List Value} {r : vw_C} (hG : kGd K A s) (hP : va_P K.1 kCl (W1 ++ W2) H) (hD : va_D A (W1 ++ W2)) (hS : va_S A s.heap H locs) (he : W1[q0]? = some (b, .inr (ci, fs))) (hc : kCl[ci]? = some r) : PreV s H r.1 b (kPr K (Aw A W2) (.ref b :: As) W1) As :=
  ⟨kPr.blind, va_recv hG.1 (P_l hP) hc he, fun U hU hW => ⟨rfl, lgo hG hP hS hU hW, by rw [hU]; exact P_l hP, D_l hD⟩⟩
theorem P_keep {H1 : Heap} (hP : va_P K.1 kCl (W1 ++ W2) H) (hk : ∀ q : Nat, q < H.size → ¬ Aw A W2 q → H1[q]? = H[q]?) : va_P K.1 kCl W2 H1 :=
  (P_r hP).kept (fun k x hx => hk x.1 ((P_r hP k x hx).lt) (fun q => q.2 x (List.mem_iff_getElem?.mpr ⟨k, hx⟩) rfl))
theorem kf_i {post : Int32 → va_W → Prop} (hr : va_Run p l e R s m args below meth c H locs cells slots mc ms (F0 m pc ls st0) rest (kQi K (Aw A W2) post a) (Aw A W2)) (hS : va_S A s.heap H locs) (hP : va_P K.1 kCl (W1 ++ W2) H) (hD : va_D A (W1 ++ W2))
    (kk : ∀ (r : Int32) (w1 : va_W) (H1 : Heap) (locs1 : List Loc), post r w1 → va_P K.1 kCl (w1 ++ W2) H1 → va_D A (w1 ++ W2) → va_S A s.heap H1 locs1 → W p l e R s m args below meth c H1 locs1 (cells + mc) (slots + ms) Q (F0 m (pc + 3) ls (.int r :: rest))) : W p l e R s m args below meth c H locs cells slots Q (F0 m pc ls st0) :=
  va_calli hr hS (fun _ _ h => h.1) (fun _ h => h.1) (fun r u t H1 locs1 ht _ hp hb _ hk hS1 => kk r u H1 locs1 hp (P_app (by rw [← ht]; exact hb.1) (P_keep hP hk)) (D_app hb.2 (D_r hD)) hS1)
theorem kf_v {post : va_W → Prop} (hr : va_Run p l e R s m args below meth c H locs cells slots mc ms (F0 m pc ls st0) rest (kQv K (Aw A W2) post a) (Aw A W2)) (hS : va_S A s.heap H locs) (hP : va_P K.1 kCl (W1 ++ W2) H) (hD : va_D A (W1 ++ W2))
    (kk : ∀ (w1 : va_W) (H1 : Heap) (locs1 : List Loc), post w1 → va_P K.1 kCl (w1 ++ W2) H1 → va_D A (w1 ++ W2) → va_S A s.heap H1 locs1 → W p l e R s m args below meth c H1 locs1 (cells + mc) (slots + ms) Q (F0 m (pc + 3) ls rest)) : W p l e R s m args below meth c H locs cells slots Q (F0 m pc ls st0) :=
  va_callv hr hS (fun _ _ h => h.1) (fun _ h => h.1) (fun u t H1 locs1 ht _ hp hb _ hk hS1 => kk u H1 locs1 hp (P_app (by rw [← ht]; exact hb.1) (P_keep hP hk)) (D_app hb.2 (D_r hD)) hS1)
theorem kf_f {post : UInt32 → va_W → Prop} (hr : va_Run p l e R s m args below meth c H locs cells slots mc ms (F0 m pc ls st0) rest (kQf K (Aw A W2) post a) (Aw A W2)) (hS : va_S A s.heap H locs) (hP : va_P K.1 kCl (W1 ++ W2) H) (hD : va_D A (W1 ++ W2))
    (kk : ∀ (r : UInt32) (w1 : va_W) (H1 : Heap) (locs1 : List Loc), post r w1 → va_P K.1 kCl (w1 ++ W2) H1 → va_D A (w1 ++ W2) → va_S A s.heap H1 locs1 → W p l e R s m args below meth c H1 locs1 (cells + mc) (slots + ms) Q (F0 m (pc + 3) ls (.float r :: rest))) : W p l e R s m args below meth c H locs cells slots Q (F0 m pc ls st0) :=
  va_callf hr hS (fun _ _ h => h.1) (fun _ h => h.1) (fun r u t H1 locs1 ht _ hp hb _ hk hS1 => kk r u H1 locs1 hp (P_app (by rw [← ht]; exact hb.1) (P_keep hP hk)) (D_app hb.2 (D_r hD)) hS1)
theorem kf_t {E : String} {pw : va_W → Prop} (hr : vx_Run p l e R s m args below meth c H locs cells slots mc ms (F0 m pc ls st0) rest (kNo a) (kX K (Aw A W2) E pw) (Aw A W2)) (hS : va_S A s.heap H locs) (hP : va_P K.1 kCl (W1 ++ W2) H) (hD : va_D A (W1 ++ W2))
    (kx : ∀ (ce : Cell) (q9 : Addr) (w1 : va_W) (H1 : Heap) (locs1 : List Loc), pw w1 → va_P K.1 kCl (w1 ++ W2) H1 → va_D A (w1 ++ W2) → va_S A s.heap H1 locs1 → H1[q9]? = some ce → ce.vm = .none → s.vm.findClass E = some ce.cls → vx_W p l e R s m args below meth c H1 locs1 (cells + mc) (slots + ms) Q (F0 m pc ls rest) q9) : W p l e R s m args below meth c H locs cells slots Q (F0 m pc ls st0) := by
  intro T hT X
  rcases hr T hT X with ⟨v, st₀, t, T', L, h0, X', hL, e1, e2, hF, st⟩ | ⟨q, st₀, t, T', L, E', ce, h0, X', hL, e1, e2, ⟨w1, hp, ⟨he, hb⟩, hF⟩, hce, hcv, hcl, st⟩
  · exact hF.elim
  · subst he
    obtain ⟨-, k2, k3⟩ := vx_keep h0 e1 hS (fun _ _ h => h.1) (fun _ h => h.1) hL hF
    obtain ⟨t2, a1, b1⟩ := kx ce q w1 T'.heap (locs ++ L) hp (P_app (by rw [e1]; exact hb.1) (P_keep hP k2)) (D_app hb.2 (D_r hD)) k3 (by rw [e1]; exact hce) hcv hcl T' rfl X'
    exact ⟨t2, st.trans a1, b1⟩
end LR
theorem kofWH {l : Launch} {y : MethodName} {ws ws' : List Cond} {rm : Room} {Pc : Array Value → State → Prop} {Qc : Array Value → State → Outcome → State → Prop} {mc ms : Nat} {free : Addr → Prop} {cc : ByteArray} {maxL : Nat} {ret : Option FieldType} {hh : List (Nat × Nat × Nat × Nat)}
    (hy : plainName y.cls = true) (hw : ws = Cond.codeWith y cc maxL ret hh :: ws')
    (body : ∀ p e s m args below meth c s₁, BodyLoose p l y (headSpec ws rm) cc maxL ret e s m args below meth c s₁ → c.maxLocals = maxL → Pc args s →
      W p l e (headSpec ws rm).room s m args below meth c s.heap [] 0 0 (MQ below Qc args s mc ms free) (entryFrame m args maxL)) : Met l y ws rm Pc Qc mc ms free := by
  refine MetFree.of_bodyS (code := cc) (maxLocals := maxL) (ret := ret) hy ?_ ?_
  · intro args s m h hn
    obtain ⟨m9, meth, c, hn9, h1, h2, h3, h4, -, h5, h6, -⟩ := Cond.codeWith_spec (atoms_spec (ws := ws) h _ (by rw [hw]; exact List.mem_cons_self))
    cases hn.symm.trans hn9
    exact ⟨meth, c, h1, h2, h3, h4, h5, h6⟩
  · intro p e s m args below meth c s₁ B hml hP _
    have hh0 : s₁.heap = s.heap := by rw [B.state]; rfl
    obtain ⟨t, a1, o, b1, b2, b3⟩ := body p e s m args below meth c s₁ B hml hP s₁ hh0 (Stand.of_body B)
    exact ⟨t, o, a1, b1, b2, ⟨b3.1, b3.2⟩⟩
theorem kentH {l : Launch} {y : MethodName} {ws ws' : List Cond} {rm : Room} {K : Ks} {A : Nat → Prop} {w : va_W} {mc ms maxL : Nat} {cc : ByteArray} {ret : Option FieldType} {hh : List (Nat × Nat × Nat × Nat)} {av : List Value} {Qc : Array Value → State → Outcome → State → Prop} (hy : plainName y.cls = true) (hw : ws = Cond.codeWith y cc maxL ret hh :: ws') (hn : (lg_sl av).length ≤ maxL)
    (body : ∀ (p : Program) (e : Env) (s : State) (m : MethodId) (args : Array Value) (below : List Frame) (meth : Method) (c : Code) (ls : Array Slot), p.tables.exec = Jvm.exec → c.code = cc → meth.sig.returnType = ret → (∀ w ∈ ws, w.before args s = true) → s.vm.findClass y.cls = some m.cls → meth.locks = false → c.maxLocals = maxL → c.exceptionTable.toList = tableOf hh → kGd K A s → va_P K.1 kCl w s.heap → va_D A w → va_S A s.heap s.heap [] → lv_has ls maxL (lv_args 0 av) →
      W p l e rm s m args below meth c s.heap [] 0 0 (MQ below Qc args s mc ms A) (F0 m 0 ls [])) : Met l y ws rm (kPr K A av w) Qc mc ms A := by
  refine kofWH (cc := cc) (maxL := maxL) (ret := ret) (hh := hh) hy hw ?_
  intro p e s m args below meth c s₁ B hml hv
  obtain ⟨rfl, hG, hP, hD⟩ := hv
  have hl := lv_entry av (n := maxL) hn
  have hts := atoms_spec (ws := ws) B.pre
  have htab := vx_table (x := y) B (hts (Cond.codeWith y cc maxL ret hh) (by rw [hw]; exact List.mem_cons_self))
  rw [lg_entry_eq]
  exact body p e s m av.toArray below meth c _ B.exec B.bytes B.returns hts (findClass_of_methodNamed B.named) B.notSynchronized hml htab hG hP hD va_S.rf hl
