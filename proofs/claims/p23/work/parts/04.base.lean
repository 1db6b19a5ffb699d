/-! Base: the classes of the worlds, what every call is given (the tables' facts, the statics), contracts in one form, and the rows that call them. -/
abbrev kCl : List vw_C := [(RJx4a65c, TJx4a65c, 3), (RX0, TX0, 10), (RX1, TX1, 7)]
abbrev IOB : String := "java/lang/IndexOutOfBoundsException"
abbrev IAE : String := "java/lang/IllegalArgumentException"
abbrev ISE : String := "java/lang/IllegalStateException"
/-- the ids of classes and arrays, the shared empty array, the mirror of Object[], the texts -/
abbrev Ks : Type := va_G × (ClassId × ClassId × ClassId × ClassId × ClassId) × (Nat × Nat) × (Nat → Nat)
abbrev kI (K : Ks) : ClassId := K.2.1.1
abbrev kZ (K : Ks) : ClassId := K.2.1.2.1
abbrev kO (K : Ks) : ClassId := K.2.1.2.2.1
abbrev kJ (K : Ks) : ClassId := K.2.1.2.2.2.1
abbrev kD (K : Ks) : ClassId := K.2.1.2.2.2.2
abbrev kE (K : Ks) : Nat := K.2.2.1.1
abbrev kM (K : Ks) : Nat := K.2.2.1.2
abbrev kS (K : Ks) : Nat → Nat := K.2.2.2
abbrev kty (K : Ks) : List (ClassId × FieldType) := [(kI K, .int), (kI K, .int), (kO K, .object "java/lang/Object"), (kI K, .int), (kI K, .int)]
/-- statics that nobody writes -/
def kst (K : Ks) (A : Nat → Prop) (U : State) (H : Heap) : Prop := vx_Zq Bundle.tN "UNASSIGNED_STACK" Bundle.steD A U H ∧ vx_Zq Bundle.tN "SUPPRESSED_SENTINEL" Bundle.listD A U H ∧ va_Z "java/util/ArrayList" "DEFAULTCAPACITY_EMPTY_ELEMENTDATA" "[Ljava/lang/Object;" (.ref (kE K)) A U H ∧ va_T (.object "java/lang/Object") (kE K) 0 (fun _ => .null) A U H
/-- the constructors that exceptions' constructors call -/
def kdc (U : State) : Prop := va_Nw (.declares (Bundle.initS "java/lang/RuntimeException")) U ∧ va_Nw (.declares (Bundle.initS "java/lang/Exception")) U ∧ va_Nw (.declares (Bundle.initS Bundle.tN)) U ∧ va_Nc IAE IOB U ∧ va_Nc ISE IOB U ∧ va_Nc ISE IAE U
/-- what the tables say beside the words -/
def ktb (K : Ks) (U : State) : Prop := (va_AO "java/lang/Object" U ∧ va_Mi "[Ljava/lang/Object;" (kM K) U ∧ va_Dc U) ∧ (vk_R "EarlybirdDesk" 155 "no such buyer" (kS K 0) U ∧ vk_R "EarlybirdDesk" 160 "no such supplier" (kS K 1) U ∧ vk_R "EarlybirdDesk" 164 "argument out of range" (kS K 2) U ∧ vk_R "EarlybirdDesk" 169 "not possible now" (kS K 3) U ∧ vk_R "EarlybirdDesk" 172 "no such bill" (kS K 4) U) ∧ (va_Nw (.castable IOB IOB) U ∧ va_Nw (.castable IAE IAE) U ∧ (va_Nw (.castable ISE ISE) U ∧ kdc U) ∧ va_Nw (.castable RX0 "java/lang/Object") U)
/-- what every call is given: the tables, the statics; new cells are its own -/
def kGd (K : Ks) (A : Nat → Prop) (U : State) : Prop := va_K K.1 kCl (kty K) U ∧ (∀ q : Nat, U.heap.size ≤ q → A q) ∧ kst K A U U.heap ∧ ktb K U
theorem kst.moved {K : Ks} {A : Nat → Prop} {u U : State} {H : Heap} (hvm : u.vm.Alike U.vm) (h : kst K A u H) : kst K A U H := ⟨h.1.moved hvm, h.2.1.moved hvm, h.2.2.1.moved hvm, h.2.2.2.moved hvm⟩
theorem kst.kept {K : Ks} {A : Nat → Prop} {U : State} {H H1 : Heap} (h : kst K A U H) (hq : ∀ a : Nat, a < H.size → ¬ A a → H1[a]? = H[a]?) : kst K A U H1 := ⟨h.1.kept hq, h.2.1.kept hq, h.2.2.1.kept hq, h.2.2.2.kept hq⟩
theorem kst.narrow {K : Ks} {A B : Nat → Prop} {U : State} {H : Heap} (h : kst K A U H) (hAB : ∀ q, B q → A q) : kst K B U H := ⟨h.1.narrow hAB, h.2.1.narrow hAB, h.2.2.1.narrow hAB, h.2.2.2.narrow hAB⟩
theorem ktb.warm {K : Ks} {s U : State} (hW : s.WarmedH U.vm) (h : ktb K s) : ktb K U := ⟨⟨h.1.1.moved hW.alike, h.1.2.1.moved hW.alike, h.1.2.2.moved hW.alike⟩, ⟨h.2.1.1.warm hW, h.2.1.2.1.warm hW, h.2.1.2.2.1.warm hW, h.2.1.2.2.2.1.warm hW, h.2.1.2.2.2.2.warm hW⟩, ⟨h.2.2.1.warmC hW, h.2.2.2.1.warmC hW, ⟨h.2.2.2.2.1.1.warmC hW, h.2.2.2.2.1.2.1.warmD hW, h.2.2.2.2.1.2.2.1.warmD hW, h.2.2.2.2.1.2.2.2.1.warmD hW, h.2.2.2.2.1.2.2.2.2.1.moved hW.alike, h.2.2.2.2.1.2.2.2.2.2.1.moved hW.alike, h.2.2.2.2.1.2.2.2.2.2.2.moved hW.alike⟩, h.2.2.2.2.2.warmC hW⟩⟩
theorem kGd.go {K : Ks} {A : Nat → Prop} {s U : State} {H : Heap} {locs : List Loc} (h : kGd K A s) (hS : va_S A s.heap H locs) (hU : U.heap = H) (hW : s.WarmedH U.vm) : kGd K A U := by
  obtain ⟨h1, h2, h3, h4⟩ := h
  refine ⟨va_K.moved hW.alike h1, fun q hq => h2 q (Nat.le_trans hS.1 (by rw [← hU]; exact hq)), ?_, h4.warm hW⟩
  rw [hU]
  exact (h3.kept hS.2.1).moved hW.alike
theorem kGd.calling {K : Ks} {A : Nat → Prop} {U : State} (h : kGd K A U) (g : JFrame) (mk : MethodId) (a : Array Value) : kGd K A (U.calling g mk a) :=
  kGd.go h (va_S.rf (A := A) (H0 := U.heap)) rfl (State.WarmedH.refl U)
/-- a call's start: its arguments, what it is given, its world -/
def kPr (K : Ks) (A : Nat → Prop) (av : List Value) (w : va_W) : Array Value → State → Prop := va_Pc av (fun U => kGd K A U ∧ va_P K.1 kCl w U.heap ∧ va_D A w)
theorem kPr.blind {K : Ks} {A : Nat → Prop} {av : List Value} {w : va_W} : FrameBlind (kPr K A av w) := fun a _ g mk q => ⟨q.1, q.2.1.calling g mk a, q.2.2⟩
def kB (K : Ks) (A : Nat → Prop) (w : va_W) (t : State) : Prop := va_P K.1 kCl w t.heap ∧ va_D A w
abbrev kQi (K : Ks) (A : Nat → Prop) (post : Int32 → va_W → Prop) : Array Value → State → Outcome → State → Prop := va_Qi post (kB K A) A
abbrev kQv (K : Ks) (A : Nat → Prop) (post : va_W → Prop) : Array Value → State → Outcome → State → Prop := va_Qv post (kB K A) A
abbrev kQf (K : Ks) (A : Nat → Prop) (post : UInt32 → va_W → Prop) : Array Value → State → Outcome → State → Prop := va_Qf post (kB K A) A
def kQr (K : Ks) (A : Nat → Prop) (post : Nat → va_W → Prop) : Array Value → State → Outcome → State → Prop := fun _ st oc t => (∃ (r : Nat) (w : va_W), oc = .returned (some (.ref r)) ∧ post r w ∧ kB K A w t) ∧ va_F A st t
/-- a call that always throws E -/
def kX (K : Ks) (A : Nat → Prop) (E : String) (pw : va_W → Prop) : String → State → State → Prop := vx_X (fun w : va_W => pw w) (fun E' w t => E' = E ∧ kB K A w t) A
def kNo : Array Value → State → Outcome → State → Prop := fun _ _ _ _ => False
/-- a call's room, by its height above the leaves -/
abbrev kR (h mc ms : Nat) : Room := { frames := 10 + h, cells := mc, slots := ms, locals := 200 + 40 * h }
section KB
variable {p : Program} {l : Launch} {e : Env} {R : Room} {s : State} {m : MethodId} {args : Array Value} {below : List Frame} {meth : Method} {c : Code} {H : Heap} {locs : List Loc} {cells slots : Nat} {Q : State → Prop}
variable {cc bytes : ByteArray} {pc : Nat} {ls : Array Slot} {rest st0 : List Value} {a : Array Value} {K : Ks} {A : Nat → Prop} {w : va_W} {mc ms nL maxL n index : Nat} {y : MethodName} {ret : Option FieldType} {ws ws' Ts : List Cond} {rm : Room} {own C : String} {b : Nat} {As : List Value}
theorem kc_i {post : Int32 → va_W → Prop} (hr : va_Run p l e R s m args below meth c H locs cells slots mc ms (F0 m pc ls st0) rest (kQi K A post a) A) (hS : va_S A s.heap H locs)
    (kk : ∀ (r : Int32) (w1 : va_W) (H1 : Heap) (locs1 : List Loc), post r w1 → va_P K.1 kCl w1 H1 → va_D A w1 → va_S A s.heap H1 locs1 → W p l e R s m args below meth c H1 locs1 (cells + mc) (slots + ms) Q (F0 m (pc + 3) ls (.int r :: rest))) : W p l e R s m args below meth c H locs cells slots Q (F0 m pc ls st0) :=
  va_calli hr hS (fun _ _ h => h) (fun _ h => h) (fun r u t H1 locs1 ht _ hp hb _ _ hS1 => kk r u H1 locs1 hp (by rw [← ht]; exact hb.1) hb.2 hS1)
theorem kc_v {post : va_W → Prop} (hr : va_Run p l e R s m args below meth c H locs cells slots mc ms (F0 m pc ls st0) rest (kQv K A post a) A) (hS : va_S A s.heap H locs)
    (kk : ∀ (w1 : va_W) (H1 : Heap) (locs1 : List Loc), post w1 → va_P K.1 kCl w1 H1 → va_D A w1 → va_S A s.heap H1 locs1 → W p l e R s m args below meth c H1 locs1 (cells + mc) (slots + ms) Q (F0 m (pc + 3) ls rest)) : W p l e R s m args below meth c H locs cells slots Q (F0 m pc ls st0) :=
  va_callv hr hS (fun _ _ h => h) (fun _ h => h) (fun u t H1 locs1 ht _ hp hb _ _ hS1 => kk u H1 locs1 hp (by rw [← ht]; exact hb.1) hb.2 hS1)
theorem kc_f {post : UInt32 → va_W → Prop} (hr : va_Run p l e R s m args below meth c H locs cells slots mc ms (F0 m pc ls st0) rest (kQf K A post a) A) (hS : va_S A s.heap H locs)
    (kk : ∀ (r : UInt32) (w1 : va_W) (H1 : Heap) (locs1 : List Loc), post r w1 → va_P K.1 kCl w1 H1 → va_D A w1 → va_S A s.heap H1 locs1 → W p l e R s m args below meth c H1 locs1 (cells + mc) (slots + ms) Q (F0 m (pc + 3) ls (.float r :: rest))) : W p l e R s m args below meth c H locs cells slots Q (F0 m pc ls st0) :=
  va_callf hr hS (fun _ _ h => h) (fun _ h => h) (fun r u t H1 locs1 ht _ hp hb _ _ hS1 => kk r u H1 locs1 hp (by rw [← ht]; exact hb.1) hb.2 hS1)
theorem kc_r {post : Nat → va_W → Prop} (hr : va_Run p l e R s m args below meth c H locs cells slots mc ms (F0 m pc ls st0) rest (kQr K A post a) A) (hS : va_S A s.heap H locs)
    (kk : ∀ (r : Nat) (w1 : va_W) (H1 : Heap) (locs1 : List Loc), post r w1 → va_P K.1 kCl w1 H1 → va_D A w1 → va_S A s.heap H1 locs1 → W p l e R s m args below meth c H1 locs1 (cells + mc) (slots + ms) Q (F0 m (pc + 3) ls (.ref r :: rest))) : W p l e R s m args below meth c H locs cells slots Q (F0 m pc ls st0) := by
  intro T hT X
  obtain ⟨v, st₀, t, T', L, h0, X', hL, e1, e2, ⟨⟨r, w1, hv, hp, hb⟩, hF⟩, st⟩ := hr T hT X
  cases hv
  obtain ⟨-, -, k3⟩ := vx_keep h0 e1 hS (fun _ _ h => h) (fun _ h => h) hL hF
  obtain ⟨t2, a1, b1⟩ := kk r w1 T'.heap (locs ++ L) hp (by rw [e1]; exact hb.1) hb.2 k3 T' rfl X'
  exact ⟨t2, st t2 a1, b1⟩
theorem kc_t {E : String} {pw : va_W → Prop} (hr : vx_Run p l e R s m args below meth c H locs cells slots mc ms (F0 m pc ls st0) rest (kNo a) (kX K A E pw) A) (hS : va_S A s.heap H locs)
    (kx : ∀ (ce : Cell) (q9 : Addr) (w1 : va_W) (H1 : Heap) (locs1 : List Loc), pw w1 → va_P K.1 kCl w1 H1 → va_D A w1 → va_S A s.heap H1 locs1 → H1[q9]? = some ce → ce.vm = .none → s.vm.findClass E = some ce.cls → vx_W p l e R s m args below meth c H1 locs1 (cells + mc) (slots + ms) Q (F0 m pc ls rest) q9) : W p l e R s m args below meth c H locs cells slots Q (F0 m pc ls st0) := by
  intro T hT X
  rcases hr T hT X with ⟨v, st₀, t, T', L, h0, X', hL, e1, e2, hF, st⟩ | ⟨q, st₀, t, T', L, E', ce, h0, X', hL, e1, e2, ⟨w1, hp, ⟨he, hb⟩, hF⟩, hce, hcv, hcl, st⟩
  · exact hF.elim
  · subst he
    obtain ⟨-, -, k3⟩ := vx_keep h0 e1 hS (fun _ _ h => h) (fun _ h => h) hL hF
    obtain ⟨t2, a1, b1⟩ := kx ce q w1 T'.heap (locs ++ L) hp (by rw [e1]; exact hb.1) hb.2 k3 (by rw [e1]; exact hce) hcv hcl T' rfl X'
    exact ⟨t2, st.trans a1, b1⟩
/-- a start that a call meets -/
theorem kps (hG : kGd K A s) (hP : va_P K.1 kCl w H) (hD : va_D A w) (hS : va_S A s.heap H locs) : PreS s H (kPr K A As w) As :=
  ⟨kPr.blind, fun U hU hW => ⟨rfl, hG.go hS hU hW, by rw [hU]; exact hP, hD⟩⟩
theorem kpv {q0 ci : Nat} {fs : List Value} {r : vw_C} (hG : kGd K A s) (hP : va_P K.1 kCl w H) (hD : va_D A w) (hS : va_S A s.heap H locs) (he : w[q0]? = some (b, .inr (ci, fs))) (hc : kCl[ci]? = some r) : PreV s H r.1 b (kPr K A (.ref b :: As) w) As :=
  ⟨kPr.blind, va_recv hG.1 hP hc he, fun U hU hW => ⟨rfl, hG.go hS hU hW, by rw [hU]; exact hP, hD⟩⟩
/-- a body that returns -/
theorem kent {av : List Value} {Qc : Array Value → State → Outcome → State → Prop} (hy : plainName y.cls = true) (hw : ws = Cond.code y cc maxL ret :: ws') (hn : (lg_sl av).length ≤ maxL)
    (body : ∀ (p : Program) (e : Env) (s : State) (m : MethodId) (args : Array Value) (below : List Frame) (meth : Method) (c : Code) (ls : Array Slot), p.tables.exec = Jvm.exec → c.code = cc → meth.sig.returnType = ret → (∀ w ∈ ws, w.before args s = true) → s.vm.findClass y.cls = some m.cls → meth.locks = false → c.maxLocals = maxL → (y.name = "<init>" → meth.name = "<init>") → kGd K A s → va_P K.1 kCl w s.heap → va_D A w → va_S A s.heap s.heap [] → lv_has ls maxL (lv_args 0 av) →
      W p l e rm s m args below meth c s.heap [] 0 0 (MQ below Qc args s mc ms A) (F0 m 0 ls [])) : Met l y ws rm (kPr K A av w) Qc mc ms A := by
  refine Met.ofW (cc := cc) (maxL := maxL) (ret := ret) hy hw ?_
  intro p e s m args below meth c s₁ B hml hv
  obtain ⟨rfl, hG, hP, hD⟩ := hv
  have hl := lv_entry av (n := maxL) hn
  rw [lg_entry_eq]
  exact body p e s m av.toArray below meth c _ B.exec B.bytes B.returns (atoms_spec (ws := ws) B.pre) (findClass_of_methodNamed B.named) B.notSynchronized hml (fun h => by rw [(name_of_methodNamed B.named B.method).1]; exact h) hG hP hD va_S.rf hl
/-- a body that throws -/
theorem kentT {av : List Value} {Qc : Array Value → State → Outcome → State → Prop} {XC : String → State → State → Prop} (hy : plainName y.cls = true) (hw : ws = Cond.code y cc maxL ret :: ws') (hn : (lg_sl av).length ≤ maxL)
    (body : ∀ (p : Program) (e : Env) (s : State) (m : MethodId) (args : Array Value) (below : List Frame) (meth : Method) (c : Code) (ls : Array Slot), p.tables.exec = Jvm.exec → c.code = cc → meth.sig.returnType = ret → (∀ w ∈ ws, w.before args s = true) → s.vm.findClass y.cls = some m.cls → meth.locks = false → c.maxLocals = maxL → (∀ x ∈ c.exceptionTable.toList, False) → kGd K A s → va_P K.1 kCl w s.heap → va_D A w → va_S A s.heap s.heap [] → lv_has ls maxL (lv_args 0 av) →
      W p l e rm s m args below meth c s.heap [] 0 0 (vx_MQ below Qc XC args s mc ms A) (F0 m 0 ls [])) : vx_Met l y ws rm (kPr K A av w) Qc XC mc ms A := by
  refine vx_ofW (cc := cc) (maxL := maxL) (ret := ret) hy hw ?_
  intro p e s m args below meth c s₁ B hml hx hv
  obtain ⟨rfl, hG, hP, hD⟩ := hv
  have hl := lv_entry av (n := maxL) hn
  rw [lg_entry_eq]
  exact body p e s m av.toArray below meth c _ B.exec B.bytes B.returns (atoms_spec (ws := ws) B.pre) (findClass_of_methodNamed B.named) B.notSynchronized hml hx hG hP hD va_S.rf hl
/-- ends -/
theorem kr_i {post : Int32 → va_W → Prop} {v : Int32} (hexec : p.tables.exec = Jvm.exec) (hb : c.code = cc) (hr : meth.sig.returnType = some .int) (hlocks : meth.locks = false) (hP : va_P K.1 kCl w H) (hD : va_D A w) (hS : va_S A s.heap H locs) (hc : cells ≤ mc) (hs : slots ≤ ms) (hp : post v w) (hdg : decode cc pc = .ok (.ireturn, 1)) :
    W p l e R s m args below meth c H locs cells slots (MQ below (kQi K A post) args s mc ms A) (F0 m pc ls [.int v]) :=
  W.widen hc hs (W.iret hexec hb hr (fun t ht _ => ⟨⟨v, w, rfl, hp, by rw [kB, ht]; exact ⟨hP, hD⟩⟩, hS.F ht⟩) hS.2.2 hdg hlocks)
theorem kr_z {post : Int32 → va_W → Prop} {v : Int32} (hexec : p.tables.exec = Jvm.exec) (hb : c.code = cc) (hr : meth.sig.returnType = some .boolean) (hlocks : meth.locks = false) (hP : va_P K.1 kCl w H) (hD : va_D A w) (hS : va_S A s.heap H locs) (hc : cells ≤ mc) (hs : slots ≤ ms) (hz : v = 0 ∨ v = 1) (hp : post v w) (hdg : decode cc pc = .ok (.ireturn, 1)) :
    W p l e R s m args below meth c H locs cells slots (MQ below (kQi K A post) args s mc ms A) (F0 m pc ls [.int v]) :=
  W.widen hc hs (W.zret hexec hb hr (by rcases hz with rfl | rfl <;> rfl) (fun t ht _ => ⟨⟨v, w, rfl, hp, by rw [kB, ht]; exact ⟨hP, hD⟩⟩, hS.F ht⟩) hS.2.2 hdg hlocks)
theorem kr_f {post : UInt32 → va_W → Prop} {v : UInt32} (hexec : p.tables.exec = Jvm.exec) (hb : c.code = cc) (hr : meth.sig.returnType = some .float) (hlocks : meth.locks = false) (hP : va_P K.1 kCl w H) (hD : va_D A w) (hS : va_S A s.heap H locs) (hc : cells ≤ mc) (hs : slots ≤ ms) (hp : post v w) (hdg : decode cc pc = .ok (.freturn, 1)) :
    W p l e R s m args below meth c H locs cells slots (MQ below (kQf K A post) args s mc ms A) (F0 m pc ls [.float v]) :=
  W.widen hc hs (W.fret hexec hb hr (fun t ht _ => ⟨⟨v, w, rfl, hp, by rw [kB, ht]; exact ⟨hP, hD⟩⟩, hS.F ht⟩) hS.2.2 hdg hlocks)
theorem kr_v {post : va_W → Prop} (hexec : p.tables.exec = Jvm.exec) (hb : c.code = cc) (hr : meth.sig.returnType = none) (hlocks : meth.locks = false) (hP : va_P K.1 kCl w H) (hD : va_D A w) (hS : va_S A s.heap H locs) (hc : cells ≤ mc) (hs : slots ≤ ms) (hp : post w) (hdg : decode cc pc = .ok (.return_, 1)) :
    W p l e R s m args below meth c H locs cells slots (MQ below (kQv K A post) args s mc ms A) (F0 m pc ls []) :=
  W.widen hc hs (W.vret hexec hb hr (fun t ht _ => ⟨⟨w, rfl, hp, by rw [kB, ht]; exact ⟨hP, hD⟩⟩, hS.F ht⟩) hS.2.2 hdg hlocks)
theorem kr_t {E : String} {pw : va_W → Prop} {Qc : Array Value → State → Outcome → State → Prop} {ce : Cell} {q9 : Addr} (hout : ∀ x ∈ c.exceptionTable.toList, False) (hlocks : meth.locks = false) (hP : va_P K.1 kCl w H) (hD : va_D A w) (hS : va_S A s.heap H locs) (hcell : H[q9]? = some ce) (hv : ce.vm = .none) (hcl : s.vm.findClass E = some ce.cls) (hc : cells ≤ mc) (hs : slots ≤ ms) (hp : pw w) :
    vx_W p l e R s m args below meth c H locs cells slots (vx_MQ below Qc (kX K A E pw) args s mc ms A) (F0 m pc ls rest) q9 :=
  vx_out (fun x hx => (hout x hx).elim) hlocks hcell hv hcl (fun t ht _ => ⟨w, hp, ⟨rfl, by rw [kB, ht]; exact ⟨hP, hD⟩⟩, hS.F ht⟩) hS.2.2 hc hs
/-- int arrays by small naturals -/
theorem kiald (hexec : p.tables.exec = Jvm.exec) (hb : c.code = cc) (hG : kGd K A s) (hP : va_P K.1 kCl w H) (q0 : Nat) {n j : Nat} {f : Nat → Int32} (ha : w[q0]? = some (b, .inl (kI K, n, .inl f))) (hj : j < n) (hn : n < 2 ^ 31) (hdg : decode cc pc = .ok (.iaload, 1))
    (kk : W p l e R s m args below meth c H locs cells slots Q (F0 m (pc + 1) ls (.int (f j) :: rest))) : W p l e R s m args below meth c H locs cells slots Q (F0 m pc ls (.int (nI j) :: .ref b :: rest)) :=
  va_iald hexec hb hG.1 hP q0 0 ha rfl (vp_in_nI hj hn) hdg (by rw [nI_clamp (Nat.lt_trans hj hn)]; exact kk)
theorem kiast (hexec : p.tables.exec = Jvm.exec) (hb : c.code = cc) (hG : kGd K A s) (hP : va_P K.1 kCl w H) (hD : va_D A w) (hS : va_S A s.heap H locs) (q0 : Nat) {n j : Nat} {f : Nat → Int32} {x : Int32} (ha : w[q0]? = some (b, .inl (kI K, n, .inl f))) (hj : j < n) (hn : n < 2 ^ 31) (hdg : decode cc pc = .ok (.iastore, 1))
    (kk : ∀ (H1 : Heap) (locs1 : List Loc), va_P K.1 kCl (w.set q0 (b, .inl (kI K, n, .inl (upd f j x)))) H1 → va_D A (w.set q0 (b, .inl (kI K, n, .inl (upd f j x)))) → va_S A s.heap H1 locs1 → W p l e R s m args below meth c H1 locs1 cells slots Q (F0 m (pc + 1) ls rest)) : W p l e R s m args below meth c H locs cells slots Q (F0 m pc ls (.int x :: .int (nI j) :: .ref b :: rest)) :=
  va_iast hexec hb hG.1 hP hD hS q0 0 ha rfl (vp_in_nI hj hn) hdg (by rw [nI_clamp (Nat.lt_trans hj hn)]; exact kk)
/-- the number on top, by another name -/
theorem ktop {x z : Int32} (h : x = z) (k : W p l e R s m args below meth c H locs cells slots Q (F0 m pc ls (.int z :: rest))) : W p l e R s m args below meth c H locs cells slots Q (F0 m pc ls (.int x :: rest)) := by rw [h]; exact k
theorem ktop2 {x z : Int32} {v : Value} (h : x = z) (k : W p l e R s m args below meth c H locs cells slots Q (F0 m pc ls (v :: .int z :: rest))) : W p l e R s m args below meth c H locs cells slots Q (F0 m pc ls (v :: .int x :: rest)) := by rw [h]; exact k
theorem kr_r {post : Nat → va_W → Prop} {v : Nat} {ty : FieldType} (hexec : p.tables.exec = Jvm.exec) (hb : c.code = cc) (hr : meth.sig.returnType = some ty) (hn : (∃ n, ty = FieldType.object n) ∨ ∃ t, ty = FieldType.array t) (hlocks : meth.locks = false) (hP : va_P K.1 kCl w H) (hD : va_D A w) (hS : va_S A s.heap H locs) (hc : cells ≤ mc) (hs : slots ≤ ms) (hp : post v w) (hdg : decode cc pc = .ok (.areturn, 1)) :
    W p l e R s m args below meth c H locs cells slots (MQ below (kQr K A post) args s mc ms A) (F0 m pc ls [.ref v]) :=
  W.widen hc hs (W.aret hexec hb hr hn (Or.inr ⟨v, rfl⟩) (fun t ht _ => ⟨⟨v, w, rfl, hp, by rw [kB, ht]; exact ⟨hP, hD⟩⟩, hS.F ht⟩) hS.2.2 hdg hlocks)
/-- fields -/
theorem kget (hexec : p.tables.exec = Jvm.exec) (hb : c.code = cc) (hts : ∀ x ∈ Ts, x.before args s = true) (hown : s.vm.findClass own = some m.cls) (hG : kGd K A s) (hP : va_P K.1 kCl w H) (q0 : Nat) {fs : List Value} {ci : Nat} {T : u_T} {N : Nat} (he : w[q0]? = some (b, .inr (ci, fs))) (hc : kCl[ci]? = some (C, T, N)) (hin : ∀ x ∈ u_ws C T N, x ∈ Ts) (k : Nat) (hk : k < N) {v : Value} (hlink : Cond.fieldLink own index (T k).1 (T k).2.1 (T k).2.2.1 ∈ Ts) (hv : fs[k]? = some v) (hdg : decode cc pc = .ok (.getfield index, 3))
    (kk : W p l e R s m args below meth c H locs cells slots Q (F0 m (pc + 3) ls (v :: rest))) : W p l e R s m args below meth c H locs cells slots Q (F0 m pc ls (.ref b :: rest)) :=
  va_get hexec hb hts hin hown hG.1 hP q0 he hc k hk (hts _ hlink) (fun _ h => h) hv hdg kk
theorem kput (hexec : p.tables.exec = Jvm.exec) (hb : c.code = cc) (hts : ∀ x ∈ Ts, x.before args s = true) (hown : s.vm.findClass own = some m.cls) (hG : kGd K A s) (hP : va_P K.1 kCl w H) (hD : va_D A w) (hS : va_S A s.heap H locs) (q0 : Nat) {fs : List Value} {ci : Nat} {T : u_T} {N : Nat} (he : w[q0]? = some (b, .inr (ci, fs))) (hc : kCl[ci]? = some (C, T, N)) (hin : ∀ x ∈ u_ws C T N, x ∈ Ts) (ty0 : Nat → FieldType) (hty : ∀ k, k < N → parseFieldDescriptor (T k).2.2.1 = some (ty0 k)) (hnm : ∀ a, a < N → ∀ b, b < N → a ≠ b → (T a).2.1 ≠ (T b).2.1) (k : Nat) (hk : k < N) (hlink : Cond.fieldLink own index (T k).1 (T k).2.1 (T k).2.2.1 ∈ Ts) (hfin : (T k).2.2.2 = false) {x : Int32} (hd : parseFieldDescriptor (T k).2.2.1 = some .int) (hl : k < fs.length) (hdg : decode cc pc = .ok (.putfield index, 3))
    (kk : ∀ (H1 : Heap) (locs1 : List Loc), va_P K.1 kCl (w.set q0 (b, .inr (ci, fs.set k (.int x)))) H1 → va_D A (w.set q0 (b, .inr (ci, fs.set k (.int x)))) → va_S A s.heap H1 locs1 → W p l e R s m args below meth c H1 locs1 cells slots Q (F0 m (pc + 3) ls rest)) : W p l e R s m args below meth c H locs cells slots Q (F0 m pc ls (.int x :: .ref b :: rest)) :=
  va_put hexec hb hts hin ty0 hty hnm hown hG.1 hP hD hS q0 he hc k hk (hts _ hlink) (fun _ h => h) hfin hd rfl rfl hl hdg kk
end KB
theorem kinc (i : Nat) : nI i + Int32.ofInt 1 = nI (i + 1) := nI_1 i
/-- a small boolean -/
def bi (b : Bool) : Int32 := if b then 1 else 0
theorem bi_or (b : Bool) : bi b = 0 ∨ bi b = 1 := by cases b <;> simp [bi]
theorem bi_0 {b : Bool} : bi b = 0 ↔ b = false := by cases b <;> simp [bi]
theorem bi_n0 {b : Bool} : ¬ bi b = 0 ↔ b = true := by cases b <;> simp [bi]
theorem bi_d0 {P : Prop} [Decidable P] : bi (decide P) = 0 ↔ ¬ P := by rw [bi_0]; exact decide_eq_false_iff_not
theorem bi_dn {P : Prop} [Decidable P] : ¬ bi (decide P) = 0 ↔ P := by rw [bi_n0]; exact decide_eq_true_iff
theorem bi_t {P : Prop} [Decidable P] (h : P) : bi (decide P) = 1 := by rw [decide_eq_true h]; rfl
theorem bi_f {P : Prop} [Decidable P] (h : ¬ P) : bi (decide P) = 0 := by rw [decide_eq_false h]; rfl
/-- one place of one row of a table of rows -/
def up2 (M : Nat → Nat → Int32) (f i : Nat) (v : Int32) : Nat → Nat → Int32 := va_up M f (upd (M f) i v)
