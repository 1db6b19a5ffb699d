/-! The law: its cells in one order, and in others -/
theorem P_perm {D : va_G} {cl : List vw_C} {H : Heap} {W1 W2 : va_W} (h : va_P D cl W1 H) (hp : W1.Perm W2) : va_P D cl W2 H := fun k q hq => by
  obtain ⟨i, hi⟩ := List.mem_iff_getElem?.mp (hp.mem_iff.mpr (List.mem_iff_getElem?.mpr ⟨k, hq⟩))
  exact h i q hi
theorem D_iff {A : Nat → Prop} {W1 : va_W} : va_D A W1 ↔ (W1.map (·.1)).Nodup ∧ ∀ x ∈ W1, A x.1 := by
  constructor
  · intro h
    refine ⟨List.pairwise_iff_getElem.mpr (fun i j hi hj hij he => ?_), fun x hx => ?_⟩
    · rw [List.getElem_map, List.getElem_map] at he
      rw [List.length_map] at hi hj
      have := h.1 i j _ _ (List.getElem?_eq_getElem hi) (List.getElem?_eq_getElem hj) he
      omega
    · obtain ⟨k, hk⟩ := List.mem_iff_getElem?.mp hx
      exact h.2 k x hk
  · rintro ⟨h1, h2⟩
    refine ⟨fun i j p q hi hj he => ?_, fun k q hq => h2 q (List.mem_iff_getElem?.mpr ⟨k, hq⟩)⟩
    obtain ⟨hi1, hi2⟩ := List.getElem?_eq_some_iff.mp hi
    have e1 : (W1.map (·.1))[i]? = (W1.map (·.1))[j]? := by rw [List.getElem?_map, List.getElem?_map, hi, hj]; exact congrArg some he
    exact (List.getElem?_inj (by rw [List.length_map]; exact hi1) h1).mp e1
theorem D_perm {A : Nat → Prop} {W1 W2 : va_W} (h : va_D A W1) (hp : W1.Perm W2) : va_D A W2 := by
  obtain ⟨h1, h2⟩ := D_iff.mp h
  exact D_iff.mpr ⟨(hp.map _).nodup_iff.mp h1, fun x hx => h2 x (hp.mem_iff.mpr hx)⟩
section PM
variable {w mf : va_W} {x y : Nat × va_E}
theorem pmJ : (w ++ (x :: y :: mf)).Perm ((w ++ [x]) ++ (y :: mf)) := by rw [List.append_assoc]; exact List.Perm.refl _
theorem pmJ' : ((w ++ [x]) ++ (y :: mf)).Perm (w ++ (x :: y :: mf)) := pmJ.symm
theorem pmD : (w ++ (x :: y :: mf)).Perm ((w ++ [y]) ++ (x :: mf)) := ((List.Perm.swap y x mf).append_left w).trans pmJ
theorem pmD' : ((w ++ [y]) ++ (x :: mf)).Perm (w ++ (x :: y :: mf)) := pmD.symm
theorem pmM : (w ++ (x :: y :: mf)).Perm (mf ++ (w ++ [x, y])) := by
  have h : w ++ (x :: y :: mf) = (w ++ [x, y]) ++ mf := by rw [List.append_assoc]; rfl
  rw [h]
  exact List.perm_append_comm
theorem pmM' : (mf ++ (w ++ [x, y])).Perm (w ++ (x :: y :: mf)) := pmM.symm
theorem at_j : (w ++ (x :: y :: mf))[w.length]? = some x := by rw [List.getElem?_append_right (Nat.le_refl _), Nat.sub_self]; rfl
theorem at_d : (w ++ (x :: y :: mf))[w.length + 1]? = some y := by rw [List.getElem?_append_right (by omega), Nat.add_sub_cancel_left]; rfl
end PM
theorem lg_cmp_self (x : Int64) : lg_cmp x x = 0 := by
  unfold lg_cmp
  simp [Int64.lt_irrefl]
section LW
variable {p : Program} {l : Launch} {e : Env} {R : Room} {s : State} {m : MethodId} {args : Array Value} {below : List Frame} {meth : Method} {c : Code} {H : Heap} {locs : List Loc} {cells slots : Nat} {Q : State → Prop}
variable {cc : ByteArray} {pc : Nat} {ls : Array Slot} {rest : List Value} {K : Ks} {A : Nat → Prop} {w mf : va_W} {b L : Nat} {xs : Nat → Int32} {oj od : Nat} {g : Nat → Int64} {gd : Nat → UInt64}
theorem lsld (hexec : p.tables.exec = Jvm.exec) (hb : c.code = cc) (hX : va_X b L xs s s.heap) (hbl : b < s.heap.size) (hbA : ¬ A b) (hS : va_S A s.heap H locs) {v z : Int32} {j : Nat} (hv : v = nI j) (hj : j < L) (hL : L < 2 ^ 31) (he : xs j = z) (hdg : decode cc pc = .ok (.iaload, 1))
    (kk : W p l e R s m args below meth c H locs cells slots Q (F0 m (pc + 1) ls (.int z :: rest))) : W p l e R s m args below meth c H locs cells slots Q (F0 m pc ls (.int v :: .ref b :: rest)) := by
  subst hv
  subst he
  exact va_sld hexec hb hX hbl hbA hS (vp_in_nI hj hL) hdg (by rw [nI_clamp (by omega)]; exact kk)
theorem llald (hexec : p.tables.exec = Jvm.exec) (hb : c.code = cc) (hG : kGd K A s) (hP : va_P K.1 kCl (w ++ ((oj, oJ K g) :: (od, oD K gd) :: mf)) H) {v : Int64} (hg : g 0 = v) (hdg : decode cc pc = .ok (.laload, 1))
    (kk : W p l e R s m args below meth c H locs cells slots Q (F0 m (pc + 1) ls (.long v :: rest))) : W p l e R s m args below meth c H locs cells slots Q (F0 m pc ls (.int 0 :: .ref oj :: rest)) := by
  subst hg
  exact va_lald hexec hb hG.1 hP w.length 3 at_j rfl (vp_in_nI (n := 0) (N := 1) (by decide) (by decide)) hdg kk
theorem ldald (hexec : p.tables.exec = Jvm.exec) (hb : c.code = cc) (hG : kGd K A s) (hP : va_P K.1 kCl (w ++ ((oj, oJ K g) :: (od, oD K gd) :: mf)) H) {v : UInt64} (hg : gd 0 = v) (hdg : decode cc pc = .ok (.daload, 1))
    (kk : W p l e R s m args below meth c H locs cells slots Q (F0 m (pc + 1) ls (.double v :: rest))) : W p l e R s m args below meth c H locs cells slots Q (F0 m pc ls (.int 0 :: .ref od :: rest)) := by
  subst hg
  exact va_dald hexec hb hG.1 hP (w.length + 1) 4 at_d rfl (vp_in_nI (n := 0) (N := 1) (by decide) (by decide)) hdg kk
theorem llcmp (hexec : p.tables.exec = Jvm.exec) (hb : c.code = cc) {x : Int64} (hdg : decode cc pc = .ok (.lcmp, 1))
    (kk : W p l e R s m args below meth c H locs cells slots Q (F0 m (pc + 1) ls (.int 0 :: rest))) : W p l e R s m args below meth c H locs cells slots Q (F0 m pc ls (.long x :: .long x :: rest)) :=
  W.lcmp hexec hb hdg (by rw [lg_cmp_self]; exact kk)
end LW
/-- the law's cells -/
abbrev CW (K : Ks) (qm : Nat → Nat) (oj od : Nat) (td : Int32) (n : Nat) (th : Int32) (M X : Nat → Nat → Int32) (w : va_W) (g : Nat → Int64) (gd : Nat → UInt64) : va_W := w ++ ((oj, oJ K g) :: (od, oD K gd) :: Mfix K qm td (nI n) th M X)
/-- what stays through the law -/
def LSt (p : Program) (l : Launch) (s : State) (m : MethodId) (args : Array Value) (c : Code) (K : Ks) (A : Nat → Prop) (b L : Nat) (xs : Nat → Int32) : Prop := p.tables.exec = Jvm.exec ∧ c.code = cL_law ∧ c.maxLocals = 8 ∧ s.vm.findClass RL = some m.cls ∧ (∀ w ∈ wsL_law, w.before args s = true) ∧ kGd K A s ∧ va_X b L xs s s.heap ∧ b < s.heap.size ∧ ¬ A b ∧ L ≤ 2560 ∧ l.stackTraces = false
/-- a step's end -/
def LEnd (p : Program) (l : Launch) (e : Env) (s : State) (m : MethodId) (args : Array Value) (below : List Frame) (meth : Method) (c : Code) (Q : State → Prop) (K : Ks) (A : Nat → Prop) (b : Nat) (ad qm : Nat → Nat) (oj od i k cells slots : Nat) : Prop :=
  ∀ (bad : Nat → Nat) (td : Int32) (n : Nat) (th : Int32) (M X : Nat → Nat → Int32) (w : va_W) (g : Nat → Int64) (gd : Nat → UInt64) (H : Heap) (locs : List Loc) (ls : Array Slot), DkE K ad bad td n M w → Iv (k + 1) td n M → va_P K.1 kCl (CW K qm oj od td n th M X w g gd) H → va_D A (CW K qm oj od td n th M X w g gd) → va_S A s.heap H locs → lv_has ls 8 [(0, .ref b), (1, .ref (ad 0)), (2, .ref (qm 0)), (3, .ref oj), (4, .ref od), (5, .int (nI i))] →
    W p l e room_1 s m args below meth c H locs (cells + 31) (slots + 1806) Q (F0 m 1346 ls [])
