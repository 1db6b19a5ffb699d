/-! The law: from its entry -/
section KN
variable {p : Program} {l : Launch} {e : Env} {R : Room} {s : State} {m : MethodId} {args : Array Value} {below : List Frame} {meth : Method} {c : Code} {H : Heap} {locs : List Loc} {cells slots : Nat} {Q : State → Prop}
variable {cc : ByteArray} {pc : Nat} {ls : Array Slot} {rest : List Value} {K : Ks} {A : Nat → Prop} {w : va_W}
theorem knewj (hexec : p.tables.exec = Jvm.exec) (hb : c.code = cc) (harr : (Cond.arrayClass .long).before args s = true) (hG : kGd K A s) (hP : va_P K.1 kCl w H) (hD : va_D A w) (hS : va_S A s.heap H locs) (hcells : cells + 1 ≤ R.cells) (hslots : slots + 1 ≤ R.slots) (hdg : decode cc pc = .ok (.newarray .long, 2))
    (kk : ∀ (q : Nat) (H1 : Heap), va_P K.1 kCl (w ++ [(q, oJ K (fun _ => 0))]) H1 → va_D A (w ++ [(q, oJ K (fun _ => 0))]) → va_S A s.heap H1 locs → W p l e R s m args below meth c H1 locs (cells + 1) (slots + 1) Q (F0 m (pc + 2) ls (.ref q :: rest))) : W p l e R s m args below meth c H locs cells slots Q (F0 m pc ls (.int 1 :: rest)) := by
  refine va_newa (atype := .long) (a0 := (1, .inr (.inl (fun _ => 0)))) (ty := .long) (N' := 1) hexec hb harr rfl hG.1 hP hD hS hG.2.1 (fun _ => rfl) (by decide) rfl (by decide) hcells hslots hdg (fun q cA H1 hK1 hP1 hD1 hS1 => ?_)
  have f1 := (hK1.2 5 _ rfl).2
  have f2 := (hG.1.2 3 _ rfl).2
  have e3 : cA = kJ K := Option.some.inj (f1.symm.trans f2)
  subst e3
  exact kk q H1 hP1 hD1 hS1
theorem knewd (hexec : p.tables.exec = Jvm.exec) (hb : c.code = cc) (harr : (Cond.arrayClass .double).before args s = true) (hG : kGd K A s) (hP : va_P K.1 kCl w H) (hD : va_D A w) (hS : va_S A s.heap H locs) (hcells : cells + 1 ≤ R.cells) (hslots : slots + 1 ≤ R.slots) (hdg : decode cc pc = .ok (.newarray .double, 2))
    (kk : ∀ (q : Nat) (H1 : Heap), va_P K.1 kCl (w ++ [(q, oD K (fun _ => 0))]) H1 → va_D A (w ++ [(q, oD K (fun _ => 0))]) → va_S A s.heap H1 locs → W p l e R s m args below meth c H1 locs (cells + 1) (slots + 1) Q (F0 m (pc + 2) ls (.ref q :: rest))) : W p l e R s m args below meth c H locs cells slots Q (F0 m pc ls (.int 1 :: rest)) := by
  refine va_newa (atype := .double) (a0 := (1, .inr (.inr (.inr (.inl (fun _ => 0)))))) (ty := .double) (N' := 1) hexec hb harr rfl hG.1 hP hD hS hG.2.1 (fun _ => rfl) (by decide) rfl (by decide) hcells hslots hdg (fun q cA H1 hK1 hP1 hD1 hS1 => ?_)
  have f1 := (hK1.2 5 _ rfl).2
  have f2 := (hG.1.2 4 _ rfl).2
  have e3 : cA = kD K := Option.some.inj (f1.symm.trans f2)
  subst e3
  exact kk q H1 hP1 hD1 hS1
end KN
set_option maxHeartbeats 4000000 in
set_option maxRecDepth 100000 in
theorem law_start {p : Program} {e : Env} {s : State} {m : MethodId} {below : List Frame} {meth : Method} {c : Code} (l : Launch) (hlt : l.stackTraces = false) {b L : Nat} {xs : Nat → Int32} (hL : L ≤ 2560) (C0 : lw_At p s m meth c b L xs) : W p l e room_1 s m #[Value.ref b] below meth c s.heap [] 0 0 (lw_Z below #[Value.ref b] s) (entryFrame m ([Value.ref b] : List Value).toArray 8) := by
  obtain ⟨hx, hb, hr, hml, hown, htsT, hX, hbl, hlocks, hgv⟩ := id C0
  have hts : ∀ w ∈ wsL_law, w.before #[Value.ref b] s = true := fun w h => htsT w (wsL_law_in w h)
  obtain ⟨K, hG⟩ := kG0 htsT hgv
  have hbA : ¬ (fun q : Nat => s.heap.size ≤ q) b := Nat.not_le.mpr hbl
  have hend : ∀ (H : Heap) (locs : List Loc) (ls : Array Slot) (cells slots : Nat), va_S (fun q : Nat => s.heap.size ≤ q) s.heap H locs → cells ≤ 601024 → slots ≤ 7293034 → W p l e room_1 s m #[Value.ref b] below meth c H locs cells slots (lw_Z below #[Value.ref b] s) (F0 m 1352 ls []) := by
    intro H locs ls cells slots hS hc hs
    refine lv_iconst (v := 1) hx hb dL_law_1352 (by decide) ?_
    refine W.widen hc hs (va_forget (fun q hq => hS.2.2 q hq) ?_)
    refine W.base ?_
    exact lw_ret (d0 := s.drawn) (Drawn.sameBut.refl s.drawn lw_cs) hx hb hr hlocks dL_law_1353
  have hS : va_S (fun q : Nat => s.heap.size ≤ q) s.heap s.heap [] := va_S.rf
  have hP : va_P K.1 kCl [] s.heap := fun k q h => by simp at h
  have hD : va_D (fun q : Nat => s.heap.size ≤ q) [] := ⟨fun i j p q h => by simp at h, fun k q h => by simp at h⟩
  have hl := lv_entry ([.ref b]) (n := 8) (Nat.le_of_ble_eq_true rfl)
  rw [lg_entry_eq]
  generalize (lg_sl ([.ref b]) ++ List.replicate (8 - (lg_sl ([.ref b])).length) Slot.unset).toArray = ls at hl ⊢
  have hl : lv_has ls 8 [(0, .ref b)] := hl
  refine va_new (ci := 2) (fs := [.null, .null, .null, .null, .int 0, .null, .null]) (C := RX1) (T := TX1) (N := 7) hx hb hts inlX1 tyX1 tyX1_ok hown (hts (.classLink RL 8 RX1) (by decide +kernel)) (hts (.instantiable RX1 7) (by decide +kernel)) (hts (.initialized RX1) (by decide +kernel)) hG.1 hP hD hS hG.2.1 rfl (fun j hj => by rcases (show j = 0 ∨ j = 1 ∨ j = 2 ∨ j = 3 ∨ j = 4 ∨ j = 5 ∨ j = 6 by omega) with rfl | rfl | rfl | rfl | rfl | rfl | rfl <;> rfl) (Nat.le_of_ble_eq_true rfl) (Nat.le_of_ble_eq_true rfl) dL_law_0 (fun x H hP hD hS => ?_)
  have hP : va_P K.1 kCl [(x, .inr (2, [.null, .null, .null, .null, .int 0, .null, .null]))] H := hP
  have hD : va_D (fun q : Nat => s.heap.size ≤ q) [(x, .inr (2, [.null, .null, .null, .null, .int 0, .null, .null]))] := hD
  refine lv_dup hx hb dL_law_3 rfl ?_
  refine kc_v (va_runI (As := []) (rest := [.ref x]) ⟨hx, hb, hml, hown, hts⟩ (c_X1_init) (cwI 0 hts gL_law_X1_init rfl rfl rfl (hts (.initialized yX1_init.cls) (by decide +kernel)) (hts (.methodLink RL 79 yX1_init) (by decide +kernel)) (hts (.instanceMethod yX1_init) (by decide +kernel)) rfl (by decide +kernel) ⟨Nat.le_of_ble_eq_true rfl, Nat.le_of_ble_eq_true rfl⟩) (kps hG hP hD hS) rfl rfl hl.1 rfl (lv_room (Nat.le_of_ble_eq_true rfl)) dL_law_4 ⟨Nat.le_of_ble_eq_true rfl, Nat.le_of_ble_eq_true rfl⟩) hS (fun w H locs hp hP hD hS => ?_)
  obtain ⟨ad, bad, hx0, hDk⟩ := hp
  refine lv_astore_n (lv' := [(1, .ref x), (0, .ref b)]) hx hb dL_law_7 rfl hl (by decide) rfl (fun ls hl => ?_)
  refine va_new (ci := 3) (fs := [.int 0, .int 0, .null, .null, .null, .null, .null, .null, .null, .null, .null, .null, .null, .null, .null, .null, .null, .int 0]) (C := RX2) (T := TX2) (N := 18) hx hb hts inlX2 tyX2 tyX2_ok hown (hts (.classLink RL 80 RX2) (by decide +kernel)) (hts (.instantiable RX2 18) (by decide +kernel)) (hts (.initialized RX2) (by decide +kernel)) hG.1 hP hD hS hG.2.1 rfl (fun j hj => by rcases (show j = 0 ∨ j = 1 ∨ j = 2 ∨ j = 3 ∨ j = 4 ∨ j = 5 ∨ j = 6 ∨ j = 7 ∨ j = 8 ∨ j = 9 ∨ j = 10 ∨ j = 11 ∨ j = 12 ∨ j = 13 ∨ j = 14 ∨ j = 15 ∨ j = 16 ∨ j = 17 by omega) with rfl | rfl | rfl | rfl | rfl | rfl | rfl | rfl | rfl | rfl | rfl | rfl | rfl | rfl | rfl | rfl | rfl | rfl <;> rfl) (Nat.le_of_ble_eq_true rfl) (Nat.le_of_ble_eq_true rfl) dL_law_8 (fun y H hP hD hS => ?_)
  have hP := P_perm hP List.perm_append_comm
  have hD := D_perm hD List.perm_append_comm
  refine lv_dup hx hb dL_law_11 rfl ?_
  refine kf_v (W2 := w) (va_runI (As := []) (rest := [.ref y]) ⟨hx, hb, hml, hown, hts⟩ (c_X2_init) (cwI 0 hts gL_law_X2_init rfl rfl rfl (hts (.initialized yX2_init.cls) (by decide +kernel)) (hts (.methodLink RL 82 yX2_init) (by decide +kernel)) (hts (.instanceMethod yX2_init) (by decide +kernel)) rfl (by decide +kernel) ⟨Nat.le_of_ble_eq_true rfl, Nat.le_of_ble_eq_true rfl⟩) (lps hG hP hD hS) rfl rfl hl.1 rfl (lv_room (Nat.le_of_ble_eq_true rfl)) dL_law_12 ⟨Nat.le_of_ble_eq_true rfl, Nat.le_of_ble_eq_true rfl⟩) hS hP hD (fun w9 H locs hp hP hD hS => ?_)
  obtain ⟨qm, hq0, hw⟩ := hp
  subst hw
  refine lv_astore_n (lv' := [(2, .ref y), (1, .ref x), (0, .ref b)]) hx hb dL_law_15 rfl hl (by decide) rfl (fun ls hl => ?_)
  refine lv_iconst (v := 1) hx hb dL_law_16 (by decide) ?_
  refine knewj hx hb (hts (.arrayClass .long) (by decide +kernel)) hG hP hD hS (Nat.le_of_ble_eq_true rfl) (Nat.le_of_ble_eq_true rfl) dL_law_17 (fun oj H hP hD hS => ?_)
  refine lv_astore_n (lv' := [(3, .ref oj), (2, .ref y), (1, .ref x), (0, .ref b)]) hx hb dL_law_19 rfl hl (by decide) rfl (fun ls hl => ?_)
  refine lv_iconst (v := 1) hx hb dL_law_20 (by decide) ?_
  refine knewd hx hb (hts (.arrayClass .double) (by decide +kernel)) hG hP hD hS (Nat.le_of_ble_eq_true rfl) (Nat.le_of_ble_eq_true rfl) dL_law_21 (fun od H hP hD hS => ?_)
  refine lv_astore (lv' := [(4, .ref od), (3, .ref oj), (2, .ref y), (1, .ref x), (0, .ref b)]) hx hb dL_law_23 hl (by decide) rfl (fun ls hl => ?_)
  refine lv_iconst (v := 0) hx hb dL_law_25 (by decide) ?_
  refine lv_istore (lv' := [(5, .int 0), (4, .ref od), (3, .ref oj), (2, .ref y), (1, .ref x), (0, .ref b)]) hx hb dL_law_26 hl (by decide) rfl (fun ls hl => ?_)
  have hpm : (((Mfix K qm 0 0 0 M0 (fun _ _ => 0) ++ w) ++ [(oj, oJ K (fun _ => 0))]) ++ [(od, oD K (fun _ => 0))]).Perm (w ++ ((oj, oJ K (fun _ => 0)) :: (od, oD K (fun _ => 0)) :: Mfix K qm 0 0 0 M0 (fun _ _ => 0))) := by
    have h : ((Mfix K qm 0 0 0 M0 (fun _ _ => 0) ++ w) ++ [(oj, oJ K (fun _ => 0))]) ++ [(od, oD K (fun _ => 0))] = Mfix K qm 0 0 0 M0 (fun _ _ => 0) ++ (w ++ [(oj, oJ K (fun _ => 0)), (od, oD K (fun _ => 0))]) := by
      rw [List.append_assoc, List.append_assoc]; rfl
    rw [h]
    exact pmM'
  have hP9 := P_perm hP hpm
  have hD9 := D_perm hD hpm
  have hS9 := hS
  have hl9 := lv_sub hl [5, 4, 3, 2, 1, 0] rfl
  subst hx0
  subst hq0
  exact W.widen (k := 25 + 31 * 0) (n := 497 + 1806 * 0) (Nat.le_of_ble_eq_true rfl) (Nat.le_of_ble_eq_true rfl) (law_loop (c0 := 25) (s0 := 497) ⟨hx, hb, hml, hown, hts, hG, hX, hbl, hbA, hL, hlt⟩ hend (by decide) (by decide) 512 0 (by omega) (by omega) bad 0 0 0 M0 (fun _ _ => 0) w (fun _ => 0) (fun _ => 0) _ _ _ ⟨_, _, _, hDk⟩ Iv.start hP9 hD9 hS9 hl9)
