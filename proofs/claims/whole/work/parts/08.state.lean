-- THE WORLDS: the class's cells, the reference's cells; calls of methods over a part of the world
abbrev sw (h0 aT aS aP aR aL : Nat) (cA : ClassId) (N big n lp : Nat) (ft fs fp fr fl : Nat → Nat) : va_W := [(h0, .inr (0, [.int (nI N), .int (nI big), .ref aT, .ref aS, .ref aP, .ref aR, .ref aL, .int (nI n), .int (nI lp)])), (aT, .inl (cA, N, .inl (sh_a ft))), (aS, .inl (cA, N, .inl (sh_a fs))), (aP, .inl (cA, N, .inl (sh_a fp))), (aR, .inl (cA, N, .inl (sh_a fr))), (aL, .inl (cA, N, .inl (sh_a fl)))]
abbrev mw (k0 bI bT bP bR : Nat) (cA cZ cJ : ClassId) (N big n lp : Nat) (ft fk fp fr : Nat → Nat) : va_W := [(k0, .inr (1, [.int (nI N), .int (nI big), .ref bI, .ref bT, .ref bP, .ref bR, .int (nI n), .long (lN lp)])), (bI, .inl (cZ, 64, .inl (sh_a (sh_in ft)))), (bT, .inl (cA, 64, .inl (sh_a fk))), (bP, .inl (cJ, 64, .inr (.inl (sl_a fp)))), (bR, .inl (cA, 64, .inl (sh_a fr)))]
abbrev ty3 (cA cZ cJ : ClassId) : List (ClassId × FieldType) := [(cA, .int), (cZ, .boolean), (cJ, .long)]
abbrev sB (dC : Nat → ClassId) (dI : Nat → Nat → Nat) (tys : List (ClassId × FieldType)) (sz : Nat) (ws : va_W) : State → Prop := fun U => U.heap.size = sz ∧ va_P (dC, dI) vwCl ws U.heap ∧ va_K (dC, dI) vwCl tys U ∧ va_D (fun _ => True) ws
abbrev sE (dC : Nat → ClassId) (dI : Nat → Nat → Nat) (A : Nat → Prop) (ws : va_W) : State → Prop := fun t => va_P (dC, dI) vwCl ws t.heap ∧ va_D A ws
theorem sj_at {wr wc : va_W} {k : Nat} {q : Nat × va_E} (h : wc[k]? = some q) : (wr ++ wc)[wr.length + k]? = some q := by
  rw [List.getElem?_append_right (by omega), Nat.add_sub_cancel_left]
  exact h
theorem sj_al {wr wc : va_W} {k : Nat} {q : Nat × va_E} (h : wr[k]? = some q) : (wr ++ wc)[k]? = some q := by
  rw [List.getElem?_append_left (List.getElem?_eq_some_iff.mp h).1]
  exact h
theorem sj_Dr {A : Nat → Prop} {wr wc : va_W} (hD : va_D A (wr ++ wc)) : va_D A wr := ⟨fun i j x y hi hj e => hD.1 i j x y (sj_al hi) (sj_al hj) e, fun k q hk => hD.2 k q (sj_al hk)⟩
theorem sj_Dc {A : Nat → Prop} {wr wc : va_W} (hD : va_D A (wr ++ wc)) : va_D A wc := ⟨fun i j x y hi hj e => by
  have := hD.1 _ _ x y (sj_at hi) (sj_at hj) e
  omega, fun k q hk => hD.2 _ q (sj_at hk)⟩
theorem sj_Pr {D : va_G} {cl : List vw_C} {wr wc : va_W} {H : Heap} (hP : va_P D cl (wr ++ wc) H) : va_P D cl wr H := fun k q hk => hP k q (sj_al hk)
theorem sj_Pc {D : va_G} {cl : List vw_C} {wr wc : va_W} {H : Heap} (hP : va_P D cl (wr ++ wc) H) : va_P D cl wc H := fun _ q hk => hP _ q (sj_at hk)
theorem sj_ap {A : Nat → Prop} {wr wc : va_W} (hD : va_D A (wr ++ wc)) {i j : Nat} {x y : Nat × va_E} (hi : wr[i]? = some x) (hj : wc[j]? = some y) : x.1 ≠ y.1 := fun e => by
  have := hD.1 _ _ x y (sj_al hi) (sj_at hj) e
  have := (List.getElem?_eq_some_iff.mp hi).1
  omega
theorem sj_Ps {D : va_G} {cl : List vw_C} {wr wc : va_W} {H : Heap} (hP : va_P D cl (wr ++ wc) H) : va_P D cl (wc ++ wr) H := (sj_Pc hP).app (sj_Pr hP)
theorem sj_Ds {A : Nat → Prop} {wr wc : va_W} (hD : va_D A (wr ++ wc)) : va_D A (wc ++ wr) := (sj_Dc hD).app (sj_Dr hD) (fun _ _ _ _ hi hj e => sj_ap hD hj hi e.symm)
theorem sj_free {A : Nat → Prop} {wr wc : va_W} {H0 H : Heap} {locs : List Loc} (hD : va_D A (wr ++ wc)) (hS : va_S A H0 H locs) (hA : ∀ q, H0.size ≤ q → A q) : ∀ q, va_A wc H.size q → A q := by
  intro q h
  rcases h with ⟨k, e, h⟩ | h
  · exact hD.2 _ (q, e) (sj_at h)
  · exact hA q (Nat.le_trans hS.1 h)
theorem sj_join {A : Nat → Prop} {D : va_G} {cl : List vw_C} {wr wc w1 : va_W} {H H1 : Heap} (hP : va_P D cl (wr ++ wc) H) (hD : va_D A (wr ++ wc)) (hk : ∀ q : Nat, q < H.size → ¬ va_A wc H.size q → H1[q]? = H[q]?) (hF : ∀ q, va_A wc H.size q → A q) (hP1 : va_P D cl w1 H1) (hD1 : va_D (va_A wc H.size) w1) : va_P D cl (wr ++ w1) H1 ∧ va_D A (wr ++ w1) := by
  have apart : ∀ (k : Nat) (q : Nat × va_E), wr[k]? = some q → q.1 < H.size ∧ ¬ va_A wc H.size q.1 := by
    intro k q hq
    have hl := (hP k q (sj_al hq)).lt
    refine ⟨hl, fun h => ?_⟩
    rcases h with ⟨k2, e, h⟩ | h
    · exact sj_ap hD hq h rfl
    · omega
  refine ⟨va_P.app (fun k q hq => ?_) hP1, va_D.app (sj_Dr hD) (hD1.weaken (fun k q _ h => hF q.1 h)) (fun i j x y hx hy hxy => ?_)⟩
  · obtain ⟨g1, g2⟩ := apart k q hq
    exact (hP k q (sj_al hq)).kept (hk q.1 g1 g2)
  · exact (apart i x hx).2 (by rw [hxy]; exact hD1.2 j y hy)
section SC
variable {p : Program} {l : Launch} {e : Env} {R : Room} {s : State} {m : MethodId} {args : Array Value} {below : List Frame} {meth : Method} {c : Code} {H : Heap} {locs : List Loc} {cells slots : Nat} {Q : State → Prop}
variable {cc : ByteArray} {pc nL n index maxL : Nat} {ls : Array Slot} {rest As st0 : List Value} {A : Nat → Prop} {b : Nat} {tys : List (ClassId × FieldType)} {wr wc : va_W} {H0 : Heap} {dC : Nat → ClassId} {dI : Nat → Nat → Nat} {Ts wy : List Cond} {own C : String} {y : MethodName} {bytes : ByteArray} {ret : Option FieldType} {rm : Room}
theorem sc_pre (hK : va_K (dC, dI) vwCl tys s) (hP : va_P (dC, dI) vwCl (wr ++ wc) H) (hD : va_D A (wr ++ wc)) (hr : ∃ cell : Cell, H[b]? = some cell ∧ cell.vm.isStatics = false ∧ s.vm.findClass C = some cell.cls) : PreV s H C b (va_Pc (.ref b :: As) (sB dC dI tys H.size wc)) As :=
  ⟨fun a U g mk q => by obtain ⟨q0, q1, qP, qK, qD⟩ := q; exact ⟨q0, q1, qP, va_K.moved (u := U) (U := U.calling g mk a) (Vm.Alike.refl U.vm) qK, qD⟩, hr, fun U hU hW => ⟨rfl, by rw [hU], by rw [hU]; exact sj_Pc hP, va_K.moved hW.alike hK, (sj_Dc hD).weaken (fun _ _ _ _ => trivial)⟩⟩
/-- a call of a method that answers an int: its world is wc, the rest wr stays -/
theorem sc_i {S : Type} {post : Int32 → S → Prop} {wn : S → va_W} (F : CallFix p m c cc nL s args Ts own) (hM : Met l y wy rm (va_Pc (.ref b :: As) (sB dC dI tys H.size wc)) (va_Qi post (fun u => sE dC dI (va_A wc H.size) (wn u)) (va_A wc H.size)) 0 0 (va_A wc H.size)) (cw : CallW R s args own C index y bytes maxL ret wy rm 0 0 n)
    (hK : va_K (dC, dI) vwCl tys s) (hP : va_P (dC, dI) vwCl (wr ++ wc) H) (hD : va_D A (wr ++ wc)) (hS : va_S A H0 H locs) (hA : ∀ q, H0.size ≤ q → A q) (hr : ∃ cell : Cell, H[b]? = some cell ∧ cell.vm.isStatics = false ∧ s.vm.findClass C = some cell.cls) (hn : As.length = n) (hsize : ls.size = nL) (hst : st0 = As.reverse ++ .ref b :: rest) (hW : (rest.map fun v => v.category).sum ≤ 8) (hdg : decode cc pc = .ok (.invokevirtual index, 3)) (hcs : cells ≤ R.cells ∧ slots ≤ R.slots)
    (kk : ∀ (r : Int32) (u : S) (H1 : Heap) (locs1 : List Loc), post r u → va_P (dC, dI) vwCl (wr ++ wn u) H1 → va_D A (wr ++ wn u) → va_S A H0 H1 locs1 → W p l e R s m args below meth c H1 locs1 cells slots Q (F0 m (pc + 3) ls (.int r :: rest))) : W p l e R s m args below meth c H locs cells slots Q (F0 m pc ls st0) := by
  have hF := sj_free hD hS hA
  refine va_calli (va_runV (As := As) (rest := rest) F hM cw (sc_pre hK hP hD hr) rfl hn hsize hst (lv_room hW) hdg hcs) hS (fun q _ h => hF q h) hF (fun r u t H1 locs1 ht hvm hw hB hz1 hk1 hS1 => ?_)
  obtain ⟨hP1, hD1⟩ := hB
  rw [ht] at hP1
  obtain ⟨hP2, hD2⟩ := sj_join hP hD hk1 hF hP1 hD1
  exact kk r u H1 locs1 hw hP2 hD2 hS1
/-- the same, of a method that answers nothing -/
theorem sc_v {S : Type} {post : S → Prop} {wn : S → va_W} (F : CallFix p m c cc nL s args Ts own) (hM : Met l y wy rm (va_Pc (.ref b :: As) (sB dC dI tys H.size wc)) (va_Qv post (fun u => sE dC dI (va_A wc H.size) (wn u)) (va_A wc H.size)) 0 0 (va_A wc H.size)) (cw : CallW R s args own C index y bytes maxL ret wy rm 0 0 n)
    (hK : va_K (dC, dI) vwCl tys s) (hP : va_P (dC, dI) vwCl (wr ++ wc) H) (hD : va_D A (wr ++ wc)) (hS : va_S A H0 H locs) (hA : ∀ q, H0.size ≤ q → A q) (hr : ∃ cell : Cell, H[b]? = some cell ∧ cell.vm.isStatics = false ∧ s.vm.findClass C = some cell.cls) (hn : As.length = n) (hsize : ls.size = nL) (hst : st0 = As.reverse ++ .ref b :: rest) (hW : (rest.map fun v => v.category).sum ≤ 8) (hdg : decode cc pc = .ok (.invokevirtual index, 3)) (hcs : cells ≤ R.cells ∧ slots ≤ R.slots)
    (kk : ∀ (u : S) (H1 : Heap) (locs1 : List Loc), post u → va_P (dC, dI) vwCl (wr ++ wn u) H1 → va_D A (wr ++ wn u) → va_S A H0 H1 locs1 → W p l e R s m args below meth c H1 locs1 cells slots Q (F0 m (pc + 3) ls rest)) : W p l e R s m args below meth c H locs cells slots Q (F0 m pc ls st0) := by
  have hF := sj_free hD hS hA
  refine va_callv (va_runV (As := As) (rest := rest) F hM cw (sc_pre hK hP hD hr) rfl hn hsize hst (lv_room hW) hdg hcs) hS (fun q _ h => hF q h) hF (fun u t H1 locs1 ht hvm hw hB hz1 hk1 hS1 => ?_)
  obtain ⟨hP1, hD1⟩ := hB
  rw [ht] at hP1
  obtain ⟨hP2, hD2⟩ := sj_join hP hD hk1 hF hP1 hD1
  exact kk u H1 locs1 hw hP2 hD2 hS1
end SC
