-- THE CLASS: the line
set_option maxHeartbeats 4000000 in
set_option maxRecDepth 100000 in
/-- settleFirst(): the first goes back to its place -/
theorem kX0_settleFirst (l : Launch) (dC : Nat → ClassId) (dI : Nat → Nat → Nat) (h0 aT aS aP aR aL : Nat) (cA cZ cJ : ClassId) (sz N big n lp : Nat) (ft fs fp fr fl : Nat → Nat) (hN : N ≤ 64) (hn0 : 0 < n) (hn : n ≤ N) (hfp : ∀ c, fp c < 2 ^ 31) (hfl : ∀ i, i < n → fl i < N) : Met l yX0_settleFirst wsX0_settleFirst ({ frames := 1, cells := 0, slots := 0, locals := 22 }) (va_Pc [.ref h0] (sB dC dI (ty3 cA cZ cJ) sz (sw h0 aT aS aP aR aL cA N big n lp ft fs fp fr fl))) (va_Qv (fun u : (Nat → Nat) => ∃ k, sh_rot fp fl u n k) (fun u => sE dC dI (va_A (sw h0 aT aS aP aR aL cA N big n lp ft fs fp fr fl) sz) (sw h0 aT aS aP aR aL cA N big n lp ft fs fp fr u)) (va_A (sw h0 aT aS aP aR aL cA N big n lp ft fs fp fr fl) sz)) 0 0 (va_A (sw h0 aT aS aP aR aL cA N big n lp ft fs fp fr fl) sz) := by
  refine Met.ofW (cc := cX0_settleFirst) (maxL := 3) (ret := none) (by decide) rfl ?_
  intro p e s m args below meth c s₁ B hml hv
  obtain ⟨rfl, hsz, hP, hK, hD0⟩ := hv
  have hx := B.exec
  have hb := B.bytes
  have hr := B.returns
  have hts := atoms_spec (ws := wsX0_settleFirst) B.pre
  have hown : s.vm.findClass RX0 = some m.cls := findClass_of_methodNamed B.named
  have hlocks := B.notSynchronized
  subst hsz
  have hD := hD0.self (sz := s.heap.size)
  generalize hAe : va_A (sw h0 aT aS aP aR aL cA N big n lp ft fs fp fr fl) s.heap.size = A at hD ⊢
  have hA : ∀ q : Nat, s.heap.size ≤ q → A q := fun q h => by rw [← hAe]; exact Or.inr h
  have hS : va_S A s.heap s.heap [] := va_S.rf
  have hl := lv_entry ([.ref h0]) (n := 3) (Nat.le_of_ble_eq_true rfl)
  rw [lg_entry_eq]
  generalize (lg_sl ([.ref h0]) ++ List.replicate (3 - (lg_sl ([.ref h0])).length) Slot.unset).toArray = ls at hl ⊢
  have hl : lv_has ls 3 [(0, .ref h0)] := hl
  refine lv_aload_n hx hb dX0_settleFirst_0 rfl (lv_at hl 0 rfl) ?_
  refine va_get (D := (dC, dI)) (ci := 0) (v := .ref aL) (C := RX0) (T := TX0) (N := 9) hx hb hts wiX0_settleFirst hown hK hP 0 rfl rfl 6 (by decide) (hts (.fieldLink RX0 35 "StrideHeap" "line" "[I") (by decide +kernel)) (fun _ h9 => h9) rfl dX0_settleFirst_1 ?_
  refine lv_iconst (v := nI 0) hx hb dX0_settleFirst_4 (by decide) ?_
  refine sr_ald hx hb hK hP 5 0 rfl rfl (k := 0) (by omega) (by omega) dX0_settleFirst_5 ?_
  refine lv_istore_n (lv' := [(1, .int (nI (fl 0))), (0, .ref h0)]) hx hb dX0_settleFirst_6 rfl hl (by decide) rfl (fun ls hl => ?_)
  refine lv_iconst (v := nI 0) hx hb dX0_settleFirst_7 (by decide) ?_
  refine lv_istore_n (lv' := [(2, .int (nI 0)), (1, .int (nI (fl 0))), (0, .ref h0)]) hx hb dX0_settleFirst_8 rfl hl (by decide) rfl (fun ls hl => ?_)
  refine sl_loop (fun d (x : Nat × (Nat → Nat)) H locs ls => n ≤ x.1 + d ∧ x.1 < n ∧ (∀ i, i < x.1 → x.2 i = fl (i + 1)) ∧ (∀ i, x.1 ≤ i → x.2 i = fl i) ∧ (∀ i, i < x.1 → sh_bf fp (fl (i + 1)) (fl 0)) ∧ va_P (dC, dI) vwCl (sw h0 aT aS aP aR aL cA N big n lp ft fs fp fr x.2) H ∧ va_D A (sw h0 aT aS aP aR aL cA N big n lp ft fs fp fr x.2) ∧ va_S A s.heap H locs ∧ lv_has ls 3 [(2, .int (nI x.1)), (1, .int (nI (fl 0))), (0, .ref h0)]) (fun x H locs ls h => by omega) ?_ n (0, fl) _ _ _ ⟨by omega, hn0, fun i h => absurd h (Nat.not_lt_zero _), fun _ _ => rfl, fun i h => absurd h (Nat.not_lt_zero _), hP, hD, hS, lv_sub hl [0, 1, 2] rfl⟩
  intro d x H locs ls ih hI
  obtain ⟨k, g⟩ := x
  obtain ⟨h1, h2, h3, h4, h5, hP, hD, hS, hl⟩ := hI
  dsimp only at h1 h2 h3 h4 h5 hP hD hl
  refine lv_iload_n hx hb dX0_settleFirst_9 rfl (lv_at hl 0 rfl) ?_
  refine lv_aload_n hx hb dX0_settleFirst_10 rfl (lv_at hl 2 rfl) ?_
  refine va_get (D := (dC, dI)) (ci := 0) (v := .int (nI n)) (C := RX0) (T := TX0) (N := 9) hx hb hts wiX0_settleFirst hown hK hP 0 rfl rfl 7 (by decide) (hts (.fieldLink RX0 38 "StrideHeap" "inLine" "I") (by decide +kernel)) (fun _ h9 => h9) rfl dX0_settleFirst_11 ?_
  refine lv_iconst (v := nI 1) hx hb dX0_settleFirst_14 (by decide) ?_
  refine sr_isub hx hb (by omega) dX0_settleFirst_15 ?_
  refine sr_cmp_ge (tgt := 55) hx hb (by omega) (by omega) dX0_settleFirst_16 (by decide) (fun c1 => ?_) (fun c1 => ?_)
  · skip
    refine lv_aload_n hx hb dX0_settleFirst_55 rfl (lv_at hl 2 rfl) ?_
    refine va_get (D := (dC, dI)) (ci := 0) (v := .ref aL) (C := RX0) (T := TX0) (N := 9) hx hb hts wiX0_settleFirst hown hK hP 0 rfl rfl 6 (by decide) (hts (.fieldLink RX0 35 "StrideHeap" "line" "[I") (by decide +kernel)) (fun _ h9 => h9) rfl dX0_settleFirst_56 ?_
    refine lv_iload_n hx hb dX0_settleFirst_59 rfl (lv_at hl 0 rfl) ?_
    refine lv_iload_n hx hb dX0_settleFirst_60 rfl (lv_at hl 1 rfl) ?_
    refine sr_ast hx hb hK hP hD hS 5 0 rfl rfl (k := k) (v := fl 0) (by omega) (by omega) dX0_settleFirst_61 (fun H locs hP hD hS => ?_)
    have hP : va_P (dC, dI) vwCl (sw h0 aT aS aP aR aL cA N big n lp ft fs fp fr (sh_up g k (fl 0))) H := hP
    have hD : va_D A (sw h0 aT aS aP aR aL cA N big n lp ft fs fp fr (sh_up g k (fl 0))) := hD
    exact W.vret hx hb hr (fun t ht hW => ⟨⟨(sh_up g k (fl 0)), rfl, ⟨k, h2, fun i hi => by rw [sh_up_n g _ (by omega)]; exact h3 i hi, sh_up_s g k _, fun i hi => by rw [sh_up_n g _ (by omega)]; exact h4 i (by omega), h5, fun q => by omega⟩, by rw [ht]; exact hP, hD⟩, hS.F ht⟩) hS.2.2 dX0_settleFirst_62
  · skip
    have e1 : g (k + 1) = fl (k + 1) := h4 _ (by omega)
    have hlt : fl (k + 1) < N := hfl _ (by omega)
    have hlt0 : fl 0 < N := hfl _ hn0
    refine lv_aload_n hx hb dX0_settleFirst_19 rfl (lv_at hl 2 rfl) ?_
    refine lv_aload_n hx hb dX0_settleFirst_20 rfl (lv_at hl 2 rfl) ?_
    refine va_get (D := (dC, dI)) (ci := 0) (v := .ref aL) (C := RX0) (T := TX0) (N := 9) hx hb hts wiX0_settleFirst hown hK hP 0 rfl rfl 6 (by decide) (hts (.fieldLink RX0 35 "StrideHeap" "line" "[I") (by decide +kernel)) (fun _ h9 => h9) rfl dX0_settleFirst_21 ?_
    refine lv_iload_n hx hb dX0_settleFirst_24 rfl (lv_at hl 0 rfl) ?_
    refine lv_iconst (v := nI 1) hx hb dX0_settleFirst_25 (by decide) ?_
    refine sr_iadd hx hb dX0_settleFirst_26 ?_
    refine sr_ald hx hb hK hP 5 0 rfl rfl (k := k + 1) (by omega) (by omega) dX0_settleFirst_27 ?_
    refine lv_iload_n hx hb dX0_settleFirst_28 rfl (lv_at hl 1 rfl) ?_
    refine sc_i (wr := []) (wc := sw h0 aT aS aP aR aL cA N big n lp ft fs fp fr g) (As := [.int (nI (g (k + 1))), .int (nI (fl 0))]) (rest := []) ⟨hx, hb, hml, hown, hts⟩ (kX0_isBefore l dC dI h0 aT aS aP aR aL cA cZ cJ H.size N big n lp ft fs fp fr g hN hfp (g (k + 1)) (fl 0) (by omega) hlt0) (cwV 2 hts gX0_settleFirst_X0_isBefore rfl rfl rfl (by decide +kernel) ⟨Nat.le_of_ble_eq_true rfl, Nat.le_of_ble_eq_true rfl⟩) hK hP hD hS hA (va_recv hK hP (ci := 0) (q0 := 0) rfl rfl) rfl hl.1 rfl (Nat.le_of_ble_eq_true rfl) dX0_settleFirst_29 ⟨Nat.zero_le _, Nat.zero_le _⟩ (fun r _ H locs hw hP hD hS => ?_)
    rcases hw with ⟨hbf, rfl⟩ | ⟨hbf, rfl⟩
    · skip
      refine sr_if_eq (tgt := 55) hx hb (by decide) dX0_settleFirst_32 (by decide) (fun q => absurd q (by decide)) (fun _ => ?_)
      refine lv_aload_n hx hb dX0_settleFirst_35 rfl (lv_at hl 2 rfl) ?_
      refine va_get (D := (dC, dI)) (ci := 0) (v := .ref aL) (C := RX0) (T := TX0) (N := 9) hx hb hts wiX0_settleFirst hown hK hP 0 rfl rfl 6 (by decide) (hts (.fieldLink RX0 35 "StrideHeap" "line" "[I") (by decide +kernel)) (fun _ h9 => h9) rfl dX0_settleFirst_36 ?_
      refine lv_iload_n hx hb dX0_settleFirst_39 rfl (lv_at hl 0 rfl) ?_
      refine lv_aload_n hx hb dX0_settleFirst_40 rfl (lv_at hl 2 rfl) ?_
      refine va_get (D := (dC, dI)) (ci := 0) (v := .ref aL) (C := RX0) (T := TX0) (N := 9) hx hb hts wiX0_settleFirst hown hK hP 0 rfl rfl 6 (by decide) (hts (.fieldLink RX0 35 "StrideHeap" "line" "[I") (by decide +kernel)) (fun _ h9 => h9) rfl dX0_settleFirst_41 ?_
      refine lv_iload_n hx hb dX0_settleFirst_44 rfl (lv_at hl 0 rfl) ?_
      refine lv_iconst (v := nI 1) hx hb dX0_settleFirst_45 (by decide) ?_
      refine sr_iadd hx hb dX0_settleFirst_46 ?_
      refine sr_ald hx hb hK hP 5 0 rfl rfl (k := k + 1) (by omega) (by omega) dX0_settleFirst_47 ?_
      refine sr_ast hx hb hK hP hD hS 5 0 rfl rfl (k := k) (v := g (k + 1)) (by omega) (by omega) dX0_settleFirst_48 (fun H locs hP hD hS => ?_)
      have hP : va_P (dC, dI) vwCl (sw h0 aT aS aP aR aL cA N big n lp ft fs fp fr (sh_up g k (g (k + 1)))) H := hP
      have hD : va_D A (sw h0 aT aS aP aR aL cA N big n lp ft fs fp fr (sh_up g k (g (k + 1)))) := hD
      refine lv_iinc (v := nI (k + 1)) (lv' := [(2, .int (nI (k + 1))), (1, .int (nI (fl 0))), (0, .ref h0)]) hx hb dX0_settleFirst_49 hl (k := 0) rfl (nI_1 _) (by decide) rfl (fun ls hl => ?_)
      refine lv_goto (tgt := 9) hx hb dX0_settleFirst_52 (by decide) ?_
      exact ih (k + 1, sh_up g k (g (k + 1))) _ _ _ ⟨by omega, by omega, fun i hi => by
        dsimp only at hi ⊢
        by_cases q : i = k
        · subst q; rw [sh_up_s]; exact e1
        · rw [sh_up_n g _ q]; exact h3 i (by omega), fun i hi => by dsimp only at hi ⊢; rw [sh_up_n g _ (by omega)]; exact h4 i (by omega), fun i hi => by
        dsimp only at hi
        by_cases q : i = k
        · subst q; rw [← e1]; exact hbf
        · exact h5 i (by omega), hP, hD, hS, lv_sub hl [0, 1, 2] rfl⟩
    · skip
      refine sr_if_eq (tgt := 55) hx hb (by decide) dX0_settleFirst_32 (by decide) (fun _ => ?_) (fun q => absurd q (by decide))
      refine lv_aload_n hx hb dX0_settleFirst_55 rfl (lv_at hl 2 rfl) ?_
      refine va_get (D := (dC, dI)) (ci := 0) (v := .ref aL) (C := RX0) (T := TX0) (N := 9) hx hb hts wiX0_settleFirst hown hK hP 0 rfl rfl 6 (by decide) (hts (.fieldLink RX0 35 "StrideHeap" "line" "[I") (by decide +kernel)) (fun _ h9 => h9) rfl dX0_settleFirst_56 ?_
      refine lv_iload_n hx hb dX0_settleFirst_59 rfl (lv_at hl 0 rfl) ?_
      refine lv_iload_n hx hb dX0_settleFirst_60 rfl (lv_at hl 1 rfl) ?_
      refine sr_ast hx hb hK hP hD hS 5 0 rfl rfl (k := k) (v := fl 0) (by omega) (by omega) dX0_settleFirst_61 (fun H locs hP hD hS => ?_)
      have hP : va_P (dC, dI) vwCl (sw h0 aT aS aP aR aL cA N big n lp ft fs fp fr (sh_up g k (fl 0))) H := hP
      have hD : va_D A (sw h0 aT aS aP aR aL cA N big n lp ft fs fp fr (sh_up g k (fl 0))) := hD
      exact W.vret hx hb hr (fun t ht hW => ⟨⟨(sh_up g k (fl 0)), rfl, ⟨k, h2, fun i hi => by rw [sh_up_n g _ (by omega)]; exact h3 i hi, sh_up_s g k _, fun i hi => by rw [sh_up_n g _ (by omega)]; exact h4 i (by omega), h5, fun _ => by rw [← e1]; exact hbf⟩, by rw [ht]; exact hP, hD⟩, hS.F ht⟩) hS.2.2 dX0_settleFirst_62
set_option maxHeartbeats 4000000 in
set_option maxRecDepth 100000 in
/-- placeOf(c): where it stands -/
theorem kX0_placeOf (l : Launch) (dC : Nat → ClassId) (dI : Nat → Nat → Nat) (h0 aT aS aP aR aL : Nat) (cA cZ cJ : ClassId) (sz N big n lp : Nat) (ft fs fp fr fl : Nat → Nat) (hN : N ≤ 64) (hn : n ≤ N) (hfl : ∀ i, i < n → fl i < N) (q0 : Nat) (hq0 : q0 < n) : Met l yX0_placeOf wsX0_placeOf ({ frames := 0, cells := 0, slots := 0, locals := 0 }) (va_Pc [.ref h0, .int (nI (fl q0))] (sB dC dI (ty3 cA cZ cJ) sz (sw h0 aT aS aP aR aL cA N big n lp ft fs fp fr fl))) (va_Qi (fun (r : Int32) (_ : Unit) => ∃ k, k < n ∧ fl k = fl q0 ∧ r = nI k) (fun _ => sE dC dI (va_A (sw h0 aT aS aP aR aL cA N big n lp ft fs fp fr fl) sz) (sw h0 aT aS aP aR aL cA N big n lp ft fs fp fr fl)) (va_A (sw h0 aT aS aP aR aL cA N big n lp ft fs fp fr fl) sz)) 0 0 (va_A (sw h0 aT aS aP aR aL cA N big n lp ft fs fp fr fl) sz) := by
  refine Met.ofW (cc := cX0_placeOf) (maxL := 3) (ret := (some .int)) (by decide) rfl ?_
  intro p e s m args below meth c s₁ B hml hv
  obtain ⟨rfl, hsz, hP, hK, hD0⟩ := hv
  have hx := B.exec
  have hb := B.bytes
  have hr := B.returns
  have hts := atoms_spec (ws := wsX0_placeOf) B.pre
  have hown : s.vm.findClass RX0 = some m.cls := findClass_of_methodNamed B.named
  have hlocks := B.notSynchronized
  subst hsz
  have hD := hD0.self (sz := s.heap.size)
  generalize hAe : va_A (sw h0 aT aS aP aR aL cA N big n lp ft fs fp fr fl) s.heap.size = A at hD ⊢
  have hA : ∀ q : Nat, s.heap.size ≤ q → A q := fun q h => by rw [← hAe]; exact Or.inr h
  have hS : va_S A s.heap s.heap [] := va_S.rf
  have hl := lv_entry ([.ref h0, .int (nI (fl q0))]) (n := 3) (Nat.le_of_ble_eq_true rfl)
  rw [lg_entry_eq]
  generalize (lg_sl ([.ref h0, .int (nI (fl q0))]) ++ List.replicate (3 - (lg_sl ([.ref h0, .int (nI (fl q0))])).length) Slot.unset).toArray = ls at hl ⊢
  have hl : lv_has ls 3 [(0, .ref h0), (1, .int (nI (fl q0)))] := hl
  have hq1 : fl q0 < N := hfl q0 hq0
  refine lv_iconst (v := nI 0) hx hb dX0_placeOf_0 (by decide) ?_
  refine lv_istore_n (lv' := [(2, .int (nI 0)), (0, .ref h0), (1, .int (nI (fl q0)))]) hx hb dX0_placeOf_1 rfl hl (by decide) rfl (fun ls hl => ?_)
  refine sl_loop (fun d (x : Nat) H locs ls => n ≤ x + d ∧ x < n ∧ x ≤ q0 ∧ va_P (dC, dI) vwCl (sw h0 aT aS aP aR aL cA N big n lp ft fs fp fr fl) H ∧ va_D A (sw h0 aT aS aP aR aL cA N big n lp ft fs fp fr fl) ∧ va_S A s.heap H locs ∧ lv_has ls 3 [(2, .int (nI x)), (0, .ref h0), (1, .int (nI (fl q0)))]) (fun x H locs ls h => by omega) ?_ n 0 _ _ _ ⟨by omega, by omega, by omega, hP, hD, hS, lv_sub hl [0, 1, 2] rfl⟩
  intro d x H locs ls ih hI
  obtain ⟨h1, h2, h3, hP, hD, hS, hl⟩ := hI
  refine lv_iload_n hx hb dX0_placeOf_2 rfl (lv_at hl 0 rfl) ?_
  refine lv_aload_n hx hb dX0_placeOf_3 rfl (lv_at hl 1 rfl) ?_
  refine va_get (D := (dC, dI)) (ci := 0) (v := .int (nI n)) (C := RX0) (T := TX0) (N := 9) hx hb hts wiX0_placeOf hown hK hP 0 rfl rfl 7 (by decide) (hts (.fieldLink RX0 38 "StrideHeap" "inLine" "I") (by decide +kernel)) (fun _ h9 => h9) rfl dX0_placeOf_4 ?_
  refine lv_iconst (v := nI 1) hx hb dX0_placeOf_7 (by decide) ?_
  refine sr_isub hx hb (by omega) dX0_placeOf_8 ?_
  refine sr_cmp_ge (tgt := 28) hx hb (by omega) (by omega) dX0_placeOf_9 (by decide) (fun c1 => ?_) (fun c1 => ?_)
  · skip
    refine lv_iload_n hx hb dX0_placeOf_28 rfl (lv_at hl 0 rfl) ?_
    exact W.iret (v := nI x) hx hb hr (fun t ht hW => ⟨⟨nI x, (), rfl, ⟨x, h2, by rw [show x = q0 by omega], rfl⟩, by rw [ht]; exact hP, hD⟩, hS.F ht⟩) hS.2.2 dX0_placeOf_29
  · skip
    have hlt : fl x < N := hfl x h2
    refine lv_aload_n hx hb dX0_placeOf_12 rfl (lv_at hl 1 rfl) ?_
    refine va_get (D := (dC, dI)) (ci := 0) (v := .ref aL) (C := RX0) (T := TX0) (N := 9) hx hb hts wiX0_placeOf hown hK hP 0 rfl rfl 6 (by decide) (hts (.fieldLink RX0 35 "StrideHeap" "line" "[I") (by decide +kernel)) (fun _ h9 => h9) rfl dX0_placeOf_13 ?_
    refine lv_iload_n hx hb dX0_placeOf_16 rfl (lv_at hl 0 rfl) ?_
    refine sr_ald hx hb hK hP 5 0 rfl rfl (k := x) (by omega) (by omega) dX0_placeOf_17 ?_
    refine lv_iload_n hx hb dX0_placeOf_18 rfl (lv_at hl 2 rfl) ?_
    refine sr_cmp_eq (tgt := 28) hx hb (by omega) (by omega) dX0_placeOf_19 (by decide) (fun c2 => ?_) (fun c2 => ?_)
    · skip
      refine lv_iload_n hx hb dX0_placeOf_28 rfl (lv_at hl 0 rfl) ?_
      exact W.iret (v := nI x) hx hb hr (fun t ht hW => ⟨⟨nI x, (), rfl, ⟨x, h2, c2, rfl⟩, by rw [ht]; exact hP, hD⟩, hS.F ht⟩) hS.2.2 dX0_placeOf_29
    · skip
      refine lv_iinc (v := nI (x + 1)) (lv' := [(2, .int (nI (x + 1))), (0, .ref h0), (1, .int (nI (fl q0)))]) hx hb dX0_placeOf_22 hl (k := 0) rfl (nI_1 _) (by decide) rfl (fun ls hl => ?_)
      refine lv_goto (tgt := 2) hx hb dX0_placeOf_25 (by decide) ?_
      exact ih (x + 1) _ _ _ ⟨by omega, by omega, by
        rcases Nat.lt_or_ge x q0 with q | q
        · exact q
        · exact absurd (by rw [show x = q0 by omega]) c2, hP, hD, hS, lv_sub hl [0, 1, 2] rfl⟩
set_option maxHeartbeats 4000000 in
set_option maxRecDepth 100000 in
/-- quitLine(c): it is taken out of the line -/
theorem kX0_quitLine (l : Launch) (dC : Nat → ClassId) (dI : Nat → Nat → Nat) (h0 aT aS aP aR aL : Nat) (cA cZ cJ : ClassId) (sz N big n lp : Nat) (ft fs fp fr fl : Nat → Nat) (hN : N ≤ 64) (hn : n ≤ N) (hfl : ∀ i, i < n → fl i < N) (q0 : Nat) (hq0 : q0 < n) : Met l yX0_quitLine wsX0_quitLine ({ frames := 1, cells := 0, slots := 0, locals := 22 }) (va_Pc [.ref h0, .int (nI (fl q0))] (sB dC dI (ty3 cA cZ cJ) sz (sw h0 aT aS aP aR aL cA N big n lp ft fs fp fr fl))) (va_Qv (fun u : (Nat → Nat) => ∃ k, k < n ∧ fl k = fl q0 ∧ (∀ i, i < k → u i = fl i) ∧ (∀ i, k ≤ i → i + 1 < n → u i = fl (i + 1))) (fun u => sE dC dI (va_A (sw h0 aT aS aP aR aL cA N big n lp ft fs fp fr fl) sz) (sw h0 aT aS aP aR aL cA N big (n - 1) lp ft fs fp fr u)) (va_A (sw h0 aT aS aP aR aL cA N big n lp ft fs fp fr fl) sz)) 0 0 (va_A (sw h0 aT aS aP aR aL cA N big n lp ft fs fp fr fl) sz) := by
  refine Met.ofW (cc := cX0_quitLine) (maxL := 3) (ret := none) (by decide) rfl ?_
  intro p e s m args below meth c s₁ B hml hv
  obtain ⟨rfl, hsz, hP, hK, hD0⟩ := hv
  have hx := B.exec
  have hb := B.bytes
  have hr := B.returns
  have hts := atoms_spec (ws := wsX0_quitLine) B.pre
  have hown : s.vm.findClass RX0 = some m.cls := findClass_of_methodNamed B.named
  have hlocks := B.notSynchronized
  subst hsz
  have hD := hD0.self (sz := s.heap.size)
  generalize hAe : va_A (sw h0 aT aS aP aR aL cA N big n lp ft fs fp fr fl) s.heap.size = A at hD ⊢
  have hA : ∀ q : Nat, s.heap.size ≤ q → A q := fun q h => by rw [← hAe]; exact Or.inr h
  have hS : va_S A s.heap s.heap [] := va_S.rf
  have hl := lv_entry ([.ref h0, .int (nI (fl q0))]) (n := 3) (Nat.le_of_ble_eq_true rfl)
  rw [lg_entry_eq]
  generalize (lg_sl ([.ref h0, .int (nI (fl q0))]) ++ List.replicate (3 - (lg_sl ([.ref h0, .int (nI (fl q0))])).length) Slot.unset).toArray = ls at hl ⊢
  have hl : lv_has ls 3 [(0, .ref h0), (1, .int (nI (fl q0)))] := hl
  refine lv_aload_n hx hb dX0_quitLine_0 rfl (lv_at hl 0 rfl) ?_
  refine lv_iload_n hx hb dX0_quitLine_1 rfl (lv_at hl 1 rfl) ?_
  refine sc_i (wr := []) (wc := sw h0 aT aS aP aR aL cA N big n lp ft fs fp fr fl) (As := [.int (nI (fl q0))]) (rest := []) ⟨hx, hb, hml, hown, hts⟩ (kX0_placeOf l dC dI h0 aT aS aP aR aL cA cZ cJ s.heap.size N big n lp ft fs fp fr fl hN hn hfl q0 hq0) (cwV 1 hts gX0_quitLine_X0_placeOf rfl rfl rfl (by decide +kernel) ⟨Nat.le_of_ble_eq_true rfl, Nat.le_of_ble_eq_true rfl⟩) hK hP hD hS hA (va_recv hK hP (ci := 0) (q0 := 0) rfl rfl) rfl hl.1 rfl (Nat.le_of_ble_eq_true rfl) dX0_quitLine_2 ⟨Nat.zero_le _, Nat.zero_le _⟩ (fun r _ H locs hw hP hD hS => ?_)
  obtain ⟨k, hk, ek, rfl⟩ := hw
  refine lv_istore_n (lv' := [(2, .int (nI k)), (0, .ref h0), (1, .int (nI (fl q0)))]) hx hb dX0_quitLine_5 rfl hl (by decide) rfl (fun ls hl => ?_)
  refine lv_aload_n hx hb dX0_quitLine_6 rfl (lv_at hl 1 rfl) ?_
  refine va_get (D := (dC, dI)) (ci := 0) (v := .ref aL) (C := RX0) (T := TX0) (N := 9) hx hb hts wiX0_quitLine hown hK hP 0 rfl rfl 6 (by decide) (hts (.fieldLink RX0 35 "StrideHeap" "line" "[I") (by decide +kernel)) (fun _ h9 => h9) rfl dX0_quitLine_7 ?_
  refine lv_iload_n hx hb dX0_quitLine_10 rfl (lv_at hl 0 rfl) ?_
  refine lv_iconst (v := nI 1) hx hb dX0_quitLine_11 (by decide) ?_
  refine sr_iadd hx hb dX0_quitLine_12 ?_
  refine lv_aload_n hx hb dX0_quitLine_13 rfl (lv_at hl 1 rfl) ?_
  refine va_get (D := (dC, dI)) (ci := 0) (v := .ref aL) (C := RX0) (T := TX0) (N := 9) hx hb hts wiX0_quitLine hown hK hP 0 rfl rfl 6 (by decide) (hts (.fieldLink RX0 35 "StrideHeap" "line" "[I") (by decide +kernel)) (fun _ h9 => h9) rfl dX0_quitLine_14 ?_
  refine lv_iload_n hx hb dX0_quitLine_17 rfl (lv_at hl 0 rfl) ?_
  refine lv_aload_n hx hb dX0_quitLine_18 rfl (lv_at hl 1 rfl) ?_
  refine va_get (D := (dC, dI)) (ci := 0) (v := .int (nI n)) (C := RX0) (T := TX0) (N := 9) hx hb hts wiX0_quitLine hown hK hP 0 rfl rfl 7 (by decide) (hts (.fieldLink RX0 38 "StrideHeap" "inLine" "I") (by decide +kernel)) (fun _ h9 => h9) rfl dX0_quitLine_19 ?_
  refine lv_iload_n hx hb dX0_quitLine_22 rfl (lv_at hl 0 rfl) ?_
  refine sr_isub hx hb (by omega) dX0_quitLine_23 ?_
  refine lv_iconst (v := nI 1) hx hb dX0_quitLine_24 (by decide) ?_
  refine sr_isub hx hb (by omega) dX0_quitLine_25 ?_
  refine sr_cpy hx hb (by rw [hml]; exact hl.1.symm) hown (hts (.methodLink RX0 77 arraycopyName) (by decide +kernel)) (hts (.native arraycopyName) (by decide +kernel)) (hts (.static arraycopyName) (by decide +kernel)) (hts (.initialized "java/lang/System") (by decide +kernel)) hK hP hD hS 5 0 rfl rfl (sp := k + 1) (dp := k) (k := (n - k) - 1) (by omega) (by omega) (by omega) (Nat.le_of_ble_eq_true rfl) (Nat.le_of_ble_eq_true rfl) dX0_quitLine_26 (fun H locs hP hD hS => ?_)
  have hP : va_P (dC, dI) vwCl (sw h0 aT aS aP aR aL cA N big n lp ft fs fp fr (va_cpy fl fl (k + 1) k ((n - k) - 1))) H := hP
  have hD : va_D A (sw h0 aT aS aP aR aL cA N big n lp ft fs fp fr (va_cpy fl fl (k + 1) k ((n - k) - 1))) := hD
  refine lv_aload_n hx hb dX0_quitLine_29 rfl (lv_at hl 1 rfl) ?_
  refine lv_dup hx hb dX0_quitLine_30 rfl ?_
  refine va_get (D := (dC, dI)) (ci := 0) (v := .int (nI n)) (C := RX0) (T := TX0) (N := 9) hx hb hts wiX0_quitLine hown hK hP 0 rfl rfl 7 (by decide) (hts (.fieldLink RX0 38 "StrideHeap" "inLine" "I") (by decide +kernel)) (fun _ h9 => h9) rfl dX0_quitLine_31 ?_
  refine lv_iconst (v := nI 1) hx hb dX0_quitLine_34 (by decide) ?_
  refine sr_isub hx hb (by omega) dX0_quitLine_35 ?_
  refine va_put (D := (dC, dI)) (ci := 0) (v := .int (nI (n - 1))) (ty := .int) (C := RX0) (T := TX0) (N := 9) hx hb hts wiX0_quitLine tyX0 tyX0_ok nmX0 hown hK hP hD hS 0 rfl rfl 7 (by decide) (hts (.fieldLink RX0 38 "StrideHeap" "inLine" "I") (by decide +kernel)) (fun _ h9 => h9) rfl (by decide +kernel) rfl rfl (Nat.le_of_ble_eq_true rfl) dX0_quitLine_36 (fun H locs hP hD hS => ?_)
  have hP : va_P (dC, dI) vwCl (sw h0 aT aS aP aR aL cA N big (n - 1) lp ft fs fp fr (va_cpy fl fl (k + 1) k ((n - k) - 1))) H := hP
  have hD : va_D A (sw h0 aT aS aP aR aL cA N big (n - 1) lp ft fs fp fr (va_cpy fl fl (k + 1) k ((n - k) - 1))) := hD
  exact W.vret hx hb hr (fun t ht hW => ⟨⟨(va_cpy fl fl (k + 1) k (n - k - 1)), rfl, ⟨k, hk, ek, fun i hi => by simp only [va_cpy]; rw [if_neg (by omega)], fun i hi hi2 => by simp only [va_cpy]; rw [if_pos (by omega), show k + 1 + (i - k) = i + 1 by omega]⟩, by rw [ht]; exact hP, hD⟩, hS.F ht⟩) hS.2.2 dX0_quitLine_39
set_option maxHeartbeats 4000000 in
set_option maxRecDepth 100000 in
/-- enterLine(j): in front, then back to its place -/
theorem kX0_enterLine (l : Launch) (dC : Nat → ClassId) (dI : Nat → Nat → Nat) (h0 aT aS aP aR aL : Nat) (cA cZ cJ : ClassId) (sz N big n lp : Nat) (ft fs fp fr fl : Nat → Nat) (hN : N ≤ 64) (hn : n < N) (hfp : ∀ c, fp c < 2 ^ 31) (hfl : ∀ i, i < n → fl i < N) (j : Nat) (hj : j < N) : Met l yX0_enterLine wsX0_enterLine ({ frames := 2, cells := 0, slots := 0, locals := 44 }) (va_Pc [.ref h0, .int (nI j)] (sB dC dI (ty3 cA cZ cJ) sz (sw h0 aT aS aP aR aL cA N big n lp ft fs fp fr fl))) (va_Qv (fun u : (Nat → Nat) => ∃ M k, M 0 = j ∧ (∀ i, i < n → M (i + 1) = fl i) ∧ sh_rot fp M u (n + 1) k) (fun u => sE dC dI (va_A (sw h0 aT aS aP aR aL cA N big n lp ft fs fp fr fl) sz) (sw h0 aT aS aP aR aL cA N big (n + 1) lp ft fs fp fr u)) (va_A (sw h0 aT aS aP aR aL cA N big n lp ft fs fp fr fl) sz)) 0 0 (va_A (sw h0 aT aS aP aR aL cA N big n lp ft fs fp fr fl) sz) := by
  refine Met.ofW (cc := cX0_enterLine) (maxL := 2) (ret := none) (by decide) rfl ?_
  intro p e s m args below meth c s₁ B hml hv
  obtain ⟨rfl, hsz, hP, hK, hD0⟩ := hv
  have hx := B.exec
  have hb := B.bytes
  have hr := B.returns
  have hts := atoms_spec (ws := wsX0_enterLine) B.pre
  have hown : s.vm.findClass RX0 = some m.cls := findClass_of_methodNamed B.named
  have hlocks := B.notSynchronized
  subst hsz
  have hD := hD0.self (sz := s.heap.size)
  generalize hAe : va_A (sw h0 aT aS aP aR aL cA N big n lp ft fs fp fr fl) s.heap.size = A at hD ⊢
  have hA : ∀ q : Nat, s.heap.size ≤ q → A q := fun q h => by rw [← hAe]; exact Or.inr h
  have hS : va_S A s.heap s.heap [] := va_S.rf
  have hl := lv_entry ([.ref h0, .int (nI j)]) (n := 2) (Nat.le_of_ble_eq_true rfl)
  rw [lg_entry_eq]
  generalize (lg_sl ([.ref h0, .int (nI j)]) ++ List.replicate (2 - (lg_sl ([.ref h0, .int (nI j)])).length) Slot.unset).toArray = ls at hl ⊢
  have hl : lv_has ls 2 [(0, .ref h0), (1, .int (nI j))] := hl
  refine lv_aload_n hx hb dX0_enterLine_0 rfl (lv_at hl 0 rfl) ?_
  refine va_get (D := (dC, dI)) (ci := 0) (v := .ref aL) (C := RX0) (T := TX0) (N := 9) hx hb hts wiX0_enterLine hown hK hP 0 rfl rfl 6 (by decide) (hts (.fieldLink RX0 35 "StrideHeap" "line" "[I") (by decide +kernel)) (fun _ h9 => h9) rfl dX0_enterLine_1 ?_
  refine lv_iconst (v := nI 0) hx hb dX0_enterLine_4 (by decide) ?_
  refine lv_aload_n hx hb dX0_enterLine_5 rfl (lv_at hl 0 rfl) ?_
  refine va_get (D := (dC, dI)) (ci := 0) (v := .ref aL) (C := RX0) (T := TX0) (N := 9) hx hb hts wiX0_enterLine hown hK hP 0 rfl rfl 6 (by decide) (hts (.fieldLink RX0 35 "StrideHeap" "line" "[I") (by decide +kernel)) (fun _ h9 => h9) rfl dX0_enterLine_6 ?_
  refine lv_iconst (v := nI 1) hx hb dX0_enterLine_9 (by decide) ?_
  refine lv_aload_n hx hb dX0_enterLine_10 rfl (lv_at hl 0 rfl) ?_
  refine va_get (D := (dC, dI)) (ci := 0) (v := .int (nI n)) (C := RX0) (T := TX0) (N := 9) hx hb hts wiX0_enterLine hown hK hP 0 rfl rfl 7 (by decide) (hts (.fieldLink RX0 38 "StrideHeap" "inLine" "I") (by decide +kernel)) (fun _ h9 => h9) rfl dX0_enterLine_11 ?_
  refine sr_cpy hx hb (by rw [hml]; exact hl.1.symm) hown (hts (.methodLink RX0 77 arraycopyName) (by decide +kernel)) (hts (.native arraycopyName) (by decide +kernel)) (hts (.static arraycopyName) (by decide +kernel)) (hts (.initialized "java/lang/System") (by decide +kernel)) hK hP hD hS 5 0 rfl rfl (sp := 0) (dp := 1) (k := n) (by omega) (by omega) (by omega) (Nat.le_of_ble_eq_true rfl) (Nat.le_of_ble_eq_true rfl) dX0_enterLine_14 (fun H locs hP hD hS => ?_)
  have hP : va_P (dC, dI) vwCl (sw h0 aT aS aP aR aL cA N big n lp ft fs fp fr (va_cpy fl fl 0 1 n)) H := hP
  have hD : va_D A (sw h0 aT aS aP aR aL cA N big n lp ft fs fp fr (va_cpy fl fl 0 1 n)) := hD
  refine lv_aload_n hx hb dX0_enterLine_17 rfl (lv_at hl 0 rfl) ?_
  refine va_get (D := (dC, dI)) (ci := 0) (v := .ref aL) (C := RX0) (T := TX0) (N := 9) hx hb hts wiX0_enterLine hown hK hP 0 rfl rfl 6 (by decide) (hts (.fieldLink RX0 35 "StrideHeap" "line" "[I") (by decide +kernel)) (fun _ h9 => h9) rfl dX0_enterLine_18 ?_
  refine lv_iconst (v := nI 0) hx hb dX0_enterLine_21 (by decide) ?_
  refine lv_iload_n hx hb dX0_enterLine_22 rfl (lv_at hl 1 rfl) ?_
  refine sr_ast hx hb hK hP hD hS 5 0 rfl rfl (k := 0) (v := j) (by omega) (by omega) dX0_enterLine_23 (fun H locs hP hD hS => ?_)
  have hP : va_P (dC, dI) vwCl (sw h0 aT aS aP aR aL cA N big n lp ft fs fp fr (sh_up (va_cpy fl fl 0 1 n) 0 j)) H := hP
  have hD : va_D A (sw h0 aT aS aP aR aL cA N big n lp ft fs fp fr (sh_up (va_cpy fl fl 0 1 n) 0 j)) := hD
  refine lv_aload_n hx hb dX0_enterLine_24 rfl (lv_at hl 0 rfl) ?_
  refine lv_dup hx hb dX0_enterLine_25 rfl ?_
  refine va_get (D := (dC, dI)) (ci := 0) (v := .int (nI n)) (C := RX0) (T := TX0) (N := 9) hx hb hts wiX0_enterLine hown hK hP 0 rfl rfl 7 (by decide) (hts (.fieldLink RX0 38 "StrideHeap" "inLine" "I") (by decide +kernel)) (fun _ h9 => h9) rfl dX0_enterLine_26 ?_
  refine lv_iconst (v := nI 1) hx hb dX0_enterLine_29 (by decide) ?_
  refine sr_iadd hx hb dX0_enterLine_30 ?_
  refine va_put (D := (dC, dI)) (ci := 0) (v := .int (nI (n + 1))) (ty := .int) (C := RX0) (T := TX0) (N := 9) hx hb hts wiX0_enterLine tyX0 tyX0_ok nmX0 hown hK hP hD hS 0 rfl rfl 7 (by decide) (hts (.fieldLink RX0 38 "StrideHeap" "inLine" "I") (by decide +kernel)) (fun _ h9 => h9) rfl (by decide +kernel) rfl rfl (Nat.le_of_ble_eq_true rfl) dX0_enterLine_31 (fun H locs hP hD hS => ?_)
  have hP : va_P (dC, dI) vwCl (sw h0 aT aS aP aR aL cA N big (n + 1) lp ft fs fp fr (sh_up (va_cpy fl fl 0 1 n) 0 j)) H := hP
  have hD : va_D A (sw h0 aT aS aP aR aL cA N big (n + 1) lp ft fs fp fr (sh_up (va_cpy fl fl 0 1 n) 0 j)) := hD
  refine lv_aload_n hx hb dX0_enterLine_34 rfl (lv_at hl 0 rfl) ?_
  obtain ⟨M, hM⟩ : ∃ M, M = sh_up (va_cpy fl fl 0 1 n) 0 j := ⟨_, rfl⟩
  rw [← hM] at hP hD
  have hM0 : M 0 = j := by rw [hM, sh_up_s]
  have hM1 : ∀ i, i < n → M (i + 1) = fl i := fun i hi => by rw [hM, sh_up_n _ _ (by omega)]; simp only [va_cpy]; rw [if_pos (by omega), show 0 + (i + 1 - 1) = i by omega]
  refine sc_v (wr := []) (wc := sw h0 aT aS aP aR aL cA N big (n + 1) lp ft fs fp fr M) (As := []) (rest := []) ⟨hx, hb, hml, hown, hts⟩ (kX0_settleFirst l dC dI h0 aT aS aP aR aL cA cZ cJ H.size N big (n + 1) lp ft fs fp fr M hN (by omega) (by omega) hfp (fun i hi => by
      cases i with
      | zero => rw [hM0]; exact hj
      | succ i => rw [hM1 i (by omega)]; exact hfl i (by omega))) (cwV 0 hts gX0_enterLine_X0_settleFirst rfl rfl rfl (by decide +kernel) ⟨Nat.le_of_ble_eq_true rfl, Nat.le_of_ble_eq_true rfl⟩) hK hP hD hS hA (va_recv hK hP (ci := 0) (q0 := 0) rfl rfl) rfl hl.1 rfl (Nat.le_of_ble_eq_true rfl) dX0_enterLine_35 ⟨Nat.zero_le _, Nat.zero_le _⟩ (fun u H locs hw hP hD hS => ?_)
  obtain ⟨k, hk⟩ := hw
  exact W.vret hx hb hr (fun t ht hW => ⟨⟨u, rfl, ⟨M, k, hM0, hM1, hk⟩, by rw [ht]; exact hP, hD⟩, hS.F ht⟩) hS.2.2 dX0_enterLine_38
