-- THE CLASS: turns
set_option maxHeartbeats 4000000 in
set_option maxRecDepth 100000 in
/-- giveTurn(): the first has a turn -/
theorem kX0_giveTurn (l : Launch) (dC : Nat → ClassId) (dI : Nat → Nat → Nat) (h0 aT aS aP aR aL : Nat) (cA cZ cJ : ClassId) (sz N big n lp : Nat) (ft fs fp fr fl : Nat → Nat) (hV : sh_V N big n lp ft fs fp fl) : Met l yX0_giveTurn wsX0_giveTurn ({ frames := 2, cells := 0, slots := 0, locals := 44 }) (va_Pc [.ref h0] (sB dC dI (ty3 cA cZ cJ) sz (sw h0 aT aS aP aR aL cA N big n lp ft fs fp fr fl))) (va_Qi (fun (r : Int32) (u : ((Nat → Nat) × (Nat → Nat) × (Nat → Nat))) => (sp_go N big ft fp = none ∧ r = sp_no N ft fp ∧ u = (fp, fr, fl)) ∨ (∃ b, sp_go N big ft fp = some b ∧ b < N ∧ r = nI b ∧ u.1 = sh_up fp b (fp b + big / ft b) ∧ u.2.1 = sh_up fr b (fr b + 1) ∧ sh_V N big n lp ft fs u.1 u.2.2)) (fun u => sE dC dI (va_A (sw h0 aT aS aP aR aL cA N big n lp ft fs fp fr fl) sz) (sw h0 aT aS aP aR aL cA N big n lp ft fs u.1 u.2.1 u.2.2)) (va_A (sw h0 aT aS aP aR aL cA N big n lp ft fs fp fr fl) sz)) 0 0 (va_A (sw h0 aT aS aP aR aL cA N big n lp ft fs fp fr fl) sz) := by
  refine Met.ofW (cc := cX0_giveTurn) (maxL := 4) (ret := (some .int)) (by decide) rfl ?_
  intro p e s m args below meth c s₁ B hml hv
  obtain ⟨rfl, hsz, hP, hK, hD0⟩ := hv
  have hx := B.exec
  have hb := B.bytes
  have hr := B.returns
  have hts := atoms_spec (ws := wsX0_giveTurn) B.pre
  have hown : s.vm.findClass RX0 = some m.cls := findClass_of_methodNamed B.named
  have hlocks := B.notSynchronized
  subst hsz
  have hD := hD0.self (sz := s.heap.size)
  generalize hAe : va_A (sw h0 aT aS aP aR aL cA N big n lp ft fs fp fr fl) s.heap.size = A at hD ⊢
  have hA : ∀ q : Nat, s.heap.size ≤ q → A q := fun q h => by rw [← hAe]; exact Or.inr h
  have hS : va_S A s.heap s.heap [] := va_S.rf
  have hl := lv_entry ([.ref h0]) (n := 4) (Nat.le_of_ble_eq_true rfl)
  rw [lg_entry_eq]
  generalize (lg_sl ([.ref h0]) ++ List.replicate (4 - (lg_sl ([.ref h0])).length) Slot.unset).toArray = ls at hl ⊢
  have hl : lv_has ls 4 [(0, .ref h0)] := hl
  obtain ⟨hN0, hN, hb2, hbig, hlp, hfp, hft, hfs, hI⟩ := id hV
  have hnN : n ≤ N := by rw [hI.1]; exact cnt_le ft N
  have hfl : ∀ i, i < n → fl i < N := fun i hi => (hI.2.1 i hi).1
  have hft2 : ∀ c, ft c < 2 ^ 31 := fun c => by have := hft c; omega
  refine lv_aload_n hx hb dX0_giveTurn_0 rfl (lv_at hl 0 rfl) ?_
  refine va_get (D := (dC, dI)) (ci := 0) (v := .int (nI n)) (C := RX0) (T := TX0) (N := 9) hx hb hts wiX0_giveTurn hown hK hP 0 rfl rfl 7 (by decide) (hts (.fieldLink RX0 38 "StrideHeap" "inLine" "I") (by decide +kernel)) (fun _ h9 => h9) rfl dX0_giveTurn_1 ?_
  refine sr_if_ne (tgt := 9) hx hb (by omega) dX0_giveTurn_4 (by decide) (fun c1 => ?_) (fun c1 => ?_)
  · skip
    have hfl0 : fl 0 < N := hfl 0 c1
    have hi0 : 0 < ft (fl 0) := (hI.2.1 0 c1).2
    have efs : fs (fl 0) = big / ft (fl 0) := hfs _ hi0
    have hle : big / ft (fl 0) ≤ big := Nat.div_le_self _ _
    have hp0 := hfp (fl 0)
    have hfi : sh_fi ft fp N = fl 0 + 1 := fi_I hI c1
    refine lv_aload_n hx hb dX0_giveTurn_9 rfl (lv_at hl 0 rfl) ?_
    refine va_get (D := (dC, dI)) (ci := 0) (v := .ref aL) (C := RX0) (T := TX0) (N := 9) hx hb hts wiX0_giveTurn hown hK hP 0 rfl rfl 6 (by decide) (hts (.fieldLink RX0 35 "StrideHeap" "line" "[I") (by decide +kernel)) (fun _ h9 => h9) rfl dX0_giveTurn_10 ?_
    refine lv_iconst (v := nI 0) hx hb dX0_giveTurn_13 (by decide) ?_
    refine sr_ald hx hb hK hP 5 0 rfl rfl (k := 0) (by omega) (by omega) dX0_giveTurn_14 ?_
    refine lv_istore_n (lv' := [(1, .int (nI (fl 0))), (0, .ref h0)]) hx hb dX0_giveTurn_15 rfl hl (by decide) rfl (fun ls hl => ?_)
    refine lv_aload_n hx hb dX0_giveTurn_16 rfl (lv_at hl 1 rfl) ?_
    refine va_get (D := (dC, dI)) (ci := 0) (v := .ref aP) (C := RX0) (T := TX0) (N := 9) hx hb hts wiX0_giveTurn hown hK hP 0 rfl rfl 4 (by decide) (hts (.fieldLink RX0 29 "StrideHeap" "passes" "[I") (by decide +kernel)) (fun _ h9 => h9) rfl dX0_giveTurn_17 ?_
    refine lv_iload_n hx hb dX0_giveTurn_20 rfl (lv_at hl 0 rfl) ?_
    refine sr_ald hx hb hK hP 3 0 rfl rfl (k := fl 0) (by omega) (by omega) dX0_giveTurn_21 ?_
    refine lv_i2l hx hb dX0_giveTurn_22 (nI_l (by omega)) ?_
    refine lv_aload_n hx hb dX0_giveTurn_23 rfl (lv_at hl 1 rfl) ?_
    refine va_get (D := (dC, dI)) (ci := 0) (v := .ref aS) (C := RX0) (T := TX0) (N := 9) hx hb hts wiX0_giveTurn hown hK hP 0 rfl rfl 3 (by decide) (hts (.fieldLink RX0 26 "StrideHeap" "strides" "[I") (by decide +kernel)) (fun _ h9 => h9) rfl dX0_giveTurn_24 ?_
    refine lv_iload_n hx hb dX0_giveTurn_27 rfl (lv_at hl 0 rfl) ?_
    refine sr_ald hx hb hK hP 2 0 rfl rfl (k := fl 0) (by omega) (by omega) dX0_giveTurn_28 ?_
    refine lv_i2l hx hb dX0_giveTurn_29 (nI_l (by omega)) ?_
    refine sr_ladd hx hb dX0_giveTurn_30 ?_
    refine lv_lstore_n (lv' := [(2, .long (lN ((fp (fl 0)) + (fs (fl 0))))), (1, .int (nI (fl 0))), (0, .ref h0)]) hx hb dX0_giveTurn_31 rfl hl (by decide) rfl (fun ls hl => ?_)
    refine lv_lload_n hx hb dX0_giveTurn_32 rfl (lv_at hl 0 rfl) ?_
    refine lv_ldc2 (v := lN 2147483647) hx hb hown (hts (.constantLong RX0 72 (2147483647)) (by decide +kernel)) dX0_giveTurn_33 ?_
    refine sr_lle (tgt := 43) hx hb (by omega) (by decide) dX0_giveTurn_36 dX0_giveTurn_37 (by decide) (fun c2 => ?_) (fun c2 => ?_)
    · skip
      refine lv_aload_n hx hb dX0_giveTurn_43 rfl (lv_at hl 2 rfl) ?_
      refine va_get (D := (dC, dI)) (ci := 0) (v := .ref aP) (C := RX0) (T := TX0) (N := 9) hx hb hts wiX0_giveTurn hown hK hP 0 rfl rfl 4 (by decide) (hts (.fieldLink RX0 29 "StrideHeap" "passes" "[I") (by decide +kernel)) (fun _ h9 => h9) rfl dX0_giveTurn_44 ?_
      refine lv_iload_n hx hb dX0_giveTurn_47 rfl (lv_at hl 1 rfl) ?_
      refine lv_lload_n hx hb dX0_giveTurn_48 rfl (lv_at hl 0 rfl) ?_
      refine lv_l2i hx hb dX0_giveTurn_49 (lN_i _) ?_
      refine sr_ast hx hb hK hP hD hS 3 0 rfl rfl (k := fl 0) (v := (fp (fl 0)) + (fs (fl 0))) (by omega) (by omega) dX0_giveTurn_50 (fun H locs hP hD hS => ?_)
      have hP : va_P (dC, dI) vwCl (sw h0 aT aS aP aR aL cA N big n lp ft fs (sh_up fp (fl 0) ((fp (fl 0)) + (fs (fl 0)))) fr fl) H := hP
      have hD : va_D A (sw h0 aT aS aP aR aL cA N big n lp ft fs (sh_up fp (fl 0) ((fp (fl 0)) + (fs (fl 0)))) fr fl) := hD
      refine lv_aload_n hx hb dX0_giveTurn_51 rfl (lv_at hl 2 rfl) ?_
      refine va_get (D := (dC, dI)) (ci := 0) (v := .ref aR) (C := RX0) (T := TX0) (N := 9) hx hb hts wiX0_giveTurn hown hK hP 0 rfl rfl 5 (by decide) (hts (.fieldLink RX0 32 "StrideHeap" "ran" "[I") (by decide +kernel)) (fun _ h9 => h9) rfl dX0_giveTurn_52 ?_
      refine lv_iload_n hx hb dX0_giveTurn_55 rfl (lv_at hl 1 rfl) ?_
      refine lv_dup2_11 hx hb dX0_giveTurn_56 rfl rfl ?_
      refine sr_ald hx hb hK hP 4 0 rfl rfl (k := fl 0) (by omega) (by omega) dX0_giveTurn_57 ?_
      refine lv_iconst (v := nI 1) hx hb dX0_giveTurn_58 (by decide) ?_
      refine sr_iadd hx hb dX0_giveTurn_59 ?_
      refine sr_ast hx hb hK hP hD hS 4 0 rfl rfl (k := fl 0) (v := (fr (fl 0)) + 1) (by omega) (by omega) dX0_giveTurn_60 (fun H locs hP hD hS => ?_)
      have hP : va_P (dC, dI) vwCl (sw h0 aT aS aP aR aL cA N big n lp ft fs (sh_up fp (fl 0) ((fp (fl 0)) + (fs (fl 0)))) (sh_up fr (fl 0) ((fr (fl 0)) + 1)) fl) H := hP
      have hD : va_D A (sw h0 aT aS aP aR aL cA N big n lp ft fs (sh_up fp (fl 0) ((fp (fl 0)) + (fs (fl 0)))) (sh_up fr (fl 0) ((fr (fl 0)) + 1)) fl) := hD
      refine lv_aload_n hx hb dX0_giveTurn_61 rfl (lv_at hl 2 rfl) ?_
      have hfp2 : ∀ d, sh_up fp (fl 0) (fp (fl 0) + fs (fl 0)) d < 2 ^ 31 := fun d => by
        by_cases q : d = fl 0
        · rw [q, sh_up_s]; omega
        · rw [sh_up_n fp _ q]; exact hfp d
      refine sc_v (wr := []) (wc := sw h0 aT aS aP aR aL cA N big n lp ft fs (sh_up fp (fl 0) ((fp (fl 0)) + (fs (fl 0)))) (sh_up fr (fl 0) ((fr (fl 0)) + 1)) fl) (As := []) (rest := []) ⟨hx, hb, hml, hown, hts⟩ (kX0_settleFirst l dC dI h0 aT aS aP aR aL cA cZ cJ H.size N big n lp ft fs (sh_up fp (fl 0) ((fp (fl 0)) + (fs (fl 0)))) (sh_up fr (fl 0) ((fr (fl 0)) + 1)) fl hN c1 hnN hfp2 hfl) (cwV 0 hts gX0_giveTurn_X0_settleFirst rfl rfl rfl (by decide +kernel) ⟨Nat.le_of_ble_eq_true rfl, Nat.le_of_ble_eq_true rfl⟩) hK hP hD hS hA (va_recv hK hP (ci := 0) (q0 := 0) rfl rfl) rfl hl.1 rfl (Nat.le_of_ble_eq_true rfl) dX0_giveTurn_62 ⟨Nat.zero_le _, Nat.zero_le _⟩ (fun u H locs hw hP hD hS => ?_)
      obtain ⟨k, hk⟩ := hw
      refine lv_iload_n hx hb dX0_giveTurn_65 rfl (lv_at hl 1 rfl) ?_
      exact W.iret (v := nI (fl 0)) hx hb hr (fun t ht hW => ⟨⟨nI (fl 0), (sh_up fp (fl 0) (fp (fl 0) + fs (fl 0)), sh_up fr (fl 0) (fr (fl 0) + 1), u), rfl, Or.inr ⟨fl 0, go_ok hfi (by omega), hfl0, rfl, by rw [efs], rfl, V_turn hV (by omega) hk⟩, by rw [ht]; exact hP, hD⟩, hS.F ht⟩) hS.2.2 dX0_giveTurn_66
    · skip
      refine lv_bipush (v := (-2)) hx hb dX0_giveTurn_40 (by decide) ?_
      exact W.iret (v := (-2)) hx hb hr (fun t ht hW => ⟨⟨(-2), (fp, fr, fl), rfl, Or.inl ⟨(go_far hfi (by omega)).1, (go_far (big := big) hfi (by omega)).2.symm, rfl⟩, by rw [ht]; exact hP, hD⟩, hS.F ht⟩) hS.2.2 dX0_giveTurn_42
  · skip
    refine lv_iconst (v := (-1)) hx hb dX0_giveTurn_7 (by decide) ?_
    exact W.iret (v := (-1)) hx hb hr (fun t ht hW => ⟨⟨(-1), (fp, fr, fl), rfl, Or.inl ⟨(go_0 (fi_n0 hI c1)).1, (go_0 (big := big) (fi_n0 hI c1)).2.symm, rfl⟩, by rw [ht]; exact hP, hD⟩, hS.F ht⟩) hS.2.2 dX0_giveTurn_8
set_option maxHeartbeats 4000000 in
set_option maxRecDepth 100000 in
/-- next() -/
theorem kX0_next (l : Launch) (dC : Nat → ClassId) (dI : Nat → Nat → Nat) (h0 aT aS aP aR aL : Nat) (cA cZ cJ : ClassId) (sz N big n lp : Nat) (ft fs fp fr fl : Nat → Nat) (hV : sh_V N big n lp ft fs fp fl) : Met l yX0_next wsX0_next ({ frames := 3, cells := 0, slots := 0, locals := 67 }) (va_Pc [.ref h0] (sB dC dI (ty3 cA cZ cJ) sz (sw h0 aT aS aP aR aL cA N big n lp ft fs fp fr fl))) (va_Qi (fun (r : Int32) (u : ((Nat → Nat) × (Nat → Nat) × (Nat → Nat))) => (sp_go N big ft fp = none ∧ r = sp_no N ft fp ∧ u = (fp, fr, fl)) ∨ (∃ b, sp_go N big ft fp = some b ∧ b < N ∧ r = nI b ∧ u.1 = sh_up fp b (fp b + big / ft b) ∧ u.2.1 = sh_up fr b (fr b + 1) ∧ sh_V N big n lp ft fs u.1 u.2.2)) (fun u => sE dC dI (va_A (sw h0 aT aS aP aR aL cA N big n lp ft fs fp fr fl) sz) (sw h0 aT aS aP aR aL cA N big n lp ft fs u.1 u.2.1 u.2.2)) (va_A (sw h0 aT aS aP aR aL cA N big n lp ft fs fp fr fl) sz)) 0 0 (va_A (sw h0 aT aS aP aR aL cA N big n lp ft fs fp fr fl) sz) := by
  refine Met.ofW (cc := cX0_next) (maxL := 1) (ret := (some .int)) (by decide) rfl ?_
  intro p e s m args below meth c s₁ B hml hv
  obtain ⟨rfl, hsz, hP, hK, hD0⟩ := hv
  have hx := B.exec
  have hb := B.bytes
  have hr := B.returns
  have hts := atoms_spec (ws := wsX0_next) B.pre
  have hown : s.vm.findClass RX0 = some m.cls := findClass_of_methodNamed B.named
  have hlocks := B.notSynchronized
  subst hsz
  have hD := hD0.self (sz := s.heap.size)
  generalize hAe : va_A (sw h0 aT aS aP aR aL cA N big n lp ft fs fp fr fl) s.heap.size = A at hD ⊢
  have hA : ∀ q : Nat, s.heap.size ≤ q → A q := fun q h => by rw [← hAe]; exact Or.inr h
  have hS : va_S A s.heap s.heap [] := va_S.rf
  have hl := lv_entry ([.ref h0]) (n := 1) (Nat.le_of_ble_eq_true rfl)
  rw [lg_entry_eq]
  generalize (lg_sl ([.ref h0]) ++ List.replicate (1 - (lg_sl ([.ref h0])).length) Slot.unset).toArray = ls at hl ⊢
  have hl : lv_has ls 1 [(0, .ref h0)] := hl
  refine lv_aload_n hx hb dX0_next_0 rfl (lv_at hl 0 rfl) ?_
  refine sc_i (wr := []) (wc := sw h0 aT aS aP aR aL cA N big n lp ft fs fp fr fl) (As := []) (rest := []) ⟨hx, hb, hml, hown, hts⟩ (kX0_giveTurn l dC dI h0 aT aS aP aR aL cA cZ cJ s.heap.size N big n lp ft fs fp fr fl hV) (cwV 0 hts gX0_next_X0_giveTurn rfl rfl rfl (by decide +kernel) ⟨Nat.le_of_ble_eq_true rfl, Nat.le_of_ble_eq_true rfl⟩) hK hP hD hS hA (va_recv hK hP (ci := 0) (q0 := 0) rfl rfl) rfl hl.1 rfl (Nat.le_of_ble_eq_true rfl) dX0_next_1 ⟨Nat.zero_le _, Nat.zero_le _⟩ (fun r u H locs hw hP hD hS => ?_)
  exact W.iret (v := r) hx hb hr (fun t ht hW => ⟨⟨r, u, rfl, hw, by rw [ht]; exact hP, hD⟩, hS.F ht⟩) hS.2.2 dX0_next_4
set_option maxHeartbeats 4000000 in
set_option maxRecDepth 100000 in
/-- turns(x) -/
theorem kX0_turns (l : Launch) (dC : Nat → ClassId) (dI : Nat → Nat → Nat) (h0 aT aS aP aR aL : Nat) (cA cZ cJ : ClassId) (sz N big n lp : Nat) (ft fs fp fr fl : Nat → Nat) (hV : sh_V N big n lp ft fs fp fl) (x : Int32) : Met l yX0_turns wsX0_turns ({ frames := 3, cells := 0, slots := 0, locals := 67 }) (va_Pc [.ref h0, .int x] (sB dC dI (ty3 cA cZ cJ) sz (sw h0 aT aS aP aR aL cA N big n lp ft fs fp fr fl))) (va_Qi (fun (r : Int32) (u : ((Nat → Nat) × (Nat → Nat) × (Nat → Nat))) => ((sh_ix 1001 x = none ∨ sh_ix 1001 x = some 0) ∧ r = (-1) ∧ u = (fp, fr, fl)) ∨ (∃ k, 0 < k ∧ k < 1001 ∧ x = nI k ∧ r = nI (sp_turn N big ft k fp fr).1 ∧ u.1 = (sp_turn N big ft k fp fr).2.1 ∧ u.2.1 = (sp_turn N big ft k fp fr).2.2 ∧ sh_V N big n lp ft fs u.1 u.2.2)) (fun u => sE dC dI (va_A (sw h0 aT aS aP aR aL cA N big n lp ft fs fp fr fl) sz) (sw h0 aT aS aP aR aL cA N big n lp ft fs u.1 u.2.1 u.2.2)) (va_A (sw h0 aT aS aP aR aL cA N big n lp ft fs fp fr fl) sz)) 0 0 (va_A (sw h0 aT aS aP aR aL cA N big n lp ft fs fp fr fl) sz) := by
  refine Met.ofW (cc := cX0_turns) (maxL := 3) (ret := (some .int)) (by decide) rfl ?_
  intro p e s m args below meth c s₁ B hml hv
  obtain ⟨rfl, hsz, hP, hK, hD0⟩ := hv
  have hx := B.exec
  have hb := B.bytes
  have hr := B.returns
  have hts := atoms_spec (ws := wsX0_turns) B.pre
  have hown : s.vm.findClass RX0 = some m.cls := findClass_of_methodNamed B.named
  have hlocks := B.notSynchronized
  subst hsz
  have hD := hD0.self (sz := s.heap.size)
  generalize hAe : va_A (sw h0 aT aS aP aR aL cA N big n lp ft fs fp fr fl) s.heap.size = A at hD ⊢
  have hA : ∀ q : Nat, s.heap.size ≤ q → A q := fun q h => by rw [← hAe]; exact Or.inr h
  have hS : va_S A s.heap s.heap [] := va_S.rf
  have hl := lv_entry ([.ref h0, .int x]) (n := 3) (Nat.le_of_ble_eq_true rfl)
  rw [lg_entry_eq]
  generalize (lg_sl ([.ref h0, .int x]) ++ List.replicate (3 - (lg_sl ([.ref h0, .int x])).length) Slot.unset).toArray = ls at hl ⊢
  have hl : lv_has ls 3 [(0, .ref h0), (1, .int x)] := hl
  refine lv_iload_n hx hb dX0_turns_0 rfl (lv_at hl 1 rfl) ?_
  refine lv_iconst (v := nI 1) hx hb dX0_turns_1 (by decide) ?_
  refine lv_icmp_lt (tgt := 12) hx hb dX0_turns_2 (by decide) (fun c1 => ?_) (fun c1 => ?_)
  · skip
    refine lv_iconst (v := (-1)) hx hb dX0_turns_12 (by decide) ?_
    exact W.iret (v := (-1)) hx hb hr (fun t ht hW => ⟨⟨(-1), (fp, fr, fl), rfl, Or.inl ⟨tk_lt (by decide) c1, rfl, rfl⟩, by rw [ht]; exact hP, hD⟩, hS.F ht⟩) hS.2.2 dX0_turns_13
  · skip
    refine lv_iload_n hx hb dX0_turns_5 rfl (lv_at hl 1 rfl) ?_
    refine lv_sipush (v := nI 1000) hx hb dX0_turns_6 (by decide) ?_
    refine lv_icmp_le (tgt := 14) hx hb dX0_turns_9 (by decide) (fun c2 => ?_) (fun c2 => ?_)
    · skip
      obtain ⟨k, hk0, hk1, rfl⟩ := tk_ok (by decide) c1 (le_1000.mp c2)
      refine lv_iconst (v := nI 0) hx hb dX0_turns_14 (by decide) ?_
      refine lv_istore_n (lv' := [(2, .int (nI 0)), (0, .ref h0), (1, .int (nI k))]) hx hb dX0_turns_15 rfl hl (by decide) rfl (fun ls hl => ?_)
      refine sl_loop (fun d (z : Nat × (Nat → Nat) × (Nat → Nat) × (Nat → Nat)) H locs ls => k + 1 ≤ z.1 + d ∧ z.1 ≤ k ∧ sp_turn N big ft k fp fr = (z.1 + (sp_turn N big ft (k - z.1) z.2.1 z.2.2.1).1, (sp_turn N big ft (k - z.1) z.2.1 z.2.2.1).2) ∧ sh_V N big n lp ft fs z.2.1 z.2.2.2 ∧ va_P (dC, dI) vwCl (sw h0 aT aS aP aR aL cA N big n lp ft fs z.2.1 z.2.2.1 z.2.2.2) H ∧ va_D A (sw h0 aT aS aP aR aL cA N big n lp ft fs z.2.1 z.2.2.1 z.2.2.2) ∧ va_S A s.heap H locs ∧ lv_has ls 3 [(2, .int (nI z.1)), (0, .ref h0), (1, .int (nI k))]) (fun z H locs ls h => by omega) ?_ (k + 1) (0, fp, fr, fl) _ _ _ ⟨by omega, by omega, by rw [Nat.sub_zero, Nat.zero_add], hV, hP, hD, hS, lv_sub hl [0, 1, 2] rfl⟩
      intro d z H locs ls ih hI
      obtain ⟨g, gp, gr, gl⟩ := z
      obtain ⟨h1, h2, h3, hV2, hP, hD, hS, hl⟩ := hI
      dsimp only at h1 h2 h3 hV2 hP hD hl
      refine lv_iload_n hx hb dX0_turns_16 rfl (lv_at hl 0 rfl) ?_
      refine lv_iload_n hx hb dX0_turns_17 rfl (lv_at hl 2 rfl) ?_
      refine sr_cmp_ge (tgt := 34) hx hb (by omega) (by omega) dX0_turns_18 (by decide) (fun c3 => ?_) (fun c3 => ?_)
      · skip
        refine lv_iload_n hx hb dX0_turns_34 rfl (lv_at hl 0 rfl) ?_
        exact W.iret (v := nI g) hx hb hr (fun t ht hW => ⟨⟨nI g, (gp, gr, gl), rfl, Or.inr ⟨k, hk0, hk1, rfl, by rw [h3, show k - g = 0 by omega]; rfl, by rw [h3, show k - g = 0 by omega]; rfl, by rw [h3, show k - g = 0 by omega]; rfl, hV2⟩, by rw [ht]; exact hP, hD⟩, hS.F ht⟩) hS.2.2 dX0_turns_35
      · skip
        refine lv_aload_n hx hb dX0_turns_21 rfl (lv_at hl 1 rfl) ?_
        refine sc_i (wr := []) (wc := sw h0 aT aS aP aR aL cA N big n lp ft fs gp gr gl) (As := []) (rest := []) ⟨hx, hb, hml, hown, hts⟩ (kX0_giveTurn l dC dI h0 aT aS aP aR aL cA cZ cJ H.size N big n lp ft fs gp gr gl hV2) (cwV 0 hts gX0_turns_X0_giveTurn rfl rfl rfl (by decide +kernel) ⟨Nat.le_of_ble_eq_true rfl, Nat.le_of_ble_eq_true rfl⟩) hK hP hD hS hA (va_recv hK hP (ci := 0) (q0 := 0) rfl rfl) rfl hl.1 rfl (Nat.le_of_ble_eq_true rfl) dX0_turns_22 ⟨Nat.zero_le _, Nat.zero_le _⟩ (fun r u H locs hw hP hD hS => ?_)
        rcases hw with ⟨hg, rfl, rfl⟩ | ⟨b, hg, hbN, rfl, e1, e2, hV3⟩
        · skip
          refine lv_if_lt (tgt := 34) hx hb dX0_turns_25 (by decide) (fun _ => ?_) (fun z => absurd (no_neg N ft gp) z)
          refine lv_iload_n hx hb dX0_turns_34 rfl (lv_at hl 0 rfl) ?_
          exact W.iret (v := nI g) hx hb hr (fun t ht hW => ⟨⟨nI g, (gp, gr, gl), rfl, Or.inr ⟨k, hk0, hk1, rfl, by rw [h3, turn_none hg]; rfl, by rw [h3, turn_none hg], by rw [h3, turn_none hg], hV2⟩, by rw [ht]; exact hP, hD⟩, hS.F ht⟩) hS.2.2 dX0_turns_35
        · skip
          obtain ⟨hN0, hN, -, -, -, -, -, -, -⟩ := id hV
          refine sr_if_lt (tgt := 34) hx hb (by omega) dX0_turns_25 (by decide) ?_
          refine lv_iinc (v := nI (g + 1)) (lv' := [(2, .int (nI (g + 1))), (0, .ref h0), (1, .int (nI k))]) hx hb dX0_turns_28 hl (k := 0) rfl (nI_1 _) (by decide) rfl (fun ls hl => ?_)
          refine lv_goto (tgt := 16) hx hb dX0_turns_31 (by decide) ?_
          exact ih (g + 1, u.1, u.2.1, u.2.2) _ _ _ ⟨by omega, by omega, by
            dsimp only
            rw [h3, show k - g = (k - (g + 1)) + 1 by omega, turn_some hg, e1, e2]
            dsimp only
            rw [Nat.add_assoc g 1, Nat.add_comm 1], hV3, hP, hD, hS, lv_sub hl [0, 1, 2] rfl⟩
    · skip
      refine lv_iconst (v := (-1)) hx hb dX0_turns_12 (by decide) ?_
      exact W.iret (v := (-1)) hx hb hr (fun t ht hW => ⟨⟨(-1), (fp, fr, fl), rfl, Or.inl ⟨Or.inl (ix_hi (Int32.not_lt.mp (fun z => c2 (le_1000.mpr (fun w => Int32.not_lt.mpr w z))))), rfl, rfl⟩, by rw [ht]; exact hP, hD⟩, hS.F ht⟩) hS.2.2 dX0_turns_13
