-- THE REFERENCE: its public methods
theorem mw_congr {k0 bI bT bP bR : Nat} {cA cZ cJ : ClassId} {N big n lp : Nat} {ft f2 fk fp fr : Nat → Nat} (h : sh_in ft = sh_in f2) : mw k0 bI bT bP bR cA cZ cJ N big n lp ft fk fp fr = mw k0 bI bT bP bR cA cZ cJ N big n lp f2 fk fp fr := by
  unfold mw
  rw [h]
set_option maxHeartbeats 4000000 in
set_option maxRecDepth 100000 in
/-- next() -/
theorem kX1_next (l : Launch) (dC : Nat → ClassId) (dI : Nat → Nat → Nat) (k0 bI bT bP bR : Nat) (cA cZ cJ : ClassId) (sz N big n lp : Nat) (ft fk fp fr : Nat → Nat) (hM : sh_M N big n lp ft fk fp) : Met l yX1_next wsX1_next ({ frames := 2, cells := 0, slots := 0, locals := 44 }) (va_Pc [.ref k0] (sB dC dI (ty3 cA cZ cJ) sz (mw k0 bI bT bP bR cA cZ cJ N big n lp ft fk fp fr))) (va_Qi (fun (r : Int32) (u : ((Nat → Nat) × (Nat → Nat))) => (sp_go N big ft fp = none ∧ r = sp_no N ft fp ∧ u = (fp, fr)) ∨ (∃ b, sp_go N big ft fp = some b ∧ b < N ∧ r = nI b ∧ u.1 = sh_up fp b (fp b + big / ft b) ∧ u.2 = sh_up fr b (fr b + 1) ∧ sh_M N big n lp ft fk u.1)) (fun u => sE dC dI (va_A (mw k0 bI bT bP bR cA cZ cJ N big n lp ft fk fp fr) sz) (mw k0 bI bT bP bR cA cZ cJ N big n lp ft fk u.1 u.2)) (va_A (mw k0 bI bT bP bR cA cZ cJ N big n lp ft fk fp fr) sz)) 0 0 (va_A (mw k0 bI bT bP bR cA cZ cJ N big n lp ft fk fp fr) sz) := by
  refine Met.ofW (cc := cX1_next) (maxL := 4) (ret := (some .int)) (by decide) rfl ?_
  intro p e s m args below meth c s₁ B hml hv
  obtain ⟨rfl, hsz, hP, hK, hD0⟩ := hv
  have hx := B.exec
  have hb := B.bytes
  have hr := B.returns
  have hts := atoms_spec (ws := wsX1_next) B.pre
  have hown : s.vm.findClass RX1 = some m.cls := findClass_of_methodNamed B.named
  have hlocks := B.notSynchronized
  subst hsz
  have hD := hD0.self (sz := s.heap.size)
  generalize hAe : va_A (mw k0 bI bT bP bR cA cZ cJ N big n lp ft fk fp fr) s.heap.size = A at hD ⊢
  have hA : ∀ q : Nat, s.heap.size ≤ q → A q := fun q h => by rw [← hAe]; exact Or.inr h
  have hS : va_S A s.heap s.heap [] := va_S.rf
  have hl := lv_entry ([.ref k0]) (n := 4) (Nat.le_of_ble_eq_true rfl)
  rw [lg_entry_eq]
  generalize (lg_sl ([.ref k0]) ++ List.replicate (4 - (lg_sl ([.ref k0])).length) Slot.unset).toArray = ls at hl ⊢
  have hl : lv_has ls 4 [(0, .ref k0)] := hl
  obtain ⟨hN0, hN, hb2, hbig, hlp, hfp, hft, hfk, hnc⟩ := id hM
  have hnN : n ≤ N := by rw [hnc]; exact cnt_le ft N
  refine lv_aload_n hx hb dX1_next_0 rfl (lv_at hl 0 rfl) ?_
  refine sc_i (wr := []) (wc := mw k0 bI bT bP bR cA cZ cJ N big n lp ft fk fp fr) (As := []) (rest := []) ⟨hx, hb, hml, hown, hts⟩ (kX1_first l dC dI k0 bI bT bP bR cA cZ cJ s.heap.size N big n lp ft fk fp fr hN hfp) (cwV 0 hts gX1_next_X1_first rfl rfl rfl (by decide +kernel) ⟨Nat.le_of_ble_eq_true rfl, Nat.le_of_ble_eq_true rfl⟩) hK hP hD hS hA (va_recv hK hP (ci := 1) (q0 := 0) rfl rfl) rfl hl.1 rfl (Nat.le_of_ble_eq_true rfl) dX1_next_1 ⟨Nat.zero_le _, Nat.zero_le _⟩ (fun r _ H locs hw hP hD hS => ?_)
  subst hw
  rcases fi_spec ft fp N with ⟨hf, -⟩ | ⟨b, hf, hbN, hbt, -⟩
  · skip
    rw [hf, sf_0]
    refine lv_istore_n (lv' := [(1, .int (-1)), (0, .ref k0)]) hx hb dX1_next_4 rfl hl (by decide) rfl (fun ls hl => ?_)
    refine lv_iload_n hx hb dX1_next_5 rfl (lv_at hl 0 rfl) ?_
    refine lv_if_ge (tgt := 11) hx hb dX1_next_6 (by decide) (fun z => absurd z (by decide)) (fun _ => ?_)
    refine lv_iconst (v := (-1)) hx hb dX1_next_9 (by decide) ?_
    exact W.iret (v := (-1)) hx hb hr (fun t ht hW => ⟨⟨(-1), (fp, fr), rfl, Or.inl ⟨(go_0 hf).1, (go_0 (big := big) hf).2.symm, rfl⟩, by rw [ht]; exact hP, hD⟩, hS.F ht⟩) hS.2.2 dX1_next_10
  · skip
    rw [hf, sf_s]
    refine lv_istore_n (lv' := [(1, .int (nI b)), (0, .ref k0)]) hx hb dX1_next_4 rfl hl (by decide) rfl (fun ls hl => ?_)
    refine lv_iload_n hx hb dX1_next_5 rfl (lv_at hl 0 rfl) ?_
    refine sr_if_ge (tgt := 11) hx hb (by omega) dX1_next_6 (by decide) ?_
    have efk : fk b = ft b := hfk b hbt
    have hftb := hft b
    have hpb := hfp b
    have hle : big / fk b ≤ big := Nat.div_le_self _ _
    refine lv_aload_n hx hb dX1_next_11 rfl (lv_at hl 1 rfl) ?_
    refine va_get (D := (dC, dI)) (ci := 1) (v := .ref bP) (C := RX1) (T := TX1) (N := 8) hx hb hts wiX1_next hown hK hP 0 rfl rfl 4 (by decide) (hts (.fieldLink RX1 17 "StrideHeapModel" "pass" "[J") (by decide +kernel)) (fun _ h9 => h9) rfl dX1_next_12 ?_
    refine lv_iload_n hx hb dX1_next_15 rfl (lv_at hl 0 rfl) ?_
    refine sr_lald hx hb hK hP 3 2 rfl rfl (k := b) (by omega) (by omega) dX1_next_16 ?_
    refine lv_aload_n hx hb dX1_next_17 rfl (lv_at hl 1 rfl) ?_
    refine va_get (D := (dC, dI)) (ci := 1) (v := .int (nI big)) (C := RX1) (T := TX1) (N := 8) hx hb hts wiX1_next hown hK hP 0 rfl rfl 1 (by decide) (hts (.fieldLink RX1 28 "StrideHeapModel" "big" "I") (by decide +kernel)) (fun _ h9 => h9) rfl dX1_next_18 ?_
    refine lv_aload_n hx hb dX1_next_21 rfl (lv_at hl 1 rfl) ?_
    refine va_get (D := (dC, dI)) (ci := 1) (v := .ref bT) (C := RX1) (T := TX1) (N := 8) hx hb hts wiX1_next hown hK hP 0 rfl rfl 3 (by decide) (hts (.fieldLink RX1 13 "StrideHeapModel" "tickets" "[I") (by decide +kernel)) (fun _ h9 => h9) rfl dX1_next_22 ?_
    refine lv_iload_n hx hb dX1_next_25 rfl (lv_at hl 0 rfl) ?_
    refine sr_ald hx hb hK hP 2 0 rfl rfl (k := b) (by omega) (by omega) dX1_next_26 ?_
    refine sr_idiv hx hb (by omega) (by omega) (by omega) dX1_next_27 ?_
    refine lv_i2l hx hb dX1_next_28 (nI_l (by omega)) ?_
    refine sr_ladd hx hb dX1_next_29 ?_
    refine lv_lstore_n (lv' := [(2, .long (lN ((fp b) + (big / (fk b))))), (1, .int (nI b)), (0, .ref k0)]) hx hb dX1_next_30 rfl hl (by decide) rfl (fun ls hl => ?_)
    refine lv_lload_n hx hb dX1_next_31 rfl (lv_at hl 0 rfl) ?_
    refine lv_ldc2 (v := lN 2147483647) hx hb hown (hts (.constantLong RX1 53 (2147483647)) (by decide +kernel)) dX1_next_32 ?_
    refine sr_lle (tgt := 42) hx hb (by omega) (by decide) dX1_next_35 dX1_next_36 (by decide) (fun c1 => ?_) (fun c1 => ?_)
    · skip
      refine lv_aload_n hx hb dX1_next_42 rfl (lv_at hl 2 rfl) ?_
      refine va_get (D := (dC, dI)) (ci := 1) (v := .ref bP) (C := RX1) (T := TX1) (N := 8) hx hb hts wiX1_next hown hK hP 0 rfl rfl 4 (by decide) (hts (.fieldLink RX1 17 "StrideHeapModel" "pass" "[J") (by decide +kernel)) (fun _ h9 => h9) rfl dX1_next_43 ?_
      refine lv_iload_n hx hb dX1_next_46 rfl (lv_at hl 1 rfl) ?_
      refine lv_lload_n hx hb dX1_next_47 rfl (lv_at hl 0 rfl) ?_
      refine sr_last hx hb hK hP hD hS 3 2 rfl rfl (k := b) (v := (fp b) + (big / (fk b))) (by omega) (by omega) dX1_next_48 (fun H locs hP hD hS => ?_)
      have hP : va_P (dC, dI) vwCl (mw k0 bI bT bP bR cA cZ cJ N big n lp ft fk (sh_up fp b ((fp b) + (big / (fk b)))) fr) H := hP
      have hD : va_D A (mw k0 bI bT bP bR cA cZ cJ N big n lp ft fk (sh_up fp b ((fp b) + (big / (fk b)))) fr) := hD
      refine lv_aload_n hx hb dX1_next_49 rfl (lv_at hl 2 rfl) ?_
      refine va_get (D := (dC, dI)) (ci := 1) (v := .ref bR) (C := RX1) (T := TX1) (N := 8) hx hb hts wiX1_next hown hK hP 0 rfl rfl 5 (by decide) (hts (.fieldLink RX1 21 "StrideHeapModel" "ran" "[I") (by decide +kernel)) (fun _ h9 => h9) rfl dX1_next_50 ?_
      refine lv_iload_n hx hb dX1_next_53 rfl (lv_at hl 1 rfl) ?_
      refine lv_dup2_11 hx hb dX1_next_54 rfl rfl ?_
      refine sr_ald hx hb hK hP 4 0 rfl rfl (k := b) (by omega) (by omega) dX1_next_55 ?_
      refine lv_iconst (v := nI 1) hx hb dX1_next_56 (by decide) ?_
      refine sr_iadd hx hb dX1_next_57 ?_
      refine sr_ast hx hb hK hP hD hS 4 0 rfl rfl (k := b) (v := (fr b) + 1) (by omega) (by omega) dX1_next_58 (fun H locs hP hD hS => ?_)
      have hP : va_P (dC, dI) vwCl (mw k0 bI bT bP bR cA cZ cJ N big n lp ft fk (sh_up fp b ((fp b) + (big / (fk b)))) (sh_up fr b ((fr b) + 1))) H := hP
      have hD : va_D A (mw k0 bI bT bP bR cA cZ cJ N big n lp ft fk (sh_up fp b ((fp b) + (big / (fk b)))) (sh_up fr b ((fr b) + 1))) := hD
      refine lv_iload_n hx hb dX1_next_59 rfl (lv_at hl 1 rfl) ?_
      exact W.iret (v := nI b) hx hb hr (fun t ht hW => ⟨⟨nI b, (sh_up fp b (fp b + big / fk b), sh_up fr b (fr b + 1)), rfl, Or.inr ⟨b, go_ok hf (by rw [← efk]; exact c1), hbN, rfl, by rw [efk], rfl, M_turn hM (by omega)⟩, by rw [ht]; exact hP, hD⟩, hS.F ht⟩) hS.2.2 dX1_next_60
    · skip
      refine lv_bipush (v := (-2)) hx hb dX1_next_39 (by decide) ?_
      exact W.iret (v := (-2)) hx hb hr (fun t ht hW => ⟨⟨(-2), (fp, fr), rfl, Or.inl ⟨(go_far hf (by rw [← efk]; exact c1)).1, (go_far (big := big) hf (by rw [← efk]; exact c1)).2.symm, rfl⟩, by rw [ht]; exact hP, hD⟩, hS.F ht⟩) hS.2.2 dX1_next_41
set_option maxHeartbeats 4000000 in
set_option maxRecDepth 100000 in
/-- turns(x) -/
theorem kX1_turns (l : Launch) (dC : Nat → ClassId) (dI : Nat → Nat → Nat) (k0 bI bT bP bR : Nat) (cA cZ cJ : ClassId) (sz N big n lp : Nat) (ft fk fp fr : Nat → Nat) (hM : sh_M N big n lp ft fk fp) (x : Int32) : Met l yX1_turns wsX1_turns ({ frames := 3, cells := 0, slots := 0, locals := 67 }) (va_Pc [.ref k0, .int x] (sB dC dI (ty3 cA cZ cJ) sz (mw k0 bI bT bP bR cA cZ cJ N big n lp ft fk fp fr))) (va_Qi (fun (r : Int32) (u : ((Nat → Nat) × (Nat → Nat))) => ((sh_ix 1001 x = none ∨ sh_ix 1001 x = some 0) ∧ r = (-1) ∧ u = (fp, fr)) ∨ (∃ k, 0 < k ∧ k < 1001 ∧ x = nI k ∧ r = nI (sp_turn N big ft k fp fr).1 ∧ u.1 = (sp_turn N big ft k fp fr).2.1 ∧ u.2 = (sp_turn N big ft k fp fr).2.2 ∧ sh_M N big n lp ft fk u.1)) (fun u => sE dC dI (va_A (mw k0 bI bT bP bR cA cZ cJ N big n lp ft fk fp fr) sz) (mw k0 bI bT bP bR cA cZ cJ N big n lp ft fk u.1 u.2)) (va_A (mw k0 bI bT bP bR cA cZ cJ N big n lp ft fk fp fr) sz)) 0 0 (va_A (mw k0 bI bT bP bR cA cZ cJ N big n lp ft fk fp fr) sz) := by
  refine Met.ofW (cc := cX1_turns) (maxL := 4) (ret := (some .int)) (by decide) rfl ?_
  intro p e s m args below meth c s₁ B hml hv
  obtain ⟨rfl, hsz, hP, hK, hD0⟩ := hv
  have hx := B.exec
  have hb := B.bytes
  have hr := B.returns
  have hts := atoms_spec (ws := wsX1_turns) B.pre
  have hown : s.vm.findClass RX1 = some m.cls := findClass_of_methodNamed B.named
  have hlocks := B.notSynchronized
  subst hsz
  have hD := hD0.self (sz := s.heap.size)
  generalize hAe : va_A (mw k0 bI bT bP bR cA cZ cJ N big n lp ft fk fp fr) s.heap.size = A at hD ⊢
  have hA : ∀ q : Nat, s.heap.size ≤ q → A q := fun q h => by rw [← hAe]; exact Or.inr h
  have hS : va_S A s.heap s.heap [] := va_S.rf
  have hl := lv_entry ([.ref k0, .int x]) (n := 4) (Nat.le_of_ble_eq_true rfl)
  rw [lg_entry_eq]
  generalize (lg_sl ([.ref k0, .int x]) ++ List.replicate (4 - (lg_sl ([.ref k0, .int x])).length) Slot.unset).toArray = ls at hl ⊢
  have hl : lv_has ls 4 [(0, .ref k0), (1, .int x)] := hl
  refine lv_iload_n hx hb dX1_turns_0 rfl (lv_at hl 1 rfl) ?_
  refine lv_iconst (v := nI 1) hx hb dX1_turns_1 (by decide) ?_
  refine lv_icmp_lt (tgt := 12) hx hb dX1_turns_2 (by decide) (fun c1 => ?_) (fun c1 => ?_)
  · skip
    refine lv_iconst (v := (-1)) hx hb dX1_turns_12 (by decide) ?_
    exact W.iret (v := (-1)) hx hb hr (fun t ht hW => ⟨⟨(-1), (fp, fr), rfl, Or.inl ⟨tk_lt (by decide) c1, rfl, rfl⟩, by rw [ht]; exact hP, hD⟩, hS.F ht⟩) hS.2.2 dX1_turns_13
  · skip
    refine lv_iload_n hx hb dX1_turns_5 rfl (lv_at hl 1 rfl) ?_
    refine lv_sipush (v := nI 1000) hx hb dX1_turns_6 (by decide) ?_
    refine lv_icmp_le (tgt := 14) hx hb dX1_turns_9 (by decide) (fun c2 => ?_) (fun c2 => ?_)
    · skip
      obtain ⟨k, hk0, hk1, rfl⟩ := tk_ok (by decide) c1 (le_1000.mp c2)
      refine lv_iconst (v := nI 0) hx hb dX1_turns_14 (by decide) ?_
      refine lv_istore_n (lv' := [(2, .int (nI 0)), (0, .ref k0), (1, .int (nI k))]) hx hb dX1_turns_15 rfl hl (by decide) rfl (fun ls hl => ?_)
      refine lv_iconst (v := nI 1) hx hb dX1_turns_16 (by decide) ?_
      refine lv_istore_n (lv' := [(3, .int (nI 1)), (2, .int (nI 0)), (0, .ref k0), (1, .int (nI k))]) hx hb dX1_turns_17 rfl hl (by decide) rfl (fun ls hl => ?_)
      refine sl_loop (fun d (z : Nat × Nat × (Nat → Nat) × (Nat → Nat)) H locs ls => ((z.2.1 = 1 ∧ k + 2 ≤ z.1 + d ∧ z.1 ≤ k ∧ sp_turn N big ft k fp fr = (z.1 + (sp_turn N big ft (k - z.1) z.2.2.1 z.2.2.2).1, (sp_turn N big ft (k - z.1) z.2.2.1 z.2.2.2).2)) ∨ (z.2.1 = 0 ∧ 1 ≤ d ∧ sp_turn N big ft k fp fr = (z.1, z.2.2.1, z.2.2.2))) ∧ sh_M N big n lp ft fk z.2.2.1 ∧ va_P (dC, dI) vwCl (mw k0 bI bT bP bR cA cZ cJ N big n lp ft fk z.2.2.1 z.2.2.2) H ∧ va_D A (mw k0 bI bT bP bR cA cZ cJ N big n lp ft fk z.2.2.1 z.2.2.2) ∧ va_S A s.heap H locs ∧ lv_has ls 4 [(3, .int (nI z.2.1)), (2, .int (nI z.1)), (0, .ref k0), (1, .int (nI k))]) (fun z H locs ls h => by rcases h.1 with q | q <;> omega) ?_ (k + 2) (0, 1, fp, fr) _ _ _ ⟨Or.inl ⟨rfl, by omega, by omega, by rw [Nat.sub_zero, Nat.zero_add]⟩, hM, hP, hD, hS, lv_sub hl [0, 1, 2, 3] rfl⟩
      intro d z H locs ls ih hI
      obtain ⟨g, o, gp, gr⟩ := z
      obtain ⟨hc, hM2, hP, hD, hS, hl⟩ := hI
      dsimp only at hc hM2 hP hD hl
      rcases hc with ⟨rfl, h1, h2, h3⟩ | ⟨rfl, h1, h3⟩
      · skip
        refine lv_iload_n hx hb dX1_turns_18 rfl (lv_at hl 0 rfl) ?_
        refine sr_if_eq (tgt := 55) hx hb (by decide) dX1_turns_19 (by decide) (fun q => absurd q (by decide)) (fun _ => ?_)
        refine lv_iload_n hx hb dX1_turns_22 rfl (lv_at hl 1 rfl) ?_
        refine lv_iload_n hx hb dX1_turns_23 rfl (lv_at hl 3 rfl) ?_
        refine sr_cmp_ge (tgt := 55) hx hb (by omega) (by omega) dX1_turns_24 (by decide) (fun c3 => ?_) (fun c3 => ?_)
        · skip
          refine lv_iload_n hx hb dX1_turns_55 rfl (lv_at hl 1 rfl) ?_
          exact W.iret (v := nI g) hx hb hr (fun t ht hW => ⟨⟨nI g, (gp, gr), rfl, Or.inr ⟨k, hk0, hk1, rfl, by rw [h3, show k - g = 0 by omega]; rfl, by rw [h3, show k - g = 0 by omega]; rfl, by rw [h3, show k - g = 0 by omega]; rfl, hM2⟩, by rw [ht]; exact hP, hD⟩, hS.F ht⟩) hS.2.2 dX1_turns_56
        · skip
          refine lv_aload_n hx hb dX1_turns_27 rfl (lv_at hl 2 rfl) ?_
          refine sc_i (wr := []) (wc := mw k0 bI bT bP bR cA cZ cJ N big n lp ft fk gp gr) (As := []) (rest := []) ⟨hx, hb, hml, hown, hts⟩ (kX1_next l dC dI k0 bI bT bP bR cA cZ cJ H.size N big n lp ft fk gp gr hM2) (cwV 0 hts gX1_turns_X1_next rfl rfl rfl (by decide +kernel) ⟨Nat.le_of_ble_eq_true rfl, Nat.le_of_ble_eq_true rfl⟩) hK hP hD hS hA (va_recv hK hP (ci := 1) (q0 := 0) rfl rfl) rfl hl.1 rfl (Nat.le_of_ble_eq_true rfl) dX1_turns_28 ⟨Nat.zero_le _, Nat.zero_le _⟩ (fun r u H locs hw hP hD hS => ?_)
          rcases hw with ⟨hg, rfl, rfl⟩ | ⟨b, hg, hbN, rfl, e1, e2, hM3⟩
          · skip
            refine lv_if_lt (tgt := 38) hx hb dX1_turns_31 (by decide) (fun _ => ?_) (fun z => absurd (no_neg N ft gp) z)
            refine lv_iconst (v := nI 0) hx hb dX1_turns_38 (by decide) ?_
            refine lv_istore_n (lv' := [(3, .int (nI 0)), (2, .int (nI g)), (0, .ref k0), (1, .int (nI k))]) hx hb dX1_turns_39 rfl hl (by decide) rfl (fun ls hl => ?_)
            refine lv_iload_n hx hb dX1_turns_40 rfl (lv_at hl 0 rfl) ?_
            refine sr_if_eq (tgt := 50) hx hb (by decide) dX1_turns_41 (by decide) (fun _ => ?_) (fun q => absurd q (by decide))
            refine lv_iload_n hx hb dX1_turns_50 rfl (lv_at hl 1 rfl) ?_
            refine lv_istore_n (lv' := [(2, .int (nI g)), (3, .int (nI 0)), (0, .ref k0), (1, .int (nI k))]) hx hb dX1_turns_51 rfl hl (by decide) rfl (fun ls hl => ?_)
            refine lv_goto (tgt := 18) hx hb dX1_turns_52 (by decide) ?_
            exact ih (g, 0, gp, gr) _ _ _ ⟨Or.inr ⟨rfl, by omega, by rw [h3, turn_none hg]; rfl⟩, hM2, hP, hD, hS, lv_sub hl [1, 0, 2, 3] rfl⟩
          · skip
            obtain ⟨hN0, hN, -, -, -, -, -, -, -⟩ := id hM
            refine sr_if_lt (tgt := 38) hx hb (by omega) dX1_turns_31 (by decide) ?_
            refine lv_iconst (v := nI 1) hx hb dX1_turns_34 (by decide) ?_
            refine lv_goto (tgt := 39) hx hb dX1_turns_35 (by decide) ?_
            refine lv_istore_n (lv' := [(3, .int (nI 1)), (2, .int (nI g)), (0, .ref k0), (1, .int (nI k))]) hx hb dX1_turns_39 rfl hl (by decide) rfl (fun ls hl => ?_)
            refine lv_iload_n hx hb dX1_turns_40 rfl (lv_at hl 0 rfl) ?_
            refine sr_if_eq (tgt := 50) hx hb (by decide) dX1_turns_41 (by decide) (fun q => absurd q (by decide)) (fun _ => ?_)
            refine lv_iload_n hx hb dX1_turns_44 rfl (lv_at hl 1 rfl) ?_
            refine lv_iconst (v := nI 1) hx hb dX1_turns_45 (by decide) ?_
            refine sr_iadd hx hb dX1_turns_46 ?_
            refine lv_goto (tgt := 51) hx hb dX1_turns_47 (by decide) ?_
            refine lv_istore_n (lv' := [(2, .int (nI (g + 1))), (3, .int (nI 1)), (0, .ref k0), (1, .int (nI k))]) hx hb dX1_turns_51 rfl hl (by decide) rfl (fun ls hl => ?_)
            refine lv_goto (tgt := 18) hx hb dX1_turns_52 (by decide) ?_
            exact ih (g + 1, 1, u.1, u.2) _ _ _ ⟨Or.inl ⟨rfl, by omega, by omega, by
              dsimp only
              rw [h3, show k - g = (k - (g + 1)) + 1 by omega, turn_some hg, e1, e2]
              dsimp only
              rw [Nat.add_assoc g 1, Nat.add_comm 1]⟩, hM3, hP, hD, hS, lv_sub hl [1, 0, 2, 3] rfl⟩
      · skip
        refine lv_iload_n hx hb dX1_turns_18 rfl (lv_at hl 0 rfl) ?_
        refine sr_if_eq (tgt := 55) hx hb (by decide) dX1_turns_19 (by decide) (fun _ => ?_) (fun q => absurd q (by decide))
        refine lv_iload_n hx hb dX1_turns_55 rfl (lv_at hl 1 rfl) ?_
        exact W.iret (v := nI g) hx hb hr (fun t ht hW => ⟨⟨nI g, (gp, gr), rfl, Or.inr ⟨k, hk0, hk1, rfl, by rw [h3], by rw [h3], by rw [h3], hM2⟩, by rw [ht]; exact hP, hD⟩, hS.F ht⟩) hS.2.2 dX1_turns_56
    · skip
      refine lv_iconst (v := (-1)) hx hb dX1_turns_12 (by decide) ?_
      exact W.iret (v := (-1)) hx hb hr (fun t ht hW => ⟨⟨(-1), (fp, fr), rfl, Or.inl ⟨Or.inl (ix_hi (Int32.not_lt.mp (fun z => c2 (le_1000.mpr (fun w => Int32.not_lt.mpr w z))))), rfl, rfl⟩, by rw [ht]; exact hP, hD⟩, hS.F ht⟩) hS.2.2 dX1_turns_13
set_option maxHeartbeats 4000000 in
set_option maxRecDepth 100000 in
/-- join(x, y) -/
theorem kX1_join (l : Launch) (dC : Nat → ClassId) (dI : Nat → Nat → Nat) (k0 bI bT bP bR : Nat) (cA cZ cJ : ClassId) (sz N big n lp : Nat) (ft fk fp fr : Nat → Nat) (hM : sh_M N big n lp ft fk fp) (x y : Int32) : Met l yX1_join wsX1_join ({ frames := 2, cells := 0, slots := 0, locals := 44 }) (va_Pc [.ref k0, .int x, .int y] (sB dC dI (ty3 cA cZ cJ) sz (mw k0 bI bT bP bR cA cZ cJ N big n lp ft fk fp fr))) (va_Qi (fun (r : Int32) (u : (Nat × (Nat → Nat) × (Nat → Nat) × (Nat → Nat))) => r = (sp_join N big ft x y).1 ∧ (((sp_join N big ft x y).2 = none ∧ u = (n, ft, fk, fp)) ∨ ∃ j k, (sp_join N big ft x y).2 = some (j, k) ∧ u.1 = n + 1 ∧ u.2.1 = sh_up ft j k ∧ u.2.2.2 = sh_up fp j (sp_ps N lp ft fp) ∧ sh_M N big u.1 lp u.2.1 u.2.2.1 u.2.2.2)) (fun u => sE dC dI (va_A (mw k0 bI bT bP bR cA cZ cJ N big n lp ft fk fp fr) sz) (mw k0 bI bT bP bR cA cZ cJ N big u.1 lp u.2.1 u.2.2.1 u.2.2.2 fr)) (va_A (mw k0 bI bT bP bR cA cZ cJ N big n lp ft fk fp fr) sz)) 0 0 (va_A (mw k0 bI bT bP bR cA cZ cJ N big n lp ft fk fp fr) sz) := by
  refine Met.ofW (cc := cX1_join) (maxL := 4) (ret := (some .int)) (by decide) rfl ?_
  intro p e s m args below meth c s₁ B hml hv
  obtain ⟨rfl, hsz, hP, hK, hD0⟩ := hv
  have hx := B.exec
  have hb := B.bytes
  have hr := B.returns
  have hts := atoms_spec (ws := wsX1_join) B.pre
  have hown : s.vm.findClass RX1 = some m.cls := findClass_of_methodNamed B.named
  have hlocks := B.notSynchronized
  subst hsz
  have hD := hD0.self (sz := s.heap.size)
  generalize hAe : va_A (mw k0 bI bT bP bR cA cZ cJ N big n lp ft fk fp fr) s.heap.size = A at hD ⊢
  have hA : ∀ q : Nat, s.heap.size ≤ q → A q := fun q h => by rw [← hAe]; exact Or.inr h
  have hS : va_S A s.heap s.heap [] := va_S.rf
  have hl := lv_entry ([.ref k0, .int x, .int y]) (n := 4) (Nat.le_of_ble_eq_true rfl)
  rw [lg_entry_eq]
  generalize (lg_sl ([.ref k0, .int x, .int y]) ++ List.replicate (4 - (lg_sl ([.ref k0, .int x, .int y])).length) Slot.unset).toArray = ls at hl ⊢
  have hl : lv_has ls 4 [(0, .ref k0), (1, .int x), (2, .int y)] := hl
  obtain ⟨hN0, hN, hb2, hbig, hlp, hfp, hft, hfk, hnc⟩ := id hM
  have hnN : n ≤ N := by rw [hnc]; exact cnt_le ft N
  refine lv_aload_n hx hb dX1_join_0 rfl (lv_at hl 0 rfl) ?_
  refine lv_iload_n hx hb dX1_join_1 rfl (lv_at hl 1 rfl) ?_
  refine sc_i (wr := []) (wc := mw k0 bI bT bP bR cA cZ cJ N big n lp ft fk fp fr) (As := [.int x]) (rest := []) ⟨hx, hb, hml, hown, hts⟩ (kX1_isClient l dC dI k0 bI bT bP bR cA cZ cJ s.heap.size N big n lp ft fk fp fr hN x) (cwV 1 hts gX1_join_X1_isClient rfl rfl rfl (by decide +kernel) ⟨Nat.le_of_ble_eq_true rfl, Nat.le_of_ble_eq_true rfl⟩) hK hP hD hS hA (va_recv hK hP (ci := 1) (q0 := 0) rfl rfl) rfl hl.1 rfl (Nat.le_of_ble_eq_true rfl) dX1_join_2 ⟨Nat.zero_le _, Nat.zero_le _⟩ (fun r _ H locs hw hP hD hS => ?_)
  rcases hw with ⟨hnx, rfl⟩ | ⟨j, hj, rfl, rfl⟩
  · skip
    refine sr_if_ne (tgt := 10) hx hb (by decide) dX1_join_5 (by decide) (fun q => absurd q (by decide)) (fun _ => ?_)
    refine lv_iconst (v := (-1)) hx hb dX1_join_8 (by decide) ?_
    exact W.iret (v := (-1)) hx hb hr (fun t ht hW => ⟨⟨(-1), (n, ft, fk, fp), rfl, ⟨by rw [join_1 hnx], Or.inl ⟨by rw [join_1 hnx], rfl⟩⟩, by rw [ht]; exact hP, hD⟩, hS.F ht⟩) hS.2.2 dX1_join_9
  · skip
    refine sr_if_ne (tgt := 10) hx hb (by decide) dX1_join_5 (by decide) (fun _ => ?_) (fun q => absurd q (by decide))
    refine lv_aload_n hx hb dX1_join_10 rfl (lv_at hl 0 rfl) ?_
    refine va_get (D := (dC, dI)) (ci := 1) (v := .ref bI) (C := RX1) (T := TX1) (N := 8) hx hb hts wiX1_join hown hK hP 0 rfl rfl 2 (by decide) (hts (.fieldLink RX1 7 "StrideHeapModel" "in" "[Z") (by decide +kernel)) (fun _ h9 => h9) rfl dX1_join_11 ?_
    refine lv_iload_n hx hb dX1_join_14 rfl (lv_at hl 1 rfl) ?_
    refine sr_zald hx hb hK hP 1 1 rfl rfl (k := j) (by omega) (by omega) dX1_join_15 ?_
    refine sr_if_eq (tgt := 22) hx hb (in_lt ft j) dX1_join_16 (by decide) (fun ht0 => ?_) (fun ht0 => ?_)
    · skip
      have ht0 : ft j = 0 := in_0.mp ht0
      refine lv_aload_n hx hb dX1_join_22 rfl (lv_at hl 0 rfl) ?_
      refine lv_iload_n hx hb dX1_join_23 rfl (lv_at hl 2 rfl) ?_
      refine sc_i (wr := []) (wc := mw k0 bI bT bP bR cA cZ cJ N big n lp ft fk fp fr) (As := [.int y]) (rest := []) ⟨hx, hb, hml, hown, hts⟩ (kX1_areTickets l dC dI k0 bI bT bP bR cA cZ cJ H.size N big n lp ft fk fp fr hbig y) (cwV 1 hts gX1_join_X1_areTickets rfl rfl rfl (by decide +kernel) ⟨Nat.le_of_ble_eq_true rfl, Nat.le_of_ble_eq_true rfl⟩) hK hP hD hS hA (va_recv hK hP (ci := 1) (q0 := 0) rfl rfl) rfl hl.1 rfl (Nat.le_of_ble_eq_true rfl) dX1_join_24 ⟨Nat.zero_le _, Nat.zero_le _⟩ (fun r _ H locs hw hP hD hS => ?_)
      rcases hw with ⟨hny, rfl⟩ | ⟨k, hk0, hkb, rfl, rfl⟩
      · skip
        refine sr_if_ne (tgt := 33) hx hb (by decide) dX1_join_27 (by decide) (fun q => absurd q (by decide)) (fun _ => ?_)
        refine lv_bipush (v := (-3)) hx hb dX1_join_30 (by decide) ?_
        exact W.iret (v := (-3)) hx hb hr (fun t ht hW => ⟨⟨(-3), (n, ft, fk, fp), rfl, ⟨by rw [join_3 hj hN ht0 hny], Or.inl ⟨by rw [join_3 hj hN ht0 hny], rfl⟩⟩, by rw [ht]; exact hP, hD⟩, hS.F ht⟩) hS.2.2 dX1_join_32
      · skip
        refine sr_if_ne (tgt := 33) hx hb (by decide) dX1_join_27 (by decide) (fun _ => ?_) (fun q => absurd q (by decide))
        refine lv_aload_n hx hb dX1_join_33 rfl (lv_at hl 0 rfl) ?_
        refine sc_i (wr := []) (wc := mw k0 bI bT bP bR cA cZ cJ N big n lp ft fk fp fr) (As := []) (rest := []) ⟨hx, hb, hml, hown, hts⟩ (kX1_first l dC dI k0 bI bT bP bR cA cZ cJ H.size N big n lp ft fk fp fr hN hfp) (cwV 0 hts gX1_join_X1_first rfl rfl rfl (by decide +kernel) ⟨Nat.le_of_ble_eq_true rfl, Nat.le_of_ble_eq_true rfl⟩) hK hP hD hS hA (va_recv hK hP (ci := 1) (q0 := 0) rfl rfl) rfl hl.1 rfl (Nat.le_of_ble_eq_true rfl) dX1_join_34 ⟨Nat.zero_le _, Nat.zero_le _⟩ (fun r _ H locs hw hP hD hS => ?_)
        subst hw
        have hpl : sp_ps N lp ft fp < 2 ^ 31 := ps_lt hlp hfp
        rcases fi_spec ft fp N with ⟨hf, -⟩ | ⟨b, hf, hbN, hbt, -⟩
        · skip
          have hps : sp_ps N lp ft fp = lp := by unfold sp_ps; rw [hf]
          rw [hf, sf_0]
          refine lv_istore_n (lv' := [(3, .int (-1)), (0, .ref k0), (1, .int (nI j)), (2, .int (nI k))]) hx hb dX1_join_37 rfl hl (by decide) rfl (fun ls hl => ?_)
          refine lv_aload_n hx hb dX1_join_38 rfl (lv_at hl 1 rfl) ?_
          refine va_get (D := (dC, dI)) (ci := 1) (v := .ref bP) (C := RX1) (T := TX1) (N := 8) hx hb hts wiX1_join hown hK hP 0 rfl rfl 4 (by decide) (hts (.fieldLink RX1 17 "StrideHeapModel" "pass" "[J") (by decide +kernel)) (fun _ h9 => h9) rfl dX1_join_39 ?_
          refine lv_iload_n hx hb dX1_join_42 rfl (lv_at hl 2 rfl) ?_
          refine lv_iload_n hx hb dX1_join_43 rfl (lv_at hl 0 rfl) ?_
          refine lv_if_ge (tgt := 54) hx hb dX1_join_44 (by decide) (fun z => absurd z (by decide)) (fun _ => ?_)
          refine lv_aload_n hx hb dX1_join_47 rfl (lv_at hl 1 rfl) ?_
          refine va_get (D := (dC, dI)) (ci := 1) (v := .long (lN lp)) (C := RX1) (T := TX1) (N := 8) hx hb hts wiX1_join hown hK hP 0 rfl rfl 7 (by decide) (hts (.fieldLink RX1 46 "StrideHeapModel" "latest" "J") (by decide +kernel)) (fun _ h9 => h9) rfl dX1_join_48 ?_
          refine lv_goto (tgt := 60) hx hb dX1_join_51 (by decide) ?_
          refine lv_topl (fun yy eyy => ?_)
          have eyy : yy = lN (sp_ps N lp ft fp) := by rw [eyy, hps]
          subst eyy
          refine sr_last hx hb hK hP hD hS 3 2 rfl rfl (k := j) (v := sp_ps N lp ft fp) (by omega) (by omega) dX1_join_60 (fun H locs hP hD hS => ?_)
          have hP : va_P (dC, dI) vwCl (mw k0 bI bT bP bR cA cZ cJ N big n lp ft fk (sh_up fp j (sp_ps N lp ft fp)) fr) H := hP
          have hD : va_D A (mw k0 bI bT bP bR cA cZ cJ N big n lp ft fk (sh_up fp j (sp_ps N lp ft fp)) fr) := hD
          refine lv_aload_n hx hb dX1_join_61 rfl (lv_at hl 1 rfl) ?_
          refine va_get (D := (dC, dI)) (ci := 1) (v := .ref bI) (C := RX1) (T := TX1) (N := 8) hx hb hts wiX1_join hown hK hP 0 rfl rfl 2 (by decide) (hts (.fieldLink RX1 7 "StrideHeapModel" "in" "[Z") (by decide +kernel)) (fun _ h9 => h9) rfl dX1_join_62 ?_
          refine lv_iload_n hx hb dX1_join_65 rfl (lv_at hl 2 rfl) ?_
          refine lv_iconst (v := nI 1) hx hb dX1_join_66 (by decide) ?_
          refine sr_zast hx hb hK hP hD hS 1 1 rfl rfl (k := j) (v := 1) (by omega) (by omega) rfl dX1_join_67 (fun H locs hP hD hS => ?_)
          rw [show sh_up (sh_in ft) j 1 = sh_in (sh_up ft j k) from in_up1 ft j k hk0] at hP hD
          have hP : va_P (dC, dI) vwCl (mw k0 bI bT bP bR cA cZ cJ N big n lp (sh_up ft j k) fk (sh_up fp j (sp_ps N lp ft fp)) fr) H := hP
          have hD : va_D A (mw k0 bI bT bP bR cA cZ cJ N big n lp (sh_up ft j k) fk (sh_up fp j (sp_ps N lp ft fp)) fr) := hD
          refine lv_aload_n hx hb dX1_join_68 rfl (lv_at hl 1 rfl) ?_
          refine va_get (D := (dC, dI)) (ci := 1) (v := .ref bT) (C := RX1) (T := TX1) (N := 8) hx hb hts wiX1_join hown hK hP 0 rfl rfl 3 (by decide) (hts (.fieldLink RX1 13 "StrideHeapModel" "tickets" "[I") (by decide +kernel)) (fun _ h9 => h9) rfl dX1_join_69 ?_
          refine lv_iload_n hx hb dX1_join_72 rfl (lv_at hl 2 rfl) ?_
          refine lv_iload_n hx hb dX1_join_73 rfl (lv_at hl 3 rfl) ?_
          refine sr_ast hx hb hK hP hD hS 2 0 rfl rfl (k := j) (v := k) (by omega) (by omega) dX1_join_74 (fun H locs hP hD hS => ?_)
          have hP : va_P (dC, dI) vwCl (mw k0 bI bT bP bR cA cZ cJ N big n lp (sh_up ft j k) (sh_up fk j k) (sh_up fp j (sp_ps N lp ft fp)) fr) H := hP
          have hD : va_D A (mw k0 bI bT bP bR cA cZ cJ N big n lp (sh_up ft j k) (sh_up fk j k) (sh_up fp j (sp_ps N lp ft fp)) fr) := hD
          refine lv_aload_n hx hb dX1_join_75 rfl (lv_at hl 1 rfl) ?_
          refine lv_dup hx hb dX1_join_76 rfl ?_
          refine va_get (D := (dC, dI)) (ci := 1) (v := .int (nI n)) (C := RX1) (T := TX1) (N := 8) hx hb hts wiX1_join hown hK hP 0 rfl rfl 6 (by decide) (hts (.fieldLink RX1 50 "StrideHeapModel" "many" "I") (by decide +kernel)) (fun _ h9 => h9) rfl dX1_join_77 ?_
          refine lv_iconst (v := nI 1) hx hb dX1_join_80 (by decide) ?_
          refine sr_iadd hx hb dX1_join_81 ?_
          refine va_put (D := (dC, dI)) (ci := 1) (v := .int (nI (n + 1))) (ty := .int) (C := RX1) (T := TX1) (N := 8) hx hb hts wiX1_join tyX1 tyX1_ok nmX1 hown hK hP hD hS 0 rfl rfl 6 (by decide) (hts (.fieldLink RX1 50 "StrideHeapModel" "many" "I") (by decide +kernel)) (fun _ h9 => h9) rfl (by decide +kernel) rfl rfl (Nat.le_of_ble_eq_true rfl) dX1_join_82 (fun H locs hP hD hS => ?_)
          have hP : va_P (dC, dI) vwCl (mw k0 bI bT bP bR cA cZ cJ N big (n + 1) lp (sh_up ft j k) (sh_up fk j k) (sh_up fp j (sp_ps N lp ft fp)) fr) H := hP
          have hD : va_D A (mw k0 bI bT bP bR cA cZ cJ N big (n + 1) lp (sh_up ft j k) (sh_up fk j k) (sh_up fp j (sp_ps N lp ft fp)) fr) := hD
          refine lv_iconst (v := nI 1) hx hb dX1_join_85 (by decide) ?_
          exact W.iret (v := nI 1) hx hb hr (fun t ht hW => ⟨⟨nI 1, (n + 1, sh_up ft j k, sh_up fk j k, sh_up fp j (sp_ps N lp ft fp)), rfl, ⟨by rw [join_4 hj hN ht0 hk0 hkb hbig]; rfl, Or.inr ⟨j, k, by rw [join_4 hj hN ht0 hk0 hkb hbig], rfl, rfl, rfl, M_join hM hj ht0 hk0 hkb hpl⟩⟩, by rw [ht]; exact hP, hD⟩, hS.F ht⟩) hS.2.2 dX1_join_86
        · skip
          have hps : sp_ps N lp ft fp = fp b := by unfold sp_ps; rw [hf]
          rw [hf, sf_s]
          refine lv_istore_n (lv' := [(3, .int (nI b)), (0, .ref k0), (1, .int (nI j)), (2, .int (nI k))]) hx hb dX1_join_37 rfl hl (by decide) rfl (fun ls hl => ?_)
          refine lv_aload_n hx hb dX1_join_38 rfl (lv_at hl 1 rfl) ?_
          refine va_get (D := (dC, dI)) (ci := 1) (v := .ref bP) (C := RX1) (T := TX1) (N := 8) hx hb hts wiX1_join hown hK hP 0 rfl rfl 4 (by decide) (hts (.fieldLink RX1 17 "StrideHeapModel" "pass" "[J") (by decide +kernel)) (fun _ h9 => h9) rfl dX1_join_39 ?_
          refine lv_iload_n hx hb dX1_join_42 rfl (lv_at hl 2 rfl) ?_
          refine lv_iload_n hx hb dX1_join_43 rfl (lv_at hl 0 rfl) ?_
          refine sr_if_ge (tgt := 54) hx hb (by omega) dX1_join_44 (by decide) ?_
          refine lv_aload_n hx hb dX1_join_54 rfl (lv_at hl 1 rfl) ?_
          refine va_get (D := (dC, dI)) (ci := 1) (v := .ref bP) (C := RX1) (T := TX1) (N := 8) hx hb hts wiX1_join hown hK hP 0 rfl rfl 4 (by decide) (hts (.fieldLink RX1 17 "StrideHeapModel" "pass" "[J") (by decide +kernel)) (fun _ h9 => h9) rfl dX1_join_55 ?_
          refine lv_iload_n hx hb dX1_join_58 rfl (lv_at hl 0 rfl) ?_
          refine sr_lald hx hb hK hP 3 2 rfl rfl (k := b) (by omega) (by omega) dX1_join_59 ?_
          refine lv_topl (fun yy eyy => ?_)
          have eyy : yy = lN (sp_ps N lp ft fp) := by rw [eyy, hps]
          subst eyy
          refine sr_last hx hb hK hP hD hS 3 2 rfl rfl (k := j) (v := sp_ps N lp ft fp) (by omega) (by omega) dX1_join_60 (fun H locs hP hD hS => ?_)
          have hP : va_P (dC, dI) vwCl (mw k0 bI bT bP bR cA cZ cJ N big n lp ft fk (sh_up fp j (sp_ps N lp ft fp)) fr) H := hP
          have hD : va_D A (mw k0 bI bT bP bR cA cZ cJ N big n lp ft fk (sh_up fp j (sp_ps N lp ft fp)) fr) := hD
          refine lv_aload_n hx hb dX1_join_61 rfl (lv_at hl 1 rfl) ?_
          refine va_get (D := (dC, dI)) (ci := 1) (v := .ref bI) (C := RX1) (T := TX1) (N := 8) hx hb hts wiX1_join hown hK hP 0 rfl rfl 2 (by decide) (hts (.fieldLink RX1 7 "StrideHeapModel" "in" "[Z") (by decide +kernel)) (fun _ h9 => h9) rfl dX1_join_62 ?_
          refine lv_iload_n hx hb dX1_join_65 rfl (lv_at hl 2 rfl) ?_
          refine lv_iconst (v := nI 1) hx hb dX1_join_66 (by decide) ?_
          refine sr_zast hx hb hK hP hD hS 1 1 rfl rfl (k := j) (v := 1) (by omega) (by omega) rfl dX1_join_67 (fun H locs hP hD hS => ?_)
          rw [show sh_up (sh_in ft) j 1 = sh_in (sh_up ft j k) from in_up1 ft j k hk0] at hP hD
          have hP : va_P (dC, dI) vwCl (mw k0 bI bT bP bR cA cZ cJ N big n lp (sh_up ft j k) fk (sh_up fp j (sp_ps N lp ft fp)) fr) H := hP
          have hD : va_D A (mw k0 bI bT bP bR cA cZ cJ N big n lp (sh_up ft j k) fk (sh_up fp j (sp_ps N lp ft fp)) fr) := hD
          refine lv_aload_n hx hb dX1_join_68 rfl (lv_at hl 1 rfl) ?_
          refine va_get (D := (dC, dI)) (ci := 1) (v := .ref bT) (C := RX1) (T := TX1) (N := 8) hx hb hts wiX1_join hown hK hP 0 rfl rfl 3 (by decide) (hts (.fieldLink RX1 13 "StrideHeapModel" "tickets" "[I") (by decide +kernel)) (fun _ h9 => h9) rfl dX1_join_69 ?_
          refine lv_iload_n hx hb dX1_join_72 rfl (lv_at hl 2 rfl) ?_
          refine lv_iload_n hx hb dX1_join_73 rfl (lv_at hl 3 rfl) ?_
          refine sr_ast hx hb hK hP hD hS 2 0 rfl rfl (k := j) (v := k) (by omega) (by omega) dX1_join_74 (fun H locs hP hD hS => ?_)
          have hP : va_P (dC, dI) vwCl (mw k0 bI bT bP bR cA cZ cJ N big n lp (sh_up ft j k) (sh_up fk j k) (sh_up fp j (sp_ps N lp ft fp)) fr) H := hP
          have hD : va_D A (mw k0 bI bT bP bR cA cZ cJ N big n lp (sh_up ft j k) (sh_up fk j k) (sh_up fp j (sp_ps N lp ft fp)) fr) := hD
          refine lv_aload_n hx hb dX1_join_75 rfl (lv_at hl 1 rfl) ?_
          refine lv_dup hx hb dX1_join_76 rfl ?_
          refine va_get (D := (dC, dI)) (ci := 1) (v := .int (nI n)) (C := RX1) (T := TX1) (N := 8) hx hb hts wiX1_join hown hK hP 0 rfl rfl 6 (by decide) (hts (.fieldLink RX1 50 "StrideHeapModel" "many" "I") (by decide +kernel)) (fun _ h9 => h9) rfl dX1_join_77 ?_
          refine lv_iconst (v := nI 1) hx hb dX1_join_80 (by decide) ?_
          refine sr_iadd hx hb dX1_join_81 ?_
          refine va_put (D := (dC, dI)) (ci := 1) (v := .int (nI (n + 1))) (ty := .int) (C := RX1) (T := TX1) (N := 8) hx hb hts wiX1_join tyX1 tyX1_ok nmX1 hown hK hP hD hS 0 rfl rfl 6 (by decide) (hts (.fieldLink RX1 50 "StrideHeapModel" "many" "I") (by decide +kernel)) (fun _ h9 => h9) rfl (by decide +kernel) rfl rfl (Nat.le_of_ble_eq_true rfl) dX1_join_82 (fun H locs hP hD hS => ?_)
          have hP : va_P (dC, dI) vwCl (mw k0 bI bT bP bR cA cZ cJ N big (n + 1) lp (sh_up ft j k) (sh_up fk j k) (sh_up fp j (sp_ps N lp ft fp)) fr) H := hP
          have hD : va_D A (mw k0 bI bT bP bR cA cZ cJ N big (n + 1) lp (sh_up ft j k) (sh_up fk j k) (sh_up fp j (sp_ps N lp ft fp)) fr) := hD
          refine lv_iconst (v := nI 1) hx hb dX1_join_85 (by decide) ?_
          exact W.iret (v := nI 1) hx hb hr (fun t ht hW => ⟨⟨nI 1, (n + 1, sh_up ft j k, sh_up fk j k, sh_up fp j (sp_ps N lp ft fp)), rfl, ⟨by rw [join_4 hj hN ht0 hk0 hkb hbig]; rfl, Or.inr ⟨j, k, by rw [join_4 hj hN ht0 hk0 hkb hbig], rfl, rfl, rfl, M_join hM hj ht0 hk0 hkb hpl⟩⟩, by rw [ht]; exact hP, hD⟩, hS.F ht⟩) hS.2.2 dX1_join_86
    · skip
      have ht0 : 0 < ft j := in_p.mp ht0
      refine lv_bipush (v := (-2)) hx hb dX1_join_19 (by decide) ?_
      exact W.iret (v := (-2)) hx hb hr (fun t ht hW => ⟨⟨(-2), (n, ft, fk, fp), rfl, ⟨by rw [join_2 hj hN ht0], Or.inl ⟨by rw [join_2 hj hN ht0], rfl⟩⟩, by rw [ht]; exact hP, hD⟩, hS.F ht⟩) hS.2.2 dX1_join_21
set_option maxHeartbeats 4000000 in
set_option maxRecDepth 100000 in
/-- leave(x) -/
theorem kX1_leave (l : Launch) (dC : Nat → ClassId) (dI : Nat → Nat → Nat) (k0 bI bT bP bR : Nat) (cA cZ cJ : ClassId) (sz N big n lp : Nat) (ft fk fp fr : Nat → Nat) (hM : sh_M N big n lp ft fk fp) (x : Int32) : Met l yX1_leave wsX1_leave ({ frames := 1, cells := 0, slots := 0, locals := 21 }) (va_Pc [.ref k0, .int x] (sB dC dI (ty3 cA cZ cJ) sz (mw k0 bI bT bP bR cA cZ cJ N big n lp ft fk fp fr))) (va_Qi (fun (r : Int32) (u : (Nat × Nat × (Nat → Nat))) => r = (sp_leave N ft x).1 ∧ (((sp_leave N ft x).2 = none ∧ u = (n, lp, ft)) ∨ ∃ j, (sp_leave N ft x).2 = some j ∧ u.1 = n - 1 ∧ u.2.1 = fp j ∧ u.2.2 = sh_up ft j 0 ∧ sh_M N big u.1 u.2.1 u.2.2 fk fp)) (fun u => sE dC dI (va_A (mw k0 bI bT bP bR cA cZ cJ N big n lp ft fk fp fr) sz) (mw k0 bI bT bP bR cA cZ cJ N big u.1 u.2.1 u.2.2 fk fp fr)) (va_A (mw k0 bI bT bP bR cA cZ cJ N big n lp ft fk fp fr) sz)) 0 0 (va_A (mw k0 bI bT bP bR cA cZ cJ N big n lp ft fk fp fr) sz) := by
  refine Met.ofW (cc := cX1_leave) (maxL := 2) (ret := (some .int)) (by decide) rfl ?_
  intro p e s m args below meth c s₁ B hml hv
  obtain ⟨rfl, hsz, hP, hK, hD0⟩ := hv
  have hx := B.exec
  have hb := B.bytes
  have hr := B.returns
  have hts := atoms_spec (ws := wsX1_leave) B.pre
  have hown : s.vm.findClass RX1 = some m.cls := findClass_of_methodNamed B.named
  have hlocks := B.notSynchronized
  subst hsz
  have hD := hD0.self (sz := s.heap.size)
  generalize hAe : va_A (mw k0 bI bT bP bR cA cZ cJ N big n lp ft fk fp fr) s.heap.size = A at hD ⊢
  have hA : ∀ q : Nat, s.heap.size ≤ q → A q := fun q h => by rw [← hAe]; exact Or.inr h
  have hS : va_S A s.heap s.heap [] := va_S.rf
  have hl := lv_entry ([.ref k0, .int x]) (n := 2) (Nat.le_of_ble_eq_true rfl)
  rw [lg_entry_eq]
  generalize (lg_sl ([.ref k0, .int x]) ++ List.replicate (2 - (lg_sl ([.ref k0, .int x])).length) Slot.unset).toArray = ls at hl ⊢
  have hl : lv_has ls 2 [(0, .ref k0), (1, .int x)] := hl
  obtain ⟨hN0, hN, hb2, hbig, hlp, hfp, hft, hfk, hnc⟩ := id hM
  have hnN : n ≤ N := by rw [hnc]; exact cnt_le ft N
  refine lv_aload_n hx hb dX1_leave_0 rfl (lv_at hl 0 rfl) ?_
  refine lv_iload_n hx hb dX1_leave_1 rfl (lv_at hl 1 rfl) ?_
  refine sc_i (wr := []) (wc := mw k0 bI bT bP bR cA cZ cJ N big n lp ft fk fp fr) (As := [.int x]) (rest := []) ⟨hx, hb, hml, hown, hts⟩ (kX1_isClient l dC dI k0 bI bT bP bR cA cZ cJ s.heap.size N big n lp ft fk fp fr hN x) (cwV 1 hts gX1_leave_X1_isClient rfl rfl rfl (by decide +kernel) ⟨Nat.le_of_ble_eq_true rfl, Nat.le_of_ble_eq_true rfl⟩) hK hP hD hS hA (va_recv hK hP (ci := 1) (q0 := 0) rfl rfl) rfl hl.1 rfl (Nat.le_of_ble_eq_true rfl) dX1_leave_2 ⟨Nat.zero_le _, Nat.zero_le _⟩ (fun r _ H locs hw hP hD hS => ?_)
  rcases hw with ⟨hnx, rfl⟩ | ⟨j, hj, rfl, rfl⟩
  · skip
    refine sr_if_ne (tgt := 10) hx hb (by decide) dX1_leave_5 (by decide) (fun q => absurd q (by decide)) (fun _ => ?_)
    refine lv_iconst (v := (-1)) hx hb dX1_leave_8 (by decide) ?_
    exact W.iret (v := (-1)) hx hb hr (fun t ht hW => ⟨⟨(-1), (n, lp, ft), rfl, ⟨by rw [leave_1 hnx], Or.inl ⟨by rw [leave_1 hnx], rfl⟩⟩, by rw [ht]; exact hP, hD⟩, hS.F ht⟩) hS.2.2 dX1_leave_9
  · skip
    refine sr_if_ne (tgt := 10) hx hb (by decide) dX1_leave_5 (by decide) (fun _ => ?_) (fun q => absurd q (by decide))
    refine lv_aload_n hx hb dX1_leave_10 rfl (lv_at hl 0 rfl) ?_
    refine va_get (D := (dC, dI)) (ci := 1) (v := .ref bI) (C := RX1) (T := TX1) (N := 8) hx hb hts wiX1_leave hown hK hP 0 rfl rfl 2 (by decide) (hts (.fieldLink RX1 7 "StrideHeapModel" "in" "[Z") (by decide +kernel)) (fun _ h9 => h9) rfl dX1_leave_11 ?_
    refine lv_iload_n hx hb dX1_leave_14 rfl (lv_at hl 1 rfl) ?_
    refine sr_zald hx hb hK hP 1 1 rfl rfl (k := j) (by omega) (by omega) dX1_leave_15 ?_
    refine sr_if_ne (tgt := 22) hx hb (in_lt ft j) dX1_leave_16 (by decide) (fun ht0 => ?_) (fun ht0 => ?_)
    · skip
      have ht0 : 0 < ft j := in_p.mp ht0
      have hn1 : 0 < n := by rw [hnc]; exact cnt_pos ft hj ht0
      refine lv_aload_n hx hb dX1_leave_22 rfl (lv_at hl 0 rfl) ?_
      refine va_get (D := (dC, dI)) (ci := 1) (v := .ref bI) (C := RX1) (T := TX1) (N := 8) hx hb hts wiX1_leave hown hK hP 0 rfl rfl 2 (by decide) (hts (.fieldLink RX1 7 "StrideHeapModel" "in" "[Z") (by decide +kernel)) (fun _ h9 => h9) rfl dX1_leave_23 ?_
      refine lv_iload_n hx hb dX1_leave_26 rfl (lv_at hl 1 rfl) ?_
      refine lv_iconst (v := nI 0) hx hb dX1_leave_27 (by decide) ?_
      refine sr_zast hx hb hK hP hD hS 1 1 rfl rfl (k := j) (v := 0) (by omega) (by omega) rfl dX1_leave_28 (fun H locs hP hD hS => ?_)
      rw [show sh_up (sh_in ft) j 0 = sh_in (sh_up ft j 0) from in_up0 ft j] at hP hD
      have hP : va_P (dC, dI) vwCl (mw k0 bI bT bP bR cA cZ cJ N big n lp (sh_up ft j 0) fk fp fr) H := hP
      have hD : va_D A (mw k0 bI bT bP bR cA cZ cJ N big n lp (sh_up ft j 0) fk fp fr) := hD
      refine lv_aload_n hx hb dX1_leave_29 rfl (lv_at hl 0 rfl) ?_
      refine lv_aload_n hx hb dX1_leave_30 rfl (lv_at hl 0 rfl) ?_
      refine va_get (D := (dC, dI)) (ci := 1) (v := .ref bP) (C := RX1) (T := TX1) (N := 8) hx hb hts wiX1_leave hown hK hP 0 rfl rfl 4 (by decide) (hts (.fieldLink RX1 17 "StrideHeapModel" "pass" "[J") (by decide +kernel)) (fun _ h9 => h9) rfl dX1_leave_31 ?_
      refine lv_iload_n hx hb dX1_leave_34 rfl (lv_at hl 1 rfl) ?_
      refine sr_lald hx hb hK hP 3 2 rfl rfl (k := j) (by omega) (by omega) dX1_leave_35 ?_
      refine va_put (D := (dC, dI)) (ci := 1) (v := .long (lN (fp j))) (ty := .long) (C := RX1) (T := TX1) (N := 8) hx hb hts wiX1_leave tyX1 tyX1_ok nmX1 hown hK hP hD hS 0 rfl rfl 7 (by decide) (hts (.fieldLink RX1 46 "StrideHeapModel" "latest" "J") (by decide +kernel)) (fun _ h9 => h9) rfl (by decide +kernel) rfl rfl (Nat.le_of_ble_eq_true rfl) dX1_leave_36 (fun H locs hP hD hS => ?_)
      have hP : va_P (dC, dI) vwCl (mw k0 bI bT bP bR cA cZ cJ N big n (fp j) (sh_up ft j 0) fk fp fr) H := hP
      have hD : va_D A (mw k0 bI bT bP bR cA cZ cJ N big n (fp j) (sh_up ft j 0) fk fp fr) := hD
      refine lv_aload_n hx hb dX1_leave_39 rfl (lv_at hl 0 rfl) ?_
      refine lv_dup hx hb dX1_leave_40 rfl ?_
      refine va_get (D := (dC, dI)) (ci := 1) (v := .int (nI n)) (C := RX1) (T := TX1) (N := 8) hx hb hts wiX1_leave hown hK hP 0 rfl rfl 6 (by decide) (hts (.fieldLink RX1 50 "StrideHeapModel" "many" "I") (by decide +kernel)) (fun _ h9 => h9) rfl dX1_leave_41 ?_
      refine lv_iconst (v := nI 1) hx hb dX1_leave_44 (by decide) ?_
      refine sr_isub hx hb (by omega) dX1_leave_45 ?_
      refine va_put (D := (dC, dI)) (ci := 1) (v := .int (nI (n - 1))) (ty := .int) (C := RX1) (T := TX1) (N := 8) hx hb hts wiX1_leave tyX1 tyX1_ok nmX1 hown hK hP hD hS 0 rfl rfl 6 (by decide) (hts (.fieldLink RX1 50 "StrideHeapModel" "many" "I") (by decide +kernel)) (fun _ h9 => h9) rfl (by decide +kernel) rfl rfl (Nat.le_of_ble_eq_true rfl) dX1_leave_46 (fun H locs hP hD hS => ?_)
      have hP : va_P (dC, dI) vwCl (mw k0 bI bT bP bR cA cZ cJ N big (n - 1) (fp j) (sh_up ft j 0) fk fp fr) H := hP
      have hD : va_D A (mw k0 bI bT bP bR cA cZ cJ N big (n - 1) (fp j) (sh_up ft j 0) fk fp fr) := hD
      refine lv_iconst (v := nI 1) hx hb dX1_leave_49 (by decide) ?_
      exact W.iret (v := nI 1) hx hb hr (fun t ht hW => ⟨⟨nI 1, (n - 1, fp j, sh_up ft j 0), rfl, ⟨by rw [leave_3 hj hN ht0]; rfl, Or.inr ⟨j, by rw [leave_3 hj hN ht0], rfl, rfl, rfl, M_leave hM hj ht0⟩⟩, by rw [ht]; exact hP, hD⟩, hS.F ht⟩) hS.2.2 dX1_leave_50
    · skip
      have ht0 : ft j = 0 := in_0.mp ht0
      refine lv_bipush (v := (-2)) hx hb dX1_leave_19 (by decide) ?_
      exact W.iret (v := (-2)) hx hb hr (fun t ht hW => ⟨⟨(-2), (n, lp, ft), rfl, ⟨by rw [leave_2 hj hN ht0], Or.inl ⟨by rw [leave_2 hj hN ht0], rfl⟩⟩, by rw [ht]; exact hP, hD⟩, hS.F ht⟩) hS.2.2 dX1_leave_21
set_option maxHeartbeats 4000000 in
set_option maxRecDepth 100000 in
/-- change(x, y) -/
theorem kX1_change (l : Launch) (dC : Nat → ClassId) (dI : Nat → Nat → Nat) (k0 bI bT bP bR : Nat) (cA cZ cJ : ClassId) (sz N big n lp : Nat) (ft fk fp fr : Nat → Nat) (hM : sh_M N big n lp ft fk fp) (x y : Int32) : Met l yX1_change wsX1_change ({ frames := 1, cells := 0, slots := 0, locals := 21 }) (va_Pc [.ref k0, .int x, .int y] (sB dC dI (ty3 cA cZ cJ) sz (mw k0 bI bT bP bR cA cZ cJ N big n lp ft fk fp fr))) (va_Qi (fun (r : Int32) (u : ((Nat → Nat) × (Nat → Nat))) => r = (sp_change N big ft x y).1 ∧ (((sp_change N big ft x y).2 = none ∧ u = (ft, fk)) ∨ ∃ j k, (sp_change N big ft x y).2 = some (j, k) ∧ u.1 = sh_up ft j k ∧ sh_M N big n lp u.1 u.2 fp)) (fun u => sE dC dI (va_A (mw k0 bI bT bP bR cA cZ cJ N big n lp ft fk fp fr) sz) (mw k0 bI bT bP bR cA cZ cJ N big n lp u.1 u.2 fp fr)) (va_A (mw k0 bI bT bP bR cA cZ cJ N big n lp ft fk fp fr) sz)) 0 0 (va_A (mw k0 bI bT bP bR cA cZ cJ N big n lp ft fk fp fr) sz) := by
  refine Met.ofW (cc := cX1_change) (maxL := 4) (ret := (some .int)) (by decide) rfl ?_
  intro p e s m args below meth c s₁ B hml hv
  obtain ⟨rfl, hsz, hP, hK, hD0⟩ := hv
  have hx := B.exec
  have hb := B.bytes
  have hr := B.returns
  have hts := atoms_spec (ws := wsX1_change) B.pre
  have hown : s.vm.findClass RX1 = some m.cls := findClass_of_methodNamed B.named
  have hlocks := B.notSynchronized
  subst hsz
  have hD := hD0.self (sz := s.heap.size)
  generalize hAe : va_A (mw k0 bI bT bP bR cA cZ cJ N big n lp ft fk fp fr) s.heap.size = A at hD ⊢
  have hA : ∀ q : Nat, s.heap.size ≤ q → A q := fun q h => by rw [← hAe]; exact Or.inr h
  have hS : va_S A s.heap s.heap [] := va_S.rf
  have hl := lv_entry ([.ref k0, .int x, .int y]) (n := 4) (Nat.le_of_ble_eq_true rfl)
  rw [lg_entry_eq]
  generalize (lg_sl ([.ref k0, .int x, .int y]) ++ List.replicate (4 - (lg_sl ([.ref k0, .int x, .int y])).length) Slot.unset).toArray = ls at hl ⊢
  have hl : lv_has ls 4 [(0, .ref k0), (1, .int x), (2, .int y)] := hl
  obtain ⟨hN0, hN, hb2, hbig, hlp, hfp, hft, hfk, hnc⟩ := id hM
  have hnN : n ≤ N := by rw [hnc]; exact cnt_le ft N
  refine lv_aload_n hx hb dX1_change_0 rfl (lv_at hl 0 rfl) ?_
  refine lv_iload_n hx hb dX1_change_1 rfl (lv_at hl 1 rfl) ?_
  refine sc_i (wr := []) (wc := mw k0 bI bT bP bR cA cZ cJ N big n lp ft fk fp fr) (As := [.int x]) (rest := []) ⟨hx, hb, hml, hown, hts⟩ (kX1_isClient l dC dI k0 bI bT bP bR cA cZ cJ s.heap.size N big n lp ft fk fp fr hN x) (cwV 1 hts gX1_change_X1_isClient rfl rfl rfl (by decide +kernel) ⟨Nat.le_of_ble_eq_true rfl, Nat.le_of_ble_eq_true rfl⟩) hK hP hD hS hA (va_recv hK hP (ci := 1) (q0 := 0) rfl rfl) rfl hl.1 rfl (Nat.le_of_ble_eq_true rfl) dX1_change_2 ⟨Nat.zero_le _, Nat.zero_le _⟩ (fun r _ H locs hw hP hD hS => ?_)
  rcases hw with ⟨hnx, rfl⟩ | ⟨j, hj, rfl, rfl⟩
  · skip
    refine sr_if_ne (tgt := 10) hx hb (by decide) dX1_change_5 (by decide) (fun q => absurd q (by decide)) (fun _ => ?_)
    refine lv_iconst (v := (-1)) hx hb dX1_change_8 (by decide) ?_
    exact W.iret (v := (-1)) hx hb hr (fun t ht hW => ⟨⟨(-1), (ft, fk), rfl, ⟨by rw [change_1 hnx], Or.inl ⟨by rw [change_1 hnx], rfl⟩⟩, by rw [ht]; exact hP, hD⟩, hS.F ht⟩) hS.2.2 dX1_change_9
  · skip
    refine sr_if_ne (tgt := 10) hx hb (by decide) dX1_change_5 (by decide) (fun _ => ?_) (fun q => absurd q (by decide))
    refine lv_aload_n hx hb dX1_change_10 rfl (lv_at hl 0 rfl) ?_
    refine va_get (D := (dC, dI)) (ci := 1) (v := .ref bI) (C := RX1) (T := TX1) (N := 8) hx hb hts wiX1_change hown hK hP 0 rfl rfl 2 (by decide) (hts (.fieldLink RX1 7 "StrideHeapModel" "in" "[Z") (by decide +kernel)) (fun _ h9 => h9) rfl dX1_change_11 ?_
    refine lv_iload_n hx hb dX1_change_14 rfl (lv_at hl 1 rfl) ?_
    refine sr_zald hx hb hK hP 1 1 rfl rfl (k := j) (by omega) (by omega) dX1_change_15 ?_
    refine sr_if_ne (tgt := 22) hx hb (in_lt ft j) dX1_change_16 (by decide) (fun ht0 => ?_) (fun ht0 => ?_)
    · skip
      have ht0 : 0 < ft j := in_p.mp ht0
      refine lv_aload_n hx hb dX1_change_22 rfl (lv_at hl 0 rfl) ?_
      refine lv_iload_n hx hb dX1_change_23 rfl (lv_at hl 2 rfl) ?_
      refine sc_i (wr := []) (wc := mw k0 bI bT bP bR cA cZ cJ N big n lp ft fk fp fr) (As := [.int y]) (rest := []) ⟨hx, hb, hml, hown, hts⟩ (kX1_areTickets l dC dI k0 bI bT bP bR cA cZ cJ H.size N big n lp ft fk fp fr hbig y) (cwV 1 hts gX1_change_X1_areTickets rfl rfl rfl (by decide +kernel) ⟨Nat.le_of_ble_eq_true rfl, Nat.le_of_ble_eq_true rfl⟩) hK hP hD hS hA (va_recv hK hP (ci := 1) (q0 := 0) rfl rfl) rfl hl.1 rfl (Nat.le_of_ble_eq_true rfl) dX1_change_24 ⟨Nat.zero_le _, Nat.zero_le _⟩ (fun r _ H locs hw hP hD hS => ?_)
      rcases hw with ⟨hny, rfl⟩ | ⟨k, hk0, hkb, rfl, rfl⟩
      · skip
        refine sr_if_ne (tgt := 33) hx hb (by decide) dX1_change_27 (by decide) (fun q => absurd q (by decide)) (fun _ => ?_)
        refine lv_bipush (v := (-3)) hx hb dX1_change_30 (by decide) ?_
        exact W.iret (v := (-3)) hx hb hr (fun t ht hW => ⟨⟨(-3), (ft, fk), rfl, ⟨by rw [change_3 hj hN ht0 hny], Or.inl ⟨by rw [change_3 hj hN ht0 hny], rfl⟩⟩, by rw [ht]; exact hP, hD⟩, hS.F ht⟩) hS.2.2 dX1_change_32
      · skip
        refine sr_if_ne (tgt := 33) hx hb (by decide) dX1_change_27 (by decide) (fun _ => ?_) (fun q => absurd q (by decide))
        refine lv_aload_n hx hb dX1_change_33 rfl (lv_at hl 0 rfl) ?_
        refine va_get (D := (dC, dI)) (ci := 1) (v := .ref bT) (C := RX1) (T := TX1) (N := 8) hx hb hts wiX1_change hown hK hP 0 rfl rfl 3 (by decide) (hts (.fieldLink RX1 13 "StrideHeapModel" "tickets" "[I") (by decide +kernel)) (fun _ h9 => h9) rfl dX1_change_34 ?_
        refine lv_iload_n hx hb dX1_change_37 rfl (lv_at hl 1 rfl) ?_
        refine sr_ald hx hb hK hP 2 0 rfl rfl (k := j) (by omega) (by omega) dX1_change_38 ?_
        refine lv_istore_n (lv' := [(3, .int (nI (fk j))), (0, .ref k0), (1, .int (nI j)), (2, .int (nI k))]) hx hb dX1_change_39 rfl hl (by decide) rfl (fun ls hl => ?_)
        refine lv_aload_n hx hb dX1_change_40 rfl (lv_at hl 1 rfl) ?_
        refine va_get (D := (dC, dI)) (ci := 1) (v := .ref bT) (C := RX1) (T := TX1) (N := 8) hx hb hts wiX1_change hown hK hP 0 rfl rfl 3 (by decide) (hts (.fieldLink RX1 13 "StrideHeapModel" "tickets" "[I") (by decide +kernel)) (fun _ h9 => h9) rfl dX1_change_41 ?_
        refine lv_iload_n hx hb dX1_change_44 rfl (lv_at hl 2 rfl) ?_
        refine lv_iload_n hx hb dX1_change_45 rfl (lv_at hl 3 rfl) ?_
        refine sr_ast hx hb hK hP hD hS 2 0 rfl rfl (k := j) (v := k) (by omega) (by omega) dX1_change_46 (fun H locs hP hD hS => ?_)
        have hP : va_P (dC, dI) vwCl (mw k0 bI bT bP bR cA cZ cJ N big n lp ft (sh_up fk j k) fp fr) H := hP
        have hD : va_D A (mw k0 bI bT bP bR cA cZ cJ N big n lp ft (sh_up fk j k) fp fr) := hD
        refine lv_iload_n hx hb dX1_change_47 rfl (lv_at hl 0 rfl) ?_
        rw [mw_congr (in_upS ft j k ht0 hk0)] at hP hD
        have hP : va_P (dC, dI) vwCl (mw k0 bI bT bP bR cA cZ cJ N big n lp (sh_up ft j k) (sh_up fk j k) fp fr) H := hP
        have hD : va_D A (mw k0 bI bT bP bR cA cZ cJ N big n lp (sh_up ft j k) (sh_up fk j k) fp fr) := hD
        exact W.iret (v := nI (fk j)) hx hb hr (fun t ht hW => ⟨⟨nI (fk j), (sh_up ft j k, sh_up fk j k), rfl, ⟨by rw [change_4 hj hN ht0 hk0 hkb hbig, hfk j ht0], Or.inr ⟨j, k, by rw [change_4 hj hN ht0 hk0 hkb hbig], rfl, M_change hM ht0 hk0 hkb⟩⟩, by rw [ht]; exact hP, hD⟩, hS.F ht⟩) hS.2.2 dX1_change_48
    · skip
      have ht0 : ft j = 0 := in_0.mp ht0
      refine lv_bipush (v := (-2)) hx hb dX1_change_19 (by decide) ?_
      exact W.iret (v := (-2)) hx hb hr (fun t ht hW => ⟨⟨(-2), (ft, fk), rfl, ⟨by rw [change_2 hj hN ht0], Or.inl ⟨by rw [change_2 hj hN ht0], rfl⟩⟩, by rw [ht]; exact hP, hD⟩, hS.F ht⟩) hS.2.2 dX1_change_21
set_option maxHeartbeats 4000000 in
set_option maxRecDepth 100000 in
/-- ranOf(x) -/
theorem kX1_ranOf (l : Launch) (dC : Nat → ClassId) (dI : Nat → Nat → Nat) (k0 bI bT bP bR : Nat) (cA cZ cJ : ClassId) (sz N big n lp : Nat) (ft fk fp fr : Nat → Nat) (hM : sh_M N big n lp ft fk fp) (x : Int32) : Met l yX1_ranOf wsX1_ranOf ({ frames := 1, cells := 0, slots := 0, locals := 21 }) (va_Pc [.ref k0, .int x] (sB dC dI (ty3 cA cZ cJ) sz (mw k0 bI bT bP bR cA cZ cJ N big n lp ft fk fp fr))) (va_Qi (fun (r : Int32) (_ : Unit) => r = sp_ran N fr x) (fun _ => sE dC dI (va_A (mw k0 bI bT bP bR cA cZ cJ N big n lp ft fk fp fr) sz) (mw k0 bI bT bP bR cA cZ cJ N big n lp ft fk fp fr)) (va_A (mw k0 bI bT bP bR cA cZ cJ N big n lp ft fk fp fr) sz)) 0 0 (va_A (mw k0 bI bT bP bR cA cZ cJ N big n lp ft fk fp fr) sz) := by
  refine Met.ofW (cc := cX1_ranOf) (maxL := 2) (ret := (some .int)) (by decide) rfl ?_
  intro p e s m args below meth c s₁ B hml hv
  obtain ⟨rfl, hsz, hP, hK, hD0⟩ := hv
  have hx := B.exec
  have hb := B.bytes
  have hr := B.returns
  have hts := atoms_spec (ws := wsX1_ranOf) B.pre
  have hown : s.vm.findClass RX1 = some m.cls := findClass_of_methodNamed B.named
  have hlocks := B.notSynchronized
  subst hsz
  have hD := hD0.self (sz := s.heap.size)
  generalize hAe : va_A (mw k0 bI bT bP bR cA cZ cJ N big n lp ft fk fp fr) s.heap.size = A at hD ⊢
  have hA : ∀ q : Nat, s.heap.size ≤ q → A q := fun q h => by rw [← hAe]; exact Or.inr h
  have hS : va_S A s.heap s.heap [] := va_S.rf
  have hl := lv_entry ([.ref k0, .int x]) (n := 2) (Nat.le_of_ble_eq_true rfl)
  rw [lg_entry_eq]
  generalize (lg_sl ([.ref k0, .int x]) ++ List.replicate (2 - (lg_sl ([.ref k0, .int x])).length) Slot.unset).toArray = ls at hl ⊢
  have hl : lv_has ls 2 [(0, .ref k0), (1, .int x)] := hl
  obtain ⟨hN0, hN, hb2, hbig, hlp, hfp, hft, hfk, hnc⟩ := id hM
  have hnN : n ≤ N := by rw [hnc]; exact cnt_le ft N
  refine lv_aload_n hx hb dX1_ranOf_0 rfl (lv_at hl 0 rfl) ?_
  refine lv_iload_n hx hb dX1_ranOf_1 rfl (lv_at hl 1 rfl) ?_
  refine sc_i (wr := []) (wc := mw k0 bI bT bP bR cA cZ cJ N big n lp ft fk fp fr) (As := [.int x]) (rest := []) ⟨hx, hb, hml, hown, hts⟩ (kX1_isClient l dC dI k0 bI bT bP bR cA cZ cJ s.heap.size N big n lp ft fk fp fr hN x) (cwV 1 hts gX1_ranOf_X1_isClient rfl rfl rfl (by decide +kernel) ⟨Nat.le_of_ble_eq_true rfl, Nat.le_of_ble_eq_true rfl⟩) hK hP hD hS hA (va_recv hK hP (ci := 1) (q0 := 0) rfl rfl) rfl hl.1 rfl (Nat.le_of_ble_eq_true rfl) dX1_ranOf_2 ⟨Nat.zero_le _, Nat.zero_le _⟩ (fun r _ H locs hw hP hD hS => ?_)
  rcases hw with ⟨hnx, rfl⟩ | ⟨j, hj, rfl, rfl⟩
  · skip
    refine sr_if_eq (tgt := 17) hx hb (by decide) dX1_ranOf_5 (by decide) (fun _ => ?_) (fun q => absurd q (by decide))
    refine lv_iconst (v := (-1)) hx hb dX1_ranOf_17 (by decide) ?_
    exact W.iret (v := (-1)) hx hb hr (fun t ht hW => ⟨⟨(-1), (), rfl, (ran_1 hnx).symm, by rw [ht]; exact hP, hD⟩, hS.F ht⟩) hS.2.2 dX1_ranOf_18
  · skip
    refine sr_if_eq (tgt := 17) hx hb (by decide) dX1_ranOf_5 (by decide) (fun q => absurd q (by decide)) (fun _ => ?_)
    refine lv_aload_n hx hb dX1_ranOf_8 rfl (lv_at hl 0 rfl) ?_
    refine va_get (D := (dC, dI)) (ci := 1) (v := .ref bR) (C := RX1) (T := TX1) (N := 8) hx hb hts wiX1_ranOf hown hK hP 0 rfl rfl 5 (by decide) (hts (.fieldLink RX1 21 "StrideHeapModel" "ran" "[I") (by decide +kernel)) (fun _ h9 => h9) rfl dX1_ranOf_9 ?_
    refine lv_iload_n hx hb dX1_ranOf_12 rfl (lv_at hl 1 rfl) ?_
    refine sr_ald hx hb hK hP 4 0 rfl rfl (k := j) (by omega) (by omega) dX1_ranOf_13 ?_
    refine lv_goto (tgt := 18) hx hb dX1_ranOf_14 (by decide) ?_
    exact W.iret (v := nI (fr j)) hx hb hr (fun t ht hW => ⟨⟨nI (fr j), (), rfl, (ran_2 hj hN).symm, by rw [ht]; exact hP, hD⟩, hS.F ht⟩) hS.2.2 dX1_ranOf_18
set_option maxHeartbeats 4000000 in
set_option maxRecDepth 100000 in
/-- passOf(x) -/
theorem kX1_passOf (l : Launch) (dC : Nat → ClassId) (dI : Nat → Nat → Nat) (k0 bI bT bP bR : Nat) (cA cZ cJ : ClassId) (sz N big n lp : Nat) (ft fk fp fr : Nat → Nat) (hM : sh_M N big n lp ft fk fp) (x : Int32) : Met l yX1_passOf wsX1_passOf ({ frames := 2, cells := 0, slots := 0, locals := 42 }) (va_Pc [.ref k0, .int x] (sB dC dI (ty3 cA cZ cJ) sz (mw k0 bI bT bP bR cA cZ cJ N big n lp ft fk fp fr))) (va_Qi (fun (r : Int32) (_ : Unit) => r = sp_pass N ft fp x) (fun _ => sE dC dI (va_A (mw k0 bI bT bP bR cA cZ cJ N big n lp ft fk fp fr) sz) (mw k0 bI bT bP bR cA cZ cJ N big n lp ft fk fp fr)) (va_A (mw k0 bI bT bP bR cA cZ cJ N big n lp ft fk fp fr) sz)) 0 0 (va_A (mw k0 bI bT bP bR cA cZ cJ N big n lp ft fk fp fr) sz) := by
  refine Met.ofW (cc := cX1_passOf) (maxL := 2) (ret := (some .int)) (by decide) rfl ?_
  intro p e s m args below meth c s₁ B hml hv
  obtain ⟨rfl, hsz, hP, hK, hD0⟩ := hv
  have hx := B.exec
  have hb := B.bytes
  have hr := B.returns
  have hts := atoms_spec (ws := wsX1_passOf) B.pre
  have hown : s.vm.findClass RX1 = some m.cls := findClass_of_methodNamed B.named
  have hlocks := B.notSynchronized
  subst hsz
  have hD := hD0.self (sz := s.heap.size)
  generalize hAe : va_A (mw k0 bI bT bP bR cA cZ cJ N big n lp ft fk fp fr) s.heap.size = A at hD ⊢
  have hA : ∀ q : Nat, s.heap.size ≤ q → A q := fun q h => by rw [← hAe]; exact Or.inr h
  have hS : va_S A s.heap s.heap [] := va_S.rf
  have hl := lv_entry ([.ref k0, .int x]) (n := 2) (Nat.le_of_ble_eq_true rfl)
  rw [lg_entry_eq]
  generalize (lg_sl ([.ref k0, .int x]) ++ List.replicate (2 - (lg_sl ([.ref k0, .int x])).length) Slot.unset).toArray = ls at hl ⊢
  have hl : lv_has ls 2 [(0, .ref k0), (1, .int x)] := hl
  obtain ⟨hN0, hN, hb2, hbig, hlp, hfp, hft, hfk, hnc⟩ := id hM
  have hnN : n ≤ N := by rw [hnc]; exact cnt_le ft N
  refine lv_aload_n hx hb dX1_passOf_0 rfl (lv_at hl 0 rfl) ?_
  refine lv_iload_n hx hb dX1_passOf_1 rfl (lv_at hl 1 rfl) ?_
  refine sc_i (wr := []) (wc := mw k0 bI bT bP bR cA cZ cJ N big n lp ft fk fp fr) (As := [.int x]) (rest := []) ⟨hx, hb, hml, hown, hts⟩ (kX1_isIn l dC dI k0 bI bT bP bR cA cZ cJ s.heap.size N big n lp ft fk fp fr hN x) (cwV 1 hts gX1_passOf_X1_isIn rfl rfl rfl (by decide +kernel) ⟨Nat.le_of_ble_eq_true rfl, Nat.le_of_ble_eq_true rfl⟩) hK hP hD hS hA (va_recv hK hP (ci := 1) (q0 := 0) rfl rfl) rfl hl.1 rfl (Nat.le_of_ble_eq_true rfl) dX1_passOf_2 ⟨Nat.zero_le _, Nat.zero_le _⟩ (fun r _ H locs hw hP hD hS => ?_)
  rcases hw with ⟨hnx, rfl⟩ | ⟨j, hj, rfl, ⟨ht0, rfl⟩ | ⟨ht0, rfl⟩⟩
  · skip
    refine sr_if_eq (tgt := 18) hx hb (by decide) dX1_passOf_5 (by decide) (fun _ => ?_) (fun q => absurd q (by decide))
    refine lv_iconst (v := (-1)) hx hb dX1_passOf_18 (by decide) ?_
    exact W.iret (v := (-1)) hx hb hr (fun t ht hW => ⟨⟨(-1), (), rfl, (pass_1 hnx).symm, by rw [ht]; exact hP, hD⟩, hS.F ht⟩) hS.2.2 dX1_passOf_19
  · skip
    refine sr_if_eq (tgt := 18) hx hb (by decide) dX1_passOf_5 (by decide) (fun _ => ?_) (fun q => absurd q (by decide))
    refine lv_iconst (v := (-1)) hx hb dX1_passOf_18 (by decide) ?_
    exact W.iret (v := (-1)) hx hb hr (fun t ht hW => ⟨⟨(-1), (), rfl, (pass_2 hj hN ht0).symm, by rw [ht]; exact hP, hD⟩, hS.F ht⟩) hS.2.2 dX1_passOf_19
  · skip
    refine sr_if_eq (tgt := 18) hx hb (by decide) dX1_passOf_5 (by decide) (fun q => absurd q (by decide)) (fun _ => ?_)
    have efk : fk j = ft j := hfk j ht0
    have hftj := hft j
    refine lv_aload_n hx hb dX1_passOf_8 rfl (lv_at hl 0 rfl) ?_
    refine va_get (D := (dC, dI)) (ci := 1) (v := .ref bP) (C := RX1) (T := TX1) (N := 8) hx hb hts wiX1_passOf hown hK hP 0 rfl rfl 4 (by decide) (hts (.fieldLink RX1 17 "StrideHeapModel" "pass" "[J") (by decide +kernel)) (fun _ h9 => h9) rfl dX1_passOf_9 ?_
    refine lv_iload_n hx hb dX1_passOf_12 rfl (lv_at hl 1 rfl) ?_
    refine sr_lald hx hb hK hP 3 2 rfl rfl (k := j) (by omega) (by omega) dX1_passOf_13 ?_
    refine lv_l2i hx hb dX1_passOf_14 (lN_i _) ?_
    refine lv_goto (tgt := 19) hx hb dX1_passOf_15 (by decide) ?_
    exact W.iret (v := nI (fp j)) hx hb hr (fun t ht hW => ⟨⟨nI (fp j), (), rfl, (pass_3 hj hN ht0).symm, by rw [ht]; exact hP, hD⟩, hS.F ht⟩) hS.2.2 dX1_passOf_19
set_option maxHeartbeats 4000000 in
set_option maxRecDepth 100000 in
/-- strideOf(x) -/
theorem kX1_strideOf (l : Launch) (dC : Nat → ClassId) (dI : Nat → Nat → Nat) (k0 bI bT bP bR : Nat) (cA cZ cJ : ClassId) (sz N big n lp : Nat) (ft fk fp fr : Nat → Nat) (hM : sh_M N big n lp ft fk fp) (x : Int32) : Met l yX1_strideOf wsX1_strideOf ({ frames := 2, cells := 0, slots := 0, locals := 42 }) (va_Pc [.ref k0, .int x] (sB dC dI (ty3 cA cZ cJ) sz (mw k0 bI bT bP bR cA cZ cJ N big n lp ft fk fp fr))) (va_Qi (fun (r : Int32) (_ : Unit) => r = sp_pass N ft (fun c => big / ft c) x) (fun _ => sE dC dI (va_A (mw k0 bI bT bP bR cA cZ cJ N big n lp ft fk fp fr) sz) (mw k0 bI bT bP bR cA cZ cJ N big n lp ft fk fp fr)) (va_A (mw k0 bI bT bP bR cA cZ cJ N big n lp ft fk fp fr) sz)) 0 0 (va_A (mw k0 bI bT bP bR cA cZ cJ N big n lp ft fk fp fr) sz) := by
  refine Met.ofW (cc := cX1_strideOf) (maxL := 2) (ret := (some .int)) (by decide) rfl ?_
  intro p e s m args below meth c s₁ B hml hv
  obtain ⟨rfl, hsz, hP, hK, hD0⟩ := hv
  have hx := B.exec
  have hb := B.bytes
  have hr := B.returns
  have hts := atoms_spec (ws := wsX1_strideOf) B.pre
  have hown : s.vm.findClass RX1 = some m.cls := findClass_of_methodNamed B.named
  have hlocks := B.notSynchronized
  subst hsz
  have hD := hD0.self (sz := s.heap.size)
  generalize hAe : va_A (mw k0 bI bT bP bR cA cZ cJ N big n lp ft fk fp fr) s.heap.size = A at hD ⊢
  have hA : ∀ q : Nat, s.heap.size ≤ q → A q := fun q h => by rw [← hAe]; exact Or.inr h
  have hS : va_S A s.heap s.heap [] := va_S.rf
  have hl := lv_entry ([.ref k0, .int x]) (n := 2) (Nat.le_of_ble_eq_true rfl)
  rw [lg_entry_eq]
  generalize (lg_sl ([.ref k0, .int x]) ++ List.replicate (2 - (lg_sl ([.ref k0, .int x])).length) Slot.unset).toArray = ls at hl ⊢
  have hl : lv_has ls 2 [(0, .ref k0), (1, .int x)] := hl
  obtain ⟨hN0, hN, hb2, hbig, hlp, hfp, hft, hfk, hnc⟩ := id hM
  have hnN : n ≤ N := by rw [hnc]; exact cnt_le ft N
  refine lv_aload_n hx hb dX1_strideOf_0 rfl (lv_at hl 0 rfl) ?_
  refine lv_iload_n hx hb dX1_strideOf_1 rfl (lv_at hl 1 rfl) ?_
  refine sc_i (wr := []) (wc := mw k0 bI bT bP bR cA cZ cJ N big n lp ft fk fp fr) (As := [.int x]) (rest := []) ⟨hx, hb, hml, hown, hts⟩ (kX1_isIn l dC dI k0 bI bT bP bR cA cZ cJ s.heap.size N big n lp ft fk fp fr hN x) (cwV 1 hts gX1_strideOf_X1_isIn rfl rfl rfl (by decide +kernel) ⟨Nat.le_of_ble_eq_true rfl, Nat.le_of_ble_eq_true rfl⟩) hK hP hD hS hA (va_recv hK hP (ci := 1) (q0 := 0) rfl rfl) rfl hl.1 rfl (Nat.le_of_ble_eq_true rfl) dX1_strideOf_2 ⟨Nat.zero_le _, Nat.zero_le _⟩ (fun r _ H locs hw hP hD hS => ?_)
  rcases hw with ⟨hnx, rfl⟩ | ⟨j, hj, rfl, ⟨ht0, rfl⟩ | ⟨ht0, rfl⟩⟩
  · skip
    refine sr_if_eq (tgt := 22) hx hb (by decide) dX1_strideOf_5 (by decide) (fun _ => ?_) (fun q => absurd q (by decide))
    refine lv_iconst (v := (-1)) hx hb dX1_strideOf_22 (by decide) ?_
    exact W.iret (v := (-1)) hx hb hr (fun t ht hW => ⟨⟨(-1), (), rfl, (pass_1 hnx).symm, by rw [ht]; exact hP, hD⟩, hS.F ht⟩) hS.2.2 dX1_strideOf_23
  · skip
    refine sr_if_eq (tgt := 22) hx hb (by decide) dX1_strideOf_5 (by decide) (fun _ => ?_) (fun q => absurd q (by decide))
    refine lv_iconst (v := (-1)) hx hb dX1_strideOf_22 (by decide) ?_
    exact W.iret (v := (-1)) hx hb hr (fun t ht hW => ⟨⟨(-1), (), rfl, (pass_2 hj hN ht0).symm, by rw [ht]; exact hP, hD⟩, hS.F ht⟩) hS.2.2 dX1_strideOf_23
  · skip
    refine sr_if_eq (tgt := 22) hx hb (by decide) dX1_strideOf_5 (by decide) (fun q => absurd q (by decide)) (fun _ => ?_)
    have efk : fk j = ft j := hfk j ht0
    have hftj := hft j
    refine lv_aload_n hx hb dX1_strideOf_8 rfl (lv_at hl 0 rfl) ?_
    refine va_get (D := (dC, dI)) (ci := 1) (v := .int (nI big)) (C := RX1) (T := TX1) (N := 8) hx hb hts wiX1_strideOf hown hK hP 0 rfl rfl 1 (by decide) (hts (.fieldLink RX1 28 "StrideHeapModel" "big" "I") (by decide +kernel)) (fun _ h9 => h9) rfl dX1_strideOf_9 ?_
    refine lv_aload_n hx hb dX1_strideOf_12 rfl (lv_at hl 0 rfl) ?_
    refine va_get (D := (dC, dI)) (ci := 1) (v := .ref bT) (C := RX1) (T := TX1) (N := 8) hx hb hts wiX1_strideOf hown hK hP 0 rfl rfl 3 (by decide) (hts (.fieldLink RX1 13 "StrideHeapModel" "tickets" "[I") (by decide +kernel)) (fun _ h9 => h9) rfl dX1_strideOf_13 ?_
    refine lv_iload_n hx hb dX1_strideOf_16 rfl (lv_at hl 1 rfl) ?_
    refine sr_ald hx hb hK hP 2 0 rfl rfl (k := j) (by omega) (by omega) dX1_strideOf_17 ?_
    refine sr_idiv hx hb (by omega) (by omega) (by omega) dX1_strideOf_18 ?_
    refine lv_goto (tgt := 23) hx hb dX1_strideOf_19 (by decide) ?_
    exact W.iret (v := nI (big / (fk j))) hx hb hr (fun t ht hW => ⟨⟨nI (big / (fk j)), (), rfl, (by rw [pass_3 hj hN ht0, efk]), by rw [ht]; exact hP, hD⟩, hS.F ht⟩) hS.2.2 dX1_strideOf_23
set_option maxHeartbeats 4000000 in
set_option maxRecDepth 100000 in
/-- clients() -/
theorem kX1_clients (l : Launch) (dC : Nat → ClassId) (dI : Nat → Nat → Nat) (k0 bI bT bP bR : Nat) (cA cZ cJ : ClassId) (sz N big n lp : Nat) (ft fk fp fr : Nat → Nat) (hM : sh_M N big n lp ft fk fp) : Met l yX1_clients wsX1_clients ({ frames := 0, cells := 0, slots := 0, locals := 0 }) (va_Pc [.ref k0] (sB dC dI (ty3 cA cZ cJ) sz (mw k0 bI bT bP bR cA cZ cJ N big n lp ft fk fp fr))) (va_Qi (fun (r : Int32) (_ : Unit) => r = nI n) (fun _ => sE dC dI (va_A (mw k0 bI bT bP bR cA cZ cJ N big n lp ft fk fp fr) sz) (mw k0 bI bT bP bR cA cZ cJ N big n lp ft fk fp fr)) (va_A (mw k0 bI bT bP bR cA cZ cJ N big n lp ft fk fp fr) sz)) 0 0 (va_A (mw k0 bI bT bP bR cA cZ cJ N big n lp ft fk fp fr) sz) := by
  refine Met.ofW (cc := cX1_clients) (maxL := 1) (ret := (some .int)) (by decide) rfl ?_
  intro p e s m args below meth c s₁ B hml hv
  obtain ⟨rfl, hsz, hP, hK, hD0⟩ := hv
  have hx := B.exec
  have hb := B.bytes
  have hr := B.returns
  have hts := atoms_spec (ws := wsX1_clients) B.pre
  have hown : s.vm.findClass RX1 = some m.cls := findClass_of_methodNamed B.named
  have hlocks := B.notSynchronized
  subst hsz
  have hD := hD0.self (sz := s.heap.size)
  generalize hAe : va_A (mw k0 bI bT bP bR cA cZ cJ N big n lp ft fk fp fr) s.heap.size = A at hD ⊢
  have hA : ∀ q : Nat, s.heap.size ≤ q → A q := fun q h => by rw [← hAe]; exact Or.inr h
  have hS : va_S A s.heap s.heap [] := va_S.rf
  have hl := lv_entry ([.ref k0]) (n := 1) (Nat.le_of_ble_eq_true rfl)
  rw [lg_entry_eq]
  generalize (lg_sl ([.ref k0]) ++ List.replicate (1 - (lg_sl ([.ref k0])).length) Slot.unset).toArray = ls at hl ⊢
  have hl : lv_has ls 1 [(0, .ref k0)] := hl
  refine lv_aload_n hx hb dX1_clients_0 rfl (lv_at hl 0 rfl) ?_
  refine va_get (D := (dC, dI)) (ci := 1) (v := .int (nI n)) (C := RX1) (T := TX1) (N := 8) hx hb hts wiX1_clients hown hK hP 0 rfl rfl 6 (by decide) (hts (.fieldLink RX1 50 "StrideHeapModel" "many" "I") (by decide +kernel)) (fun _ h9 => h9) rfl dX1_clients_1 ?_
  exact W.iret (v := nI n) hx hb hr (fun t ht hW => ⟨⟨nI n, (), rfl, rfl, by rw [ht]; exact hP, hD⟩, hS.F ht⟩) hS.2.2 dX1_clients_4
