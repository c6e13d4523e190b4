-- THE REFERENCE: spread, order
theorem mx_s0 {t p : Nat → Nat} {c : Nat} (h : t c = 0) : sh_mx t p (c + 1) = sh_mx t p c := by
  simp only [sh_mx]
  exact if_neg (by omega)
theorem mx_s1 {t p : Nat → Nat} {c : Nat} (h : p c ≤ sh_mx t p c) : sh_mx t p (c + 1) = sh_mx t p c := by
  simp only [sh_mx]
  exact if_neg (by omega)
theorem mx_s2 {t p : Nat → Nat} {c : Nat} (h0 : 0 < t c) (h : sh_mx t p c < p c) : sh_mx t p (c + 1) = p c := by
  simp only [sh_mx]
  exact if_pos ⟨h0, h⟩
theorem rk_s1 {t p : Nat → Nat} {c k : Nat} (h : 0 < t c ∧ 0 < t k ∧ k ≠ c ∧ sh_bf p k c) : sh_rk t p c (k + 1) = sh_rk t p c k + 1 := by
  simp only [sh_rk]
  exact if_pos h
theorem rk_s0 {t p : Nat → Nat} {c k : Nat} (h : ¬ (0 < t c ∧ 0 < t k ∧ k ≠ c ∧ sh_bf p k c)) : sh_rk t p c (k + 1) = sh_rk t p c k := by
  simp only [sh_rk]
  exact if_neg h
theorem rk_le (t p : Nat → Nat) (c : Nat) : ∀ k, sh_rk t p c k ≤ k
  | 0 => Nat.le_refl 0
  | k + 1 => by
    have := rk_le t p c k
    simp only [sh_rk]
    split <;> omega
set_option maxHeartbeats 4000000 in
set_option maxRecDepth 100000 in
/-- spread() -/
theorem kX1_spread (l : Launch) (dC : Nat → ClassId) (dI : Nat → Nat → Nat) (k0 bI bT bP bR : Nat) (cA cZ cJ : ClassId) (sz N big n lp : Nat) (ft fk fp fr : Nat → Nat) (hM : sh_M N big n lp ft fk fp) : Met l yX1_spread wsX1_spread ({ frames := 2, cells := 0, slots := 0, locals := 44 }) (va_Pc [.ref k0] (sB dC dI (ty3 cA cZ cJ) sz (mw k0 bI bT bP bR cA cZ cJ N big n lp ft fk fp fr))) (va_Qi (fun (r : Int32) (_ : Unit) => r = sp_spread N ft fp) (fun _ => sE dC dI (va_A (mw k0 bI bT bP bR cA cZ cJ N big n lp ft fk fp fr) sz) (mw k0 bI bT bP bR cA cZ cJ N big n lp ft fk fp fr)) (va_A (mw k0 bI bT bP bR cA cZ cJ N big n lp ft fk fp fr) sz)) 0 0 (va_A (mw k0 bI bT bP bR cA cZ cJ N big n lp ft fk fp fr) sz) := by
  refine Met.ofW (cc := cX1_spread) (maxL := 5) (ret := (some .int)) (by decide) rfl ?_
  intro p e s m args below meth c s₁ B hml hv
  obtain ⟨rfl, hsz, hP, hK, hD0⟩ := hv
  have hx := B.exec
  have hb := B.bytes
  have hr := B.returns
  have hts := atoms_spec (ws := wsX1_spread) B.pre
  have hown : s.vm.findClass RX1 = some m.cls := findClass_of_methodNamed B.named
  have hlocks := B.notSynchronized
  subst hsz
  have hD := hD0.self (sz := s.heap.size)
  generalize hAe : va_A (mw k0 bI bT bP bR cA cZ cJ N big n lp ft fk fp fr) s.heap.size = A at hD ⊢
  have hA : ∀ q : Nat, s.heap.size ≤ q → A q := fun q h => by rw [← hAe]; exact Or.inr h
  have hS : va_S A s.heap s.heap [] := va_S.rf
  have hl := lv_entry ([.ref k0]) (n := 5) (Nat.le_of_ble_eq_true rfl)
  rw [lg_entry_eq]
  generalize (lg_sl ([.ref k0]) ++ List.replicate (5 - (lg_sl ([.ref k0])).length) Slot.unset).toArray = ls at hl ⊢
  have hl : lv_has ls 5 [(0, .ref k0)] := hl
  obtain ⟨hN0, hN, hb2, hbig, hlp, hfp, hft, hfk, hnc⟩ := id hM
  have hnN : n ≤ N := by rw [hnc]; exact cnt_le ft N
  refine lv_aload_n hx hb dX1_spread_0 rfl (lv_at hl 0 rfl) ?_
  refine sc_i (wr := []) (wc := mw k0 bI bT bP bR cA cZ cJ N big n lp ft fk fp fr) (As := []) (rest := []) ⟨hx, hb, hml, hown, hts⟩ (kX1_first l dC dI k0 bI bT bP bR cA cZ cJ s.heap.size N big n lp ft fk fp fr hN hfp) (cwV 0 hts gX1_spread_X1_first rfl rfl rfl (by decide +kernel) ⟨Nat.le_of_ble_eq_true rfl, Nat.le_of_ble_eq_true rfl⟩) hK hP hD hS hA (va_recv hK hP (ci := 1) (q0 := 0) rfl rfl) rfl hl.1 rfl (Nat.le_of_ble_eq_true rfl) dX1_spread_1 ⟨Nat.zero_le _, Nat.zero_le _⟩ (fun r _ H locs hw hP hD hS => ?_)
  subst hw
  refine lv_istore_n (lv' := [(1, .int (sf_i (sh_fi ft fp N))), (0, .ref k0)]) hx hb dX1_spread_4 rfl hl (by decide) rfl (fun ls hl => ?_)
  refine lv_lconst (v := lN 0) hx hb dX1_spread_5 (by decide) ?_
  refine lv_lstore_n (lv' := [(2, .long (lN 0)), (1, .int (sf_i (sh_fi ft fp N))), (0, .ref k0)]) hx hb dX1_spread_6 rfl hl (by decide) rfl (fun ls hl => ?_)
  refine lv_iconst (v := nI 0) hx hb dX1_spread_7 (by decide) ?_
  refine lv_istore (lv' := [(4, .int (nI 0)), (2, .long (lN 0)), (1, .int (sf_i (sh_fi ft fp N))), (0, .ref k0)]) hx hb dX1_spread_8 hl (by decide) rfl (fun ls hl => ?_)
  refine sl_loop (fun d (x : Nat) H locs ls => N + 1 ≤ x + d ∧ x ≤ N ∧ va_P (dC, dI) vwCl (mw k0 bI bT bP bR cA cZ cJ N big n lp ft fk fp fr) H ∧ va_D A (mw k0 bI bT bP bR cA cZ cJ N big n lp ft fk fp fr) ∧ va_S A s.heap H locs ∧ lv_has ls 5 [(4, .int (nI x)), (2, .long (lN (sh_mx ft fp x))), (1, .int (sf_i (sh_fi ft fp N))), (0, .ref k0)]) (fun x H locs ls h => by omega) ?_ (N + 1) 0 _ _ _ ⟨by omega, by omega, hP, hD, hS, lv_sub hl [0, 1, 2, 3] rfl⟩
  intro d x H locs ls ih hI
  obtain ⟨h1, h2, hP, hD, hS, hl⟩ := hI
  have hmx := mx_le (t := ft) hfp (by decide) x
  refine lv_iload hx hb dX1_spread_10 (lv_at hl 0 rfl) ?_
  refine lv_aload_n hx hb dX1_spread_12 rfl (lv_at hl 3 rfl) ?_
  refine va_get (D := (dC, dI)) (ci := 1) (v := .int (nI N)) (C := RX1) (T := TX1) (N := 8) hx hb hts wiX1_spread hown hK hP 0 rfl rfl 0 (by decide) (hts (.fieldLink RX1 24 "StrideHeapModel" "cap" "I") (by decide +kernel)) (fun _ h9 => h9) rfl dX1_spread_13 ?_
  refine sr_cmp_ge (tgt := 59) hx hb (by omega) (by omega) dX1_spread_16 (by decide) (fun c1 => ?_) (fun c1 => ?_)
  · skip
    rcases fi_spec ft fp N with ⟨hf, -⟩ | ⟨b, hf, hbN, hbt, -⟩
    · skip
      rw [hf, sf_0] at hl
      refine lv_iload_n hx hb dX1_spread_59 rfl (lv_at hl 2 rfl) ?_
      refine lv_if_ge (tgt := 67) hx hb dX1_spread_60 (by decide) (fun z => absurd z (by decide)) (fun _ => ?_)
      refine lv_iconst (v := (-1)) hx hb dX1_spread_63 (by decide) ?_
      refine lv_goto (tgt := 76) hx hb dX1_spread_64 (by decide) ?_
      exact W.iret (v := (-1)) hx hb hr (fun t ht hW => ⟨⟨(-1), (), rfl, (by unfold sp_spread; rw [hf]), by rw [ht]; exact hP, hD⟩, hS.F ht⟩) hS.2.2 dX1_spread_76
    · skip
      rw [hf, sf_s] at hl
      refine lv_iload_n hx hb dX1_spread_59 rfl (lv_at hl 2 rfl) ?_
      refine sr_if_ge (tgt := 67) hx hb (by omega) dX1_spread_60 (by decide) ?_
      have hub : fp b ≤ sh_mx ft fp x := by rw [show x = N by omega]; exact mx_ub ft fp N b hbN hbt
      refine lv_lload_n hx hb dX1_spread_67 rfl (lv_at hl 1 rfl) ?_
      refine lv_aload_n hx hb dX1_spread_68 rfl (lv_at hl 3 rfl) ?_
      refine va_get (D := (dC, dI)) (ci := 1) (v := .ref bP) (C := RX1) (T := TX1) (N := 8) hx hb hts wiX1_spread hown hK hP 0 rfl rfl 4 (by decide) (hts (.fieldLink RX1 17 "StrideHeapModel" "pass" "[J") (by decide +kernel)) (fun _ h9 => h9) rfl dX1_spread_69 ?_
      refine lv_iload_n hx hb dX1_spread_72 rfl (lv_at hl 2 rfl) ?_
      refine sr_lald hx hb hK hP 3 2 rfl rfl (k := b) (by omega) (by omega) dX1_spread_73 ?_
      refine sr_lsub hx hb (by omega) dX1_spread_74 ?_
      refine lv_l2i hx hb dX1_spread_75 (lN_i _) ?_
      exact W.iret (v := nI ((sh_mx ft fp x) - (fp b))) hx hb hr (fun t ht hW => ⟨⟨nI ((sh_mx ft fp x) - (fp b)), (), rfl, (by unfold sp_spread; rw [hf, show x = N by omega]), by rw [ht]; exact hP, hD⟩, hS.F ht⟩) hS.2.2 dX1_spread_76
  · skip
    refine lv_aload_n hx hb dX1_spread_19 rfl (lv_at hl 3 rfl) ?_
    refine va_get (D := (dC, dI)) (ci := 1) (v := .ref bI) (C := RX1) (T := TX1) (N := 8) hx hb hts wiX1_spread hown hK hP 0 rfl rfl 2 (by decide) (hts (.fieldLink RX1 7 "StrideHeapModel" "in" "[Z") (by decide +kernel)) (fun _ h9 => h9) rfl dX1_spread_20 ?_
    refine lv_iload hx hb dX1_spread_23 (lv_at hl 0 rfl) ?_
    refine sr_zald hx hb hK hP 1 1 rfl rfl (k := x) (by omega) (by omega) dX1_spread_25 ?_
    refine sr_if_eq (tgt := 51) hx hb (in_lt ft x) dX1_spread_26 (by decide) (fun c2 => ?_) (fun c2 => ?_)
    · skip
      refine lv_lload_n hx hb dX1_spread_51 rfl (lv_at hl 1 rfl) ?_
      refine lv_lstore_n (lv' := [(2, .long (lN (sh_mx ft fp x))), (4, .int (nI x)), (1, .int (sf_i (sh_fi ft fp N))), (0, .ref k0)]) hx hb dX1_spread_52 rfl hl (by decide) rfl (fun ls hl => ?_)
      refine lv_iinc (v := nI (x + 1)) (lv' := [(4, .int (nI (x + 1))), (2, .long (lN (sh_mx ft fp x))), (1, .int (sf_i (sh_fi ft fp N))), (0, .ref k0)]) hx hb dX1_spread_53 hl (k := 1) rfl (nI_1 _) (by decide) rfl (fun ls hl => ?_)
      refine lv_goto (tgt := 10) hx hb dX1_spread_56 (by decide) ?_
      exact ih (x + 1) _ _ _ ⟨by omega, by omega, hP, hD, hS, by rw [mx_s0 (in_0.mp c2)]; exact lv_sub hl [0, 1, 2, 3] rfl⟩
    · skip
      have hpx := hfp x
      refine lv_aload_n hx hb dX1_spread_29 rfl (lv_at hl 3 rfl) ?_
      refine va_get (D := (dC, dI)) (ci := 1) (v := .ref bP) (C := RX1) (T := TX1) (N := 8) hx hb hts wiX1_spread hown hK hP 0 rfl rfl 4 (by decide) (hts (.fieldLink RX1 17 "StrideHeapModel" "pass" "[J") (by decide +kernel)) (fun _ h9 => h9) rfl dX1_spread_30 ?_
      refine lv_iload hx hb dX1_spread_33 (lv_at hl 0 rfl) ?_
      refine sr_lald hx hb hK hP 3 2 rfl rfl (k := x) (by omega) (by omega) dX1_spread_35 ?_
      refine lv_lload_n hx hb dX1_spread_36 rfl (lv_at hl 1 rfl) ?_
      refine sr_lle (tgt := 51) hx hb (by omega) (by omega) dX1_spread_37 dX1_spread_38 (by decide) (fun c3 => ?_) (fun c3 => ?_)
      · skip
        refine lv_lload_n hx hb dX1_spread_51 rfl (lv_at hl 1 rfl) ?_
        refine lv_lstore_n (lv' := [(2, .long (lN (sh_mx ft fp x))), (4, .int (nI x)), (1, .int (sf_i (sh_fi ft fp N))), (0, .ref k0)]) hx hb dX1_spread_52 rfl hl (by decide) rfl (fun ls hl => ?_)
        refine lv_iinc (v := nI (x + 1)) (lv' := [(4, .int (nI (x + 1))), (2, .long (lN (sh_mx ft fp x))), (1, .int (sf_i (sh_fi ft fp N))), (0, .ref k0)]) hx hb dX1_spread_53 hl (k := 1) rfl (nI_1 _) (by decide) rfl (fun ls hl => ?_)
        refine lv_goto (tgt := 10) hx hb dX1_spread_56 (by decide) ?_
        exact ih (x + 1) _ _ _ ⟨by omega, by omega, hP, hD, hS, by rw [mx_s1 c3]; exact lv_sub hl [0, 1, 2, 3] rfl⟩
      · skip
        refine lv_aload_n hx hb dX1_spread_41 rfl (lv_at hl 3 rfl) ?_
        refine va_get (D := (dC, dI)) (ci := 1) (v := .ref bP) (C := RX1) (T := TX1) (N := 8) hx hb hts wiX1_spread hown hK hP 0 rfl rfl 4 (by decide) (hts (.fieldLink RX1 17 "StrideHeapModel" "pass" "[J") (by decide +kernel)) (fun _ h9 => h9) rfl dX1_spread_42 ?_
        refine lv_iload hx hb dX1_spread_45 (lv_at hl 0 rfl) ?_
        refine sr_lald hx hb hK hP 3 2 rfl rfl (k := x) (by omega) (by omega) dX1_spread_47 ?_
        refine lv_goto (tgt := 52) hx hb dX1_spread_48 (by decide) ?_
        refine lv_lstore_n (lv' := [(2, .long (lN (fp x))), (4, .int (nI x)), (1, .int (sf_i (sh_fi ft fp N))), (0, .ref k0)]) hx hb dX1_spread_52 rfl hl (by decide) rfl (fun ls hl => ?_)
        refine lv_iinc (v := nI (x + 1)) (lv' := [(4, .int (nI (x + 1))), (2, .long (lN (fp x))), (1, .int (sf_i (sh_fi ft fp N))), (0, .ref k0)]) hx hb dX1_spread_53 hl (k := 1) rfl (nI_1 _) (by decide) rfl (fun ls hl => ?_)
        refine lv_goto (tgt := 10) hx hb dX1_spread_56 (by decide) ?_
        exact ih (x + 1) _ _ _ ⟨by omega, by omega, hP, hD, hS, by rw [mx_s2 (in_p.mp c2) c3]; exact lv_sub hl [0, 1, 2, 3] rfl⟩
set_option maxHeartbeats 4000000 in
set_option maxRecDepth 100000 in
/-- order(x) -/
theorem kX1_order (l : Launch) (dC : Nat → ClassId) (dI : Nat → Nat → Nat) (k0 bI bT bP bR : Nat) (cA cZ cJ : ClassId) (sz N big n lp : Nat) (ft fk fp fr : Nat → Nat) (hM : sh_M N big n lp ft fk fp) (hex : ∀ k, k < n → ∃ c, c < N ∧ 0 < ft c ∧ sh_rk ft fp c N = k) (x : Int32) : Met l yX1_order wsX1_order ({ frames := 1, cells := 0, slots := 0, locals := 22 }) (va_Pc [.ref k0, .int x] (sB dC dI (ty3 cA cZ cJ) sz (mw k0 bI bT bP bR cA cZ cJ N big n lp ft fk fp fr))) (va_Qi (fun (r : Int32) (_ : Unit) => (sh_ix n x = none ∧ r = (-1)) ∨ ∃ k c, k < n ∧ x = nI k ∧ c < N ∧ 0 < ft c ∧ sh_rk ft fp c N = k ∧ r = nI c) (fun _ => sE dC dI (va_A (mw k0 bI bT bP bR cA cZ cJ N big n lp ft fk fp fr) sz) (mw k0 bI bT bP bR cA cZ cJ N big n lp ft fk fp fr)) (va_A (mw k0 bI bT bP bR cA cZ cJ N big n lp ft fk fp fr) sz)) 0 0 (va_A (mw k0 bI bT bP bR cA cZ cJ N big n lp ft fk fp fr) sz) := by
  refine Met.ofW (cc := cX1_order) (maxL := 5) (ret := (some .int)) (by decide) rfl ?_
  intro p e s m args below meth c s₁ B hml hv
  obtain ⟨rfl, hsz, hP, hK, hD0⟩ := hv
  have hx := B.exec
  have hb := B.bytes
  have hr := B.returns
  have hts := atoms_spec (ws := wsX1_order) B.pre
  have hown : s.vm.findClass RX1 = some m.cls := findClass_of_methodNamed B.named
  have hlocks := B.notSynchronized
  subst hsz
  have hD := hD0.self (sz := s.heap.size)
  generalize hAe : va_A (mw k0 bI bT bP bR cA cZ cJ N big n lp ft fk fp fr) s.heap.size = A at hD ⊢
  have hA : ∀ q : Nat, s.heap.size ≤ q → A q := fun q h => by rw [← hAe]; exact Or.inr h
  have hS : va_S A s.heap s.heap [] := va_S.rf
  have hl := lv_entry ([.ref k0, .int x]) (n := 5) (Nat.le_of_ble_eq_true rfl)
  rw [lg_entry_eq]
  generalize (lg_sl ([.ref k0, .int x]) ++ List.replicate (5 - (lg_sl ([.ref k0, .int x])).length) Slot.unset).toArray = ls at hl ⊢
  have hl : lv_has ls 5 [(0, .ref k0), (1, .int x)] := hl
  obtain ⟨hN0, hN, hb2, hbig, hlp, hfp, hft, hfk, hnc⟩ := id hM
  have hnN : n ≤ N := by rw [hnc]; exact cnt_le ft N
  refine lv_iload_n hx hb dX1_order_0 rfl (lv_at hl 1 rfl) ?_
  refine lv_if_lt (tgt := 12) hx hb dX1_order_1 (by decide) (fun c1 => ?_) (fun c1 => ?_)
  · skip
    refine lv_iconst (v := (-1)) hx hb dX1_order_12 (by decide) ?_
    exact W.iret (v := (-1)) hx hb hr (fun t ht hW => ⟨⟨(-1), (), rfl, Or.inl ⟨ix_lo c1, rfl⟩, by rw [ht]; exact hP, hD⟩, hS.F ht⟩) hS.2.2 dX1_order_13
  · skip
    refine lv_iload_n hx hb dX1_order_4 rfl (lv_at hl 1 rfl) ?_
    refine lv_aload_n hx hb dX1_order_5 rfl (lv_at hl 0 rfl) ?_
    refine va_get (D := (dC, dI)) (ci := 1) (v := .int (nI n)) (C := RX1) (T := TX1) (N := 8) hx hb hts wiX1_order hown hK hP 0 rfl rfl 6 (by decide) (hts (.fieldLink RX1 50 "StrideHeapModel" "many" "I") (by decide +kernel)) (fun _ h9 => h9) rfl dX1_order_6 ?_
    refine lv_icmp_lt (tgt := 14) hx hb dX1_order_9 (by decide) (fun c2 => ?_) (fun c2 => ?_)
    · skip
      obtain ⟨k, hk, rfl⟩ := ix_yes c1 (fun z => Int32.not_lt.mpr z c2) (by omega)
      refine lv_iconst (v := nI 0) hx hb dX1_order_14 (by decide) ?_
      refine lv_istore_n (lv' := [(2, .int (nI 0)), (0, .ref k0), (1, .int (nI k))]) hx hb dX1_order_15 rfl hl (by decide) rfl (fun ls hl => ?_)
      refine sl_loop (fun d (x : Nat) H locs ls => N + 1 ≤ x + d ∧ x ≤ N ∧ (∀ c, c < x → 0 < ft c → sh_rk ft fp c N ≠ k) ∧ va_P (dC, dI) vwCl (mw k0 bI bT bP bR cA cZ cJ N big n lp ft fk fp fr) H ∧ va_D A (mw k0 bI bT bP bR cA cZ cJ N big n lp ft fk fp fr) ∧ va_S A s.heap H locs ∧ lv_has ls 5 [(2, .int (nI x)), (0, .ref k0), (1, .int (nI k))]) (fun x H locs ls h => by omega) ?_ (N + 1) 0 _ _ _ ⟨by omega, by omega, fun c h => absurd h (Nat.not_lt_zero _), hP, hD, hS, lv_sub hl [0, 1, 2] rfl⟩
      intro d x H locs ls ih hI
      obtain ⟨h1, h2, h3, hP, hD, hS, hl⟩ := hI
      refine lv_iload_n hx hb dX1_order_16 rfl (lv_at hl 0 rfl) ?_
      refine lv_aload_n hx hb dX1_order_17 rfl (lv_at hl 1 rfl) ?_
      refine va_get (D := (dC, dI)) (ci := 1) (v := .int (nI N)) (C := RX1) (T := TX1) (N := 8) hx hb hts wiX1_order hown hK hP 0 rfl rfl 0 (by decide) (hts (.fieldLink RX1 24 "StrideHeapModel" "cap" "I") (by decide +kernel)) (fun _ h9 => h9) rfl dX1_order_18 ?_
      refine sr_cmp_ge (tgt := 109) hx hb (by omega) (by omega) dX1_order_21 (by decide) (fun c3 => ?_) (fun c3 => ?_)
      · skip
        obtain ⟨z, hz1, hz2, hz3⟩ := hex k hk
        exact absurd hz3 (h3 z (by omega) hz2)
      · skip
        refine lv_iconst (v := nI 0) hx hb dX1_order_24 (by decide) ?_
        refine lv_istore_n (lv' := [(3, .int (nI 0)), (2, .int (nI x)), (0, .ref k0), (1, .int (nI k))]) hx hb dX1_order_25 rfl hl (by decide) rfl (fun ls hl => ?_)
        refine lv_iconst (v := nI 0) hx hb dX1_order_26 (by decide) ?_
        refine lv_istore (lv' := [(4, .int (nI 0)), (3, .int (nI 0)), (2, .int (nI x)), (0, .ref k0), (1, .int (nI k))]) hx hb dX1_order_27 hl (by decide) rfl (fun ls hl => ?_)
        refine sl_loop (fun d (y : Nat) H locs ls => N + 1 ≤ y + d ∧ y ≤ N ∧ va_P (dC, dI) vwCl (mw k0 bI bT bP bR cA cZ cJ N big n lp ft fk fp fr) H ∧ va_D A (mw k0 bI bT bP bR cA cZ cJ N big n lp ft fk fp fr) ∧ va_S A s.heap H locs ∧ lv_has ls 5 [(4, .int (nI y)), (3, .int (nI (sh_rk ft fp x y))), (2, .int (nI x)), (0, .ref k0), (1, .int (nI k))]) (fun y H locs ls h => by omega) ?_ (N + 1) 0 _ _ _ ⟨by omega, by omega, hP, hD, hS, lv_sub hl [0, 1, 2, 3, 4] rfl⟩
        intro d2 y H locs ls ih2 hI2
        obtain ⟨g1, g2, hP, hD, hS, hl⟩ := hI2
        have hrk := rk_le ft fp x y
        refine lv_iload hx hb dX1_order_29 (lv_at hl 0 rfl) ?_
        refine lv_aload_n hx hb dX1_order_31 rfl (lv_at hl 3 rfl) ?_
        refine va_get (D := (dC, dI)) (ci := 1) (v := .int (nI N)) (C := RX1) (T := TX1) (N := 8) hx hb hts wiX1_order hown hK hP 0 rfl rfl 0 (by decide) (hts (.fieldLink RX1 24 "StrideHeapModel" "cap" "I") (by decide +kernel)) (fun _ h9 => h9) rfl dX1_order_32 ?_
        refine sr_cmp_ge (tgt := 87) hx hb (by omega) (by omega) dX1_order_35 (by decide) (fun c4 => ?_) (fun c4 => ?_)
        · skip
          refine lv_aload_n hx hb dX1_order_87 rfl (lv_at hl 3 rfl) ?_
          refine va_get (D := (dC, dI)) (ci := 1) (v := .ref bI) (C := RX1) (T := TX1) (N := 8) hx hb hts wiX1_order hown hK hP 0 rfl rfl 2 (by decide) (hts (.fieldLink RX1 7 "StrideHeapModel" "in" "[Z") (by decide +kernel)) (fun _ h9 => h9) rfl dX1_order_88 ?_
          refine lv_iload_n hx hb dX1_order_91 rfl (lv_at hl 2 rfl) ?_
          refine sr_zald hx hb hK hP 1 1 rfl rfl (k := x) (by omega) (by omega) dX1_order_92 ?_
          refine sr_if_eq (tgt := 103) hx hb (in_lt ft x) dX1_order_93 (by decide) (fun c5 => ?_) (fun c5 => ?_)
          · skip
            refine lv_iinc (v := nI (x + 1)) (lv' := [(2, .int (nI (x + 1))), (4, .int (nI y)), (3, .int (nI (sh_rk ft fp x y))), (0, .ref k0), (1, .int (nI k))]) hx hb dX1_order_103 hl (k := 2) rfl (nI_1 _) (by decide) rfl (fun ls hl => ?_)
            refine lv_goto (tgt := 16) hx hb dX1_order_106 (by decide) ?_
            exact ih (x + 1) _ _ _ ⟨by omega, by omega, fun z hz hz2 => by
              rcases Nat.lt_or_ge z x with q | q
              · exact h3 z q hz2
              · have hzx : z = x := by omega
                subst hzx
                exact absurd (in_0.mp c5) (by omega), hP, hD, hS, lv_sub hl [0, 3, 4] rfl⟩
          · skip
            refine lv_iload_n hx hb dX1_order_96 rfl (lv_at hl 1 rfl) ?_
            refine lv_iload_n hx hb dX1_order_97 rfl (lv_at hl 4 rfl) ?_
            refine sr_cmp_ne (tgt := 103) hx hb (by omega) (by omega) dX1_order_98 (by decide) (fun c6 => ?_) (fun c6 => ?_)
            · skip
              refine lv_iinc (v := nI (x + 1)) (lv' := [(2, .int (nI (x + 1))), (4, .int (nI y)), (3, .int (nI (sh_rk ft fp x y))), (0, .ref k0), (1, .int (nI k))]) hx hb dX1_order_103 hl (k := 2) rfl (nI_1 _) (by decide) rfl (fun ls hl => ?_)
              refine lv_goto (tgt := 16) hx hb dX1_order_106 (by decide) ?_
              exact ih (x + 1) _ _ _ ⟨by omega, by omega, fun z hz hz2 => by
                rcases Nat.lt_or_ge z x with q | q
                · exact h3 z q hz2
                · have hzx : z = x := by omega
                  subst hzx
                  rw [← show y = N by omega]; exact c6, hP, hD, hS, lv_sub hl [0, 3, 4] rfl⟩
            · skip
              refine lv_iload_n hx hb dX1_order_101 rfl (lv_at hl 2 rfl) ?_
              exact W.iret (v := nI x) hx hb hr (fun t ht hW => ⟨⟨nI x, (), rfl, Or.inr ⟨k, x, hk, rfl, c3, in_p.mp c5, by rw [← show y = N by omega]; exact c6, rfl⟩, by rw [ht]; exact hP, hD⟩, hS.F ht⟩) hS.2.2 dX1_order_102
        · skip
          refine lv_aload_n hx hb dX1_order_38 rfl (lv_at hl 3 rfl) ?_
          refine va_get (D := (dC, dI)) (ci := 1) (v := .ref bI) (C := RX1) (T := TX1) (N := 8) hx hb hts wiX1_order hown hK hP 0 rfl rfl 2 (by decide) (hts (.fieldLink RX1 7 "StrideHeapModel" "in" "[Z") (by decide +kernel)) (fun _ h9 => h9) rfl dX1_order_39 ?_
          refine lv_iload_n hx hb dX1_order_42 rfl (lv_at hl 2 rfl) ?_
          refine sr_zald hx hb hK hP 1 1 rfl rfl (k := x) (by omega) (by omega) dX1_order_43 ?_
          refine sr_if_eq (tgt := 79) hx hb (in_lt ft x) dX1_order_44 (by decide) (fun c5 => ?_) (fun c5 => ?_)
          · skip
            refine lv_iload_n hx hb dX1_order_79 rfl (lv_at hl 1 rfl) ?_
            refine lv_istore_n (lv' := [(3, .int (nI (sh_rk ft fp x y))), (4, .int (nI y)), (2, .int (nI x)), (0, .ref k0), (1, .int (nI k))]) hx hb dX1_order_80 rfl hl (by decide) rfl (fun ls hl => ?_)
            refine lv_iinc (v := nI (y + 1)) (lv' := [(4, .int (nI (y + 1))), (3, .int (nI (sh_rk ft fp x y))), (2, .int (nI x)), (0, .ref k0), (1, .int (nI k))]) hx hb dX1_order_81 hl (k := 1) rfl (nI_1 _) (by decide) rfl (fun ls hl => ?_)
            refine lv_goto (tgt := 29) hx hb dX1_order_84 (by decide) ?_
            exact ih2 (y + 1) _ _ _ ⟨by omega, by omega, hP, hD, hS, by rw [rk_s0 (fun z => absurd (in_0.mp c5) (by omega))]; exact lv_sub hl [0, 1, 2, 3, 4] rfl⟩
          · skip
            refine lv_aload_n hx hb dX1_order_47 rfl (lv_at hl 3 rfl) ?_
            refine va_get (D := (dC, dI)) (ci := 1) (v := .ref bI) (C := RX1) (T := TX1) (N := 8) hx hb hts wiX1_order hown hK hP 0 rfl rfl 2 (by decide) (hts (.fieldLink RX1 7 "StrideHeapModel" "in" "[Z") (by decide +kernel)) (fun _ h9 => h9) rfl dX1_order_48 ?_
            refine lv_iload hx hb dX1_order_51 (lv_at hl 0 rfl) ?_
            refine sr_zald hx hb hK hP 1 1 rfl rfl (k := y) (by omega) (by omega) dX1_order_53 ?_
            refine sr_if_eq (tgt := 79) hx hb (in_lt ft y) dX1_order_54 (by decide) (fun c6 => ?_) (fun c6 => ?_)
            · skip
              refine lv_iload_n hx hb dX1_order_79 rfl (lv_at hl 1 rfl) ?_
              refine lv_istore_n (lv' := [(3, .int (nI (sh_rk ft fp x y))), (4, .int (nI y)), (2, .int (nI x)), (0, .ref k0), (1, .int (nI k))]) hx hb dX1_order_80 rfl hl (by decide) rfl (fun ls hl => ?_)
              refine lv_iinc (v := nI (y + 1)) (lv' := [(4, .int (nI (y + 1))), (3, .int (nI (sh_rk ft fp x y))), (2, .int (nI x)), (0, .ref k0), (1, .int (nI k))]) hx hb dX1_order_81 hl (k := 1) rfl (nI_1 _) (by decide) rfl (fun ls hl => ?_)
              refine lv_goto (tgt := 29) hx hb dX1_order_84 (by decide) ?_
              exact ih2 (y + 1) _ _ _ ⟨by omega, by omega, hP, hD, hS, by rw [rk_s0 (fun z => absurd (in_0.mp c6) (by omega))]; exact lv_sub hl [0, 1, 2, 3, 4] rfl⟩
            · skip
              refine lv_iload hx hb dX1_order_57 (lv_at hl 0 rfl) ?_
              refine lv_iload_n hx hb dX1_order_59 rfl (lv_at hl 2 rfl) ?_
              refine sr_cmp_eq (tgt := 79) hx hb (by omega) (by omega) dX1_order_60 (by decide) (fun c7 => ?_) (fun c7 => ?_)
              · skip
                refine lv_iload_n hx hb dX1_order_79 rfl (lv_at hl 1 rfl) ?_
                refine lv_istore_n (lv' := [(3, .int (nI (sh_rk ft fp x y))), (4, .int (nI y)), (2, .int (nI x)), (0, .ref k0), (1, .int (nI k))]) hx hb dX1_order_80 rfl hl (by decide) rfl (fun ls hl => ?_)
                refine lv_iinc (v := nI (y + 1)) (lv' := [(4, .int (nI (y + 1))), (3, .int (nI (sh_rk ft fp x y))), (2, .int (nI x)), (0, .ref k0), (1, .int (nI k))]) hx hb dX1_order_81 hl (k := 1) rfl (nI_1 _) (by decide) rfl (fun ls hl => ?_)
                refine lv_goto (tgt := 29) hx hb dX1_order_84 (by decide) ?_
                exact ih2 (y + 1) _ _ _ ⟨by omega, by omega, hP, hD, hS, by rw [rk_s0 (fun z => z.2.2.1 c7)]; exact lv_sub hl [0, 1, 2, 3, 4] rfl⟩
              · skip
                refine lv_aload_n hx hb dX1_order_63 rfl (lv_at hl 3 rfl) ?_
                refine lv_iload hx hb dX1_order_64 (lv_at hl 0 rfl) ?_
                refine lv_iload_n hx hb dX1_order_66 rfl (lv_at hl 2 rfl) ?_
                refine sc_i (wr := []) (wc := mw k0 bI bT bP bR cA cZ cJ N big n lp ft fk fp fr) (As := [.int (nI y), .int (nI x)]) (rest := []) ⟨hx, hb, hml, hown, hts⟩ (kX1_isBefore l dC dI k0 bI bT bP bR cA cZ cJ H.size N big n lp ft fk fp fr hN hfp y x c4 c3) (cwV 2 hts gX1_order_X1_isBefore rfl rfl rfl (by decide +kernel) ⟨Nat.le_of_ble_eq_true rfl, Nat.le_of_ble_eq_true rfl⟩) hK hP hD hS hA (va_recv hK hP (ci := 1) (q0 := 0) rfl rfl) rfl hl.1 rfl (Nat.le_of_ble_eq_true rfl) dX1_order_67 ⟨Nat.zero_le _, Nat.zero_le _⟩ (fun r _ H locs hw hP hD hS => ?_)
                rcases hw with ⟨hbf, rfl⟩ | ⟨hbf, rfl⟩
                · skip
                  refine sr_if_eq (tgt := 79) hx hb (by decide) dX1_order_70 (by decide) (fun q => absurd q (by decide)) (fun _ => ?_)
                  refine lv_iload_n hx hb dX1_order_73 rfl (lv_at hl 1 rfl) ?_
                  refine lv_iconst (v := nI 1) hx hb dX1_order_74 (by decide) ?_
                  refine sr_iadd hx hb dX1_order_75 ?_
                  refine lv_goto (tgt := 80) hx hb dX1_order_76 (by decide) ?_
                  refine lv_istore_n (lv' := [(3, .int (nI ((sh_rk ft fp x y) + 1))), (4, .int (nI y)), (2, .int (nI x)), (0, .ref k0), (1, .int (nI k))]) hx hb dX1_order_80 rfl hl (by decide) rfl (fun ls hl => ?_)
                  refine lv_iinc (v := nI (y + 1)) (lv' := [(4, .int (nI (y + 1))), (3, .int (nI ((sh_rk ft fp x y) + 1))), (2, .int (nI x)), (0, .ref k0), (1, .int (nI k))]) hx hb dX1_order_81 hl (k := 1) rfl (nI_1 _) (by decide) rfl (fun ls hl => ?_)
                  refine lv_goto (tgt := 29) hx hb dX1_order_84 (by decide) ?_
                  exact ih2 (y + 1) _ _ _ ⟨by omega, by omega, hP, hD, hS, by rw [rk_s1 ⟨in_p.mp c5, in_p.mp c6, c7, hbf⟩]; exact lv_sub hl [0, 1, 2, 3, 4] rfl⟩
                · skip
                  refine sr_if_eq (tgt := 79) hx hb (by decide) dX1_order_70 (by decide) (fun _ => ?_) (fun q => absurd q (by decide))
                  refine lv_iload_n hx hb dX1_order_79 rfl (lv_at hl 1 rfl) ?_
                  refine lv_istore_n (lv' := [(3, .int (nI (sh_rk ft fp x y))), (4, .int (nI y)), (2, .int (nI x)), (0, .ref k0), (1, .int (nI k))]) hx hb dX1_order_80 rfl hl (by decide) rfl (fun ls hl => ?_)
                  refine lv_iinc (v := nI (y + 1)) (lv' := [(4, .int (nI (y + 1))), (3, .int (nI (sh_rk ft fp x y))), (2, .int (nI x)), (0, .ref k0), (1, .int (nI k))]) hx hb dX1_order_81 hl (k := 1) rfl (nI_1 _) (by decide) rfl (fun ls hl => ?_)
                  refine lv_goto (tgt := 29) hx hb dX1_order_84 (by decide) ?_
                  exact ih2 (y + 1) _ _ _ ⟨by omega, by omega, hP, hD, hS, by rw [rk_s0 (fun z => hbf z.2.2.2)]; exact lv_sub hl [0, 1, 2, 3, 4] rfl⟩
    · skip
      refine lv_iconst (v := (-1)) hx hb dX1_order_12 (by decide) ?_
      exact W.iret (v := (-1)) hx hb hr (fun t ht hW => ⟨⟨(-1), (), rfl, Or.inl ⟨ix_hi (Int32.not_lt.mp c2), rfl⟩, by rw [ht]; exact hP, hD⟩, hS.F ht⟩) hS.2.2 dX1_order_13
