-- THE CLASS: methods that call nothing
set_option maxHeartbeats 4000000 in
set_option maxRecDepth 100000 in
/-- isClient(x) -/
theorem kX0_isClient (l : Launch) (dC : Nat → ClassId) (dI : Nat → Nat → Nat) (h0 aT aS aP aR aL : Nat) (cA cZ cJ : ClassId) (sz N big n lp : Nat) (ft fs fp fr fl : Nat → Nat) (hN : N ≤ 64) (x : Int32) : Met l yX0_isClient wsX0_isClient ({ frames := 0, cells := 0, slots := 0, locals := 0 }) (va_Pc [.ref h0, .int x] (sB dC dI (ty3 cA cZ cJ) sz (sw h0 aT aS aP aR aL cA N big n lp ft fs fp fr fl))) (va_Qi (fun (r : Int32) (_ : Unit) => (sh_ix N x = none ∧ r = nI 0) ∨ ∃ j, j < N ∧ x = nI j ∧ r = nI 1) (fun _ => sE dC dI (va_A (sw h0 aT aS aP aR aL cA N big n lp ft fs fp fr fl) sz) (sw h0 aT aS aP aR aL cA N big n lp ft fs fp fr fl)) (va_A (sw h0 aT aS aP aR aL cA N big n lp ft fs fp fr fl) sz)) 0 0 (va_A (sw h0 aT aS aP aR aL cA N big n lp ft fs fp fr fl) sz) := by
  refine Met.ofW (cc := cX0_isClient) (maxL := 2) (ret := (some .boolean)) (by decide) rfl ?_
  intro p e s m args below meth c s₁ B hml hv
  obtain ⟨rfl, hsz, hP, hK, hD0⟩ := hv
  have hx := B.exec
  have hb := B.bytes
  have hr := B.returns
  have hts := atoms_spec (ws := wsX0_isClient) B.pre
  have hown : s.vm.findClass RX0 = some m.cls := findClass_of_methodNamed B.named
  have hlocks := B.notSynchronized
  subst hsz
  have hD := hD0.self (sz := s.heap.size)
  generalize hAe : va_A (sw h0 aT aS aP aR aL cA N big n lp ft fs fp fr fl) s.heap.size = A at hD ⊢
  have hA : ∀ q : Nat, s.heap.size ≤ q → A q := fun q h => by rw [← hAe]; exact Or.inr h
  have hS : va_S A s.heap s.heap [] := va_S.rf
  have hl := lv_entry ([.ref h0, .int x]) (n := 2) (Nat.le_of_ble_eq_true rfl)
  rw [lg_entry_eq]
  generalize (lg_sl ([.ref h0, .int x]) ++ List.replicate (2 - (lg_sl ([.ref h0, .int x])).length) Slot.unset).toArray = ls at hl ⊢
  have hl : lv_has ls 2 [(0, .ref h0), (1, .int x)] := hl
  refine lv_iload_n hx hb dX0_isClient_0 rfl (lv_at hl 1 rfl) ?_
  refine lv_if_lt (tgt := 16) hx hb dX0_isClient_1 (by decide) (fun c1 => ?_) (fun c1 => ?_)
  · skip
    refine lv_iconst (v := nI 0) hx hb dX0_isClient_16 (by decide) ?_
    exact W.zret (v := nI 0) hx hb hr (by rfl) (fun t ht hW => ⟨⟨nI 0, (), rfl, Or.inl ⟨ix_lo c1, rfl⟩, by rw [ht]; exact hP, hD⟩, hS.F ht⟩) hS.2.2 dX0_isClient_17
  · skip
    refine lv_iload_n hx hb dX0_isClient_4 rfl (lv_at hl 1 rfl) ?_
    refine lv_aload_n hx hb dX0_isClient_5 rfl (lv_at hl 0 rfl) ?_
    refine va_get (D := (dC, dI)) (ci := 0) (v := .int (nI N)) (C := RX0) (T := TX0) (N := 9) hx hb hts wiX0_isClient hown hK hP 0 rfl rfl 0 (by decide) (hts (.fieldLink RX0 15 "StrideHeap" "cap" "I") (by decide +kernel)) (fun _ h9 => h9) rfl dX0_isClient_6 ?_
    refine lv_icmp_ge (tgt := 16) hx hb dX0_isClient_9 (by decide) (fun c2 => ?_) (fun c2 => ?_)
    · skip
      refine lv_iconst (v := nI 0) hx hb dX0_isClient_16 (by decide) ?_
      exact W.zret (v := nI 0) hx hb hr (by rfl) (fun t ht hW => ⟨⟨nI 0, (), rfl, Or.inl ⟨ix_hi c2, rfl⟩, by rw [ht]; exact hP, hD⟩, hS.F ht⟩) hS.2.2 dX0_isClient_17
    · skip
      refine lv_iconst (v := nI 1) hx hb dX0_isClient_12 (by decide) ?_
      refine lv_goto (tgt := 17) hx hb dX0_isClient_13 (by decide) ?_
      exact W.zret (v := nI 1) hx hb hr (by rfl) (fun t ht hW => ⟨⟨nI 1, (), rfl, (by obtain ⟨j, hj, e⟩ := ix_yes c1 c2 (by omega); exact Or.inr ⟨j, hj, e, rfl⟩), by rw [ht]; exact hP, hD⟩, hS.F ht⟩) hS.2.2 dX0_isClient_17
set_option maxHeartbeats 4000000 in
set_option maxRecDepth 100000 in
/-- isIn(j) -/
theorem kX0_isIn (l : Launch) (dC : Nat → ClassId) (dI : Nat → Nat → Nat) (h0 aT aS aP aR aL : Nat) (cA cZ cJ : ClassId) (sz N big n lp : Nat) (ft fs fp fr fl : Nat → Nat) (hN : N ≤ 64) (hft : ∀ c, ft c < 2 ^ 31) (j : Nat) (hj : j < N) : Met l yX0_isIn wsX0_isIn ({ frames := 0, cells := 0, slots := 0, locals := 0 }) (va_Pc [.ref h0, .int (nI j)] (sB dC dI (ty3 cA cZ cJ) sz (sw h0 aT aS aP aR aL cA N big n lp ft fs fp fr fl))) (va_Qi (fun (r : Int32) (_ : Unit) => (ft j = 0 ∧ r = nI 0) ∨ (0 < ft j ∧ r = nI 1)) (fun _ => sE dC dI (va_A (sw h0 aT aS aP aR aL cA N big n lp ft fs fp fr fl) sz) (sw h0 aT aS aP aR aL cA N big n lp ft fs fp fr fl)) (va_A (sw h0 aT aS aP aR aL cA N big n lp ft fs fp fr fl) sz)) 0 0 (va_A (sw h0 aT aS aP aR aL cA N big n lp ft fs fp fr fl) sz) := by
  refine Met.ofW (cc := cX0_isIn) (maxL := 2) (ret := (some .boolean)) (by decide) rfl ?_
  intro p e s m args below meth c s₁ B hml hv
  obtain ⟨rfl, hsz, hP, hK, hD0⟩ := hv
  have hx := B.exec
  have hb := B.bytes
  have hr := B.returns
  have hts := atoms_spec (ws := wsX0_isIn) B.pre
  have hown : s.vm.findClass RX0 = some m.cls := findClass_of_methodNamed B.named
  have hlocks := B.notSynchronized
  subst hsz
  have hD := hD0.self (sz := s.heap.size)
  generalize hAe : va_A (sw h0 aT aS aP aR aL cA N big n lp ft fs fp fr fl) s.heap.size = A at hD ⊢
  have hA : ∀ q : Nat, s.heap.size ≤ q → A q := fun q h => by rw [← hAe]; exact Or.inr h
  have hS : va_S A s.heap s.heap [] := va_S.rf
  have hl := lv_entry ([.ref h0, .int (nI j)]) (n := 2) (Nat.le_of_ble_eq_true rfl)
  rw [lg_entry_eq]
  generalize (lg_sl ([.ref h0, .int (nI j)]) ++ List.replicate (2 - (lg_sl ([.ref h0, .int (nI j)])).length) Slot.unset).toArray = ls at hl ⊢
  have hl : lv_has ls 2 [(0, .ref h0), (1, .int (nI j))] := hl
  refine lv_aload_n hx hb dX0_isIn_0 rfl (lv_at hl 0 rfl) ?_
  refine va_get (D := (dC, dI)) (ci := 0) (v := .ref aT) (C := RX0) (T := TX0) (N := 9) hx hb hts wiX0_isIn hown hK hP 0 rfl rfl 2 (by decide) (hts (.fieldLink RX0 22 "StrideHeap" "ticketsOf" "[I") (by decide +kernel)) (fun _ h9 => h9) rfl dX0_isIn_1 ?_
  refine lv_iload_n hx hb dX0_isIn_4 rfl (lv_at hl 1 rfl) ?_
  refine sr_ald hx hb hK hP 1 0 rfl rfl (k := j) hj (by omega) dX0_isIn_5 ?_
  refine sr_if_le (tgt := 13) hx hb (hft j) dX0_isIn_6 (by decide) (fun c1 => ?_) (fun c1 => ?_)
  · skip
    refine lv_iconst (v := nI 0) hx hb dX0_isIn_13 (by decide) ?_
    exact W.zret (v := nI 0) hx hb hr (by rfl) (fun t ht hW => ⟨⟨nI 0, (), rfl, Or.inl ⟨c1, rfl⟩, by rw [ht]; exact hP, hD⟩, hS.F ht⟩) hS.2.2 dX0_isIn_14
  · skip
    refine lv_iconst (v := nI 1) hx hb dX0_isIn_9 (by decide) ?_
    refine lv_goto (tgt := 14) hx hb dX0_isIn_10 (by decide) ?_
    exact W.zret (v := nI 1) hx hb hr (by rfl) (fun t ht hW => ⟨⟨nI 1, (), rfl, Or.inr ⟨c1, rfl⟩, by rw [ht]; exact hP, hD⟩, hS.F ht⟩) hS.2.2 dX0_isIn_14
set_option maxHeartbeats 4000000 in
set_option maxRecDepth 100000 in
/-- areTickets(y) -/
theorem kX0_areTickets (l : Launch) (dC : Nat → ClassId) (dI : Nat → Nat → Nat) (h0 aT aS aP aR aL : Nat) (cA cZ cJ : ClassId) (sz N big n lp : Nat) (ft fs fp fr fl : Nat → Nat) (hbig : big ≤ 32768) (y : Int32) : Met l yX0_areTickets wsX0_areTickets ({ frames := 0, cells := 0, slots := 0, locals := 0 }) (va_Pc [.ref h0, .int y] (sB dC dI (ty3 cA cZ cJ) sz (sw h0 aT aS aP aR aL cA N big n lp ft fs fp fr fl))) (va_Qi (fun (r : Int32) (_ : Unit) => ((sh_ix big y = none ∨ sh_ix big y = some 0) ∧ r = nI 0) ∨ ∃ k, 0 < k ∧ k < big ∧ y = nI k ∧ r = nI 1) (fun _ => sE dC dI (va_A (sw h0 aT aS aP aR aL cA N big n lp ft fs fp fr fl) sz) (sw h0 aT aS aP aR aL cA N big n lp ft fs fp fr fl)) (va_A (sw h0 aT aS aP aR aL cA N big n lp ft fs fp fr fl) sz)) 0 0 (va_A (sw h0 aT aS aP aR aL cA N big n lp ft fs fp fr fl) sz) := by
  refine Met.ofW (cc := cX0_areTickets) (maxL := 2) (ret := (some .boolean)) (by decide) rfl ?_
  intro p e s m args below meth c s₁ B hml hv
  obtain ⟨rfl, hsz, hP, hK, hD0⟩ := hv
  have hx := B.exec
  have hb := B.bytes
  have hr := B.returns
  have hts := atoms_spec (ws := wsX0_areTickets) B.pre
  have hown : s.vm.findClass RX0 = some m.cls := findClass_of_methodNamed B.named
  have hlocks := B.notSynchronized
  subst hsz
  have hD := hD0.self (sz := s.heap.size)
  generalize hAe : va_A (sw h0 aT aS aP aR aL cA N big n lp ft fs fp fr fl) s.heap.size = A at hD ⊢
  have hA : ∀ q : Nat, s.heap.size ≤ q → A q := fun q h => by rw [← hAe]; exact Or.inr h
  have hS : va_S A s.heap s.heap [] := va_S.rf
  have hl := lv_entry ([.ref h0, .int y]) (n := 2) (Nat.le_of_ble_eq_true rfl)
  rw [lg_entry_eq]
  generalize (lg_sl ([.ref h0, .int y]) ++ List.replicate (2 - (lg_sl ([.ref h0, .int y])).length) Slot.unset).toArray = ls at hl ⊢
  have hl : lv_has ls 2 [(0, .ref h0), (1, .int y)] := hl
  refine lv_iload_n hx hb dX0_areTickets_0 rfl (lv_at hl 1 rfl) ?_
  refine lv_iconst (v := nI 1) hx hb dX0_areTickets_1 (by decide) ?_
  refine lv_icmp_lt (tgt := 17) hx hb dX0_areTickets_2 (by decide) (fun c1 => ?_) (fun c1 => ?_)
  · skip
    refine lv_iconst (v := nI 0) hx hb dX0_areTickets_17 (by decide) ?_
    exact W.zret (v := nI 0) hx hb hr (by rfl) (fun t ht hW => ⟨⟨nI 0, (), rfl, Or.inl ⟨tk_lt (by omega) c1, rfl⟩, by rw [ht]; exact hP, hD⟩, hS.F ht⟩) hS.2.2 dX0_areTickets_18
  · skip
    refine lv_iload_n hx hb dX0_areTickets_5 rfl (lv_at hl 1 rfl) ?_
    refine lv_aload_n hx hb dX0_areTickets_6 rfl (lv_at hl 0 rfl) ?_
    refine va_get (D := (dC, dI)) (ci := 0) (v := .int (nI big)) (C := RX0) (T := TX0) (N := 9) hx hb hts wiX0_areTickets hown hK hP 0 rfl rfl 1 (by decide) (hts (.fieldLink RX0 19 "StrideHeap" "big" "I") (by decide +kernel)) (fun _ h9 => h9) rfl dX0_areTickets_7 ?_
    refine lv_icmp_ge (tgt := 17) hx hb dX0_areTickets_10 (by decide) (fun c2 => ?_) (fun c2 => ?_)
    · skip
      refine lv_iconst (v := nI 0) hx hb dX0_areTickets_17 (by decide) ?_
      exact W.zret (v := nI 0) hx hb hr (by rfl) (fun t ht hW => ⟨⟨nI 0, (), rfl, Or.inl ⟨Or.inl (ix_hi c2), rfl⟩, by rw [ht]; exact hP, hD⟩, hS.F ht⟩) hS.2.2 dX0_areTickets_18
    · skip
      refine lv_iconst (v := nI 1) hx hb dX0_areTickets_13 (by decide) ?_
      refine lv_goto (tgt := 18) hx hb dX0_areTickets_14 (by decide) ?_
      exact W.zret (v := nI 1) hx hb hr (by rfl) (fun t ht hW => ⟨⟨nI 1, (), rfl, (by obtain ⟨k, h1, h2, e⟩ := tk_ok (by omega) c1 c2; exact Or.inr ⟨k, h1, h2, e, rfl⟩), by rw [ht]; exact hP, hD⟩, hS.F ht⟩) hS.2.2 dX0_areTickets_18
set_option maxHeartbeats 4000000 in
set_option maxRecDepth 100000 in
/-- joiningPass() -/
theorem kX0_joiningPass (l : Launch) (dC : Nat → ClassId) (dI : Nat → Nat → Nat) (h0 aT aS aP aR aL : Nat) (cA cZ cJ : ClassId) (sz N big n lp : Nat) (ft fs fp fr fl : Nat → Nat) (hN : N ≤ 64) (hn : n ≤ N) (hfl : 0 < n → fl 0 < N) : Met l yX0_joiningPass wsX0_joiningPass ({ frames := 0, cells := 0, slots := 0, locals := 0 }) (va_Pc [.ref h0] (sB dC dI (ty3 cA cZ cJ) sz (sw h0 aT aS aP aR aL cA N big n lp ft fs fp fr fl))) (va_Qi (fun (r : Int32) (_ : Unit) => r = nI (if n = 0 then lp else fp (fl 0))) (fun _ => sE dC dI (va_A (sw h0 aT aS aP aR aL cA N big n lp ft fs fp fr fl) sz) (sw h0 aT aS aP aR aL cA N big n lp ft fs fp fr fl)) (va_A (sw h0 aT aS aP aR aL cA N big n lp ft fs fp fr fl) sz)) 0 0 (va_A (sw h0 aT aS aP aR aL cA N big n lp ft fs fp fr fl) sz) := by
  refine Met.ofW (cc := cX0_joiningPass) (maxL := 1) (ret := (some .int)) (by decide) rfl ?_
  intro p e s m args below meth c s₁ B hml hv
  obtain ⟨rfl, hsz, hP, hK, hD0⟩ := hv
  have hx := B.exec
  have hb := B.bytes
  have hr := B.returns
  have hts := atoms_spec (ws := wsX0_joiningPass) B.pre
  have hown : s.vm.findClass RX0 = some m.cls := findClass_of_methodNamed B.named
  have hlocks := B.notSynchronized
  subst hsz
  have hD := hD0.self (sz := s.heap.size)
  generalize hAe : va_A (sw h0 aT aS aP aR aL cA N big n lp ft fs fp fr fl) s.heap.size = A at hD ⊢
  have hA : ∀ q : Nat, s.heap.size ≤ q → A q := fun q h => by rw [← hAe]; exact Or.inr h
  have hS : va_S A s.heap s.heap [] := va_S.rf
  have hl := lv_entry ([.ref h0]) (n := 1) (Nat.le_of_ble_eq_true rfl)
  rw [lg_entry_eq]
  generalize (lg_sl ([.ref h0]) ++ List.replicate (1 - (lg_sl ([.ref h0])).length) Slot.unset).toArray = ls at hl ⊢
  have hl : lv_has ls 1 [(0, .ref h0)] := hl
  refine lv_aload_n hx hb dX0_joiningPass_0 rfl (lv_at hl 0 rfl) ?_
  refine va_get (D := (dC, dI)) (ci := 0) (v := .int (nI n)) (C := RX0) (T := TX0) (N := 9) hx hb hts wiX0_joiningPass hown hK hP 0 rfl rfl 7 (by decide) (hts (.fieldLink RX0 38 "StrideHeap" "inLine" "I") (by decide +kernel)) (fun _ h9 => h9) rfl dX0_joiningPass_1 ?_
  refine sr_if_ne (tgt := 14) hx hb (by omega) dX0_joiningPass_4 (by decide) (fun c1 => ?_) (fun c1 => ?_)
  · skip
    refine lv_aload_n hx hb dX0_joiningPass_14 rfl (lv_at hl 0 rfl) ?_
    refine va_get (D := (dC, dI)) (ci := 0) (v := .ref aP) (C := RX0) (T := TX0) (N := 9) hx hb hts wiX0_joiningPass hown hK hP 0 rfl rfl 4 (by decide) (hts (.fieldLink RX0 29 "StrideHeap" "passes" "[I") (by decide +kernel)) (fun _ h9 => h9) rfl dX0_joiningPass_15 ?_
    refine lv_aload_n hx hb dX0_joiningPass_18 rfl (lv_at hl 0 rfl) ?_
    refine va_get (D := (dC, dI)) (ci := 0) (v := .ref aL) (C := RX0) (T := TX0) (N := 9) hx hb hts wiX0_joiningPass hown hK hP 0 rfl rfl 6 (by decide) (hts (.fieldLink RX0 35 "StrideHeap" "line" "[I") (by decide +kernel)) (fun _ h9 => h9) rfl dX0_joiningPass_19 ?_
    refine lv_iconst (v := nI 0) hx hb dX0_joiningPass_22 (by decide) ?_
    refine sr_ald hx hb hK hP 5 0 rfl rfl (k := 0) (by omega) (by omega) dX0_joiningPass_23 ?_
    refine sr_ald hx hb hK hP 3 0 rfl rfl (k := fl 0) (hfl c1) (by omega) dX0_joiningPass_24 ?_
    exact W.iret (v := nI (fp (fl 0))) hx hb hr (fun t ht hW => ⟨⟨nI (fp (fl 0)), (), rfl, (by rw [if_neg (by omega)]), by rw [ht]; exact hP, hD⟩, hS.F ht⟩) hS.2.2 dX0_joiningPass_25
  · skip
    refine lv_aload_n hx hb dX0_joiningPass_7 rfl (lv_at hl 0 rfl) ?_
    refine va_get (D := (dC, dI)) (ci := 0) (v := .int (nI lp)) (C := RX0) (T := TX0) (N := 9) hx hb hts wiX0_joiningPass hown hK hP 0 rfl rfl 8 (by decide) (hts (.fieldLink RX0 41 "StrideHeap" "latestLeftPass" "I") (by decide +kernel)) (fun _ h9 => h9) rfl dX0_joiningPass_8 ?_
    refine lv_goto (tgt := 25) hx hb dX0_joiningPass_11 (by decide) ?_
    exact W.iret (v := nI lp) hx hb hr (fun t ht hW => ⟨⟨nI lp, (), rfl, (by rw [if_pos c1]), by rw [ht]; exact hP, hD⟩, hS.F ht⟩) hS.2.2 dX0_joiningPass_25
set_option maxHeartbeats 4000000 in
set_option maxRecDepth 100000 in
/-- giveTickets(j, k) -/
theorem kX0_giveTickets (l : Launch) (dC : Nat → ClassId) (dI : Nat → Nat → Nat) (h0 aT aS aP aR aL : Nat) (cA cZ cJ : ClassId) (sz N big n lp : Nat) (ft fs fp fr fl : Nat → Nat) (hN : N ≤ 64) (hbig : big ≤ 32768) (j k : Nat) (hj : j < N) (hk : 0 < k) (hk2 : k < 2 ^ 31) : Met l yX0_giveTickets wsX0_giveTickets ({ frames := 0, cells := 0, slots := 0, locals := 0 }) (va_Pc [.ref h0, .int (nI j), .int (nI k)] (sB dC dI (ty3 cA cZ cJ) sz (sw h0 aT aS aP aR aL cA N big n lp ft fs fp fr fl))) (va_Qv (fun (_ : Unit) => True) (fun _ => sE dC dI (va_A (sw h0 aT aS aP aR aL cA N big n lp ft fs fp fr fl) sz) (sw h0 aT aS aP aR aL cA N big n lp (sh_up ft j k) (sh_up fs j (big / k)) fp fr fl)) (va_A (sw h0 aT aS aP aR aL cA N big n lp ft fs fp fr fl) sz)) 0 0 (va_A (sw h0 aT aS aP aR aL cA N big n lp ft fs fp fr fl) sz) := by
  refine Met.ofW (cc := cX0_giveTickets) (maxL := 3) (ret := none) (by decide) rfl ?_
  intro p e s m args below meth c s₁ B hml hv
  obtain ⟨rfl, hsz, hP, hK, hD0⟩ := hv
  have hx := B.exec
  have hb := B.bytes
  have hr := B.returns
  have hts := atoms_spec (ws := wsX0_giveTickets) B.pre
  have hown : s.vm.findClass RX0 = some m.cls := findClass_of_methodNamed B.named
  have hlocks := B.notSynchronized
  subst hsz
  have hD := hD0.self (sz := s.heap.size)
  generalize hAe : va_A (sw h0 aT aS aP aR aL cA N big n lp ft fs fp fr fl) s.heap.size = A at hD ⊢
  have hA : ∀ q : Nat, s.heap.size ≤ q → A q := fun q h => by rw [← hAe]; exact Or.inr h
  have hS : va_S A s.heap s.heap [] := va_S.rf
  have hl := lv_entry ([.ref h0, .int (nI j), .int (nI k)]) (n := 3) (Nat.le_of_ble_eq_true rfl)
  rw [lg_entry_eq]
  generalize (lg_sl ([.ref h0, .int (nI j), .int (nI k)]) ++ List.replicate (3 - (lg_sl ([.ref h0, .int (nI j), .int (nI k)])).length) Slot.unset).toArray = ls at hl ⊢
  have hl : lv_has ls 3 [(0, .ref h0), (1, .int (nI j)), (2, .int (nI k))] := hl
  refine lv_aload_n hx hb dX0_giveTickets_0 rfl (lv_at hl 0 rfl) ?_
  refine va_get (D := (dC, dI)) (ci := 0) (v := .ref aT) (C := RX0) (T := TX0) (N := 9) hx hb hts wiX0_giveTickets hown hK hP 0 rfl rfl 2 (by decide) (hts (.fieldLink RX0 22 "StrideHeap" "ticketsOf" "[I") (by decide +kernel)) (fun _ h9 => h9) rfl dX0_giveTickets_1 ?_
  refine lv_iload_n hx hb dX0_giveTickets_4 rfl (lv_at hl 1 rfl) ?_
  refine lv_iload_n hx hb dX0_giveTickets_5 rfl (lv_at hl 2 rfl) ?_
  refine sr_ast hx hb hK hP hD hS 1 0 rfl rfl (k := j) (v := k) (by omega) (by omega) dX0_giveTickets_6 (fun H locs hP hD hS => ?_)
  have hP : va_P (dC, dI) vwCl (sw h0 aT aS aP aR aL cA N big n lp (sh_up ft j k) fs fp fr fl) H := hP
  have hD : va_D A (sw h0 aT aS aP aR aL cA N big n lp (sh_up ft j k) fs fp fr fl) := hD
  refine lv_aload_n hx hb dX0_giveTickets_7 rfl (lv_at hl 0 rfl) ?_
  refine va_get (D := (dC, dI)) (ci := 0) (v := .ref aS) (C := RX0) (T := TX0) (N := 9) hx hb hts wiX0_giveTickets hown hK hP 0 rfl rfl 3 (by decide) (hts (.fieldLink RX0 26 "StrideHeap" "strides" "[I") (by decide +kernel)) (fun _ h9 => h9) rfl dX0_giveTickets_8 ?_
  refine lv_iload_n hx hb dX0_giveTickets_11 rfl (lv_at hl 1 rfl) ?_
  refine lv_aload_n hx hb dX0_giveTickets_12 rfl (lv_at hl 0 rfl) ?_
  refine va_get (D := (dC, dI)) (ci := 0) (v := .int (nI big)) (C := RX0) (T := TX0) (N := 9) hx hb hts wiX0_giveTickets hown hK hP 0 rfl rfl 1 (by decide) (hts (.fieldLink RX0 19 "StrideHeap" "big" "I") (by decide +kernel)) (fun _ h9 => h9) rfl dX0_giveTickets_13 ?_
  refine lv_iload_n hx hb dX0_giveTickets_16 rfl (lv_at hl 2 rfl) ?_
  refine sr_idiv hx hb (by omega) (by omega) (by omega) dX0_giveTickets_17 ?_
  refine sr_ast hx hb hK hP hD hS 2 0 rfl rfl (k := j) (v := big / k) (by omega) (by omega) dX0_giveTickets_18 (fun H locs hP hD hS => ?_)
  have hP : va_P (dC, dI) vwCl (sw h0 aT aS aP aR aL cA N big n lp (sh_up ft j k) (sh_up fs j (big / k)) fp fr fl) H := hP
  have hD : va_D A (sw h0 aT aS aP aR aL cA N big n lp (sh_up ft j k) (sh_up fs j (big / k)) fp fr fl) := hD
  exact W.vret hx hb hr (fun t ht hW => ⟨⟨(), rfl, trivial, by rw [ht]; exact hP, hD⟩, hS.F ht⟩) hS.2.2 dX0_giveTickets_19
set_option maxHeartbeats 4000000 in
set_option maxRecDepth 100000 in
/-- isBefore(i, j) -/
theorem kX0_isBefore (l : Launch) (dC : Nat → ClassId) (dI : Nat → Nat → Nat) (h0 aT aS aP aR aL : Nat) (cA cZ cJ : ClassId) (sz N big n lp : Nat) (ft fs fp fr fl : Nat → Nat) (hN : N ≤ 64) (hfp : ∀ c, fp c < 2 ^ 31) (i j : Nat) (hi : i < N) (hj : j < N) : Met l yX0_isBefore wsX0_isBefore ({ frames := 0, cells := 0, slots := 0, locals := 0 }) (va_Pc [.ref h0, .int (nI i), .int (nI j)] (sB dC dI (ty3 cA cZ cJ) sz (sw h0 aT aS aP aR aL cA N big n lp ft fs fp fr fl))) (va_Qi (fun (r : Int32) (_ : Unit) => (sh_bf fp i j ∧ r = nI 1) ∨ (¬ sh_bf fp i j ∧ r = nI 0)) (fun _ => sE dC dI (va_A (sw h0 aT aS aP aR aL cA N big n lp ft fs fp fr fl) sz) (sw h0 aT aS aP aR aL cA N big n lp ft fs fp fr fl)) (va_A (sw h0 aT aS aP aR aL cA N big n lp ft fs fp fr fl) sz)) 0 0 (va_A (sw h0 aT aS aP aR aL cA N big n lp ft fs fp fr fl) sz) := by
  refine Met.ofW (cc := cX0_isBefore) (maxL := 3) (ret := (some .boolean)) (by decide) rfl ?_
  intro p e s m args below meth c s₁ B hml hv
  obtain ⟨rfl, hsz, hP, hK, hD0⟩ := hv
  have hx := B.exec
  have hb := B.bytes
  have hr := B.returns
  have hts := atoms_spec (ws := wsX0_isBefore) B.pre
  have hown : s.vm.findClass RX0 = some m.cls := findClass_of_methodNamed B.named
  have hlocks := B.notSynchronized
  subst hsz
  have hD := hD0.self (sz := s.heap.size)
  generalize hAe : va_A (sw h0 aT aS aP aR aL cA N big n lp ft fs fp fr fl) s.heap.size = A at hD ⊢
  have hA : ∀ q : Nat, s.heap.size ≤ q → A q := fun q h => by rw [← hAe]; exact Or.inr h
  have hS : va_S A s.heap s.heap [] := va_S.rf
  have hl := lv_entry ([.ref h0, .int (nI i), .int (nI j)]) (n := 3) (Nat.le_of_ble_eq_true rfl)
  rw [lg_entry_eq]
  generalize (lg_sl ([.ref h0, .int (nI i), .int (nI j)]) ++ List.replicate (3 - (lg_sl ([.ref h0, .int (nI i), .int (nI j)])).length) Slot.unset).toArray = ls at hl ⊢
  have hl : lv_has ls 3 [(0, .ref h0), (1, .int (nI i)), (2, .int (nI j))] := hl
  refine lv_aload_n hx hb dX0_isBefore_0 rfl (lv_at hl 0 rfl) ?_
  refine va_get (D := (dC, dI)) (ci := 0) (v := .ref aP) (C := RX0) (T := TX0) (N := 9) hx hb hts wiX0_isBefore hown hK hP 0 rfl rfl 4 (by decide) (hts (.fieldLink RX0 29 "StrideHeap" "passes" "[I") (by decide +kernel)) (fun _ h9 => h9) rfl dX0_isBefore_1 ?_
  refine lv_iload_n hx hb dX0_isBefore_4 rfl (lv_at hl 1 rfl) ?_
  refine sr_ald hx hb hK hP 3 0 rfl rfl (k := i) (by omega) (by omega) dX0_isBefore_5 ?_
  refine lv_aload_n hx hb dX0_isBefore_6 rfl (lv_at hl 0 rfl) ?_
  refine va_get (D := (dC, dI)) (ci := 0) (v := .ref aP) (C := RX0) (T := TX0) (N := 9) hx hb hts wiX0_isBefore hown hK hP 0 rfl rfl 4 (by decide) (hts (.fieldLink RX0 29 "StrideHeap" "passes" "[I") (by decide +kernel)) (fun _ h9 => h9) rfl dX0_isBefore_7 ?_
  refine lv_iload_n hx hb dX0_isBefore_10 rfl (lv_at hl 2 rfl) ?_
  refine sr_ald hx hb hK hP 3 0 rfl rfl (k := j) (by omega) (by omega) dX0_isBefore_11 ?_
  refine sr_cmp_eq (tgt := 36) hx hb (hfp i) (hfp j) dX0_isBefore_12 (by decide) (fun c1 => ?_) (fun c1 => ?_)
  · skip
    refine lv_iload_n hx hb dX0_isBefore_36 rfl (lv_at hl 1 rfl) ?_
    refine lv_iload_n hx hb dX0_isBefore_37 rfl (lv_at hl 2 rfl) ?_
    refine sr_cmp_ge (tgt := 45) hx hb (by omega) (by omega) dX0_isBefore_38 (by decide) (fun c2 => ?_) (fun c2 => ?_)
    · skip
      refine lv_iconst (v := nI 0) hx hb dX0_isBefore_45 (by decide) ?_
      exact W.zret (v := nI 0) hx hb hr (by rfl) (fun t ht hW => ⟨⟨nI 0, (), rfl, Or.inr ⟨by unfold sh_bf; omega, rfl⟩, by rw [ht]; exact hP, hD⟩, hS.F ht⟩) hS.2.2 dX0_isBefore_46
    · skip
      refine lv_iconst (v := nI 1) hx hb dX0_isBefore_41 (by decide) ?_
      refine lv_goto (tgt := 46) hx hb dX0_isBefore_42 (by decide) ?_
      exact W.zret (v := nI 1) hx hb hr (by rfl) (fun t ht hW => ⟨⟨nI 1, (), rfl, Or.inl ⟨Or.inr ⟨c1, c2⟩, rfl⟩, by rw [ht]; exact hP, hD⟩, hS.F ht⟩) hS.2.2 dX0_isBefore_46
  · skip
    refine lv_aload_n hx hb dX0_isBefore_15 rfl (lv_at hl 0 rfl) ?_
    refine va_get (D := (dC, dI)) (ci := 0) (v := .ref aP) (C := RX0) (T := TX0) (N := 9) hx hb hts wiX0_isBefore hown hK hP 0 rfl rfl 4 (by decide) (hts (.fieldLink RX0 29 "StrideHeap" "passes" "[I") (by decide +kernel)) (fun _ h9 => h9) rfl dX0_isBefore_16 ?_
    refine lv_iload_n hx hb dX0_isBefore_19 rfl (lv_at hl 1 rfl) ?_
    refine sr_ald hx hb hK hP 3 0 rfl rfl (k := i) (by omega) (by omega) dX0_isBefore_20 ?_
    refine lv_aload_n hx hb dX0_isBefore_21 rfl (lv_at hl 0 rfl) ?_
    refine va_get (D := (dC, dI)) (ci := 0) (v := .ref aP) (C := RX0) (T := TX0) (N := 9) hx hb hts wiX0_isBefore hown hK hP 0 rfl rfl 4 (by decide) (hts (.fieldLink RX0 29 "StrideHeap" "passes" "[I") (by decide +kernel)) (fun _ h9 => h9) rfl dX0_isBefore_22 ?_
    refine lv_iload_n hx hb dX0_isBefore_25 rfl (lv_at hl 2 rfl) ?_
    refine sr_ald hx hb hK hP 3 0 rfl rfl (k := j) (by omega) (by omega) dX0_isBefore_26 ?_
    refine sr_cmp_ge (tgt := 34) hx hb (hfp i) (hfp j) dX0_isBefore_27 (by decide) (fun c2 => ?_) (fun c2 => ?_)
    · skip
      refine lv_iconst (v := nI 0) hx hb dX0_isBefore_34 (by decide) ?_
      exact W.zret (v := nI 0) hx hb hr (by rfl) (fun t ht hW => ⟨⟨nI 0, (), rfl, Or.inr ⟨by unfold sh_bf; omega, rfl⟩, by rw [ht]; exact hP, hD⟩, hS.F ht⟩) hS.2.2 dX0_isBefore_35
    · skip
      refine lv_iconst (v := nI 1) hx hb dX0_isBefore_30 (by decide) ?_
      refine lv_goto (tgt := 35) hx hb dX0_isBefore_31 (by decide) ?_
      exact W.zret (v := nI 1) hx hb hr (by rfl) (fun t ht hW => ⟨⟨nI 1, (), rfl, Or.inl ⟨Or.inl c2, rfl⟩, by rw [ht]; exact hP, hD⟩, hS.F ht⟩) hS.2.2 dX0_isBefore_35
