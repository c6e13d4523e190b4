-- THE CLASS: its public methods
theorem V_leave2 {N big n lp k c : Nat} {ft fs fp fl L2 : Nat → Nat} (h : sh_V N big n lp ft fs fp fl) (hk : k < n) (hc : fl k = c) (h1 : ∀ i, i < k → L2 i = fl i) (h2 : ∀ i, k ≤ i → i + 1 < n → L2 i = fl (i + 1)) : sh_V N big (n - 1) (fp c) (sh_up ft c 0) fs fp L2 := by
  obtain ⟨m, rfl⟩ : ∃ z, n = z + 1 := ⟨n - 1, by omega⟩
  exact V_leave h hk hc h1 (fun i q1 q2 => h2 i q1 (by omega))
theorem spread_I {N n : Nat} {t p L : Nat → Nat} (h : sh_I N t p L n) (hn : 0 < n) : p (L 0) ≤ p (L (n - 1)) ∧ sp_spread N t p = nI (p (L (n - 1)) - p (L 0)) := by
  obtain ⟨m, rfl⟩ : ∃ z, n = z + 1 := ⟨n - 1, by omega⟩
  refine ⟨?_, ?_⟩
  · rcases Nat.eq_zero_or_pos m with q | q
    · subst q
      exact Nat.le_refl _
    · exact bf_le (h.2.2.1 0 m q (by omega))
  · unfold sp_spread
    rw [fi_I h hn, mx_I h]
    rfl
theorem spread_0 {N n : Nat} {t p L : Nat → Nat} (h : sh_I N t p L n) (hn : n = 0) : sp_spread N t p = -1 := by
  unfold sp_spread
  rw [fi_n0 h hn]
set_option maxHeartbeats 4000000 in
set_option maxRecDepth 100000 in
/-- join(x, y) -/
theorem kX0_join (l : Launch) (dC : Nat → ClassId) (dI : Nat → Nat → Nat) (h0 aT aS aP aR aL : Nat) (cA cZ cJ : ClassId) (sz N big n lp : Nat) (ft fs fp fr fl : Nat → Nat) (hV : sh_V N big n lp ft fs fp fl) (x y : Int32) : Met l yX0_join wsX0_join ({ frames := 3, cells := 0, slots := 0, locals := 65 }) (va_Pc [.ref h0, .int x, .int y] (sB dC dI (ty3 cA cZ cJ) sz (sw h0 aT aS aP aR aL cA N big n lp ft fs fp fr fl))) (va_Qi (fun (r : Int32) (u : (Nat × (Nat → Nat) × (Nat → Nat) × (Nat → Nat) × (Nat → Nat))) => r = (sp_join N big ft x y).1 ∧ (((sp_join N big ft x y).2 = none ∧ u = (n, ft, fs, fp, fl)) ∨ ∃ j k, (sp_join N big ft x y).2 = some (j, k) ∧ j < N ∧ 0 < k ∧ k < big ∧ ft j = 0 ∧ u.1 = n + 1 ∧ u.2.1 = sh_up ft j k ∧ u.2.2.2.1 = sh_up fp j (sp_ps N lp ft fp) ∧ sh_V N big u.1 lp u.2.1 u.2.2.1 u.2.2.2.1 u.2.2.2.2)) (fun u => sE dC dI (va_A (sw h0 aT aS aP aR aL cA N big n lp ft fs fp fr fl) sz) (sw h0 aT aS aP aR aL cA N big u.1 lp u.2.1 u.2.2.1 u.2.2.2.1 fr u.2.2.2.2)) (va_A (sw h0 aT aS aP aR aL cA N big n lp ft fs fp fr fl) sz)) 0 0 (va_A (sw h0 aT aS aP aR aL cA N big n lp ft fs fp fr fl) sz) := by
  refine Met.ofW (cc := cX0_join) (maxL := 3) (ret := (some .int)) (by decide) rfl ?_
  intro p e s m args below meth c s₁ B hml hv
  obtain ⟨rfl, hsz, hP, hK, hD0⟩ := hv
  have hx := B.exec
  have hb := B.bytes
  have hr := B.returns
  have hts := atoms_spec (ws := wsX0_join) B.pre
  have hown : s.vm.findClass RX0 = some m.cls := findClass_of_methodNamed B.named
  have hlocks := B.notSynchronized
  subst hsz
  have hD := hD0.self (sz := s.heap.size)
  generalize hAe : va_A (sw h0 aT aS aP aR aL cA N big n lp ft fs fp fr fl) s.heap.size = A at hD ⊢
  have hA : ∀ q : Nat, s.heap.size ≤ q → A q := fun q h => by rw [← hAe]; exact Or.inr h
  have hS : va_S A s.heap s.heap [] := va_S.rf
  have hl := lv_entry ([.ref h0, .int x, .int y]) (n := 3) (Nat.le_of_ble_eq_true rfl)
  rw [lg_entry_eq]
  generalize (lg_sl ([.ref h0, .int x, .int y]) ++ List.replicate (3 - (lg_sl ([.ref h0, .int x, .int y])).length) Slot.unset).toArray = ls at hl ⊢
  have hl : lv_has ls 3 [(0, .ref h0), (1, .int x), (2, .int y)] := hl
  obtain ⟨hN0, hN, hb2, hbig, hlp, hfp, hft, hfs, hI⟩ := id hV
  have hnN : n ≤ N := by rw [hI.1]; exact cnt_le ft N
  have hfl : ∀ i, i < n → fl i < N := fun i hi => (hI.2.1 i hi).1
  have hft2 : ∀ c, ft c < 2 ^ 31 := fun c => by have := hft c; omega
  refine lv_aload_n hx hb dX0_join_0 rfl (lv_at hl 0 rfl) ?_
  refine lv_iload_n hx hb dX0_join_1 rfl (lv_at hl 1 rfl) ?_
  refine sc_i (wr := []) (wc := sw h0 aT aS aP aR aL cA N big n lp ft fs fp fr fl) (As := [.int x]) (rest := []) ⟨hx, hb, hml, hown, hts⟩ (kX0_isClient l dC dI h0 aT aS aP aR aL cA cZ cJ s.heap.size N big n lp ft fs fp fr fl hN x) (cwV 1 hts gX0_join_X0_isClient rfl rfl rfl (by decide +kernel) ⟨Nat.le_of_ble_eq_true rfl, Nat.le_of_ble_eq_true rfl⟩) hK hP hD hS hA (va_recv hK hP (ci := 0) (q0 := 0) rfl rfl) rfl hl.1 rfl (Nat.le_of_ble_eq_true rfl) dX0_join_2 ⟨Nat.zero_le _, Nat.zero_le _⟩ (fun r _ H locs hw hP hD hS => ?_)
  rcases hw with ⟨hnx, rfl⟩ | ⟨j, hj, rfl, rfl⟩
  · skip
    refine sr_if_ne (tgt := 10) hx hb (by decide) dX0_join_5 (by decide) (fun q => absurd q (by decide)) (fun _ => ?_)
    refine lv_iconst (v := (-1)) hx hb dX0_join_8 (by decide) ?_
    exact W.iret (v := (-1)) hx hb hr (fun t ht hW => ⟨⟨(-1), (n, ft, fs, fp, fl), rfl, ⟨by rw [join_1 hnx], Or.inl ⟨by rw [join_1 hnx], rfl⟩⟩, by rw [ht]; exact hP, hD⟩, hS.F ht⟩) hS.2.2 dX0_join_9
  · skip
    refine sr_if_ne (tgt := 10) hx hb (by decide) dX0_join_5 (by decide) (fun _ => ?_) (fun q => absurd q (by decide))
    refine lv_aload_n hx hb dX0_join_10 rfl (lv_at hl 0 rfl) ?_
    refine lv_iload_n hx hb dX0_join_11 rfl (lv_at hl 1 rfl) ?_
    refine sc_i (wr := []) (wc := sw h0 aT aS aP aR aL cA N big n lp ft fs fp fr fl) (As := [.int (nI j)]) (rest := []) ⟨hx, hb, hml, hown, hts⟩ (kX0_isIn l dC dI h0 aT aS aP aR aL cA cZ cJ H.size N big n lp ft fs fp fr fl hN hft2 j hj) (cwV 1 hts gX0_join_X0_isIn rfl rfl rfl (by decide +kernel) ⟨Nat.le_of_ble_eq_true rfl, Nat.le_of_ble_eq_true rfl⟩) hK hP hD hS hA (va_recv hK hP (ci := 0) (q0 := 0) rfl rfl) rfl hl.1 rfl (Nat.le_of_ble_eq_true rfl) dX0_join_12 ⟨Nat.zero_le _, Nat.zero_le _⟩ (fun r _ H locs hw hP hD hS => ?_)
    rcases hw with ⟨ht0, rfl⟩ | ⟨ht0, rfl⟩
    · skip
      refine sr_if_eq (tgt := 21) hx hb (by decide) dX0_join_15 (by decide) (fun _ => ?_) (fun q => absurd q (by decide))
      refine lv_aload_n hx hb dX0_join_21 rfl (lv_at hl 0 rfl) ?_
      refine lv_iload_n hx hb dX0_join_22 rfl (lv_at hl 2 rfl) ?_
      refine sc_i (wr := []) (wc := sw h0 aT aS aP aR aL cA N big n lp ft fs fp fr fl) (As := [.int y]) (rest := []) ⟨hx, hb, hml, hown, hts⟩ (kX0_areTickets l dC dI h0 aT aS aP aR aL cA cZ cJ H.size N big n lp ft fs fp fr fl hbig y) (cwV 1 hts gX0_join_X0_areTickets rfl rfl rfl (by decide +kernel) ⟨Nat.le_of_ble_eq_true rfl, Nat.le_of_ble_eq_true rfl⟩) hK hP hD hS hA (va_recv hK hP (ci := 0) (q0 := 0) rfl rfl) rfl hl.1 rfl (Nat.le_of_ble_eq_true rfl) dX0_join_23 ⟨Nat.zero_le _, Nat.zero_le _⟩ (fun r _ H locs hw hP hD hS => ?_)
      rcases hw with ⟨hny, rfl⟩ | ⟨k, hk0, hkb, rfl, rfl⟩
      · skip
        refine sr_if_ne (tgt := 32) hx hb (by decide) dX0_join_26 (by decide) (fun q => absurd q (by decide)) (fun _ => ?_)
        refine lv_bipush (v := (-3)) hx hb dX0_join_29 (by decide) ?_
        exact W.iret (v := (-3)) hx hb hr (fun t ht hW => ⟨⟨(-3), (n, ft, fs, fp, fl), rfl, ⟨by rw [join_3 hj hN ht0 hny], Or.inl ⟨by rw [join_3 hj hN ht0 hny], rfl⟩⟩, by rw [ht]; exact hP, hD⟩, hS.F ht⟩) hS.2.2 dX0_join_31
      · skip
        refine sr_if_ne (tgt := 32) hx hb (by decide) dX0_join_26 (by decide) (fun _ => ?_) (fun q => absurd q (by decide))
        refine lv_aload_n hx hb dX0_join_32 rfl (lv_at hl 0 rfl) ?_
        refine va_get (D := (dC, dI)) (ci := 0) (v := .ref aP) (C := RX0) (T := TX0) (N := 9) hx hb hts wiX0_join hown hK hP 0 rfl rfl 4 (by decide) (hts (.fieldLink RX0 29 "StrideHeap" "passes" "[I") (by decide +kernel)) (fun _ h9 => h9) rfl dX0_join_33 ?_
        refine lv_iload_n hx hb dX0_join_36 rfl (lv_at hl 1 rfl) ?_
        refine lv_aload_n hx hb dX0_join_37 rfl (lv_at hl 0 rfl) ?_
        refine sc_i (wr := []) (wc := sw h0 aT aS aP aR aL cA N big n lp ft fs fp fr fl) (As := []) (rest := [.int (nI j), .ref aP]) ⟨hx, hb, hml, hown, hts⟩ (kX0_joiningPass l dC dI h0 aT aS aP aR aL cA cZ cJ H.size N big n lp ft fs fp fr fl hN hnN (fun z => hfl 0 z)) (cwV 0 hts gX0_join_X0_joiningPass rfl rfl rfl (by decide +kernel) ⟨Nat.le_of_ble_eq_true rfl, Nat.le_of_ble_eq_true rfl⟩) hK hP hD hS hA (va_recv hK hP (ci := 0) (q0 := 0) rfl rfl) rfl hl.1 rfl (Nat.le_of_ble_eq_true rfl) dX0_join_38 ⟨Nat.zero_le _, Nat.zero_le _⟩ (fun r _ H locs hw hP hD hS => ?_)
        subst hw
        have hps : (if n = 0 then lp else fp (fl 0)) = sp_ps N lp ft fp := (ps_I hI).symm
        rw [hps]
        have hpl : sp_ps N lp ft fp < 2 ^ 31 := ps_lt hlp hfp
        have hnl : n < N := by rw [hI.1]; exact cnt_lt ft hj ht0
        have hfp2 : ∀ d, sh_up fp j (sp_ps N lp ft fp) d < 2 ^ 31 := fun d => by
          by_cases q : d = j
          · rw [q, sh_up_s]; exact hpl
          · rw [sh_up_n fp _ q]; exact hfp d
        refine sr_ast hx hb hK hP hD hS 3 0 rfl rfl (k := j) (v := sp_ps N lp ft fp) (by omega) (by omega) dX0_join_41 (fun H locs hP hD hS => ?_)
        have hP : va_P (dC, dI) vwCl (sw h0 aT aS aP aR aL cA N big n lp ft fs (sh_up fp j (sp_ps N lp ft fp)) fr fl) H := hP
        have hD : va_D A (sw h0 aT aS aP aR aL cA N big n lp ft fs (sh_up fp j (sp_ps N lp ft fp)) fr fl) := hD
        refine lv_aload_n hx hb dX0_join_42 rfl (lv_at hl 0 rfl) ?_
        refine lv_iload_n hx hb dX0_join_43 rfl (lv_at hl 1 rfl) ?_
        refine lv_iload_n hx hb dX0_join_44 rfl (lv_at hl 2 rfl) ?_
        refine sc_v (wr := []) (wc := sw h0 aT aS aP aR aL cA N big n lp ft fs (sh_up fp j (sp_ps N lp ft fp)) fr fl) (As := [.int (nI j), .int (nI k)]) (rest := []) ⟨hx, hb, hml, hown, hts⟩ (kX0_giveTickets l dC dI h0 aT aS aP aR aL cA cZ cJ H.size N big n lp ft fs (sh_up fp j (sp_ps N lp ft fp)) fr fl hN hbig j k hj hk0 (by omega)) (cwV 2 hts gX0_join_X0_giveTickets rfl rfl rfl (by decide +kernel) ⟨Nat.le_of_ble_eq_true rfl, Nat.le_of_ble_eq_true rfl⟩) hK hP hD hS hA (va_recv hK hP (ci := 0) (q0 := 0) rfl rfl) rfl hl.1 rfl (Nat.le_of_ble_eq_true rfl) dX0_join_45 ⟨Nat.zero_le _, Nat.zero_le _⟩ (fun _ H locs hw hP hD hS => ?_)
        refine lv_aload_n hx hb dX0_join_48 rfl (lv_at hl 0 rfl) ?_
        refine lv_iload_n hx hb dX0_join_49 rfl (lv_at hl 1 rfl) ?_
        refine sc_v (wr := []) (wc := sw h0 aT aS aP aR aL cA N big n lp (sh_up ft j k) (sh_up fs j (big / k)) (sh_up fp j (sp_ps N lp ft fp)) fr fl) (As := [.int (nI j)]) (rest := []) ⟨hx, hb, hml, hown, hts⟩ (kX0_enterLine l dC dI h0 aT aS aP aR aL cA cZ cJ H.size N big n lp (sh_up ft j k) (sh_up fs j (big / k)) (sh_up fp j (sp_ps N lp ft fp)) fr fl hN hnl hfp2 hfl j hj) (cwV 1 hts gX0_join_X0_enterLine rfl rfl rfl (by decide +kernel) ⟨Nat.le_of_ble_eq_true rfl, Nat.le_of_ble_eq_true rfl⟩) hK hP hD hS hA (va_recv hK hP (ci := 0) (q0 := 0) rfl rfl) rfl hl.1 rfl (Nat.le_of_ble_eq_true rfl) dX0_join_50 ⟨Nat.zero_le _, Nat.zero_le _⟩ (fun v H locs hw hP hD hS => ?_)
        obtain ⟨M, i, hM0, hM1, hrot⟩ := hw
        refine lv_iconst (v := nI 1) hx hb dX0_join_53 (by decide) ?_
        exact W.iret (v := nI 1) hx hb hr (fun t ht hW => ⟨⟨nI 1, (n + 1, sh_up ft j k, sh_up fs j (big / k), sh_up fp j (sp_ps N lp ft fp), v), rfl, ⟨by rw [join_4 hj hN ht0 hk0 hkb hbig]; rfl, Or.inr ⟨j, k, by rw [join_4 hj hN ht0 hk0 hkb hbig], hj, hk0, hkb, ht0, rfl, rfl, rfl, V_join hV hj ht0 hk0 hkb hpl hM0 hM1 hrot⟩⟩, by rw [ht]; exact hP, hD⟩, hS.F ht⟩) hS.2.2 dX0_join_54
    · skip
      refine sr_if_eq (tgt := 21) hx hb (by decide) dX0_join_15 (by decide) (fun q => absurd q (by decide)) (fun _ => ?_)
      refine lv_bipush (v := (-2)) hx hb dX0_join_18 (by decide) ?_
      exact W.iret (v := (-2)) hx hb hr (fun t ht hW => ⟨⟨(-2), (n, ft, fs, fp, fl), rfl, ⟨by rw [join_2 hj hN ht0], Or.inl ⟨by rw [join_2 hj hN ht0], rfl⟩⟩, by rw [ht]; exact hP, hD⟩, hS.F ht⟩) hS.2.2 dX0_join_20
set_option maxHeartbeats 4000000 in
set_option maxRecDepth 100000 in
/-- leave(x) -/
theorem kX0_leave (l : Launch) (dC : Nat → ClassId) (dI : Nat → Nat → Nat) (h0 aT aS aP aR aL : Nat) (cA cZ cJ : ClassId) (sz N big n lp : Nat) (ft fs fp fr fl : Nat → Nat) (hV : sh_V N big n lp ft fs fp fl) (x : Int32) : Met l yX0_leave wsX0_leave ({ frames := 2, cells := 0, slots := 0, locals := 44 }) (va_Pc [.ref h0, .int x] (sB dC dI (ty3 cA cZ cJ) sz (sw h0 aT aS aP aR aL cA N big n lp ft fs fp fr fl))) (va_Qi (fun (r : Int32) (u : (Nat × Nat × (Nat → Nat) × (Nat → Nat))) => r = (sp_leave N ft x).1 ∧ (((sp_leave N ft x).2 = none ∧ u = (n, lp, ft, fl)) ∨ ∃ j, (sp_leave N ft x).2 = some j ∧ j < N ∧ 0 < ft j ∧ u.1 = n - 1 ∧ u.2.1 = fp j ∧ u.2.2.1 = sh_up ft j 0 ∧ sh_V N big u.1 u.2.1 u.2.2.1 fs fp u.2.2.2)) (fun u => sE dC dI (va_A (sw h0 aT aS aP aR aL cA N big n lp ft fs fp fr fl) sz) (sw h0 aT aS aP aR aL cA N big u.1 u.2.1 u.2.2.1 fs fp fr u.2.2.2)) (va_A (sw h0 aT aS aP aR aL cA N big n lp ft fs fp fr fl) sz)) 0 0 (va_A (sw h0 aT aS aP aR aL cA N big n lp ft fs fp fr fl) sz) := by
  refine Met.ofW (cc := cX0_leave) (maxL := 2) (ret := (some .int)) (by decide) rfl ?_
  intro p e s m args below meth c s₁ B hml hv
  obtain ⟨rfl, hsz, hP, hK, hD0⟩ := hv
  have hx := B.exec
  have hb := B.bytes
  have hr := B.returns
  have hts := atoms_spec (ws := wsX0_leave) B.pre
  have hown : s.vm.findClass RX0 = some m.cls := findClass_of_methodNamed B.named
  have hlocks := B.notSynchronized
  subst hsz
  have hD := hD0.self (sz := s.heap.size)
  generalize hAe : va_A (sw h0 aT aS aP aR aL cA N big n lp ft fs fp fr fl) s.heap.size = A at hD ⊢
  have hA : ∀ q : Nat, s.heap.size ≤ q → A q := fun q h => by rw [← hAe]; exact Or.inr h
  have hS : va_S A s.heap s.heap [] := va_S.rf
  have hl := lv_entry ([.ref h0, .int x]) (n := 2) (Nat.le_of_ble_eq_true rfl)
  rw [lg_entry_eq]
  generalize (lg_sl ([.ref h0, .int x]) ++ List.replicate (2 - (lg_sl ([.ref h0, .int x])).length) Slot.unset).toArray = ls at hl ⊢
  have hl : lv_has ls 2 [(0, .ref h0), (1, .int x)] := hl
  obtain ⟨hN0, hN, hb2, hbig, hlp, hfp, hft, hfs, hI⟩ := id hV
  have hnN : n ≤ N := by rw [hI.1]; exact cnt_le ft N
  have hfl : ∀ i, i < n → fl i < N := fun i hi => (hI.2.1 i hi).1
  have hft2 : ∀ c, ft c < 2 ^ 31 := fun c => by have := hft c; omega
  refine lv_aload_n hx hb dX0_leave_0 rfl (lv_at hl 0 rfl) ?_
  refine lv_iload_n hx hb dX0_leave_1 rfl (lv_at hl 1 rfl) ?_
  refine sc_i (wr := []) (wc := sw h0 aT aS aP aR aL cA N big n lp ft fs fp fr fl) (As := [.int x]) (rest := []) ⟨hx, hb, hml, hown, hts⟩ (kX0_isClient l dC dI h0 aT aS aP aR aL cA cZ cJ s.heap.size N big n lp ft fs fp fr fl hN x) (cwV 1 hts gX0_leave_X0_isClient rfl rfl rfl (by decide +kernel) ⟨Nat.le_of_ble_eq_true rfl, Nat.le_of_ble_eq_true rfl⟩) hK hP hD hS hA (va_recv hK hP (ci := 0) (q0 := 0) rfl rfl) rfl hl.1 rfl (Nat.le_of_ble_eq_true rfl) dX0_leave_2 ⟨Nat.zero_le _, Nat.zero_le _⟩ (fun r _ H locs hw hP hD hS => ?_)
  rcases hw with ⟨hnx, rfl⟩ | ⟨j, hj, rfl, rfl⟩
  · skip
    refine sr_if_ne (tgt := 10) hx hb (by decide) dX0_leave_5 (by decide) (fun q => absurd q (by decide)) (fun _ => ?_)
    refine lv_iconst (v := (-1)) hx hb dX0_leave_8 (by decide) ?_
    exact W.iret (v := (-1)) hx hb hr (fun t ht hW => ⟨⟨(-1), (n, lp, ft, fl), rfl, ⟨by rw [leave_1 hnx], Or.inl ⟨by rw [leave_1 hnx], rfl⟩⟩, by rw [ht]; exact hP, hD⟩, hS.F ht⟩) hS.2.2 dX0_leave_9
  · skip
    refine sr_if_ne (tgt := 10) hx hb (by decide) dX0_leave_5 (by decide) (fun _ => ?_) (fun q => absurd q (by decide))
    refine lv_aload_n hx hb dX0_leave_10 rfl (lv_at hl 0 rfl) ?_
    refine lv_iload_n hx hb dX0_leave_11 rfl (lv_at hl 1 rfl) ?_
    refine sc_i (wr := []) (wc := sw h0 aT aS aP aR aL cA N big n lp ft fs fp fr fl) (As := [.int (nI j)]) (rest := []) ⟨hx, hb, hml, hown, hts⟩ (kX0_isIn l dC dI h0 aT aS aP aR aL cA cZ cJ H.size N big n lp ft fs fp fr fl hN hft2 j hj) (cwV 1 hts gX0_leave_X0_isIn rfl rfl rfl (by decide +kernel) ⟨Nat.le_of_ble_eq_true rfl, Nat.le_of_ble_eq_true rfl⟩) hK hP hD hS hA (va_recv hK hP (ci := 0) (q0 := 0) rfl rfl) rfl hl.1 rfl (Nat.le_of_ble_eq_true rfl) dX0_leave_12 ⟨Nat.zero_le _, Nat.zero_le _⟩ (fun r _ H locs hw hP hD hS => ?_)
    rcases hw with ⟨ht0, rfl⟩ | ⟨ht0, rfl⟩
    · skip
      refine sr_if_ne (tgt := 21) hx hb (by decide) dX0_leave_15 (by decide) (fun q => absurd q (by decide)) (fun _ => ?_)
      refine lv_bipush (v := (-2)) hx hb dX0_leave_18 (by decide) ?_
      exact W.iret (v := (-2)) hx hb hr (fun t ht hW => ⟨⟨(-2), (n, lp, ft, fl), rfl, ⟨by rw [leave_2 hj hN ht0], Or.inl ⟨by rw [leave_2 hj hN ht0], rfl⟩⟩, by rw [ht]; exact hP, hD⟩, hS.F ht⟩) hS.2.2 dX0_leave_20
    · skip
      refine sr_if_ne (tgt := 21) hx hb (by decide) dX0_leave_15 (by decide) (fun _ => ?_) (fun q => absurd q (by decide))
      obtain ⟨q0, hq0, rfl⟩ := hI.2.2.2 j hj ht0
      refine lv_aload_n hx hb dX0_leave_21 rfl (lv_at hl 0 rfl) ?_
      refine lv_aload_n hx hb dX0_leave_22 rfl (lv_at hl 0 rfl) ?_
      refine va_get (D := (dC, dI)) (ci := 0) (v := .ref aP) (C := RX0) (T := TX0) (N := 9) hx hb hts wiX0_leave hown hK hP 0 rfl rfl 4 (by decide) (hts (.fieldLink RX0 29 "StrideHeap" "passes" "[I") (by decide +kernel)) (fun _ h9 => h9) rfl dX0_leave_23 ?_
      refine lv_iload_n hx hb dX0_leave_26 rfl (lv_at hl 1 rfl) ?_
      refine sr_ald hx hb hK hP 3 0 rfl rfl (k := fl q0) (by omega) (by omega) dX0_leave_27 ?_
      refine va_put (D := (dC, dI)) (ci := 0) (v := .int (nI (fp (fl q0)))) (ty := .int) (C := RX0) (T := TX0) (N := 9) hx hb hts wiX0_leave tyX0 tyX0_ok nmX0 hown hK hP hD hS 0 rfl rfl 8 (by decide) (hts (.fieldLink RX0 41 "StrideHeap" "latestLeftPass" "I") (by decide +kernel)) (fun _ h9 => h9) rfl (by decide +kernel) rfl rfl (Nat.le_of_ble_eq_true rfl) dX0_leave_28 (fun H locs hP hD hS => ?_)
      have hP : va_P (dC, dI) vwCl (sw h0 aT aS aP aR aL cA N big n (fp (fl q0)) ft fs fp fr fl) H := hP
      have hD : va_D A (sw h0 aT aS aP aR aL cA N big n (fp (fl q0)) ft fs fp fr fl) := hD
      refine lv_aload_n hx hb dX0_leave_31 rfl (lv_at hl 0 rfl) ?_
      refine va_get (D := (dC, dI)) (ci := 0) (v := .ref aT) (C := RX0) (T := TX0) (N := 9) hx hb hts wiX0_leave hown hK hP 0 rfl rfl 2 (by decide) (hts (.fieldLink RX0 22 "StrideHeap" "ticketsOf" "[I") (by decide +kernel)) (fun _ h9 => h9) rfl dX0_leave_32 ?_
      refine lv_iload_n hx hb dX0_leave_35 rfl (lv_at hl 1 rfl) ?_
      refine lv_iconst (v := nI 0) hx hb dX0_leave_36 (by decide) ?_
      refine sr_ast hx hb hK hP hD hS 1 0 rfl rfl (k := fl q0) (v := 0) (by omega) (by omega) dX0_leave_37 (fun H locs hP hD hS => ?_)
      have hP : va_P (dC, dI) vwCl (sw h0 aT aS aP aR aL cA N big n (fp (fl q0)) (sh_up ft (fl q0) 0) fs fp fr fl) H := hP
      have hD : va_D A (sw h0 aT aS aP aR aL cA N big n (fp (fl q0)) (sh_up ft (fl q0) 0) fs fp fr fl) := hD
      refine lv_aload_n hx hb dX0_leave_38 rfl (lv_at hl 0 rfl) ?_
      refine lv_iload_n hx hb dX0_leave_39 rfl (lv_at hl 1 rfl) ?_
      refine sc_v (wr := []) (wc := sw h0 aT aS aP aR aL cA N big n (fp (fl q0)) (sh_up ft (fl q0) 0) fs fp fr fl) (As := [.int (nI (fl q0))]) (rest := []) ⟨hx, hb, hml, hown, hts⟩ (kX0_quitLine l dC dI h0 aT aS aP aR aL cA cZ cJ H.size N big n (fp (fl q0)) (sh_up ft (fl q0) 0) fs fp fr fl hN hnN hfl q0 hq0) (cwV 1 hts gX0_leave_X0_quitLine rfl rfl rfl (by decide +kernel) ⟨Nat.le_of_ble_eq_true rfl, Nat.le_of_ble_eq_true rfl⟩) hK hP hD hS hA (va_recv hK hP (ci := 0) (q0 := 0) rfl rfl) rfl hl.1 rfl (Nat.le_of_ble_eq_true rfl) dX0_leave_40 ⟨Nat.zero_le _, Nat.zero_le _⟩ (fun v H locs hw hP hD hS => ?_)
      obtain ⟨k, hk, ek, g1, g2⟩ := hw
      refine lv_iconst (v := nI 1) hx hb dX0_leave_43 (by decide) ?_
      exact W.iret (v := nI 1) hx hb hr (fun t ht hW => ⟨⟨nI 1, (n - 1, fp (fl q0), sh_up ft (fl q0) 0, v), rfl, ⟨by rw [leave_3 hj hN ht0]; rfl, Or.inr ⟨fl q0, by rw [leave_3 hj hN ht0], hj, ht0, rfl, rfl, rfl, V_leave2 hV hk ek g1 g2⟩⟩, by rw [ht]; exact hP, hD⟩, hS.F ht⟩) hS.2.2 dX0_leave_44
set_option maxHeartbeats 4000000 in
set_option maxRecDepth 100000 in
/-- change(x, y) -/
theorem kX0_change (l : Launch) (dC : Nat → ClassId) (dI : Nat → Nat → Nat) (h0 aT aS aP aR aL : Nat) (cA cZ cJ : ClassId) (sz N big n lp : Nat) (ft fs fp fr fl : Nat → Nat) (hV : sh_V N big n lp ft fs fp fl) (x y : Int32) : Met l yX0_change wsX0_change ({ frames := 1, cells := 0, slots := 0, locals := 22 }) (va_Pc [.ref h0, .int x, .int y] (sB dC dI (ty3 cA cZ cJ) sz (sw h0 aT aS aP aR aL cA N big n lp ft fs fp fr fl))) (va_Qi (fun (r : Int32) (u : ((Nat → Nat) × (Nat → Nat))) => r = (sp_change N big ft x y).1 ∧ (((sp_change N big ft x y).2 = none ∧ u = (ft, fs)) ∨ ∃ j k, (sp_change N big ft x y).2 = some (j, k) ∧ j < N ∧ 0 < k ∧ k < big ∧ 0 < ft j ∧ u.1 = sh_up ft j k ∧ sh_V N big n lp u.1 u.2 fp fl)) (fun u => sE dC dI (va_A (sw h0 aT aS aP aR aL cA N big n lp ft fs fp fr fl) sz) (sw h0 aT aS aP aR aL cA N big n lp u.1 u.2 fp fr fl)) (va_A (sw h0 aT aS aP aR aL cA N big n lp ft fs fp fr fl) sz)) 0 0 (va_A (sw h0 aT aS aP aR aL cA N big n lp ft fs fp fr fl) sz) := by
  refine Met.ofW (cc := cX0_change) (maxL := 4) (ret := (some .int)) (by decide) rfl ?_
  intro p e s m args below meth c s₁ B hml hv
  obtain ⟨rfl, hsz, hP, hK, hD0⟩ := hv
  have hx := B.exec
  have hb := B.bytes
  have hr := B.returns
  have hts := atoms_spec (ws := wsX0_change) B.pre
  have hown : s.vm.findClass RX0 = some m.cls := findClass_of_methodNamed B.named
  have hlocks := B.notSynchronized
  subst hsz
  have hD := hD0.self (sz := s.heap.size)
  generalize hAe : va_A (sw h0 aT aS aP aR aL cA N big n lp ft fs fp fr fl) s.heap.size = A at hD ⊢
  have hA : ∀ q : Nat, s.heap.size ≤ q → A q := fun q h => by rw [← hAe]; exact Or.inr h
  have hS : va_S A s.heap s.heap [] := va_S.rf
  have hl := lv_entry ([.ref h0, .int x, .int y]) (n := 4) (Nat.le_of_ble_eq_true rfl)
  rw [lg_entry_eq]
  generalize (lg_sl ([.ref h0, .int x, .int y]) ++ List.replicate (4 - (lg_sl ([.ref h0, .int x, .int y])).length) Slot.unset).toArray = ls at hl ⊢
  have hl : lv_has ls 4 [(0, .ref h0), (1, .int x), (2, .int y)] := hl
  obtain ⟨hN0, hN, hb2, hbig, hlp, hfp, hft, hfs, hI⟩ := id hV
  have hnN : n ≤ N := by rw [hI.1]; exact cnt_le ft N
  have hfl : ∀ i, i < n → fl i < N := fun i hi => (hI.2.1 i hi).1
  have hft2 : ∀ c, ft c < 2 ^ 31 := fun c => by have := hft c; omega
  refine lv_aload_n hx hb dX0_change_0 rfl (lv_at hl 0 rfl) ?_
  refine lv_iload_n hx hb dX0_change_1 rfl (lv_at hl 1 rfl) ?_
  refine sc_i (wr := []) (wc := sw h0 aT aS aP aR aL cA N big n lp ft fs fp fr fl) (As := [.int x]) (rest := []) ⟨hx, hb, hml, hown, hts⟩ (kX0_isClient l dC dI h0 aT aS aP aR aL cA cZ cJ s.heap.size N big n lp ft fs fp fr fl hN x) (cwV 1 hts gX0_change_X0_isClient rfl rfl rfl (by decide +kernel) ⟨Nat.le_of_ble_eq_true rfl, Nat.le_of_ble_eq_true rfl⟩) hK hP hD hS hA (va_recv hK hP (ci := 0) (q0 := 0) rfl rfl) rfl hl.1 rfl (Nat.le_of_ble_eq_true rfl) dX0_change_2 ⟨Nat.zero_le _, Nat.zero_le _⟩ (fun r _ H locs hw hP hD hS => ?_)
  rcases hw with ⟨hnx, rfl⟩ | ⟨j, hj, rfl, rfl⟩
  · skip
    refine sr_if_ne (tgt := 10) hx hb (by decide) dX0_change_5 (by decide) (fun q => absurd q (by decide)) (fun _ => ?_)
    refine lv_iconst (v := (-1)) hx hb dX0_change_8 (by decide) ?_
    exact W.iret (v := (-1)) hx hb hr (fun t ht hW => ⟨⟨(-1), (ft, fs), rfl, ⟨by rw [change_1 hnx], Or.inl ⟨by rw [change_1 hnx], rfl⟩⟩, by rw [ht]; exact hP, hD⟩, hS.F ht⟩) hS.2.2 dX0_change_9
  · skip
    refine sr_if_ne (tgt := 10) hx hb (by decide) dX0_change_5 (by decide) (fun _ => ?_) (fun q => absurd q (by decide))
    refine lv_aload_n hx hb dX0_change_10 rfl (lv_at hl 0 rfl) ?_
    refine lv_iload_n hx hb dX0_change_11 rfl (lv_at hl 1 rfl) ?_
    refine sc_i (wr := []) (wc := sw h0 aT aS aP aR aL cA N big n lp ft fs fp fr fl) (As := [.int (nI j)]) (rest := []) ⟨hx, hb, hml, hown, hts⟩ (kX0_isIn l dC dI h0 aT aS aP aR aL cA cZ cJ H.size N big n lp ft fs fp fr fl hN hft2 j hj) (cwV 1 hts gX0_change_X0_isIn rfl rfl rfl (by decide +kernel) ⟨Nat.le_of_ble_eq_true rfl, Nat.le_of_ble_eq_true rfl⟩) hK hP hD hS hA (va_recv hK hP (ci := 0) (q0 := 0) rfl rfl) rfl hl.1 rfl (Nat.le_of_ble_eq_true rfl) dX0_change_12 ⟨Nat.zero_le _, Nat.zero_le _⟩ (fun r _ H locs hw hP hD hS => ?_)
    rcases hw with ⟨ht0, rfl⟩ | ⟨ht0, rfl⟩
    · skip
      refine sr_if_ne (tgt := 21) hx hb (by decide) dX0_change_15 (by decide) (fun q => absurd q (by decide)) (fun _ => ?_)
      refine lv_bipush (v := (-2)) hx hb dX0_change_18 (by decide) ?_
      exact W.iret (v := (-2)) hx hb hr (fun t ht hW => ⟨⟨(-2), (ft, fs), rfl, ⟨by rw [change_2 hj hN ht0], Or.inl ⟨by rw [change_2 hj hN ht0], rfl⟩⟩, by rw [ht]; exact hP, hD⟩, hS.F ht⟩) hS.2.2 dX0_change_20
    · skip
      refine sr_if_ne (tgt := 21) hx hb (by decide) dX0_change_15 (by decide) (fun _ => ?_) (fun q => absurd q (by decide))
      refine lv_aload_n hx hb dX0_change_21 rfl (lv_at hl 0 rfl) ?_
      refine lv_iload_n hx hb dX0_change_22 rfl (lv_at hl 2 rfl) ?_
      refine sc_i (wr := []) (wc := sw h0 aT aS aP aR aL cA N big n lp ft fs fp fr fl) (As := [.int y]) (rest := []) ⟨hx, hb, hml, hown, hts⟩ (kX0_areTickets l dC dI h0 aT aS aP aR aL cA cZ cJ H.size N big n lp ft fs fp fr fl hbig y) (cwV 1 hts gX0_change_X0_areTickets rfl rfl rfl (by decide +kernel) ⟨Nat.le_of_ble_eq_true rfl, Nat.le_of_ble_eq_true rfl⟩) hK hP hD hS hA (va_recv hK hP (ci := 0) (q0 := 0) rfl rfl) rfl hl.1 rfl (Nat.le_of_ble_eq_true rfl) dX0_change_23 ⟨Nat.zero_le _, Nat.zero_le _⟩ (fun r _ H locs hw hP hD hS => ?_)
      rcases hw with ⟨hny, rfl⟩ | ⟨k, hk0, hkb, rfl, rfl⟩
      · skip
        refine sr_if_ne (tgt := 32) hx hb (by decide) dX0_change_26 (by decide) (fun q => absurd q (by decide)) (fun _ => ?_)
        refine lv_bipush (v := (-3)) hx hb dX0_change_29 (by decide) ?_
        exact W.iret (v := (-3)) hx hb hr (fun t ht hW => ⟨⟨(-3), (ft, fs), rfl, ⟨by rw [change_3 hj hN ht0 hny], Or.inl ⟨by rw [change_3 hj hN ht0 hny], rfl⟩⟩, by rw [ht]; exact hP, hD⟩, hS.F ht⟩) hS.2.2 dX0_change_31
      · skip
        refine sr_if_ne (tgt := 32) hx hb (by decide) dX0_change_26 (by decide) (fun _ => ?_) (fun q => absurd q (by decide))
        refine lv_aload_n hx hb dX0_change_32 rfl (lv_at hl 0 rfl) ?_
        refine va_get (D := (dC, dI)) (ci := 0) (v := .ref aT) (C := RX0) (T := TX0) (N := 9) hx hb hts wiX0_change hown hK hP 0 rfl rfl 2 (by decide) (hts (.fieldLink RX0 22 "StrideHeap" "ticketsOf" "[I") (by decide +kernel)) (fun _ h9 => h9) rfl dX0_change_33 ?_
        refine lv_iload_n hx hb dX0_change_36 rfl (lv_at hl 1 rfl) ?_
        refine sr_ald hx hb hK hP 1 0 rfl rfl (k := j) (by omega) (by omega) dX0_change_37 ?_
        refine lv_istore_n (lv' := [(3, .int (nI (ft j))), (0, .ref h0), (1, .int (nI j)), (2, .int (nI k))]) hx hb dX0_change_38 rfl hl (by decide) rfl (fun ls hl => ?_)
        refine lv_aload_n hx hb dX0_change_39 rfl (lv_at hl 1 rfl) ?_
        refine lv_iload_n hx hb dX0_change_40 rfl (lv_at hl 2 rfl) ?_
        refine lv_iload_n hx hb dX0_change_41 rfl (lv_at hl 3 rfl) ?_
        refine sc_v (wr := []) (wc := sw h0 aT aS aP aR aL cA N big n lp ft fs fp fr fl) (As := [.int (nI j), .int (nI k)]) (rest := []) ⟨hx, hb, hml, hown, hts⟩ (kX0_giveTickets l dC dI h0 aT aS aP aR aL cA cZ cJ H.size N big n lp ft fs fp fr fl hN hbig j k hj hk0 (by omega)) (cwV 2 hts gX0_change_X0_giveTickets rfl rfl rfl (by decide +kernel) ⟨Nat.le_of_ble_eq_true rfl, Nat.le_of_ble_eq_true rfl⟩) hK hP hD hS hA (va_recv hK hP (ci := 0) (q0 := 0) rfl rfl) rfl hl.1 rfl (Nat.le_of_ble_eq_true rfl) dX0_change_42 ⟨Nat.zero_le _, Nat.zero_le _⟩ (fun _ H locs hw hP hD hS => ?_)
        refine lv_iload_n hx hb dX0_change_45 rfl (lv_at hl 0 rfl) ?_
        exact W.iret (v := nI (ft j)) hx hb hr (fun t ht hW => ⟨⟨nI (ft j), (sh_up ft j k, sh_up fs j (big / k)), rfl, ⟨by rw [change_4 hj hN ht0 hk0 hkb hbig], Or.inr ⟨j, k, by rw [change_4 hj hN ht0 hk0 hkb hbig], hj, hk0, hkb, ht0, rfl, V_change hV ht0 hk0 hkb⟩⟩, by rw [ht]; exact hP, hD⟩, hS.F ht⟩) hS.2.2 dX0_change_46
set_option maxHeartbeats 4000000 in
set_option maxRecDepth 100000 in
/-- ranOf(x) -/
theorem kX0_ranOf (l : Launch) (dC : Nat → ClassId) (dI : Nat → Nat → Nat) (h0 aT aS aP aR aL : Nat) (cA cZ cJ : ClassId) (sz N big n lp : Nat) (ft fs fp fr fl : Nat → Nat) (hV : sh_V N big n lp ft fs fp fl) (x : Int32) : Met l yX0_ranOf wsX0_ranOf ({ frames := 1, cells := 0, slots := 0, locals := 21 }) (va_Pc [.ref h0, .int x] (sB dC dI (ty3 cA cZ cJ) sz (sw h0 aT aS aP aR aL cA N big n lp ft fs fp fr fl))) (va_Qi (fun (r : Int32) (_ : Unit) => r = sp_ran N fr x) (fun _ => sE dC dI (va_A (sw h0 aT aS aP aR aL cA N big n lp ft fs fp fr fl) sz) (sw h0 aT aS aP aR aL cA N big n lp ft fs fp fr fl)) (va_A (sw h0 aT aS aP aR aL cA N big n lp ft fs fp fr fl) sz)) 0 0 (va_A (sw h0 aT aS aP aR aL cA N big n lp ft fs fp fr fl) sz) := by
  refine Met.ofW (cc := cX0_ranOf) (maxL := 2) (ret := (some .int)) (by decide) rfl ?_
  intro p e s m args below meth c s₁ B hml hv
  obtain ⟨rfl, hsz, hP, hK, hD0⟩ := hv
  have hx := B.exec
  have hb := B.bytes
  have hr := B.returns
  have hts := atoms_spec (ws := wsX0_ranOf) B.pre
  have hown : s.vm.findClass RX0 = some m.cls := findClass_of_methodNamed B.named
  have hlocks := B.notSynchronized
  subst hsz
  have hD := hD0.self (sz := s.heap.size)
  generalize hAe : va_A (sw h0 aT aS aP aR aL cA N big n lp ft fs fp fr fl) s.heap.size = A at hD ⊢
  have hA : ∀ q : Nat, s.heap.size ≤ q → A q := fun q h => by rw [← hAe]; exact Or.inr h
  have hS : va_S A s.heap s.heap [] := va_S.rf
  have hl := lv_entry ([.ref h0, .int x]) (n := 2) (Nat.le_of_ble_eq_true rfl)
  rw [lg_entry_eq]
  generalize (lg_sl ([.ref h0, .int x]) ++ List.replicate (2 - (lg_sl ([.ref h0, .int x])).length) Slot.unset).toArray = ls at hl ⊢
  have hl : lv_has ls 2 [(0, .ref h0), (1, .int x)] := hl
  obtain ⟨hN0, hN, hb2, hbig, hlp, hfp, hft, hfs, hI⟩ := id hV
  have hnN : n ≤ N := by rw [hI.1]; exact cnt_le ft N
  have hfl : ∀ i, i < n → fl i < N := fun i hi => (hI.2.1 i hi).1
  have hft2 : ∀ c, ft c < 2 ^ 31 := fun c => by have := hft c; omega
  refine lv_aload_n hx hb dX0_ranOf_0 rfl (lv_at hl 0 rfl) ?_
  refine lv_iload_n hx hb dX0_ranOf_1 rfl (lv_at hl 1 rfl) ?_
  refine sc_i (wr := []) (wc := sw h0 aT aS aP aR aL cA N big n lp ft fs fp fr fl) (As := [.int x]) (rest := []) ⟨hx, hb, hml, hown, hts⟩ (kX0_isClient l dC dI h0 aT aS aP aR aL cA cZ cJ s.heap.size N big n lp ft fs fp fr fl hN x) (cwV 1 hts gX0_ranOf_X0_isClient rfl rfl rfl (by decide +kernel) ⟨Nat.le_of_ble_eq_true rfl, Nat.le_of_ble_eq_true rfl⟩) hK hP hD hS hA (va_recv hK hP (ci := 0) (q0 := 0) rfl rfl) rfl hl.1 rfl (Nat.le_of_ble_eq_true rfl) dX0_ranOf_2 ⟨Nat.zero_le _, Nat.zero_le _⟩ (fun r _ H locs hw hP hD hS => ?_)
  rcases hw with ⟨hnx, rfl⟩ | ⟨j, hj, rfl, rfl⟩
  · skip
    refine sr_if_eq (tgt := 17) hx hb (by decide) dX0_ranOf_5 (by decide) (fun _ => ?_) (fun q => absurd q (by decide))
    refine lv_iconst (v := (-1)) hx hb dX0_ranOf_17 (by decide) ?_
    exact W.iret (v := (-1)) hx hb hr (fun t ht hW => ⟨⟨(-1), (), rfl, (ran_1 hnx).symm, by rw [ht]; exact hP, hD⟩, hS.F ht⟩) hS.2.2 dX0_ranOf_18
  · skip
    refine sr_if_eq (tgt := 17) hx hb (by decide) dX0_ranOf_5 (by decide) (fun q => absurd q (by decide)) (fun _ => ?_)
    refine lv_aload_n hx hb dX0_ranOf_8 rfl (lv_at hl 0 rfl) ?_
    refine va_get (D := (dC, dI)) (ci := 0) (v := .ref aR) (C := RX0) (T := TX0) (N := 9) hx hb hts wiX0_ranOf hown hK hP 0 rfl rfl 5 (by decide) (hts (.fieldLink RX0 32 "StrideHeap" "ran" "[I") (by decide +kernel)) (fun _ h9 => h9) rfl dX0_ranOf_9 ?_
    refine lv_iload_n hx hb dX0_ranOf_12 rfl (lv_at hl 1 rfl) ?_
    refine sr_ald hx hb hK hP 4 0 rfl rfl (k := j) (by omega) (by omega) dX0_ranOf_13 ?_
    refine lv_goto (tgt := 18) hx hb dX0_ranOf_14 (by decide) ?_
    exact W.iret (v := nI (fr j)) hx hb hr (fun t ht hW => ⟨⟨nI (fr j), (), rfl, (ran_2 hj hN).symm, by rw [ht]; exact hP, hD⟩, hS.F ht⟩) hS.2.2 dX0_ranOf_18
set_option maxHeartbeats 4000000 in
set_option maxRecDepth 100000 in
/-- passOf(x) -/
theorem kX0_passOf (l : Launch) (dC : Nat → ClassId) (dI : Nat → Nat → Nat) (h0 aT aS aP aR aL : Nat) (cA cZ cJ : ClassId) (sz N big n lp : Nat) (ft fs fp fr fl : Nat → Nat) (hV : sh_V N big n lp ft fs fp fl) (x : Int32) : Met l yX0_passOf wsX0_passOf ({ frames := 1, cells := 0, slots := 0, locals := 21 }) (va_Pc [.ref h0, .int x] (sB dC dI (ty3 cA cZ cJ) sz (sw h0 aT aS aP aR aL cA N big n lp ft fs fp fr fl))) (va_Qi (fun (r : Int32) (_ : Unit) => r = sp_pass N ft fp x) (fun _ => sE dC dI (va_A (sw h0 aT aS aP aR aL cA N big n lp ft fs fp fr fl) sz) (sw h0 aT aS aP aR aL cA N big n lp ft fs fp fr fl)) (va_A (sw h0 aT aS aP aR aL cA N big n lp ft fs fp fr fl) sz)) 0 0 (va_A (sw h0 aT aS aP aR aL cA N big n lp ft fs fp fr fl) sz) := by
  refine Met.ofW (cc := cX0_passOf) (maxL := 2) (ret := (some .int)) (by decide) rfl ?_
  intro p e s m args below meth c s₁ B hml hv
  obtain ⟨rfl, hsz, hP, hK, hD0⟩ := hv
  have hx := B.exec
  have hb := B.bytes
  have hr := B.returns
  have hts := atoms_spec (ws := wsX0_passOf) B.pre
  have hown : s.vm.findClass RX0 = some m.cls := findClass_of_methodNamed B.named
  have hlocks := B.notSynchronized
  subst hsz
  have hD := hD0.self (sz := s.heap.size)
  generalize hAe : va_A (sw h0 aT aS aP aR aL cA N big n lp ft fs fp fr fl) s.heap.size = A at hD ⊢
  have hA : ∀ q : Nat, s.heap.size ≤ q → A q := fun q h => by rw [← hAe]; exact Or.inr h
  have hS : va_S A s.heap s.heap [] := va_S.rf
  have hl := lv_entry ([.ref h0, .int x]) (n := 2) (Nat.le_of_ble_eq_true rfl)
  rw [lg_entry_eq]
  generalize (lg_sl ([.ref h0, .int x]) ++ List.replicate (2 - (lg_sl ([.ref h0, .int x])).length) Slot.unset).toArray = ls at hl ⊢
  have hl : lv_has ls 2 [(0, .ref h0), (1, .int x)] := hl
  obtain ⟨hN0, hN, hb2, hbig, hlp, hfp, hft, hfs, hI⟩ := id hV
  have hnN : n ≤ N := by rw [hI.1]; exact cnt_le ft N
  have hfl : ∀ i, i < n → fl i < N := fun i hi => (hI.2.1 i hi).1
  have hft2 : ∀ c, ft c < 2 ^ 31 := fun c => by have := hft c; omega
  refine lv_aload_n hx hb dX0_passOf_0 rfl (lv_at hl 0 rfl) ?_
  refine lv_iload_n hx hb dX0_passOf_1 rfl (lv_at hl 1 rfl) ?_
  refine sc_i (wr := []) (wc := sw h0 aT aS aP aR aL cA N big n lp ft fs fp fr fl) (As := [.int x]) (rest := []) ⟨hx, hb, hml, hown, hts⟩ (kX0_isClient l dC dI h0 aT aS aP aR aL cA cZ cJ s.heap.size N big n lp ft fs fp fr fl hN x) (cwV 1 hts gX0_passOf_X0_isClient rfl rfl rfl (by decide +kernel) ⟨Nat.le_of_ble_eq_true rfl, Nat.le_of_ble_eq_true rfl⟩) hK hP hD hS hA (va_recv hK hP (ci := 0) (q0 := 0) rfl rfl) rfl hl.1 rfl (Nat.le_of_ble_eq_true rfl) dX0_passOf_2 ⟨Nat.zero_le _, Nat.zero_le _⟩ (fun r _ H locs hw hP hD hS => ?_)
  rcases hw with ⟨hnx, rfl⟩ | ⟨j, hj, rfl, rfl⟩
  · skip
    refine sr_if_eq (tgt := 25) hx hb (by decide) dX0_passOf_5 (by decide) (fun _ => ?_) (fun q => absurd q (by decide))
    refine lv_iconst (v := (-1)) hx hb dX0_passOf_25 (by decide) ?_
    exact W.iret (v := (-1)) hx hb hr (fun t ht hW => ⟨⟨(-1), (), rfl, (pass_1 hnx).symm, by rw [ht]; exact hP, hD⟩, hS.F ht⟩) hS.2.2 dX0_passOf_26
  · skip
    refine sr_if_eq (tgt := 25) hx hb (by decide) dX0_passOf_5 (by decide) (fun q => absurd q (by decide)) (fun _ => ?_)
    refine lv_aload_n hx hb dX0_passOf_8 rfl (lv_at hl 0 rfl) ?_
    refine lv_iload_n hx hb dX0_passOf_9 rfl (lv_at hl 1 rfl) ?_
    refine sc_i (wr := []) (wc := sw h0 aT aS aP aR aL cA N big n lp ft fs fp fr fl) (As := [.int (nI j)]) (rest := []) ⟨hx, hb, hml, hown, hts⟩ (kX0_isIn l dC dI h0 aT aS aP aR aL cA cZ cJ H.size N big n lp ft fs fp fr fl hN hft2 j hj) (cwV 1 hts gX0_passOf_X0_isIn rfl rfl rfl (by decide +kernel) ⟨Nat.le_of_ble_eq_true rfl, Nat.le_of_ble_eq_true rfl⟩) hK hP hD hS hA (va_recv hK hP (ci := 0) (q0 := 0) rfl rfl) rfl hl.1 rfl (Nat.le_of_ble_eq_true rfl) dX0_passOf_10 ⟨Nat.zero_le _, Nat.zero_le _⟩ (fun r _ H locs hw hP hD hS => ?_)
    rcases hw with ⟨ht0, rfl⟩ | ⟨ht0, rfl⟩
    · skip
      refine sr_if_eq (tgt := 25) hx hb (by decide) dX0_passOf_13 (by decide) (fun _ => ?_) (fun q => absurd q (by decide))
      refine lv_iconst (v := (-1)) hx hb dX0_passOf_25 (by decide) ?_
      exact W.iret (v := (-1)) hx hb hr (fun t ht hW => ⟨⟨(-1), (), rfl, (pass_2 hj hN ht0).symm, by rw [ht]; exact hP, hD⟩, hS.F ht⟩) hS.2.2 dX0_passOf_26
    · skip
      refine sr_if_eq (tgt := 25) hx hb (by decide) dX0_passOf_13 (by decide) (fun q => absurd q (by decide)) (fun _ => ?_)
      refine lv_aload_n hx hb dX0_passOf_16 rfl (lv_at hl 0 rfl) ?_
      refine va_get (D := (dC, dI)) (ci := 0) (v := .ref aP) (C := RX0) (T := TX0) (N := 9) hx hb hts wiX0_passOf hown hK hP 0 rfl rfl 4 (by decide) (hts (.fieldLink RX0 29 "StrideHeap" "passes" "[I") (by decide +kernel)) (fun _ h9 => h9) rfl dX0_passOf_17 ?_
      refine lv_iload_n hx hb dX0_passOf_20 rfl (lv_at hl 1 rfl) ?_
      refine sr_ald hx hb hK hP 3 0 rfl rfl (k := j) (by omega) (by omega) dX0_passOf_21 ?_
      refine lv_goto (tgt := 26) hx hb dX0_passOf_22 (by decide) ?_
      exact W.iret (v := nI (fp j)) hx hb hr (fun t ht hW => ⟨⟨nI (fp j), (), rfl, (pass_3 hj hN ht0).symm, by rw [ht]; exact hP, hD⟩, hS.F ht⟩) hS.2.2 dX0_passOf_26
set_option maxHeartbeats 4000000 in
set_option maxRecDepth 100000 in
/-- strideOf(x) -/
theorem kX0_strideOf (l : Launch) (dC : Nat → ClassId) (dI : Nat → Nat → Nat) (h0 aT aS aP aR aL : Nat) (cA cZ cJ : ClassId) (sz N big n lp : Nat) (ft fs fp fr fl : Nat → Nat) (hV : sh_V N big n lp ft fs fp fl) (x : Int32) : Met l yX0_strideOf wsX0_strideOf ({ frames := 1, cells := 0, slots := 0, locals := 21 }) (va_Pc [.ref h0, .int x] (sB dC dI (ty3 cA cZ cJ) sz (sw h0 aT aS aP aR aL cA N big n lp ft fs fp fr fl))) (va_Qi (fun (r : Int32) (_ : Unit) => r = sp_pass N ft (fun c => big / ft c) x) (fun _ => sE dC dI (va_A (sw h0 aT aS aP aR aL cA N big n lp ft fs fp fr fl) sz) (sw h0 aT aS aP aR aL cA N big n lp ft fs fp fr fl)) (va_A (sw h0 aT aS aP aR aL cA N big n lp ft fs fp fr fl) sz)) 0 0 (va_A (sw h0 aT aS aP aR aL cA N big n lp ft fs fp fr fl) sz) := by
  refine Met.ofW (cc := cX0_strideOf) (maxL := 2) (ret := (some .int)) (by decide) rfl ?_
  intro p e s m args below meth c s₁ B hml hv
  obtain ⟨rfl, hsz, hP, hK, hD0⟩ := hv
  have hx := B.exec
  have hb := B.bytes
  have hr := B.returns
  have hts := atoms_spec (ws := wsX0_strideOf) B.pre
  have hown : s.vm.findClass RX0 = some m.cls := findClass_of_methodNamed B.named
  have hlocks := B.notSynchronized
  subst hsz
  have hD := hD0.self (sz := s.heap.size)
  generalize hAe : va_A (sw h0 aT aS aP aR aL cA N big n lp ft fs fp fr fl) s.heap.size = A at hD ⊢
  have hA : ∀ q : Nat, s.heap.size ≤ q → A q := fun q h => by rw [← hAe]; exact Or.inr h
  have hS : va_S A s.heap s.heap [] := va_S.rf
  have hl := lv_entry ([.ref h0, .int x]) (n := 2) (Nat.le_of_ble_eq_true rfl)
  rw [lg_entry_eq]
  generalize (lg_sl ([.ref h0, .int x]) ++ List.replicate (2 - (lg_sl ([.ref h0, .int x])).length) Slot.unset).toArray = ls at hl ⊢
  have hl : lv_has ls 2 [(0, .ref h0), (1, .int x)] := hl
  obtain ⟨hN0, hN, hb2, hbig, hlp, hfp, hft, hfs, hI⟩ := id hV
  have hnN : n ≤ N := by rw [hI.1]; exact cnt_le ft N
  have hfl : ∀ i, i < n → fl i < N := fun i hi => (hI.2.1 i hi).1
  have hft2 : ∀ c, ft c < 2 ^ 31 := fun c => by have := hft c; omega
  refine lv_aload_n hx hb dX0_strideOf_0 rfl (lv_at hl 0 rfl) ?_
  refine lv_iload_n hx hb dX0_strideOf_1 rfl (lv_at hl 1 rfl) ?_
  refine sc_i (wr := []) (wc := sw h0 aT aS aP aR aL cA N big n lp ft fs fp fr fl) (As := [.int x]) (rest := []) ⟨hx, hb, hml, hown, hts⟩ (kX0_isClient l dC dI h0 aT aS aP aR aL cA cZ cJ s.heap.size N big n lp ft fs fp fr fl hN x) (cwV 1 hts gX0_strideOf_X0_isClient rfl rfl rfl (by decide +kernel) ⟨Nat.le_of_ble_eq_true rfl, Nat.le_of_ble_eq_true rfl⟩) hK hP hD hS hA (va_recv hK hP (ci := 0) (q0 := 0) rfl rfl) rfl hl.1 rfl (Nat.le_of_ble_eq_true rfl) dX0_strideOf_2 ⟨Nat.zero_le _, Nat.zero_le _⟩ (fun r _ H locs hw hP hD hS => ?_)
  rcases hw with ⟨hnx, rfl⟩ | ⟨j, hj, rfl, rfl⟩
  · skip
    refine sr_if_eq (tgt := 25) hx hb (by decide) dX0_strideOf_5 (by decide) (fun _ => ?_) (fun q => absurd q (by decide))
    refine lv_iconst (v := (-1)) hx hb dX0_strideOf_25 (by decide) ?_
    exact W.iret (v := (-1)) hx hb hr (fun t ht hW => ⟨⟨(-1), (), rfl, (pass_1 hnx).symm, by rw [ht]; exact hP, hD⟩, hS.F ht⟩) hS.2.2 dX0_strideOf_26
  · skip
    refine sr_if_eq (tgt := 25) hx hb (by decide) dX0_strideOf_5 (by decide) (fun q => absurd q (by decide)) (fun _ => ?_)
    refine lv_aload_n hx hb dX0_strideOf_8 rfl (lv_at hl 0 rfl) ?_
    refine lv_iload_n hx hb dX0_strideOf_9 rfl (lv_at hl 1 rfl) ?_
    refine sc_i (wr := []) (wc := sw h0 aT aS aP aR aL cA N big n lp ft fs fp fr fl) (As := [.int (nI j)]) (rest := []) ⟨hx, hb, hml, hown, hts⟩ (kX0_isIn l dC dI h0 aT aS aP aR aL cA cZ cJ H.size N big n lp ft fs fp fr fl hN hft2 j hj) (cwV 1 hts gX0_strideOf_X0_isIn rfl rfl rfl (by decide +kernel) ⟨Nat.le_of_ble_eq_true rfl, Nat.le_of_ble_eq_true rfl⟩) hK hP hD hS hA (va_recv hK hP (ci := 0) (q0 := 0) rfl rfl) rfl hl.1 rfl (Nat.le_of_ble_eq_true rfl) dX0_strideOf_10 ⟨Nat.zero_le _, Nat.zero_le _⟩ (fun r _ H locs hw hP hD hS => ?_)
    rcases hw with ⟨ht0, rfl⟩ | ⟨ht0, rfl⟩
    · skip
      refine sr_if_eq (tgt := 25) hx hb (by decide) dX0_strideOf_13 (by decide) (fun _ => ?_) (fun q => absurd q (by decide))
      refine lv_iconst (v := (-1)) hx hb dX0_strideOf_25 (by decide) ?_
      exact W.iret (v := (-1)) hx hb hr (fun t ht hW => ⟨⟨(-1), (), rfl, (pass_2 hj hN ht0).symm, by rw [ht]; exact hP, hD⟩, hS.F ht⟩) hS.2.2 dX0_strideOf_26
    · skip
      refine sr_if_eq (tgt := 25) hx hb (by decide) dX0_strideOf_13 (by decide) (fun q => absurd q (by decide)) (fun _ => ?_)
      refine lv_aload_n hx hb dX0_strideOf_16 rfl (lv_at hl 0 rfl) ?_
      refine va_get (D := (dC, dI)) (ci := 0) (v := .ref aS) (C := RX0) (T := TX0) (N := 9) hx hb hts wiX0_strideOf hown hK hP 0 rfl rfl 3 (by decide) (hts (.fieldLink RX0 26 "StrideHeap" "strides" "[I") (by decide +kernel)) (fun _ h9 => h9) rfl dX0_strideOf_17 ?_
      refine lv_iload_n hx hb dX0_strideOf_20 rfl (lv_at hl 1 rfl) ?_
      refine sr_ald hx hb hK hP 2 0 rfl rfl (k := j) (by omega) (by omega) dX0_strideOf_21 ?_
      refine lv_goto (tgt := 26) hx hb dX0_strideOf_22 (by decide) ?_
      exact W.iret (v := nI (fs j)) hx hb hr (fun t ht hW => ⟨⟨nI (fs j), (), rfl, (by rw [pass_3 hj hN ht0, hfs j ht0]), by rw [ht]; exact hP, hD⟩, hS.F ht⟩) hS.2.2 dX0_strideOf_26
set_option maxHeartbeats 4000000 in
set_option maxRecDepth 100000 in
/-- clients() -/
theorem kX0_clients (l : Launch) (dC : Nat → ClassId) (dI : Nat → Nat → Nat) (h0 aT aS aP aR aL : Nat) (cA cZ cJ : ClassId) (sz N big n lp : Nat) (ft fs fp fr fl : Nat → Nat) (hV : sh_V N big n lp ft fs fp fl) : Met l yX0_clients wsX0_clients ({ frames := 0, cells := 0, slots := 0, locals := 0 }) (va_Pc [.ref h0] (sB dC dI (ty3 cA cZ cJ) sz (sw h0 aT aS aP aR aL cA N big n lp ft fs fp fr fl))) (va_Qi (fun (r : Int32) (_ : Unit) => r = nI n) (fun _ => sE dC dI (va_A (sw h0 aT aS aP aR aL cA N big n lp ft fs fp fr fl) sz) (sw h0 aT aS aP aR aL cA N big n lp ft fs fp fr fl)) (va_A (sw h0 aT aS aP aR aL cA N big n lp ft fs fp fr fl) sz)) 0 0 (va_A (sw h0 aT aS aP aR aL cA N big n lp ft fs fp fr fl) sz) := by
  refine Met.ofW (cc := cX0_clients) (maxL := 1) (ret := (some .int)) (by decide) rfl ?_
  intro p e s m args below meth c s₁ B hml hv
  obtain ⟨rfl, hsz, hP, hK, hD0⟩ := hv
  have hx := B.exec
  have hb := B.bytes
  have hr := B.returns
  have hts := atoms_spec (ws := wsX0_clients) B.pre
  have hown : s.vm.findClass RX0 = some m.cls := findClass_of_methodNamed B.named
  have hlocks := B.notSynchronized
  subst hsz
  have hD := hD0.self (sz := s.heap.size)
  generalize hAe : va_A (sw h0 aT aS aP aR aL cA N big n lp ft fs fp fr fl) s.heap.size = A at hD ⊢
  have hA : ∀ q : Nat, s.heap.size ≤ q → A q := fun q h => by rw [← hAe]; exact Or.inr h
  have hS : va_S A s.heap s.heap [] := va_S.rf
  have hl := lv_entry ([.ref h0]) (n := 1) (Nat.le_of_ble_eq_true rfl)
  rw [lg_entry_eq]
  generalize (lg_sl ([.ref h0]) ++ List.replicate (1 - (lg_sl ([.ref h0])).length) Slot.unset).toArray = ls at hl ⊢
  have hl : lv_has ls 1 [(0, .ref h0)] := hl
  refine lv_aload_n hx hb dX0_clients_0 rfl (lv_at hl 0 rfl) ?_
  refine va_get (D := (dC, dI)) (ci := 0) (v := .int (nI n)) (C := RX0) (T := TX0) (N := 9) hx hb hts wiX0_clients hown hK hP 0 rfl rfl 7 (by decide) (hts (.fieldLink RX0 38 "StrideHeap" "inLine" "I") (by decide +kernel)) (fun _ h9 => h9) rfl dX0_clients_1 ?_
  exact W.iret (v := nI n) hx hb hr (fun t ht hW => ⟨⟨nI n, (), rfl, rfl, by rw [ht]; exact hP, hD⟩, hS.F ht⟩) hS.2.2 dX0_clients_4
set_option maxHeartbeats 4000000 in
set_option maxRecDepth 100000 in
/-- spread() -/
theorem kX0_spread (l : Launch) (dC : Nat → ClassId) (dI : Nat → Nat → Nat) (h0 aT aS aP aR aL : Nat) (cA cZ cJ : ClassId) (sz N big n lp : Nat) (ft fs fp fr fl : Nat → Nat) (hV : sh_V N big n lp ft fs fp fl) : Met l yX0_spread wsX0_spread ({ frames := 0, cells := 0, slots := 0, locals := 0 }) (va_Pc [.ref h0] (sB dC dI (ty3 cA cZ cJ) sz (sw h0 aT aS aP aR aL cA N big n lp ft fs fp fr fl))) (va_Qi (fun (r : Int32) (_ : Unit) => r = sp_spread N ft fp) (fun _ => sE dC dI (va_A (sw h0 aT aS aP aR aL cA N big n lp ft fs fp fr fl) sz) (sw h0 aT aS aP aR aL cA N big n lp ft fs fp fr fl)) (va_A (sw h0 aT aS aP aR aL cA N big n lp ft fs fp fr fl) sz)) 0 0 (va_A (sw h0 aT aS aP aR aL cA N big n lp ft fs fp fr fl) sz) := by
  refine Met.ofW (cc := cX0_spread) (maxL := 1) (ret := (some .int)) (by decide) rfl ?_
  intro p e s m args below meth c s₁ B hml hv
  obtain ⟨rfl, hsz, hP, hK, hD0⟩ := hv
  have hx := B.exec
  have hb := B.bytes
  have hr := B.returns
  have hts := atoms_spec (ws := wsX0_spread) B.pre
  have hown : s.vm.findClass RX0 = some m.cls := findClass_of_methodNamed B.named
  have hlocks := B.notSynchronized
  subst hsz
  have hD := hD0.self (sz := s.heap.size)
  generalize hAe : va_A (sw h0 aT aS aP aR aL cA N big n lp ft fs fp fr fl) s.heap.size = A at hD ⊢
  have hA : ∀ q : Nat, s.heap.size ≤ q → A q := fun q h => by rw [← hAe]; exact Or.inr h
  have hS : va_S A s.heap s.heap [] := va_S.rf
  have hl := lv_entry ([.ref h0]) (n := 1) (Nat.le_of_ble_eq_true rfl)
  rw [lg_entry_eq]
  generalize (lg_sl ([.ref h0]) ++ List.replicate (1 - (lg_sl ([.ref h0])).length) Slot.unset).toArray = ls at hl ⊢
  have hl : lv_has ls 1 [(0, .ref h0)] := hl
  obtain ⟨hN0, hN, hb2, hbig, hlp, hfp, hft, hfs, hI⟩ := id hV
  have hnN : n ≤ N := by rw [hI.1]; exact cnt_le ft N
  have hfl : ∀ i, i < n → fl i < N := fun i hi => (hI.2.1 i hi).1
  have hft2 : ∀ c, ft c < 2 ^ 31 := fun c => by have := hft c; omega
  refine lv_aload_n hx hb dX0_spread_0 rfl (lv_at hl 0 rfl) ?_
  refine va_get (D := (dC, dI)) (ci := 0) (v := .int (nI n)) (C := RX0) (T := TX0) (N := 9) hx hb hts wiX0_spread hown hK hP 0 rfl rfl 7 (by decide) (hts (.fieldLink RX0 38 "StrideHeap" "inLine" "I") (by decide +kernel)) (fun _ h9 => h9) rfl dX0_spread_1 ?_
  refine sr_if_ne (tgt := 9) hx hb (by omega) dX0_spread_4 (by decide) (fun c1 => ?_) (fun c1 => ?_)
  · skip
    have hsp := spread_I hI c1
    have hm1 : fl (n - 1) < N := hfl _ (by omega)
    have hm0 : fl 0 < N := hfl _ c1
    refine lv_aload_n hx hb dX0_spread_9 rfl (lv_at hl 0 rfl) ?_
    refine va_get (D := (dC, dI)) (ci := 0) (v := .ref aP) (C := RX0) (T := TX0) (N := 9) hx hb hts wiX0_spread hown hK hP 0 rfl rfl 4 (by decide) (hts (.fieldLink RX0 29 "StrideHeap" "passes" "[I") (by decide +kernel)) (fun _ h9 => h9) rfl dX0_spread_10 ?_
    refine lv_aload_n hx hb dX0_spread_13 rfl (lv_at hl 0 rfl) ?_
    refine va_get (D := (dC, dI)) (ci := 0) (v := .ref aL) (C := RX0) (T := TX0) (N := 9) hx hb hts wiX0_spread hown hK hP 0 rfl rfl 6 (by decide) (hts (.fieldLink RX0 35 "StrideHeap" "line" "[I") (by decide +kernel)) (fun _ h9 => h9) rfl dX0_spread_14 ?_
    refine lv_aload_n hx hb dX0_spread_17 rfl (lv_at hl 0 rfl) ?_
    refine va_get (D := (dC, dI)) (ci := 0) (v := .int (nI n)) (C := RX0) (T := TX0) (N := 9) hx hb hts wiX0_spread hown hK hP 0 rfl rfl 7 (by decide) (hts (.fieldLink RX0 38 "StrideHeap" "inLine" "I") (by decide +kernel)) (fun _ h9 => h9) rfl dX0_spread_18 ?_
    refine lv_iconst (v := nI 1) hx hb dX0_spread_21 (by decide) ?_
    refine sr_isub hx hb (by omega) dX0_spread_22 ?_
    refine sr_ald hx hb hK hP 5 0 rfl rfl (k := n - 1) (by omega) (by omega) dX0_spread_23 ?_
    refine sr_ald hx hb hK hP 3 0 rfl rfl (k := fl (n - 1)) (by omega) (by omega) dX0_spread_24 ?_
    refine lv_aload_n hx hb dX0_spread_25 rfl (lv_at hl 0 rfl) ?_
    refine va_get (D := (dC, dI)) (ci := 0) (v := .ref aP) (C := RX0) (T := TX0) (N := 9) hx hb hts wiX0_spread hown hK hP 0 rfl rfl 4 (by decide) (hts (.fieldLink RX0 29 "StrideHeap" "passes" "[I") (by decide +kernel)) (fun _ h9 => h9) rfl dX0_spread_26 ?_
    refine lv_aload_n hx hb dX0_spread_29 rfl (lv_at hl 0 rfl) ?_
    refine va_get (D := (dC, dI)) (ci := 0) (v := .ref aL) (C := RX0) (T := TX0) (N := 9) hx hb hts wiX0_spread hown hK hP 0 rfl rfl 6 (by decide) (hts (.fieldLink RX0 35 "StrideHeap" "line" "[I") (by decide +kernel)) (fun _ h9 => h9) rfl dX0_spread_30 ?_
    refine lv_iconst (v := nI 0) hx hb dX0_spread_33 (by decide) ?_
    refine sr_ald hx hb hK hP 5 0 rfl rfl (k := 0) (by omega) (by omega) dX0_spread_34 ?_
    refine sr_ald hx hb hK hP 3 0 rfl rfl (k := fl 0) (by omega) (by omega) dX0_spread_35 ?_
    refine sr_isub hx hb hsp.1 dX0_spread_36 ?_
    exact W.iret (v := nI ((fp (fl (n - 1))) - (fp (fl 0)))) hx hb hr (fun t ht hW => ⟨⟨nI ((fp (fl (n - 1))) - (fp (fl 0))), (), rfl, hsp.2.symm, by rw [ht]; exact hP, hD⟩, hS.F ht⟩) hS.2.2 dX0_spread_37
  · skip
    refine lv_iconst (v := (-1)) hx hb dX0_spread_7 (by decide) ?_
    exact W.iret (v := (-1)) hx hb hr (fun t ht hW => ⟨⟨(-1), (), rfl, (spread_0 hI c1).symm, by rw [ht]; exact hP, hD⟩, hS.F ht⟩) hS.2.2 dX0_spread_8
set_option maxHeartbeats 4000000 in
set_option maxRecDepth 100000 in
/-- order(x) -/
theorem kX0_order (l : Launch) (dC : Nat → ClassId) (dI : Nat → Nat → Nat) (h0 aT aS aP aR aL : Nat) (cA cZ cJ : ClassId) (sz N big n lp : Nat) (ft fs fp fr fl : Nat → Nat) (hV : sh_V N big n lp ft fs fp fl) (x : Int32) : Met l yX0_order wsX0_order ({ frames := 0, cells := 0, slots := 0, locals := 0 }) (va_Pc [.ref h0, .int x] (sB dC dI (ty3 cA cZ cJ) sz (sw h0 aT aS aP aR aL cA N big n lp ft fs fp fr fl))) (va_Qi (fun (r : Int32) (_ : Unit) => (sh_ix n x = none ∧ r = (-1)) ∨ ∃ k c, k < n ∧ x = nI k ∧ c < N ∧ 0 < ft c ∧ sh_rk ft fp c N = k ∧ r = nI c) (fun _ => sE dC dI (va_A (sw h0 aT aS aP aR aL cA N big n lp ft fs fp fr fl) sz) (sw h0 aT aS aP aR aL cA N big n lp ft fs fp fr fl)) (va_A (sw h0 aT aS aP aR aL cA N big n lp ft fs fp fr fl) sz)) 0 0 (va_A (sw h0 aT aS aP aR aL cA N big n lp ft fs fp fr fl) sz) := by
  refine Met.ofW (cc := cX0_order) (maxL := 2) (ret := (some .int)) (by decide) rfl ?_
  intro p e s m args below meth c s₁ B hml hv
  obtain ⟨rfl, hsz, hP, hK, hD0⟩ := hv
  have hx := B.exec
  have hb := B.bytes
  have hr := B.returns
  have hts := atoms_spec (ws := wsX0_order) B.pre
  have hown : s.vm.findClass RX0 = some m.cls := findClass_of_methodNamed B.named
  have hlocks := B.notSynchronized
  subst hsz
  have hD := hD0.self (sz := s.heap.size)
  generalize hAe : va_A (sw h0 aT aS aP aR aL cA N big n lp ft fs fp fr fl) s.heap.size = A at hD ⊢
  have hA : ∀ q : Nat, s.heap.size ≤ q → A q := fun q h => by rw [← hAe]; exact Or.inr h
  have hS : va_S A s.heap s.heap [] := va_S.rf
  have hl := lv_entry ([.ref h0, .int x]) (n := 2) (Nat.le_of_ble_eq_true rfl)
  rw [lg_entry_eq]
  generalize (lg_sl ([.ref h0, .int x]) ++ List.replicate (2 - (lg_sl ([.ref h0, .int x])).length) Slot.unset).toArray = ls at hl ⊢
  have hl : lv_has ls 2 [(0, .ref h0), (1, .int x)] := hl
  obtain ⟨hN0, hN, hb2, hbig, hlp, hfp, hft, hfs, hI⟩ := id hV
  have hnN : n ≤ N := by rw [hI.1]; exact cnt_le ft N
  have hfl : ∀ i, i < n → fl i < N := fun i hi => (hI.2.1 i hi).1
  have hft2 : ∀ c, ft c < 2 ^ 31 := fun c => by have := hft c; omega
  refine lv_iload_n hx hb dX0_order_0 rfl (lv_at hl 1 rfl) ?_
  refine lv_if_lt (tgt := 21) hx hb dX0_order_1 (by decide) (fun c1 => ?_) (fun c1 => ?_)
  · skip
    refine lv_iconst (v := (-1)) hx hb dX0_order_21 (by decide) ?_
    exact W.iret (v := (-1)) hx hb hr (fun t ht hW => ⟨⟨(-1), (), rfl, Or.inl ⟨ix_lo c1, rfl⟩, by rw [ht]; exact hP, hD⟩, hS.F ht⟩) hS.2.2 dX0_order_22
  · skip
    refine lv_iload_n hx hb dX0_order_4 rfl (lv_at hl 1 rfl) ?_
    refine lv_aload_n hx hb dX0_order_5 rfl (lv_at hl 0 rfl) ?_
    refine va_get (D := (dC, dI)) (ci := 0) (v := .int (nI n)) (C := RX0) (T := TX0) (N := 9) hx hb hts wiX0_order hown hK hP 0 rfl rfl 7 (by decide) (hts (.fieldLink RX0 38 "StrideHeap" "inLine" "I") (by decide +kernel)) (fun _ h9 => h9) rfl dX0_order_6 ?_
    refine lv_icmp_ge (tgt := 21) hx hb dX0_order_9 (by decide) (fun c2 => ?_) (fun c2 => ?_)
    · skip
      refine lv_iconst (v := (-1)) hx hb dX0_order_21 (by decide) ?_
      exact W.iret (v := (-1)) hx hb hr (fun t ht hW => ⟨⟨(-1), (), rfl, Or.inl ⟨ix_hi c2, rfl⟩, by rw [ht]; exact hP, hD⟩, hS.F ht⟩) hS.2.2 dX0_order_22
    · skip
      obtain ⟨k, hk, rfl⟩ := ix_yes c1 c2 (by omega)
      refine lv_aload_n hx hb dX0_order_12 rfl (lv_at hl 0 rfl) ?_
      refine va_get (D := (dC, dI)) (ci := 0) (v := .ref aL) (C := RX0) (T := TX0) (N := 9) hx hb hts wiX0_order hown hK hP 0 rfl rfl 6 (by decide) (hts (.fieldLink RX0 35 "StrideHeap" "line" "[I") (by decide +kernel)) (fun _ h9 => h9) rfl dX0_order_13 ?_
      refine lv_iload_n hx hb dX0_order_16 rfl (lv_at hl 1 rfl) ?_
      refine sr_ald hx hb hK hP 5 0 rfl rfl (k := k) (by omega) (by omega) dX0_order_17 ?_
      refine lv_goto (tgt := 22) hx hb dX0_order_18 (by decide) ?_
      exact W.iret (v := nI (fl k)) hx hb hr (fun t ht hW => ⟨⟨nI (fl k), (), rfl, Or.inr ⟨k, fl k, hk, rfl, (hI.2.1 k hk).1, (hI.2.1 k hk).2, rk_I hI hk, rfl⟩, by rw [ht]; exact hP, hD⟩, hS.F ht⟩) hS.2.2 dX0_order_22
