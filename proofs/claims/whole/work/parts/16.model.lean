-- THE REFERENCE: its private methods
theorem fi_s0 {t p : Nat → Nat} {c : Nat} (h : t c = 0) : sh_fi t p (c + 1) = sh_fi t p c := by
  simp only [sh_fi]
  exact if_neg (by omega)
theorem fi_s1 {t p : Nat → Nat} {c : Nat} (h : 0 < t c) (h1 : sh_fi t p c = 0) : sh_fi t p (c + 1) = c + 1 := by
  simp only [sh_fi]
  exact if_pos ⟨h, Or.inl h1⟩
theorem fi_s2 {t p : Nat → Nat} {c b : Nat} (h : 0 < t c) (h1 : sh_fi t p c = b + 1) (h2 : sh_bf p c b) : sh_fi t p (c + 1) = c + 1 := by
  simp only [sh_fi]
  rw [h1]
  exact if_pos ⟨h, Or.inr h2⟩
theorem fi_s3 {t p : Nat → Nat} {c b : Nat} (h1 : sh_fi t p c = b + 1) (h2 : ¬ sh_bf p c b) : sh_fi t p (c + 1) = sh_fi t p c := by
  simp only [sh_fi]
  rw [h1]
  refine if_neg (fun q => ?_)
  rcases q.2 with z | z
  · omega
  · exact h2 z
def sf_i (v : Nat) : Int32 := if v = 0 then -1 else nI (v - 1)
theorem sf_0 : sf_i 0 = -1 := rfl
theorem sf_s (b : Nat) : sf_i (b + 1) = nI b := rfl
theorem M_turn {N big n lp b x : Nat} {ft fk fp : Nat → Nat} (h : sh_M N big n lp ft fk fp) (hx : x < 2 ^ 31) : sh_M N big n lp ft fk (sh_up fp b x) := by
  obtain ⟨h1, h2, h3, h4, h5, h6, h7, h8, h9⟩ := h
  refine ⟨h1, h2, h3, h4, h5, fun c => ?_, h7, h8, h9⟩
  by_cases q : c = b
  · rw [q, sh_up_s]; exact hx
  · rw [sh_up_n fp x q]; exact h6 c
theorem M_join {N big n lp c tk x : Nat} {ft fk fp : Nat → Nat} (h : sh_M N big n lp ft fk fp) (hc : c < N) (h0 : ft c = 0) (htk : 0 < tk) (htb : tk < big) (hx : x < 2 ^ 31) : sh_M N big (n + 1) lp (sh_up ft c tk) (sh_up fk c tk) (sh_up fp c x) := by
  obtain ⟨h1, h2, h3, h4, h5, h6, h7, h8, h9⟩ := h
  refine ⟨h1, h2, h3, h4, h5, fun d => ?_, fun d => ?_, fun d => ?_, by rw [cnt_in ft h0 htk N hc, ← h9]⟩
  · by_cases q : d = c
    · rw [q, sh_up_s]; exact hx
    · rw [sh_up_n fp x q]; exact h6 d
  · by_cases q : d = c
    · rw [q, sh_up_s]; exact htb
    · rw [sh_up_n ft tk q]; exact h7 d
  · by_cases q : d = c
    · rw [q, sh_up_s, sh_up_s]; exact fun _ => rfl
    · rw [sh_up_n ft tk q, sh_up_n fk _ q]; exact h8 d
theorem M_leave {N big n lp c : Nat} {ft fk fp : Nat → Nat} (h : sh_M N big n lp ft fk fp) (hc : c < N) (h0 : 0 < ft c) : sh_M N big (n - 1) (fp c) (sh_up ft c 0) fk fp := by
  obtain ⟨h1, h2, h3, h4, h5, h6, h7, h8, h9⟩ := h
  refine ⟨h1, h2, h3, h4, h6 c, h6, fun d => ?_, fun d => ?_, ?_⟩
  · by_cases q : d = c
    · rw [q, sh_up_s]; omega
    · rw [sh_up_n ft 0 q]; exact h7 d
  · by_cases q : d = c
    · rw [q, sh_up_s]; intro z; omega
    · rw [sh_up_n ft 0 q]; exact h8 d
  · have := cnt_off ft h0 N hc
    omega
theorem M_change {N big n lp c tk : Nat} {ft fk fp : Nat → Nat} (h : sh_M N big n lp ft fk fp) (h0 : 0 < ft c) (htk : 0 < tk) (htb : tk < big) : sh_M N big n lp (sh_up ft c tk) (sh_up fk c tk) fp := by
  obtain ⟨h1, h2, h3, h4, h5, h6, h7, h8, h9⟩ := h
  refine ⟨h1, h2, h3, h4, h5, h6, fun d => ?_, fun d => ?_, by rw [cnt_same ft h0 htk N]; exact h9⟩
  · by_cases q : d = c
    · rw [q, sh_up_s]; exact htb
    · rw [sh_up_n ft tk q]; exact h7 d
  · by_cases q : d = c
    · rw [q, sh_up_s, sh_up_s]; exact fun _ => rfl
    · rw [sh_up_n ft tk q, sh_up_n fk _ q]; exact h8 d
set_option maxHeartbeats 4000000 in
set_option maxRecDepth 100000 in
/-- isClient(x) -/
theorem kX1_isClient (l : Launch) (dC : Nat → ClassId) (dI : Nat → Nat → Nat) (k0 bI bT bP bR : Nat) (cA cZ cJ : ClassId) (sz N big n lp : Nat) (ft fk fp fr : Nat → Nat) (hN : N ≤ 64) (x : Int32) : Met l yX1_isClient wsX1_isClient ({ frames := 0, cells := 0, slots := 0, locals := 0 }) (va_Pc [.ref k0, .int x] (sB dC dI (ty3 cA cZ cJ) sz (mw k0 bI bT bP bR cA cZ cJ N big n lp ft fk fp fr))) (va_Qi (fun (r : Int32) (_ : Unit) => (sh_ix N x = none ∧ r = nI 0) ∨ ∃ j, j < N ∧ x = nI j ∧ r = nI 1) (fun _ => sE dC dI (va_A (mw k0 bI bT bP bR cA cZ cJ N big n lp ft fk fp fr) sz) (mw k0 bI bT bP bR cA cZ cJ N big n lp ft fk fp fr)) (va_A (mw k0 bI bT bP bR cA cZ cJ N big n lp ft fk fp fr) sz)) 0 0 (va_A (mw k0 bI bT bP bR cA cZ cJ N big n lp ft fk fp fr) sz) := by
  refine Met.ofW (cc := cX1_isClient) (maxL := 2) (ret := (some .boolean)) (by decide) rfl ?_
  intro p e s m args below meth c s₁ B hml hv
  obtain ⟨rfl, hsz, hP, hK, hD0⟩ := hv
  have hx := B.exec
  have hb := B.bytes
  have hr := B.returns
  have hts := atoms_spec (ws := wsX1_isClient) B.pre
  have hown : s.vm.findClass RX1 = some m.cls := findClass_of_methodNamed B.named
  have hlocks := B.notSynchronized
  subst hsz
  have hD := hD0.self (sz := s.heap.size)
  generalize hAe : va_A (mw k0 bI bT bP bR cA cZ cJ N big n lp ft fk fp fr) s.heap.size = A at hD ⊢
  have hA : ∀ q : Nat, s.heap.size ≤ q → A q := fun q h => by rw [← hAe]; exact Or.inr h
  have hS : va_S A s.heap s.heap [] := va_S.rf
  have hl := lv_entry ([.ref k0, .int x]) (n := 2) (Nat.le_of_ble_eq_true rfl)
  rw [lg_entry_eq]
  generalize (lg_sl ([.ref k0, .int x]) ++ List.replicate (2 - (lg_sl ([.ref k0, .int x])).length) Slot.unset).toArray = ls at hl ⊢
  have hl : lv_has ls 2 [(0, .ref k0), (1, .int x)] := hl
  refine lv_iload_n hx hb dX1_isClient_0 rfl (lv_at hl 1 rfl) ?_
  refine lv_if_lt (tgt := 16) hx hb dX1_isClient_1 (by decide) (fun c1 => ?_) (fun c1 => ?_)
  · skip
    refine lv_iconst (v := nI 0) hx hb dX1_isClient_16 (by decide) ?_
    exact W.zret (v := nI 0) hx hb hr (by rfl) (fun t ht hW => ⟨⟨nI 0, (), rfl, Or.inl ⟨ix_lo c1, rfl⟩, by rw [ht]; exact hP, hD⟩, hS.F ht⟩) hS.2.2 dX1_isClient_17
  · skip
    refine lv_iload_n hx hb dX1_isClient_4 rfl (lv_at hl 1 rfl) ?_
    refine lv_aload_n hx hb dX1_isClient_5 rfl (lv_at hl 0 rfl) ?_
    refine va_get (D := (dC, dI)) (ci := 1) (v := .int (nI N)) (C := RX1) (T := TX1) (N := 8) hx hb hts wiX1_isClient hown hK hP 0 rfl rfl 0 (by decide) (hts (.fieldLink RX1 24 "StrideHeapModel" "cap" "I") (by decide +kernel)) (fun _ h9 => h9) rfl dX1_isClient_6 ?_
    refine lv_icmp_ge (tgt := 16) hx hb dX1_isClient_9 (by decide) (fun c2 => ?_) (fun c2 => ?_)
    · skip
      refine lv_iconst (v := nI 0) hx hb dX1_isClient_16 (by decide) ?_
      exact W.zret (v := nI 0) hx hb hr (by rfl) (fun t ht hW => ⟨⟨nI 0, (), rfl, Or.inl ⟨ix_hi c2, rfl⟩, by rw [ht]; exact hP, hD⟩, hS.F ht⟩) hS.2.2 dX1_isClient_17
    · skip
      refine lv_iconst (v := nI 1) hx hb dX1_isClient_12 (by decide) ?_
      refine lv_goto (tgt := 17) hx hb dX1_isClient_13 (by decide) ?_
      exact W.zret (v := nI 1) hx hb hr (by rfl) (fun t ht hW => ⟨⟨nI 1, (), rfl, (by obtain ⟨j, hj, e⟩ := ix_yes c1 c2 (by omega); exact Or.inr ⟨j, hj, e, rfl⟩), by rw [ht]; exact hP, hD⟩, hS.F ht⟩) hS.2.2 dX1_isClient_17
set_option maxHeartbeats 4000000 in
set_option maxRecDepth 100000 in
/-- isIn(x) -/
theorem kX1_isIn (l : Launch) (dC : Nat → ClassId) (dI : Nat → Nat → Nat) (k0 bI bT bP bR : Nat) (cA cZ cJ : ClassId) (sz N big n lp : Nat) (ft fk fp fr : Nat → Nat) (hN : N ≤ 64) (x : Int32) : Met l yX1_isIn wsX1_isIn ({ frames := 1, cells := 0, slots := 0, locals := 21 }) (va_Pc [.ref k0, .int x] (sB dC dI (ty3 cA cZ cJ) sz (mw k0 bI bT bP bR cA cZ cJ N big n lp ft fk fp fr))) (va_Qi (fun (r : Int32) (_ : Unit) => (sh_ix N x = none ∧ r = nI 0) ∨ ∃ j, j < N ∧ x = nI j ∧ ((ft j = 0 ∧ r = nI 0) ∨ (0 < ft j ∧ r = nI 1))) (fun _ => sE dC dI (va_A (mw k0 bI bT bP bR cA cZ cJ N big n lp ft fk fp fr) sz) (mw k0 bI bT bP bR cA cZ cJ N big n lp ft fk fp fr)) (va_A (mw k0 bI bT bP bR cA cZ cJ N big n lp ft fk fp fr) sz)) 0 0 (va_A (mw k0 bI bT bP bR cA cZ cJ N big n lp ft fk fp fr) sz) := by
  refine Met.ofW (cc := cX1_isIn) (maxL := 2) (ret := (some .boolean)) (by decide) rfl ?_
  intro p e s m args below meth c s₁ B hml hv
  obtain ⟨rfl, hsz, hP, hK, hD0⟩ := hv
  have hx := B.exec
  have hb := B.bytes
  have hr := B.returns
  have hts := atoms_spec (ws := wsX1_isIn) B.pre
  have hown : s.vm.findClass RX1 = some m.cls := findClass_of_methodNamed B.named
  have hlocks := B.notSynchronized
  subst hsz
  have hD := hD0.self (sz := s.heap.size)
  generalize hAe : va_A (mw k0 bI bT bP bR cA cZ cJ N big n lp ft fk fp fr) s.heap.size = A at hD ⊢
  have hA : ∀ q : Nat, s.heap.size ≤ q → A q := fun q h => by rw [← hAe]; exact Or.inr h
  have hS : va_S A s.heap s.heap [] := va_S.rf
  have hl := lv_entry ([.ref k0, .int x]) (n := 2) (Nat.le_of_ble_eq_true rfl)
  rw [lg_entry_eq]
  generalize (lg_sl ([.ref k0, .int x]) ++ List.replicate (2 - (lg_sl ([.ref k0, .int x])).length) Slot.unset).toArray = ls at hl ⊢
  have hl : lv_has ls 2 [(0, .ref k0), (1, .int x)] := hl
  refine lv_aload_n hx hb dX1_isIn_0 rfl (lv_at hl 0 rfl) ?_
  refine lv_iload_n hx hb dX1_isIn_1 rfl (lv_at hl 1 rfl) ?_
  refine sc_i (wr := []) (wc := mw k0 bI bT bP bR cA cZ cJ N big n lp ft fk fp fr) (As := [.int x]) (rest := []) ⟨hx, hb, hml, hown, hts⟩ (kX1_isClient l dC dI k0 bI bT bP bR cA cZ cJ s.heap.size N big n lp ft fk fp fr hN x) (cwV 1 hts gX1_isIn_X1_isClient rfl rfl rfl (by decide +kernel) ⟨Nat.le_of_ble_eq_true rfl, Nat.le_of_ble_eq_true rfl⟩) hK hP hD hS hA (va_recv hK hP (ci := 1) (q0 := 0) rfl rfl) rfl hl.1 rfl (Nat.le_of_ble_eq_true rfl) dX1_isIn_2 ⟨Nat.zero_le _, Nat.zero_le _⟩ (fun r _ H locs hw hP hD hS => ?_)
  rcases hw with ⟨hnx, rfl⟩ | ⟨j, hj, rfl, rfl⟩
  · skip
    refine sr_if_eq (tgt := 21) hx hb (by decide) dX1_isIn_5 (by decide) (fun _ => ?_) (fun q => absurd q (by decide))
    refine lv_iconst (v := nI 0) hx hb dX1_isIn_21 (by decide) ?_
    exact W.zret (v := nI 0) hx hb hr (by rfl) (fun t ht hW => ⟨⟨nI 0, (), rfl, Or.inl ⟨hnx, rfl⟩, by rw [ht]; exact hP, hD⟩, hS.F ht⟩) hS.2.2 dX1_isIn_22
  · skip
    refine sr_if_eq (tgt := 21) hx hb (by decide) dX1_isIn_5 (by decide) (fun q => absurd q (by decide)) (fun _ => ?_)
    refine lv_aload_n hx hb dX1_isIn_8 rfl (lv_at hl 0 rfl) ?_
    refine va_get (D := (dC, dI)) (ci := 1) (v := .ref bI) (C := RX1) (T := TX1) (N := 8) hx hb hts wiX1_isIn hown hK hP 0 rfl rfl 2 (by decide) (hts (.fieldLink RX1 7 "StrideHeapModel" "in" "[Z") (by decide +kernel)) (fun _ h9 => h9) rfl dX1_isIn_9 ?_
    refine lv_iload_n hx hb dX1_isIn_12 rfl (lv_at hl 1 rfl) ?_
    refine sr_zald hx hb hK hP 1 1 rfl rfl (k := j) (by omega) (by omega) dX1_isIn_13 ?_
    refine sr_if_eq (tgt := 21) hx hb (in_lt ft j) dX1_isIn_14 (by decide) (fun c1 => ?_) (fun c1 => ?_)
    · skip
      refine lv_iconst (v := nI 0) hx hb dX1_isIn_21 (by decide) ?_
      exact W.zret (v := nI 0) hx hb hr (by rfl) (fun t ht hW => ⟨⟨nI 0, (), rfl, Or.inr ⟨j, hj, rfl, Or.inl ⟨in_0.mp c1, rfl⟩⟩, by rw [ht]; exact hP, hD⟩, hS.F ht⟩) hS.2.2 dX1_isIn_22
    · skip
      refine lv_iconst (v := nI 1) hx hb dX1_isIn_17 (by decide) ?_
      refine lv_goto (tgt := 22) hx hb dX1_isIn_18 (by decide) ?_
      exact W.zret (v := nI 1) hx hb hr (by rfl) (fun t ht hW => ⟨⟨nI 1, (), rfl, Or.inr ⟨j, hj, rfl, Or.inr ⟨in_p.mp c1, rfl⟩⟩, by rw [ht]; exact hP, hD⟩, hS.F ht⟩) hS.2.2 dX1_isIn_22
set_option maxHeartbeats 4000000 in
set_option maxRecDepth 100000 in
/-- areTickets(y) -/
theorem kX1_areTickets (l : Launch) (dC : Nat → ClassId) (dI : Nat → Nat → Nat) (k0 bI bT bP bR : Nat) (cA cZ cJ : ClassId) (sz N big n lp : Nat) (ft fk fp fr : Nat → Nat) (hbig : big ≤ 32768) (y : Int32) : Met l yX1_areTickets wsX1_areTickets ({ frames := 0, cells := 0, slots := 0, locals := 0 }) (va_Pc [.ref k0, .int y] (sB dC dI (ty3 cA cZ cJ) sz (mw k0 bI bT bP bR cA cZ cJ N big n lp ft fk fp fr))) (va_Qi (fun (r : Int32) (_ : Unit) => ((sh_ix big y = none ∨ sh_ix big y = some 0) ∧ r = nI 0) ∨ ∃ k, 0 < k ∧ k < big ∧ y = nI k ∧ r = nI 1) (fun _ => sE dC dI (va_A (mw k0 bI bT bP bR cA cZ cJ N big n lp ft fk fp fr) sz) (mw k0 bI bT bP bR cA cZ cJ N big n lp ft fk fp fr)) (va_A (mw k0 bI bT bP bR cA cZ cJ N big n lp ft fk fp fr) sz)) 0 0 (va_A (mw k0 bI bT bP bR cA cZ cJ N big n lp ft fk fp fr) sz) := by
  refine Met.ofW (cc := cX1_areTickets) (maxL := 2) (ret := (some .boolean)) (by decide) rfl ?_
  intro p e s m args below meth c s₁ B hml hv
  obtain ⟨rfl, hsz, hP, hK, hD0⟩ := hv
  have hx := B.exec
  have hb := B.bytes
  have hr := B.returns
  have hts := atoms_spec (ws := wsX1_areTickets) B.pre
  have hown : s.vm.findClass RX1 = some m.cls := findClass_of_methodNamed B.named
  have hlocks := B.notSynchronized
  subst hsz
  have hD := hD0.self (sz := s.heap.size)
  generalize hAe : va_A (mw k0 bI bT bP bR cA cZ cJ N big n lp ft fk fp fr) s.heap.size = A at hD ⊢
  have hA : ∀ q : Nat, s.heap.size ≤ q → A q := fun q h => by rw [← hAe]; exact Or.inr h
  have hS : va_S A s.heap s.heap [] := va_S.rf
  have hl := lv_entry ([.ref k0, .int y]) (n := 2) (Nat.le_of_ble_eq_true rfl)
  rw [lg_entry_eq]
  generalize (lg_sl ([.ref k0, .int y]) ++ List.replicate (2 - (lg_sl ([.ref k0, .int y])).length) Slot.unset).toArray = ls at hl ⊢
  have hl : lv_has ls 2 [(0, .ref k0), (1, .int y)] := hl
  refine lv_iload_n hx hb dX1_areTickets_0 rfl (lv_at hl 1 rfl) ?_
  refine lv_if_le (tgt := 16) hx hb dX1_areTickets_1 (by decide) (fun c1 => ?_) (fun c1 => ?_)
  · skip
    refine lv_iconst (v := nI 0) hx hb dX1_areTickets_16 (by decide) ?_
    exact W.zret (v := nI 0) hx hb hr (by rfl) (fun t ht hW => ⟨⟨nI 0, (), rfl, Or.inl ⟨tk_le (by omega) c1, rfl⟩, by rw [ht]; exact hP, hD⟩, hS.F ht⟩) hS.2.2 dX1_areTickets_17
  · skip
    refine lv_iload_n hx hb dX1_areTickets_4 rfl (lv_at hl 1 rfl) ?_
    refine lv_aload_n hx hb dX1_areTickets_5 rfl (lv_at hl 0 rfl) ?_
    refine va_get (D := (dC, dI)) (ci := 1) (v := .int (nI big)) (C := RX1) (T := TX1) (N := 8) hx hb hts wiX1_areTickets hown hK hP 0 rfl rfl 1 (by decide) (hts (.fieldLink RX1 28 "StrideHeapModel" "big" "I") (by decide +kernel)) (fun _ h9 => h9) rfl dX1_areTickets_6 ?_
    refine lv_icmp_ge (tgt := 16) hx hb dX1_areTickets_9 (by decide) (fun c2 => ?_) (fun c2 => ?_)
    · skip
      refine lv_iconst (v := nI 0) hx hb dX1_areTickets_16 (by decide) ?_
      exact W.zret (v := nI 0) hx hb hr (by rfl) (fun t ht hW => ⟨⟨nI 0, (), rfl, Or.inl ⟨Or.inl (ix_hi c2), rfl⟩, by rw [ht]; exact hP, hD⟩, hS.F ht⟩) hS.2.2 dX1_areTickets_17
    · skip
      refine lv_iconst (v := nI 1) hx hb dX1_areTickets_12 (by decide) ?_
      refine lv_goto (tgt := 17) hx hb dX1_areTickets_13 (by decide) ?_
      exact W.zret (v := nI 1) hx hb hr (by rfl) (fun t ht hW => ⟨⟨nI 1, (), rfl, (by obtain ⟨k, h1, h2, e⟩ := tk_ok2 (by omega) c1 c2; exact Or.inr ⟨k, h1, h2, e, rfl⟩), by rw [ht]; exact hP, hD⟩, hS.F ht⟩) hS.2.2 dX1_areTickets_17
set_option maxHeartbeats 4000000 in
set_option maxRecDepth 100000 in
/-- isBefore(i, j) -/
theorem kX1_isBefore (l : Launch) (dC : Nat → ClassId) (dI : Nat → Nat → Nat) (k0 bI bT bP bR : Nat) (cA cZ cJ : ClassId) (sz N big n lp : Nat) (ft fk fp fr : Nat → Nat) (hN : N ≤ 64) (hfp : ∀ c, fp c < 2 ^ 31) (i j : Nat) (hi : i < N) (hj : j < N) : Met l yX1_isBefore wsX1_isBefore ({ frames := 0, cells := 0, slots := 0, locals := 0 }) (va_Pc [.ref k0, .int (nI i), .int (nI j)] (sB dC dI (ty3 cA cZ cJ) sz (mw k0 bI bT bP bR cA cZ cJ N big n lp ft fk fp fr))) (va_Qi (fun (r : Int32) (_ : Unit) => (sh_bf fp i j ∧ r = nI 1) ∨ (¬ sh_bf fp i j ∧ r = nI 0)) (fun _ => sE dC dI (va_A (mw k0 bI bT bP bR cA cZ cJ N big n lp ft fk fp fr) sz) (mw k0 bI bT bP bR cA cZ cJ N big n lp ft fk fp fr)) (va_A (mw k0 bI bT bP bR cA cZ cJ N big n lp ft fk fp fr) sz)) 0 0 (va_A (mw k0 bI bT bP bR cA cZ cJ N big n lp ft fk fp fr) sz) := by
  refine Met.ofW (cc := cX1_isBefore) (maxL := 3) (ret := (some .boolean)) (by decide) rfl ?_
  intro p e s m args below meth c s₁ B hml hv
  obtain ⟨rfl, hsz, hP, hK, hD0⟩ := hv
  have hx := B.exec
  have hb := B.bytes
  have hr := B.returns
  have hts := atoms_spec (ws := wsX1_isBefore) B.pre
  have hown : s.vm.findClass RX1 = some m.cls := findClass_of_methodNamed B.named
  have hlocks := B.notSynchronized
  subst hsz
  have hD := hD0.self (sz := s.heap.size)
  generalize hAe : va_A (mw k0 bI bT bP bR cA cZ cJ N big n lp ft fk fp fr) s.heap.size = A at hD ⊢
  have hA : ∀ q : Nat, s.heap.size ≤ q → A q := fun q h => by rw [← hAe]; exact Or.inr h
  have hS : va_S A s.heap s.heap [] := va_S.rf
  have hl := lv_entry ([.ref k0, .int (nI i), .int (nI j)]) (n := 3) (Nat.le_of_ble_eq_true rfl)
  rw [lg_entry_eq]
  generalize (lg_sl ([.ref k0, .int (nI i), .int (nI j)]) ++ List.replicate (3 - (lg_sl ([.ref k0, .int (nI i), .int (nI j)])).length) Slot.unset).toArray = ls at hl ⊢
  have hl : lv_has ls 3 [(0, .ref k0), (1, .int (nI i)), (2, .int (nI j))] := hl
  have hpi := hfp i
  have hpj := hfp j
  refine lv_aload_n hx hb dX1_isBefore_0 rfl (lv_at hl 0 rfl) ?_
  refine va_get (D := (dC, dI)) (ci := 1) (v := .ref bP) (C := RX1) (T := TX1) (N := 8) hx hb hts wiX1_isBefore hown hK hP 0 rfl rfl 4 (by decide) (hts (.fieldLink RX1 17 "StrideHeapModel" "pass" "[J") (by decide +kernel)) (fun _ h9 => h9) rfl dX1_isBefore_1 ?_
  refine lv_iload_n hx hb dX1_isBefore_4 rfl (lv_at hl 1 rfl) ?_
  refine sr_lald hx hb hK hP 3 2 rfl rfl (k := i) (by omega) (by omega) dX1_isBefore_5 ?_
  refine lv_aload_n hx hb dX1_isBefore_6 rfl (lv_at hl 0 rfl) ?_
  refine va_get (D := (dC, dI)) (ci := 1) (v := .ref bP) (C := RX1) (T := TX1) (N := 8) hx hb hts wiX1_isBefore hown hK hP 0 rfl rfl 4 (by decide) (hts (.fieldLink RX1 17 "StrideHeapModel" "pass" "[J") (by decide +kernel)) (fun _ h9 => h9) rfl dX1_isBefore_7 ?_
  refine lv_iload_n hx hb dX1_isBefore_10 rfl (lv_at hl 2 rfl) ?_
  refine sr_lald hx hb hK hP 3 2 rfl rfl (k := j) (by omega) (by omega) dX1_isBefore_11 ?_
  refine sr_llt (tgt := 37) hx hb (by omega) (by omega) dX1_isBefore_12 dX1_isBefore_13 (by decide) (fun c1 => ?_) (fun c1 => ?_)
  · skip
    refine lv_iconst (v := nI 1) hx hb dX1_isBefore_37 (by decide) ?_
    refine lv_goto (tgt := 42) hx hb dX1_isBefore_38 (by decide) ?_
    exact W.zret (v := nI 1) hx hb hr (by rfl) (fun t ht hW => ⟨⟨nI 1, (), rfl, Or.inl ⟨Or.inl c1, rfl⟩, by rw [ht]; exact hP, hD⟩, hS.F ht⟩) hS.2.2 dX1_isBefore_42
  · skip
    refine lv_aload_n hx hb dX1_isBefore_16 rfl (lv_at hl 0 rfl) ?_
    refine va_get (D := (dC, dI)) (ci := 1) (v := .ref bP) (C := RX1) (T := TX1) (N := 8) hx hb hts wiX1_isBefore hown hK hP 0 rfl rfl 4 (by decide) (hts (.fieldLink RX1 17 "StrideHeapModel" "pass" "[J") (by decide +kernel)) (fun _ h9 => h9) rfl dX1_isBefore_17 ?_
    refine lv_iload_n hx hb dX1_isBefore_20 rfl (lv_at hl 1 rfl) ?_
    refine sr_lald hx hb hK hP 3 2 rfl rfl (k := i) (by omega) (by omega) dX1_isBefore_21 ?_
    refine lv_aload_n hx hb dX1_isBefore_22 rfl (lv_at hl 0 rfl) ?_
    refine va_get (D := (dC, dI)) (ci := 1) (v := .ref bP) (C := RX1) (T := TX1) (N := 8) hx hb hts wiX1_isBefore hown hK hP 0 rfl rfl 4 (by decide) (hts (.fieldLink RX1 17 "StrideHeapModel" "pass" "[J") (by decide +kernel)) (fun _ h9 => h9) rfl dX1_isBefore_23 ?_
    refine lv_iload_n hx hb dX1_isBefore_26 rfl (lv_at hl 2 rfl) ?_
    refine sr_lald hx hb hK hP 3 2 rfl rfl (k := j) (by omega) (by omega) dX1_isBefore_27 ?_
    refine sr_lne (tgt := 41) hx hb (by omega) (by omega) dX1_isBefore_28 dX1_isBefore_29 (by decide) (fun c2 => ?_) (fun c2 => ?_)
    · skip
      refine lv_iconst (v := nI 0) hx hb dX1_isBefore_41 (by decide) ?_
      exact W.zret (v := nI 0) hx hb hr (by rfl) (fun t ht hW => ⟨⟨nI 0, (), rfl, Or.inr ⟨by unfold sh_bf; omega, rfl⟩, by rw [ht]; exact hP, hD⟩, hS.F ht⟩) hS.2.2 dX1_isBefore_42
    · skip
      refine lv_iload_n hx hb dX1_isBefore_32 rfl (lv_at hl 1 rfl) ?_
      refine lv_iload_n hx hb dX1_isBefore_33 rfl (lv_at hl 2 rfl) ?_
      refine sr_cmp_ge (tgt := 41) hx hb (by omega) (by omega) dX1_isBefore_34 (by decide) (fun c3 => ?_) (fun c3 => ?_)
      · skip
        refine lv_iconst (v := nI 0) hx hb dX1_isBefore_41 (by decide) ?_
        exact W.zret (v := nI 0) hx hb hr (by rfl) (fun t ht hW => ⟨⟨nI 0, (), rfl, Or.inr ⟨by unfold sh_bf; omega, rfl⟩, by rw [ht]; exact hP, hD⟩, hS.F ht⟩) hS.2.2 dX1_isBefore_42
      · skip
        refine lv_iconst (v := nI 1) hx hb dX1_isBefore_37 (by decide) ?_
        refine lv_goto (tgt := 42) hx hb dX1_isBefore_38 (by decide) ?_
        exact W.zret (v := nI 1) hx hb hr (by rfl) (fun t ht hW => ⟨⟨nI 1, (), rfl, Or.inl ⟨Or.inr ⟨c2, c3⟩, rfl⟩, by rw [ht]; exact hP, hD⟩, hS.F ht⟩) hS.2.2 dX1_isBefore_42
set_option maxHeartbeats 4000000 in
set_option maxRecDepth 100000 in
/-- first() -/
theorem kX1_first (l : Launch) (dC : Nat → ClassId) (dI : Nat → Nat → Nat) (k0 bI bT bP bR : Nat) (cA cZ cJ : ClassId) (sz N big n lp : Nat) (ft fk fp fr : Nat → Nat) (hN : N ≤ 64) (hfp : ∀ c, fp c < 2 ^ 31) : Met l yX1_first wsX1_first ({ frames := 1, cells := 0, slots := 0, locals := 22 }) (va_Pc [.ref k0] (sB dC dI (ty3 cA cZ cJ) sz (mw k0 bI bT bP bR cA cZ cJ N big n lp ft fk fp fr))) (va_Qi (fun (r : Int32) (_ : Unit) => r = sf_i (sh_fi ft fp N)) (fun _ => sE dC dI (va_A (mw k0 bI bT bP bR cA cZ cJ N big n lp ft fk fp fr) sz) (mw k0 bI bT bP bR cA cZ cJ N big n lp ft fk fp fr)) (va_A (mw k0 bI bT bP bR cA cZ cJ N big n lp ft fk fp fr) sz)) 0 0 (va_A (mw k0 bI bT bP bR cA cZ cJ N big n lp ft fk fp fr) sz) := by
  refine Met.ofW (cc := cX1_first) (maxL := 3) (ret := (some .int)) (by decide) rfl ?_
  intro p e s m args below meth c s₁ B hml hv
  obtain ⟨rfl, hsz, hP, hK, hD0⟩ := hv
  have hx := B.exec
  have hb := B.bytes
  have hr := B.returns
  have hts := atoms_spec (ws := wsX1_first) B.pre
  have hown : s.vm.findClass RX1 = some m.cls := findClass_of_methodNamed B.named
  have hlocks := B.notSynchronized
  subst hsz
  have hD := hD0.self (sz := s.heap.size)
  generalize hAe : va_A (mw k0 bI bT bP bR cA cZ cJ N big n lp ft fk fp fr) s.heap.size = A at hD ⊢
  have hA : ∀ q : Nat, s.heap.size ≤ q → A q := fun q h => by rw [← hAe]; exact Or.inr h
  have hS : va_S A s.heap s.heap [] := va_S.rf
  have hl := lv_entry ([.ref k0]) (n := 3) (Nat.le_of_ble_eq_true rfl)
  rw [lg_entry_eq]
  generalize (lg_sl ([.ref k0]) ++ List.replicate (3 - (lg_sl ([.ref k0])).length) Slot.unset).toArray = ls at hl ⊢
  have hl : lv_has ls 3 [(0, .ref k0)] := hl
  refine lv_iconst (v := (-1)) hx hb dX1_first_0 (by decide) ?_
  refine lv_istore_n (lv' := [(1, .int (-1)), (0, .ref k0)]) hx hb dX1_first_1 rfl hl (by decide) rfl (fun ls hl => ?_)
  refine lv_iconst (v := nI 0) hx hb dX1_first_2 (by decide) ?_
  refine lv_istore_n (lv' := [(2, .int (nI 0)), (1, .int (-1)), (0, .ref k0)]) hx hb dX1_first_3 rfl hl (by decide) rfl (fun ls hl => ?_)
  refine sl_loop (fun d (x : Nat) H locs ls => N + 1 ≤ x + d ∧ x ≤ N ∧ va_P (dC, dI) vwCl (mw k0 bI bT bP bR cA cZ cJ N big n lp ft fk fp fr) H ∧ va_D A (mw k0 bI bT bP bR cA cZ cJ N big n lp ft fk fp fr) ∧ va_S A s.heap H locs ∧ lv_has ls 3 [(2, .int (nI x)), (1, .int (sf_i (sh_fi ft fp x))), (0, .ref k0)]) (fun x H locs ls h => by omega) ?_ (N + 1) 0 _ _ _ ⟨by omega, by omega, hP, hD, hS, lv_sub hl [0, 1, 2] rfl⟩
  intro d x H locs ls ih hI
  obtain ⟨h1, h2, hP, hD, hS, hl⟩ := hI
  refine lv_iload_n hx hb dX1_first_4 rfl (lv_at hl 0 rfl) ?_
  refine lv_aload_n hx hb dX1_first_5 rfl (lv_at hl 2 rfl) ?_
  refine va_get (D := (dC, dI)) (ci := 1) (v := .int (nI N)) (C := RX1) (T := TX1) (N := 8) hx hb hts wiX1_first hown hK hP 0 rfl rfl 0 (by decide) (hts (.fieldLink RX1 24 "StrideHeapModel" "cap" "I") (by decide +kernel)) (fun _ h9 => h9) rfl dX1_first_6 ?_
  refine sr_cmp_ge (tgt := 42) hx hb (by omega) (by omega) dX1_first_9 (by decide) (fun c1 => ?_) (fun c1 => ?_)
  · skip
    refine lv_iload_n hx hb dX1_first_42 rfl (lv_at hl 1 rfl) ?_
    exact W.iret (v := sf_i (sh_fi ft fp x)) hx hb hr (fun t ht hW => ⟨⟨sf_i (sh_fi ft fp x), (), rfl, (by rw [show x = N by omega]), by rw [ht]; exact hP, hD⟩, hS.F ht⟩) hS.2.2 dX1_first_43
  · skip
    refine lv_aload_n hx hb dX1_first_12 rfl (lv_at hl 2 rfl) ?_
    refine va_get (D := (dC, dI)) (ci := 1) (v := .ref bI) (C := RX1) (T := TX1) (N := 8) hx hb hts wiX1_first hown hK hP 0 rfl rfl 2 (by decide) (hts (.fieldLink RX1 7 "StrideHeapModel" "in" "[Z") (by decide +kernel)) (fun _ h9 => h9) rfl dX1_first_13 ?_
    refine lv_iload_n hx hb dX1_first_16 rfl (lv_at hl 0 rfl) ?_
    refine sr_zald hx hb hK hP 1 1 rfl rfl (k := x) (by omega) (by omega) dX1_first_17 ?_
    refine sr_if_eq (tgt := 36) hx hb (in_lt ft x) dX1_first_18 (by decide) (fun c2 => ?_) (fun c2 => ?_)
    · skip
      refine lv_iinc (v := nI (x + 1)) (lv' := [(2, .int (nI (x + 1))), (1, .int (sf_i (sh_fi ft fp x))), (0, .ref k0)]) hx hb dX1_first_36 hl (k := 0) rfl (nI_1 _) (by decide) rfl (fun ls hl => ?_)
      refine lv_goto (tgt := 4) hx hb dX1_first_39 (by decide) ?_
      exact ih (x + 1) _ _ _ ⟨by omega, by omega, hP, hD, hS, by rw [fi_s0 (in_0.mp c2)]; exact lv_sub hl [0, 1, 2] rfl⟩
    · skip
      have htx : 0 < ft x := in_p.mp c2
      rcases fi_spec ft fp x with ⟨hf, -⟩ | ⟨b, hf, hbx, -, -⟩
      · skip
        rw [hf, sf_0] at hl
        refine lv_iload_n hx hb dX1_first_21 rfl (lv_at hl 1 rfl) ?_
        refine lv_if_lt (tgt := 34) hx hb dX1_first_22 (by decide) (fun _ => ?_) (fun z => absurd (by decide) z)
        refine lv_iload_n hx hb dX1_first_34 rfl (lv_at hl 0 rfl) ?_
        refine lv_istore_n (lv' := [(1, .int (nI x)), (2, .int (nI x)), (0, .ref k0)]) hx hb dX1_first_35 rfl hl (by decide) rfl (fun ls hl => ?_)
        refine lv_iinc (v := nI (x + 1)) (lv' := [(2, .int (nI (x + 1))), (1, .int (nI x)), (0, .ref k0)]) hx hb dX1_first_36 hl (k := 1) rfl (nI_1 _) (by decide) rfl (fun ls hl => ?_)
        refine lv_goto (tgt := 4) hx hb dX1_first_39 (by decide) ?_
        exact ih (x + 1) _ _ _ ⟨by omega, by omega, hP, hD, hS, by rw [fi_s1 htx hf]; exact lv_sub hl [0, 1, 2] rfl⟩
      · skip
        rw [hf, sf_s] at hl
        refine lv_iload_n hx hb dX1_first_21 rfl (lv_at hl 1 rfl) ?_
        refine sr_if_lt (tgt := 34) hx hb (by omega) dX1_first_22 (by decide) ?_
        refine lv_aload_n hx hb dX1_first_25 rfl (lv_at hl 2 rfl) ?_
        refine lv_iload_n hx hb dX1_first_26 rfl (lv_at hl 0 rfl) ?_
        refine lv_iload_n hx hb dX1_first_27 rfl (lv_at hl 1 rfl) ?_
        refine sc_i (wr := []) (wc := mw k0 bI bT bP bR cA cZ cJ N big n lp ft fk fp fr) (As := [.int (nI x), .int (nI b)]) (rest := []) ⟨hx, hb, hml, hown, hts⟩ (kX1_isBefore l dC dI k0 bI bT bP bR cA cZ cJ H.size N big n lp ft fk fp fr hN hfp x b c1 (by omega)) (cwV 2 hts gX1_first_X1_isBefore rfl rfl rfl (by decide +kernel) ⟨Nat.le_of_ble_eq_true rfl, Nat.le_of_ble_eq_true rfl⟩) hK hP hD hS hA (va_recv hK hP (ci := 1) (q0 := 0) rfl rfl) rfl hl.1 rfl (Nat.le_of_ble_eq_true rfl) dX1_first_28 ⟨Nat.zero_le _, Nat.zero_le _⟩ (fun r _ H locs hw hP hD hS => ?_)
        rcases hw with ⟨hbf, rfl⟩ | ⟨hbf, rfl⟩
        · skip
          refine sr_if_eq (tgt := 36) hx hb (by decide) dX1_first_31 (by decide) (fun q => absurd q (by decide)) (fun _ => ?_)
          refine lv_iload_n hx hb dX1_first_34 rfl (lv_at hl 0 rfl) ?_
          refine lv_istore_n (lv' := [(1, .int (nI x)), (2, .int (nI x)), (0, .ref k0)]) hx hb dX1_first_35 rfl hl (by decide) rfl (fun ls hl => ?_)
          refine lv_iinc (v := nI (x + 1)) (lv' := [(2, .int (nI (x + 1))), (1, .int (nI x)), (0, .ref k0)]) hx hb dX1_first_36 hl (k := 1) rfl (nI_1 _) (by decide) rfl (fun ls hl => ?_)
          refine lv_goto (tgt := 4) hx hb dX1_first_39 (by decide) ?_
          exact ih (x + 1) _ _ _ ⟨by omega, by omega, hP, hD, hS, by rw [fi_s2 htx hf hbf]; exact lv_sub hl [0, 1, 2] rfl⟩
        · skip
          refine sr_if_eq (tgt := 36) hx hb (by decide) dX1_first_31 (by decide) (fun _ => ?_) (fun q => absurd q (by decide))
          refine lv_iinc (v := nI (x + 1)) (lv' := [(2, .int (nI (x + 1))), (1, .int (nI b)), (0, .ref k0)]) hx hb dX1_first_36 hl (k := 0) rfl (nI_1 _) (by decide) rfl (fun ls hl => ?_)
          refine lv_goto (tgt := 4) hx hb dX1_first_39 (by decide) ?_
          exact ih (x + 1) _ _ _ ⟨by omega, by omega, hP, hD, hS, by rw [fi_s3 hf hbf, hf, sf_s]; exact lv_sub hl [0, 1, 2] rfl⟩
