-- THE LAW: its cell(), its invariant, its cases
theorem lw_gt {L i : Nat} (hL : L < 2 ^ 30) (hi : i < 2 ^ 30) : (nI L - nI 3 < nI i) ↔ L < i + 3 := by
  rw [Int32.lt_iff_toInt_lt, pk_sub_toInt hL (by decide), nI_toInt (by omega)]
  omega
section LR
variable {p : Program} {l : Launch} {e : Env} {R : Room} {s : State} {m : MethodId} {args : Array Value} {below : List Frame} {meth : Method} {c : Code} {H : Heap} {locs : List Loc} {cells slots : Nat} {Q : State → Prop} {cc : ByteArray} {pc : Nat} {ls : Array Slot} {rest : List Value} {A : Nat → Prop} {H0 : Heap}
theorem sr_sld (hx : p.tables.exec = Jvm.exec) (hb : c.code = cc) {b L : Nat} {xs : Nat → Int32} (hX : va_X b L xs s H0) (hbl : b < H0.size) (hbA : ¬ A b) (hS : va_S A H0 H locs) {k : Nat} (hk : k < L) (hL : L < 2 ^ 31) (hdg : decode cc pc = .ok (.iaload, 1))
    (kk : W p l e R s m args below meth c H locs cells slots Q (F0 m (pc + 1) ls (.int (xs k) :: rest))) : W p l e R s m args below meth c H locs cells slots Q (F0 m pc ls (.int (nI k) :: .ref b :: rest)) := by
  refine va_sld hx hb hX hbl hbA hS (vp_in_nI hk hL) hdg ?_
  rw [nI_clamp (Nat.lt_trans hk hL)]
  exact kk
end LR
set_option maxHeartbeats 4000000 in
set_option maxRecDepth 100000 in
/-- cell(script, k) -/
theorem kL_cell (l : Launch) (sz b L : Nat) (xs : Nat → Int32) (k : Nat) (hk : k < 2 ^ 31) (hL : L < 2 ^ 31) : Met l yL_cell wsL_cell ({ frames := 0, cells := 0, slots := 0, locals := 0 }) (va_Pc [.ref b, .int (nI k)] (fun U => U.heap.size = sz ∧ b < sz ∧ va_X b L xs U U.heap)) (va_Qi (fun (r : Int32) (_ : Unit) => r = if k < L then xs k else nI 0) (fun _ _ => True) (va_A [] sz)) 0 0 (va_A [] sz) := by
  refine Met.ofW (cc := cL_cell) (maxL := 2) (ret := (some .int)) (by decide) rfl ?_
  intro p e s m args below meth c s₁ B hml hv
  obtain ⟨rfl, hsz, hbl, hX⟩ := hv
  have hx := B.exec
  have hb := B.bytes
  have hr := B.returns
  have hlocks := B.notSynchronized
  subst hsz
  have hS : va_S (va_A [] s.heap.size) s.heap s.heap [] := va_S.rf
  have hbA : ¬ va_A [] s.heap.size b := fun h => by
    rcases h with ⟨k, e, h⟩ | h
    · simp at h
    · omega
  have hl := lv_entry ([.ref b, .int (nI k)]) (n := 2) (Nat.le_of_ble_eq_true rfl)
  rw [lg_entry_eq]
  generalize (lg_sl ([.ref b, .int (nI k)]) ++ List.replicate (2 - (lg_sl ([.ref b, .int (nI k)])).length) Slot.unset).toArray = ls at hl ⊢
  have hl : lv_has ls 2 [(0, .ref b), (1, .int (nI k))] := hl
  refine lv_iload_n hx hb dL_cell_0 rfl (lv_at hl 1 rfl) ?_
  refine lv_aload_n hx hb dL_cell_1 rfl (lv_at hl 0 rfl) ?_
  refine va_slen hx hb hX hbl hbA hS dL_cell_2 ?_
  refine sr_cmp_ge (tgt := 12) (x := k) (y := L) hx hb hk hL dL_cell_3 (by decide) (fun c1 => ?_) (fun c1 => ?_)
  · refine lv_iconst (v := nI 0) hx hb dL_cell_12 (by decide) ?_
    exact W.iret (v := nI 0) hx hb hr (fun t ht hW => ⟨⟨nI 0, (), rfl, by rw [if_neg (by omega)], trivial⟩, hS.F ht⟩) hS.2.2 dL_cell_13
  · refine lv_aload_n hx hb dL_cell_6 rfl (lv_at hl 0 rfl) ?_
    refine lv_iload_n hx hb dL_cell_7 rfl (lv_at hl 1 rfl) ?_
    refine sr_sld hx hb hX hbl hbA hS c1 hL dL_cell_8 ?_
    refine lv_goto (tgt := 13) hx hb dL_cell_9 (by decide) ?_
    exact W.iret (v := xs k) hx hb hr (fun t ht hW => ⟨⟨xs k, (), rfl, by rw [if_pos c1], trivial⟩, hS.F ht⟩) hS.2.2 dL_cell_13
/-- what holds at the head of the law's loop: class and reference are in one state -/
def lw_inv (s : State) (dC : Nat → ClassId) (dI : Nat → Nat → Nat) (cA cZ cJ : ClassId) (b i : Nat) (H : Heap) (locs : List Loc) (ls : Array Slot) : Prop := ∃ (h0 aT aS aP aR aL k0 bI bT bP bR N big n lp : Nat) (ft fs fp fr fl fk : Nat → Nat), sh_V N big n lp ft fs fp fl ∧ sh_M N big n lp ft fk fp ∧ va_P (dC, dI) vwCl (sw h0 aT aS aP aR aL cA N big n lp ft fs fp fr fl ++ mw k0 bI bT bP bR cA cZ cJ N big n lp ft fk fp fr) H ∧ va_D (fun q : Nat => s.heap.size ≤ q) (sw h0 aT aS aP aR aL cA N big n lp ft fs fp fr fl ++ mw k0 bI bT bP bR cA cZ cJ N big n lp ft fk fp fr) ∧ va_S (fun q : Nat => s.heap.size ≤ q) s.heap H locs ∧ lv_has ls 4 [(0, .ref b), (1, .ref h0), (2, .ref k0), (3, .int (nI i))]
set_option maxHeartbeats 4000000 in
set_option maxRecDepth 100000 in
/-- case 0: join -/
theorem lw_c0 {p : Program} {l : Launch} {e : Env} {s : State} {m : MethodId} {below : List Frame} {meth : Method} {c : Code} {Q : State → Prop} {dC : Nat → ClassId} {dI : Nat → Nat → Nat} {cA cZ cJ : ClassId} {b L i : Nat} {xs : Nat → Int32} {H : Heap} {locs : List Loc} {ls : Array Slot} (hL : L ≤ 1538) (C0 : lw_At p s m meth c b L xs) (hK : va_K (dC, dI) vwCl (ty3 cA cZ cJ) s) (hi : i + 3 ≤ L) (hI : lw_inv s dC dI cA cZ cJ b i H locs ls)
    (kk : ∀ (H : Heap) (locs : List Loc) (ls : Array Slot), lw_inv s dC dI cA cZ cJ b i H locs ls → W p l e room_1 s m #[Value.ref b] below meth c H locs 11 593 Q (F0 m 355 ls [])) : W p l e room_1 s m #[Value.ref b] below meth c H locs 11 593 Q (F0 m 112 ls []) := by
  obtain ⟨hx, hb, hr, hml, hown, hts, hX, hbl, hlocks, hgv⟩ := id C0
  have hts := fun w h => hts w (wsL_law_in w h)
  have hown : s.vm.findClass RL = some m.cls := hown
  have hA : ∀ q : Nat, s.heap.size ≤ q → (fun q : Nat => s.heap.size ≤ q) q := fun _ h => h
  have hbA : ¬ (fun q : Nat => s.heap.size ≤ q) b := Nat.not_le.mpr hbl
  obtain ⟨h0, aT, aS, aP, aR, aL, k0, bI, bT, bP, bR, N, big, n, lp, ft, fs, fp, fr, fl, fk, hV, hM, hP, hD, hS, hl⟩ := hI
  have hP := sj_Ps hP
  have hD := sj_Ds hD
  refine lv_aload_n hx hb dL_law_112 rfl (lv_at hl 1 rfl) ?_
  refine lv_aload_n hx hb dL_law_113 rfl (lv_at hl 0 rfl) ?_
  refine lv_iload_n hx hb dL_law_114 rfl (lv_at hl 3 rfl) ?_
  refine lv_iconst (v := nI 1) hx hb dL_law_115 (by decide) ?_
  refine sr_iadd hx hb dL_law_116 ?_
  refine sr_sld hx hb hX hbl hbA hS (k := i + 1) (by omega) (by omega) dL_law_117 ?_
  refine lv_aload_n hx hb dL_law_118 rfl (lv_at hl 0 rfl) ?_
  refine lv_iload_n hx hb dL_law_119 rfl (lv_at hl 3 rfl) ?_
  refine lv_iconst (v := nI 2) hx hb dL_law_120 (by decide) ?_
  refine sr_iadd hx hb dL_law_121 ?_
  refine sr_sld hx hb hX hbl hbA hS (k := i + 2) (by omega) (by omega) dL_law_122 ?_
  refine sc_i (wr := mw k0 bI bT bP bR cA cZ cJ N big n lp ft fk fp fr) (wc := sw h0 aT aS aP aR aL cA N big n lp ft fs fp fr fl) (As := [.int (xs (i + 1)), .int (xs (i + 2))]) (rest := []) ⟨hx, hb, hml, hown, hts⟩ (kX0_join l dC dI h0 aT aS aP aR aL cA cZ cJ H.size N big n lp ft fs fp fr fl hV (xs (i + 1)) (xs (i + 2))) (cwV 2 hts gL_law_X0_join rfl rfl rfl (by decide +kernel) ⟨Nat.le_of_ble_eq_true rfl, Nat.le_of_ble_eq_true rfl⟩) hK hP hD hS hA (va_recv hK (sj_Pc hP) (ci := 0) (q0 := 0) rfl rfl) rfl hl.1 rfl (Nat.le_of_ble_eq_true rfl) dL_law_123 ⟨Nat.le_of_ble_eq_true rfl, Nat.le_of_ble_eq_true rfl⟩ (fun r1 u1 H locs hc hP hD hS => ?_)
  obtain ⟨n1, ft1, fs1, fp1, fl1⟩ := u1
  dsimp only at hc hP hD
  have hP : va_P (dC, dI) vwCl (sw h0 aT aS aP aR aL cA N big n1 lp ft1 fs1 fp1 fr fl1 ++ mw k0 bI bT bP bR cA cZ cJ N big n lp ft fk fp fr) H := sj_Ps hP
  have hD : va_D (fun q : Nat => s.heap.size ≤ q) (sw h0 aT aS aP aR aL cA N big n1 lp ft1 fs1 fp1 fr fl1 ++ mw k0 bI bT bP bR cA cZ cJ N big n lp ft fk fp fr) := sj_Ds hD
  refine lv_aload_n hx hb dL_law_126 rfl (lv_at hl 2 rfl) ?_
  refine lv_aload_n hx hb dL_law_127 rfl (lv_at hl 0 rfl) ?_
  refine lv_iload_n hx hb dL_law_128 rfl (lv_at hl 3 rfl) ?_
  refine lv_iconst (v := nI 1) hx hb dL_law_129 (by decide) ?_
  refine sr_iadd hx hb dL_law_130 ?_
  refine sr_sld hx hb hX hbl hbA hS (k := i + 1) (by omega) (by omega) dL_law_131 ?_
  refine lv_aload_n hx hb dL_law_132 rfl (lv_at hl 0 rfl) ?_
  refine lv_iload_n hx hb dL_law_133 rfl (lv_at hl 3 rfl) ?_
  refine lv_iconst (v := nI 2) hx hb dL_law_134 (by decide) ?_
  refine sr_iadd hx hb dL_law_135 ?_
  refine sr_sld hx hb hX hbl hbA hS (k := i + 2) (by omega) (by omega) dL_law_136 ?_
  refine sc_i (wr := sw h0 aT aS aP aR aL cA N big n1 lp ft1 fs1 fp1 fr fl1) (wc := mw k0 bI bT bP bR cA cZ cJ N big n lp ft fk fp fr) (As := [.int (xs (i + 1)), .int (xs (i + 2))]) (rest := [.int r1]) ⟨hx, hb, hml, hown, hts⟩ (kX1_join l dC dI k0 bI bT bP bR cA cZ cJ H.size N big n lp ft fk fp fr hM (xs (i + 1)) (xs (i + 2))) (cwV 2 hts gL_law_X1_join rfl rfl rfl (by decide +kernel) ⟨Nat.le_of_ble_eq_true rfl, Nat.le_of_ble_eq_true rfl⟩) hK hP hD hS hA (va_recv hK (sj_Pc hP) (ci := 1) (q0 := 0) rfl rfl) rfl hl.1 rfl (Nat.le_of_ble_eq_true rfl) dL_law_137 ⟨Nat.le_of_ble_eq_true rfl, Nat.le_of_ble_eq_true rfl⟩ (fun r2 u2 H locs hm hP hD hS => ?_)
  obtain ⟨n2, ft2, fk2, fp2⟩ := u2
  dsimp only at hm hP hD
  obtain ⟨e1, hc⟩ := hc
  obtain ⟨e2, hm⟩ := hm
  rcases hc with ⟨hn1, hu1⟩ | ⟨j, k, hs1, -, -, -, -, a1, a2, a3, hV1⟩
  · rcases hm with ⟨hn2, hu2⟩ | ⟨j2, k2, hs2, -⟩
    · cases hu1
      cases hu2
      exact lv_icmp_eq (tgt := 355) hx hb dL_law_140 (by decide) (fun _ => kk _ _ _ ⟨h0, aT, aS, aP, aR, aL, k0, bI, bT, bP, bR, N, big, n, lp, ft, fs, fp, fr, fl, fk, hV, hM, hP, hD, hS, hl⟩) (fun z => absurd (by rw [e1, e2]) z)
    · rw [hn1] at hs2
      cases hs2
  · rcases hm with ⟨hn2, hu2⟩ | ⟨j2, k2, hs2, b1, b2, b3, hM1⟩
    · rw [hn2] at hs1
      cases hs1
    · rw [hs1] at hs2
      cases hs2
      subst a1 a2 a3 b1 b2 b3
      exact lv_icmp_eq (tgt := 355) hx hb dL_law_140 (by decide) (fun _ => kk _ _ _ ⟨h0, aT, aS, aP, aR, aL, k0, bI, bT, bP, bR, N, big, _, lp, _, fs1, _, fr, fl1, fk2, hV1, hM1, hP, hD, hS, hl⟩) (fun z => absurd (by rw [e1, e2]) z)
set_option maxHeartbeats 4000000 in
set_option maxRecDepth 100000 in
/-- case 1: leave -/
theorem lw_c1 {p : Program} {l : Launch} {e : Env} {s : State} {m : MethodId} {below : List Frame} {meth : Method} {c : Code} {Q : State → Prop} {dC : Nat → ClassId} {dI : Nat → Nat → Nat} {cA cZ cJ : ClassId} {b L i : Nat} {xs : Nat → Int32} {H : Heap} {locs : List Loc} {ls : Array Slot} (hL : L ≤ 1538) (C0 : lw_At p s m meth c b L xs) (hK : va_K (dC, dI) vwCl (ty3 cA cZ cJ) s) (hi : i + 3 ≤ L) (hI : lw_inv s dC dI cA cZ cJ b i H locs ls)
    (kk : ∀ (H : Heap) (locs : List Loc) (ls : Array Slot), lw_inv s dC dI cA cZ cJ b i H locs ls → W p l e room_1 s m #[Value.ref b] below meth c H locs 11 593 Q (F0 m 355 ls [])) : W p l e room_1 s m #[Value.ref b] below meth c H locs 11 593 Q (F0 m 145 ls []) := by
  obtain ⟨hx, hb, hr, hml, hown, hts, hX, hbl, hlocks, hgv⟩ := id C0
  have hts := fun w h => hts w (wsL_law_in w h)
  have hown : s.vm.findClass RL = some m.cls := hown
  have hA : ∀ q : Nat, s.heap.size ≤ q → (fun q : Nat => s.heap.size ≤ q) q := fun _ h => h
  have hbA : ¬ (fun q : Nat => s.heap.size ≤ q) b := Nat.not_le.mpr hbl
  obtain ⟨h0, aT, aS, aP, aR, aL, k0, bI, bT, bP, bR, N, big, n, lp, ft, fs, fp, fr, fl, fk, hV, hM, hP, hD, hS, hl⟩ := hI
  have hP := sj_Ps hP
  have hD := sj_Ds hD
  refine lv_aload_n hx hb dL_law_145 rfl (lv_at hl 1 rfl) ?_
  refine lv_aload_n hx hb dL_law_146 rfl (lv_at hl 0 rfl) ?_
  refine lv_iload_n hx hb dL_law_147 rfl (lv_at hl 3 rfl) ?_
  refine lv_iconst (v := nI 1) hx hb dL_law_148 (by decide) ?_
  refine sr_iadd hx hb dL_law_149 ?_
  refine sr_sld hx hb hX hbl hbA hS (k := i + 1) (by omega) (by omega) dL_law_150 ?_
  refine sc_i (wr := mw k0 bI bT bP bR cA cZ cJ N big n lp ft fk fp fr) (wc := sw h0 aT aS aP aR aL cA N big n lp ft fs fp fr fl) (As := [.int (xs (i + 1))]) (rest := []) ⟨hx, hb, hml, hown, hts⟩ (kX0_leave l dC dI h0 aT aS aP aR aL cA cZ cJ H.size N big n lp ft fs fp fr fl hV (xs (i + 1))) (cwV 1 hts gL_law_X0_leave rfl rfl rfl (by decide +kernel) ⟨Nat.le_of_ble_eq_true rfl, Nat.le_of_ble_eq_true rfl⟩) hK hP hD hS hA (va_recv hK (sj_Pc hP) (ci := 0) (q0 := 0) rfl rfl) rfl hl.1 rfl (Nat.le_of_ble_eq_true rfl) dL_law_151 ⟨Nat.le_of_ble_eq_true rfl, Nat.le_of_ble_eq_true rfl⟩ (fun r1 u1 H locs hc hP hD hS => ?_)
  obtain ⟨n1, lp1, ft1, fl1⟩ := u1
  dsimp only at hc hP hD
  have hP : va_P (dC, dI) vwCl (sw h0 aT aS aP aR aL cA N big n1 lp1 ft1 fs fp fr fl1 ++ mw k0 bI bT bP bR cA cZ cJ N big n lp ft fk fp fr) H := sj_Ps hP
  have hD : va_D (fun q : Nat => s.heap.size ≤ q) (sw h0 aT aS aP aR aL cA N big n1 lp1 ft1 fs fp fr fl1 ++ mw k0 bI bT bP bR cA cZ cJ N big n lp ft fk fp fr) := sj_Ds hD
  refine lv_aload_n hx hb dL_law_154 rfl (lv_at hl 2 rfl) ?_
  refine lv_aload_n hx hb dL_law_155 rfl (lv_at hl 0 rfl) ?_
  refine lv_iload_n hx hb dL_law_156 rfl (lv_at hl 3 rfl) ?_
  refine lv_iconst (v := nI 1) hx hb dL_law_157 (by decide) ?_
  refine sr_iadd hx hb dL_law_158 ?_
  refine sr_sld hx hb hX hbl hbA hS (k := i + 1) (by omega) (by omega) dL_law_159 ?_
  refine sc_i (wr := sw h0 aT aS aP aR aL cA N big n1 lp1 ft1 fs fp fr fl1) (wc := mw k0 bI bT bP bR cA cZ cJ N big n lp ft fk fp fr) (As := [.int (xs (i + 1))]) (rest := [.int r1]) ⟨hx, hb, hml, hown, hts⟩ (kX1_leave l dC dI k0 bI bT bP bR cA cZ cJ H.size N big n lp ft fk fp fr hM (xs (i + 1))) (cwV 1 hts gL_law_X1_leave rfl rfl rfl (by decide +kernel) ⟨Nat.le_of_ble_eq_true rfl, Nat.le_of_ble_eq_true rfl⟩) hK hP hD hS hA (va_recv hK (sj_Pc hP) (ci := 1) (q0 := 0) rfl rfl) rfl hl.1 rfl (Nat.le_of_ble_eq_true rfl) dL_law_160 ⟨Nat.le_of_ble_eq_true rfl, Nat.le_of_ble_eq_true rfl⟩ (fun r2 u2 H locs hm hP hD hS => ?_)
  obtain ⟨n2, lp2, ft2⟩ := u2
  dsimp only at hm hP hD
  obtain ⟨e1, hc⟩ := hc
  obtain ⟨e2, hm⟩ := hm
  rcases hc with ⟨hn1, hu1⟩ | ⟨j, hs1, -, -, a1, a2, a3, hV1⟩
  · rcases hm with ⟨hn2, hu2⟩ | ⟨j2, hs2, -⟩
    · cases hu1
      cases hu2
      exact lv_icmp_eq (tgt := 355) hx hb dL_law_163 (by decide) (fun _ => kk _ _ _ ⟨h0, aT, aS, aP, aR, aL, k0, bI, bT, bP, bR, N, big, n, lp, ft, fs, fp, fr, fl, fk, hV, hM, hP, hD, hS, hl⟩) (fun z => absurd (by rw [e1, e2]) z)
    · rw [hn1] at hs2
      cases hs2
  · rcases hm with ⟨hn2, hu2⟩ | ⟨j2, hs2, b1, b2, b3, hM1⟩
    · rw [hn2] at hs1
      cases hs1
    · rw [hs1] at hs2
      cases hs2
      subst a1 a2 a3 b1 b2 b3
      exact lv_icmp_eq (tgt := 355) hx hb dL_law_163 (by decide) (fun _ => kk _ _ _ ⟨h0, aT, aS, aP, aR, aL, k0, bI, bT, bP, bR, N, big, _, _, _, fs, fp, fr, fl1, fk, hV1, hM1, hP, hD, hS, hl⟩) (fun z => absurd (by rw [e1, e2]) z)
set_option maxHeartbeats 4000000 in
set_option maxRecDepth 100000 in
/-- case 2: next -/
theorem lw_c2 {p : Program} {l : Launch} {e : Env} {s : State} {m : MethodId} {below : List Frame} {meth : Method} {c : Code} {Q : State → Prop} {dC : Nat → ClassId} {dI : Nat → Nat → Nat} {cA cZ cJ : ClassId} {b L i : Nat} {xs : Nat → Int32} {H : Heap} {locs : List Loc} {ls : Array Slot} (hL : L ≤ 1538) (C0 : lw_At p s m meth c b L xs) (hK : va_K (dC, dI) vwCl (ty3 cA cZ cJ) s) (hi : i + 3 ≤ L) (hI : lw_inv s dC dI cA cZ cJ b i H locs ls)
    (kk : ∀ (H : Heap) (locs : List Loc) (ls : Array Slot), lw_inv s dC dI cA cZ cJ b i H locs ls → W p l e room_1 s m #[Value.ref b] below meth c H locs 11 593 Q (F0 m 355 ls [])) : W p l e room_1 s m #[Value.ref b] below meth c H locs 11 593 Q (F0 m 168 ls []) := by
  obtain ⟨hx, hb, hr, hml, hown, hts, hX, hbl, hlocks, hgv⟩ := id C0
  have hts := fun w h => hts w (wsL_law_in w h)
  have hown : s.vm.findClass RL = some m.cls := hown
  have hA : ∀ q : Nat, s.heap.size ≤ q → (fun q : Nat => s.heap.size ≤ q) q := fun _ h => h
  have hbA : ¬ (fun q : Nat => s.heap.size ≤ q) b := Nat.not_le.mpr hbl
  obtain ⟨h0, aT, aS, aP, aR, aL, k0, bI, bT, bP, bR, N, big, n, lp, ft, fs, fp, fr, fl, fk, hV, hM, hP, hD, hS, hl⟩ := hI
  have hP := sj_Ps hP
  have hD := sj_Ds hD
  refine lv_aload_n hx hb dL_law_168 rfl (lv_at hl 1 rfl) ?_
  refine sc_i (wr := mw k0 bI bT bP bR cA cZ cJ N big n lp ft fk fp fr) (wc := sw h0 aT aS aP aR aL cA N big n lp ft fs fp fr fl) (As := []) (rest := []) ⟨hx, hb, hml, hown, hts⟩ (kX0_next l dC dI h0 aT aS aP aR aL cA cZ cJ H.size N big n lp ft fs fp fr fl hV ) (cwV 0 hts gL_law_X0_next rfl rfl rfl (by decide +kernel) ⟨Nat.le_of_ble_eq_true rfl, Nat.le_of_ble_eq_true rfl⟩) hK hP hD hS hA (va_recv hK (sj_Pc hP) (ci := 0) (q0 := 0) rfl rfl) rfl hl.1 rfl (Nat.le_of_ble_eq_true rfl) dL_law_169 ⟨Nat.le_of_ble_eq_true rfl, Nat.le_of_ble_eq_true rfl⟩ (fun r1 u1 H locs hc hP hD hS => ?_)
  obtain ⟨fp1, fr1, fl1⟩ := u1
  dsimp only at hc hP hD
  have hP : va_P (dC, dI) vwCl (sw h0 aT aS aP aR aL cA N big n lp ft fs fp1 fr1 fl1 ++ mw k0 bI bT bP bR cA cZ cJ N big n lp ft fk fp fr) H := sj_Ps hP
  have hD : va_D (fun q : Nat => s.heap.size ≤ q) (sw h0 aT aS aP aR aL cA N big n lp ft fs fp1 fr1 fl1 ++ mw k0 bI bT bP bR cA cZ cJ N big n lp ft fk fp fr) := sj_Ds hD
  refine lv_aload_n hx hb dL_law_172 rfl (lv_at hl 2 rfl) ?_
  refine sc_i (wr := sw h0 aT aS aP aR aL cA N big n lp ft fs fp1 fr1 fl1) (wc := mw k0 bI bT bP bR cA cZ cJ N big n lp ft fk fp fr) (As := []) (rest := [.int r1]) ⟨hx, hb, hml, hown, hts⟩ (kX1_next l dC dI k0 bI bT bP bR cA cZ cJ H.size N big n lp ft fk fp fr hM ) (cwV 0 hts gL_law_X1_next rfl rfl rfl (by decide +kernel) ⟨Nat.le_of_ble_eq_true rfl, Nat.le_of_ble_eq_true rfl⟩) hK hP hD hS hA (va_recv hK (sj_Pc hP) (ci := 1) (q0 := 0) rfl rfl) rfl hl.1 rfl (Nat.le_of_ble_eq_true rfl) dL_law_173 ⟨Nat.le_of_ble_eq_true rfl, Nat.le_of_ble_eq_true rfl⟩ (fun r2 u2 H locs hm hP hD hS => ?_)
  obtain ⟨fp2, fr2⟩ := u2
  dsimp only at hm hP hD
  rcases hc with ⟨hn1, e1, hu1⟩ | ⟨j, hs1, -, e1, a1, a2, hV1⟩
  · rcases hm with ⟨hn2, e2, hu2⟩ | ⟨j2, hs2, -⟩
    · cases hu1
      cases hu2
      exact lv_icmp_eq (tgt := 355) hx hb dL_law_176 (by decide) (fun _ => kk _ _ _ ⟨h0, aT, aS, aP, aR, aL, k0, bI, bT, bP, bR, N, big, n, lp, ft, fs, fp, fr, fl, fk, hV, hM, hP, hD, hS, hl⟩) (fun z => absurd (by rw [e1, e2]) z)
    · rw [hn1] at hs2
      cases hs2
  · rcases hm with ⟨hn2, e2, hu2⟩ | ⟨j2, hs2, -, e2, b1, b2, hM1⟩
    · rw [hn2] at hs1
      cases hs1
    · rw [hs1] at hs2
      cases hs2
      subst a1 a2 b1 b2
      exact lv_icmp_eq (tgt := 355) hx hb dL_law_176 (by decide) (fun _ => kk _ _ _ ⟨h0, aT, aS, aP, aR, aL, k0, bI, bT, bP, bR, N, big, n, lp, ft, fs, _, _, fl1, fk, hV1, hM1, hP, hD, hS, hl⟩) (fun z => absurd (by rw [e1, e2]) z)
set_option maxHeartbeats 4000000 in
set_option maxRecDepth 100000 in
/-- case 3: turns -/
theorem lw_c3 {p : Program} {l : Launch} {e : Env} {s : State} {m : MethodId} {below : List Frame} {meth : Method} {c : Code} {Q : State → Prop} {dC : Nat → ClassId} {dI : Nat → Nat → Nat} {cA cZ cJ : ClassId} {b L i : Nat} {xs : Nat → Int32} {H : Heap} {locs : List Loc} {ls : Array Slot} (hL : L ≤ 1538) (C0 : lw_At p s m meth c b L xs) (hK : va_K (dC, dI) vwCl (ty3 cA cZ cJ) s) (hi : i + 3 ≤ L) (hI : lw_inv s dC dI cA cZ cJ b i H locs ls)
    (kk : ∀ (H : Heap) (locs : List Loc) (ls : Array Slot), lw_inv s dC dI cA cZ cJ b i H locs ls → W p l e room_1 s m #[Value.ref b] below meth c H locs 11 593 Q (F0 m 355 ls [])) : W p l e room_1 s m #[Value.ref b] below meth c H locs 11 593 Q (F0 m 181 ls []) := by
  obtain ⟨hx, hb, hr, hml, hown, hts, hX, hbl, hlocks, hgv⟩ := id C0
  have hts := fun w h => hts w (wsL_law_in w h)
  have hown : s.vm.findClass RL = some m.cls := hown
  have hA : ∀ q : Nat, s.heap.size ≤ q → (fun q : Nat => s.heap.size ≤ q) q := fun _ h => h
  have hbA : ¬ (fun q : Nat => s.heap.size ≤ q) b := Nat.not_le.mpr hbl
  obtain ⟨h0, aT, aS, aP, aR, aL, k0, bI, bT, bP, bR, N, big, n, lp, ft, fs, fp, fr, fl, fk, hV, hM, hP, hD, hS, hl⟩ := hI
  have hP := sj_Ps hP
  have hD := sj_Ds hD
  refine lv_aload_n hx hb dL_law_181 rfl (lv_at hl 1 rfl) ?_
  refine lv_aload_n hx hb dL_law_182 rfl (lv_at hl 0 rfl) ?_
  refine lv_iload_n hx hb dL_law_183 rfl (lv_at hl 3 rfl) ?_
  refine lv_iconst (v := nI 1) hx hb dL_law_184 (by decide) ?_
  refine sr_iadd hx hb dL_law_185 ?_
  refine sr_sld hx hb hX hbl hbA hS (k := i + 1) (by omega) (by omega) dL_law_186 ?_
  refine sc_i (wr := mw k0 bI bT bP bR cA cZ cJ N big n lp ft fk fp fr) (wc := sw h0 aT aS aP aR aL cA N big n lp ft fs fp fr fl) (As := [.int (xs (i + 1))]) (rest := []) ⟨hx, hb, hml, hown, hts⟩ (kX0_turns l dC dI h0 aT aS aP aR aL cA cZ cJ H.size N big n lp ft fs fp fr fl hV (xs (i + 1))) (cwV 1 hts gL_law_X0_turns rfl rfl rfl (by decide +kernel) ⟨Nat.le_of_ble_eq_true rfl, Nat.le_of_ble_eq_true rfl⟩) hK hP hD hS hA (va_recv hK (sj_Pc hP) (ci := 0) (q0 := 0) rfl rfl) rfl hl.1 rfl (Nat.le_of_ble_eq_true rfl) dL_law_187 ⟨Nat.le_of_ble_eq_true rfl, Nat.le_of_ble_eq_true rfl⟩ (fun r1 u1 H locs hc hP hD hS => ?_)
  obtain ⟨fp1, fr1, fl1⟩ := u1
  dsimp only at hc hP hD
  have hP : va_P (dC, dI) vwCl (sw h0 aT aS aP aR aL cA N big n lp ft fs fp1 fr1 fl1 ++ mw k0 bI bT bP bR cA cZ cJ N big n lp ft fk fp fr) H := sj_Ps hP
  have hD : va_D (fun q : Nat => s.heap.size ≤ q) (sw h0 aT aS aP aR aL cA N big n lp ft fs fp1 fr1 fl1 ++ mw k0 bI bT bP bR cA cZ cJ N big n lp ft fk fp fr) := sj_Ds hD
  refine lv_aload_n hx hb dL_law_190 rfl (lv_at hl 2 rfl) ?_
  refine lv_aload_n hx hb dL_law_191 rfl (lv_at hl 0 rfl) ?_
  refine lv_iload_n hx hb dL_law_192 rfl (lv_at hl 3 rfl) ?_
  refine lv_iconst (v := nI 1) hx hb dL_law_193 (by decide) ?_
  refine sr_iadd hx hb dL_law_194 ?_
  refine sr_sld hx hb hX hbl hbA hS (k := i + 1) (by omega) (by omega) dL_law_195 ?_
  refine sc_i (wr := sw h0 aT aS aP aR aL cA N big n lp ft fs fp1 fr1 fl1) (wc := mw k0 bI bT bP bR cA cZ cJ N big n lp ft fk fp fr) (As := [.int (xs (i + 1))]) (rest := [.int r1]) ⟨hx, hb, hml, hown, hts⟩ (kX1_turns l dC dI k0 bI bT bP bR cA cZ cJ H.size N big n lp ft fk fp fr hM (xs (i + 1))) (cwV 1 hts gL_law_X1_turns rfl rfl rfl (by decide +kernel) ⟨Nat.le_of_ble_eq_true rfl, Nat.le_of_ble_eq_true rfl⟩) hK hP hD hS hA (va_recv hK (sj_Pc hP) (ci := 1) (q0 := 0) rfl rfl) rfl hl.1 rfl (Nat.le_of_ble_eq_true rfl) dL_law_196 ⟨Nat.le_of_ble_eq_true rfl, Nat.le_of_ble_eq_true rfl⟩ (fun r2 u2 H locs hm hP hD hS => ?_)
  obtain ⟨fp2, fr2⟩ := u2
  dsimp only at hm hP hD
  rcases hc with ⟨hn1, e1, hu1⟩ | ⟨j, hj0, hj1, hjx, e1, a1, a2, hV1⟩
  · rcases hm with ⟨hn2, e2, hu2⟩ | ⟨j2, hj0, hj1, hjx, -⟩
    · cases hu1
      cases hu2
      exact lv_icmp_eq (tgt := 355) hx hb dL_law_199 (by decide) (fun _ => kk _ _ _ ⟨h0, aT, aS, aP, aR, aL, k0, bI, bT, bP, bR, N, big, n, lp, ft, fs, fp, fr, fl, fk, hV, hM, hP, hD, hS, hl⟩) (fun z => absurd (by rw [e1, e2]) z)
    · rw [hjx, ix_in hj1 (by decide)] at hn1
      rcases hn1 with z | z
      · cases z
      · injection z with z
        omega
  · rcases hm with ⟨hn2, e2, hu2⟩ | ⟨j2, hk0, hk1, hkx, e2, b1, b2, hM1⟩
    · rw [hjx, ix_in hj1 (by decide)] at hn2
      rcases hn2 with z | z
      · cases z
      · injection z with z
        omega
    · have hjk : j = j2 := (nI_eq (by omega) (by omega)).mp (hjx.symm.trans hkx)
      subst hjk
      subst a1 a2 b1 b2
      exact lv_icmp_eq (tgt := 355) hx hb dL_law_199 (by decide) (fun _ => kk _ _ _ ⟨h0, aT, aS, aP, aR, aL, k0, bI, bT, bP, bR, N, big, n, lp, ft, fs, _, _, fl1, fk, hV1, hM1, hP, hD, hS, hl⟩) (fun z => absurd (by rw [e1, e2]) z)
set_option maxHeartbeats 4000000 in
set_option maxRecDepth 100000 in
/-- case 4: change -/
theorem lw_c4 {p : Program} {l : Launch} {e : Env} {s : State} {m : MethodId} {below : List Frame} {meth : Method} {c : Code} {Q : State → Prop} {dC : Nat → ClassId} {dI : Nat → Nat → Nat} {cA cZ cJ : ClassId} {b L i : Nat} {xs : Nat → Int32} {H : Heap} {locs : List Loc} {ls : Array Slot} (hL : L ≤ 1538) (C0 : lw_At p s m meth c b L xs) (hK : va_K (dC, dI) vwCl (ty3 cA cZ cJ) s) (hi : i + 3 ≤ L) (hI : lw_inv s dC dI cA cZ cJ b i H locs ls)
    (kk : ∀ (H : Heap) (locs : List Loc) (ls : Array Slot), lw_inv s dC dI cA cZ cJ b i H locs ls → W p l e room_1 s m #[Value.ref b] below meth c H locs 11 593 Q (F0 m 355 ls [])) : W p l e room_1 s m #[Value.ref b] below meth c H locs 11 593 Q (F0 m 204 ls []) := by
  obtain ⟨hx, hb, hr, hml, hown, hts, hX, hbl, hlocks, hgv⟩ := id C0
  have hts := fun w h => hts w (wsL_law_in w h)
  have hown : s.vm.findClass RL = some m.cls := hown
  have hA : ∀ q : Nat, s.heap.size ≤ q → (fun q : Nat => s.heap.size ≤ q) q := fun _ h => h
  have hbA : ¬ (fun q : Nat => s.heap.size ≤ q) b := Nat.not_le.mpr hbl
  obtain ⟨h0, aT, aS, aP, aR, aL, k0, bI, bT, bP, bR, N, big, n, lp, ft, fs, fp, fr, fl, fk, hV, hM, hP, hD, hS, hl⟩ := hI
  have hP := sj_Ps hP
  have hD := sj_Ds hD
  refine lv_aload_n hx hb dL_law_204 rfl (lv_at hl 1 rfl) ?_
  refine lv_aload_n hx hb dL_law_205 rfl (lv_at hl 0 rfl) ?_
  refine lv_iload_n hx hb dL_law_206 rfl (lv_at hl 3 rfl) ?_
  refine lv_iconst (v := nI 1) hx hb dL_law_207 (by decide) ?_
  refine sr_iadd hx hb dL_law_208 ?_
  refine sr_sld hx hb hX hbl hbA hS (k := i + 1) (by omega) (by omega) dL_law_209 ?_
  refine lv_aload_n hx hb dL_law_210 rfl (lv_at hl 0 rfl) ?_
  refine lv_iload_n hx hb dL_law_211 rfl (lv_at hl 3 rfl) ?_
  refine lv_iconst (v := nI 2) hx hb dL_law_212 (by decide) ?_
  refine sr_iadd hx hb dL_law_213 ?_
  refine sr_sld hx hb hX hbl hbA hS (k := i + 2) (by omega) (by omega) dL_law_214 ?_
  refine sc_i (wr := mw k0 bI bT bP bR cA cZ cJ N big n lp ft fk fp fr) (wc := sw h0 aT aS aP aR aL cA N big n lp ft fs fp fr fl) (As := [.int (xs (i + 1)), .int (xs (i + 2))]) (rest := []) ⟨hx, hb, hml, hown, hts⟩ (kX0_change l dC dI h0 aT aS aP aR aL cA cZ cJ H.size N big n lp ft fs fp fr fl hV (xs (i + 1)) (xs (i + 2))) (cwV 2 hts gL_law_X0_change rfl rfl rfl (by decide +kernel) ⟨Nat.le_of_ble_eq_true rfl, Nat.le_of_ble_eq_true rfl⟩) hK hP hD hS hA (va_recv hK (sj_Pc hP) (ci := 0) (q0 := 0) rfl rfl) rfl hl.1 rfl (Nat.le_of_ble_eq_true rfl) dL_law_215 ⟨Nat.le_of_ble_eq_true rfl, Nat.le_of_ble_eq_true rfl⟩ (fun r1 u1 H locs hc hP hD hS => ?_)
  obtain ⟨ft1, fs1⟩ := u1
  dsimp only at hc hP hD
  have hP : va_P (dC, dI) vwCl (sw h0 aT aS aP aR aL cA N big n lp ft1 fs1 fp fr fl ++ mw k0 bI bT bP bR cA cZ cJ N big n lp ft fk fp fr) H := sj_Ps hP
  have hD : va_D (fun q : Nat => s.heap.size ≤ q) (sw h0 aT aS aP aR aL cA N big n lp ft1 fs1 fp fr fl ++ mw k0 bI bT bP bR cA cZ cJ N big n lp ft fk fp fr) := sj_Ds hD
  refine lv_aload_n hx hb dL_law_218 rfl (lv_at hl 2 rfl) ?_
  refine lv_aload_n hx hb dL_law_219 rfl (lv_at hl 0 rfl) ?_
  refine lv_iload_n hx hb dL_law_220 rfl (lv_at hl 3 rfl) ?_
  refine lv_iconst (v := nI 1) hx hb dL_law_221 (by decide) ?_
  refine sr_iadd hx hb dL_law_222 ?_
  refine sr_sld hx hb hX hbl hbA hS (k := i + 1) (by omega) (by omega) dL_law_223 ?_
  refine lv_aload_n hx hb dL_law_224 rfl (lv_at hl 0 rfl) ?_
  refine lv_iload_n hx hb dL_law_225 rfl (lv_at hl 3 rfl) ?_
  refine lv_iconst (v := nI 2) hx hb dL_law_226 (by decide) ?_
  refine sr_iadd hx hb dL_law_227 ?_
  refine sr_sld hx hb hX hbl hbA hS (k := i + 2) (by omega) (by omega) dL_law_228 ?_
  refine sc_i (wr := sw h0 aT aS aP aR aL cA N big n lp ft1 fs1 fp fr fl) (wc := mw k0 bI bT bP bR cA cZ cJ N big n lp ft fk fp fr) (As := [.int (xs (i + 1)), .int (xs (i + 2))]) (rest := [.int r1]) ⟨hx, hb, hml, hown, hts⟩ (kX1_change l dC dI k0 bI bT bP bR cA cZ cJ H.size N big n lp ft fk fp fr hM (xs (i + 1)) (xs (i + 2))) (cwV 2 hts gL_law_X1_change rfl rfl rfl (by decide +kernel) ⟨Nat.le_of_ble_eq_true rfl, Nat.le_of_ble_eq_true rfl⟩) hK hP hD hS hA (va_recv hK (sj_Pc hP) (ci := 1) (q0 := 0) rfl rfl) rfl hl.1 rfl (Nat.le_of_ble_eq_true rfl) dL_law_229 ⟨Nat.le_of_ble_eq_true rfl, Nat.le_of_ble_eq_true rfl⟩ (fun r2 u2 H locs hm hP hD hS => ?_)
  obtain ⟨ft2, fk2⟩ := u2
  dsimp only at hm hP hD
  obtain ⟨e1, hc⟩ := hc
  obtain ⟨e2, hm⟩ := hm
  rcases hc with ⟨hn1, hu1⟩ | ⟨j, k, hs1, -, -, -, -, a1, hV1⟩
  · rcases hm with ⟨hn2, hu2⟩ | ⟨j2, k2, hs2, -⟩
    · cases hu1
      cases hu2
      exact lv_icmp_eq (tgt := 355) hx hb dL_law_232 (by decide) (fun _ => kk _ _ _ ⟨h0, aT, aS, aP, aR, aL, k0, bI, bT, bP, bR, N, big, n, lp, ft, fs, fp, fr, fl, fk, hV, hM, hP, hD, hS, hl⟩) (fun z => absurd (by rw [e1, e2]) z)
    · rw [hn1] at hs2
      cases hs2
  · rcases hm with ⟨hn2, hu2⟩ | ⟨j2, k2, hs2, b1, hM1⟩
    · rw [hn2] at hs1
      cases hs1
    · rw [hs1] at hs2
      cases hs2
      subst a1 b1
      exact lv_icmp_eq (tgt := 355) hx hb dL_law_232 (by decide) (fun _ => kk _ _ _ ⟨h0, aT, aS, aP, aR, aL, k0, bI, bT, bP, bR, N, big, n, lp, _, fs1, fp, fr, fl, fk2, hV1, hM1, hP, hD, hS, hl⟩) (fun z => absurd (by rw [e1, e2]) z)
