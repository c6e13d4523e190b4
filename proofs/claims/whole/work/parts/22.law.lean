-- THE LAW: its cases (2)
set_option maxHeartbeats 4000000 in
set_option maxRecDepth 100000 in
/-- case 5: ranOf -/
theorem lw_c5 {p : Program} {l : Launch} {e : Env} {s : State} {m : MethodId} {below : List Frame} {meth : Method} {c : Code} {Q : State → Prop} {dC : Nat → ClassId} {dI : Nat → Nat → Nat} {cA cZ cJ : ClassId} {b L i : Nat} {xs : Nat → Int32} {H : Heap} {locs : List Loc} {ls : Array Slot} (hL : L ≤ 1538) (C0 : lw_At p s m meth c b L xs) (hK : va_K (dC, dI) vwCl (ty3 cA cZ cJ) s) (hi : i + 3 ≤ L) (hI : lw_inv s dC dI cA cZ cJ b i H locs ls)
    (kk : ∀ (H : Heap) (locs : List Loc) (ls : Array Slot), lw_inv s dC dI cA cZ cJ b i H locs ls → W p l e room_1 s m #[Value.ref b] below meth c H locs 11 593 Q (F0 m 355 ls [])) : W p l e room_1 s m #[Value.ref b] below meth c H locs 11 593 Q (F0 m 237 ls []) := by
  obtain ⟨hx, hb, hr, hml, hown, hts, hX, hbl, hlocks, hgv⟩ := id C0
  have hts := fun w h => hts w (wsL_law_in w h)
  have hown : s.vm.findClass RL = some m.cls := hown
  have hA : ∀ q : Nat, s.heap.size ≤ q → (fun q : Nat => s.heap.size ≤ q) q := fun _ h => h
  have hbA : ¬ (fun q : Nat => s.heap.size ≤ q) b := Nat.not_le.mpr hbl
  obtain ⟨h0, aT, aS, aP, aR, aL, k0, bI, bT, bP, bR, N, big, n, lp, ft, fs, fp, fr, fl, fk, hV, hM, hP, hD, hS, hl⟩ := hI
  have hP := sj_Ps hP
  have hD := sj_Ds hD
  refine lv_aload_n hx hb dL_law_237 rfl (lv_at hl 1 rfl) ?_
  refine lv_aload_n hx hb dL_law_238 rfl (lv_at hl 0 rfl) ?_
  refine lv_iload_n hx hb dL_law_239 rfl (lv_at hl 3 rfl) ?_
  refine lv_iconst (v := nI 1) hx hb dL_law_240 (by decide) ?_
  refine sr_iadd hx hb dL_law_241 ?_
  refine sr_sld hx hb hX hbl hbA hS (k := i + 1) (by omega) (by omega) dL_law_242 ?_
  refine sc_i (wr := mw k0 bI bT bP bR cA cZ cJ N big n lp ft fk fp fr) (wc := sw h0 aT aS aP aR aL cA N big n lp ft fs fp fr fl) (As := [.int (xs (i + 1))]) (rest := []) ⟨hx, hb, hml, hown, hts⟩ (kX0_ranOf l dC dI h0 aT aS aP aR aL cA cZ cJ H.size N big n lp ft fs fp fr fl hV (xs (i + 1))) (cwV 1 hts gL_law_X0_ranOf rfl rfl rfl (by decide +kernel) ⟨Nat.le_of_ble_eq_true rfl, Nat.le_of_ble_eq_true rfl⟩) hK hP hD hS hA (va_recv hK (sj_Pc hP) (ci := 0) (q0 := 0) rfl rfl) rfl hl.1 rfl (Nat.le_of_ble_eq_true rfl) dL_law_243 ⟨Nat.le_of_ble_eq_true rfl, Nat.le_of_ble_eq_true rfl⟩ (fun r1 u1 H locs hc hP hD hS => ?_)
  have hP : va_P (dC, dI) vwCl (sw h0 aT aS aP aR aL cA N big n lp ft fs fp fr fl ++ mw k0 bI bT bP bR cA cZ cJ N big n lp ft fk fp fr) H := sj_Ps hP
  have hD : va_D (fun q : Nat => s.heap.size ≤ q) (sw h0 aT aS aP aR aL cA N big n lp ft fs fp fr fl ++ mw k0 bI bT bP bR cA cZ cJ N big n lp ft fk fp fr) := sj_Ds hD
  refine lv_aload_n hx hb dL_law_246 rfl (lv_at hl 2 rfl) ?_
  refine lv_aload_n hx hb dL_law_247 rfl (lv_at hl 0 rfl) ?_
  refine lv_iload_n hx hb dL_law_248 rfl (lv_at hl 3 rfl) ?_
  refine lv_iconst (v := nI 1) hx hb dL_law_249 (by decide) ?_
  refine sr_iadd hx hb dL_law_250 ?_
  refine sr_sld hx hb hX hbl hbA hS (k := i + 1) (by omega) (by omega) dL_law_251 ?_
  refine sc_i (wr := sw h0 aT aS aP aR aL cA N big n lp ft fs fp fr fl) (wc := mw k0 bI bT bP bR cA cZ cJ N big n lp ft fk fp fr) (As := [.int (xs (i + 1))]) (rest := [.int r1]) ⟨hx, hb, hml, hown, hts⟩ (kX1_ranOf l dC dI k0 bI bT bP bR cA cZ cJ H.size N big n lp ft fk fp fr hM (xs (i + 1))) (cwV 1 hts gL_law_X1_ranOf rfl rfl rfl (by decide +kernel) ⟨Nat.le_of_ble_eq_true rfl, Nat.le_of_ble_eq_true rfl⟩) hK hP hD hS hA (va_recv hK (sj_Pc hP) (ci := 1) (q0 := 0) rfl rfl) rfl hl.1 rfl (Nat.le_of_ble_eq_true rfl) dL_law_252 ⟨Nat.le_of_ble_eq_true rfl, Nat.le_of_ble_eq_true rfl⟩ (fun r2 u2 H locs hm hP hD hS => ?_)
  have e1 := hc
  have e2 := hm
  exact lv_icmp_eq (tgt := 355) hx hb dL_law_255 (by decide) (fun _ => kk _ _ _ ⟨h0, aT, aS, aP, aR, aL, k0, bI, bT, bP, bR, N, big, n, lp, ft, fs, fp, fr, fl, fk, hV, hM, hP, hD, hS, hl⟩) (fun z => absurd (by rw [e1, e2]) z)
set_option maxHeartbeats 4000000 in
set_option maxRecDepth 100000 in
/-- case 6: passOf -/
theorem lw_c6 {p : Program} {l : Launch} {e : Env} {s : State} {m : MethodId} {below : List Frame} {meth : Method} {c : Code} {Q : State → Prop} {dC : Nat → ClassId} {dI : Nat → Nat → Nat} {cA cZ cJ : ClassId} {b L i : Nat} {xs : Nat → Int32} {H : Heap} {locs : List Loc} {ls : Array Slot} (hL : L ≤ 1538) (C0 : lw_At p s m meth c b L xs) (hK : va_K (dC, dI) vwCl (ty3 cA cZ cJ) s) (hi : i + 3 ≤ L) (hI : lw_inv s dC dI cA cZ cJ b i H locs ls)
    (kk : ∀ (H : Heap) (locs : List Loc) (ls : Array Slot), lw_inv s dC dI cA cZ cJ b i H locs ls → W p l e room_1 s m #[Value.ref b] below meth c H locs 11 593 Q (F0 m 355 ls [])) : W p l e room_1 s m #[Value.ref b] below meth c H locs 11 593 Q (F0 m 260 ls []) := by
  obtain ⟨hx, hb, hr, hml, hown, hts, hX, hbl, hlocks, hgv⟩ := id C0
  have hts := fun w h => hts w (wsL_law_in w h)
  have hown : s.vm.findClass RL = some m.cls := hown
  have hA : ∀ q : Nat, s.heap.size ≤ q → (fun q : Nat => s.heap.size ≤ q) q := fun _ h => h
  have hbA : ¬ (fun q : Nat => s.heap.size ≤ q) b := Nat.not_le.mpr hbl
  obtain ⟨h0, aT, aS, aP, aR, aL, k0, bI, bT, bP, bR, N, big, n, lp, ft, fs, fp, fr, fl, fk, hV, hM, hP, hD, hS, hl⟩ := hI
  have hP := sj_Ps hP
  have hD := sj_Ds hD
  refine lv_aload_n hx hb dL_law_260 rfl (lv_at hl 1 rfl) ?_
  refine lv_aload_n hx hb dL_law_261 rfl (lv_at hl 0 rfl) ?_
  refine lv_iload_n hx hb dL_law_262 rfl (lv_at hl 3 rfl) ?_
  refine lv_iconst (v := nI 1) hx hb dL_law_263 (by decide) ?_
  refine sr_iadd hx hb dL_law_264 ?_
  refine sr_sld hx hb hX hbl hbA hS (k := i + 1) (by omega) (by omega) dL_law_265 ?_
  refine sc_i (wr := mw k0 bI bT bP bR cA cZ cJ N big n lp ft fk fp fr) (wc := sw h0 aT aS aP aR aL cA N big n lp ft fs fp fr fl) (As := [.int (xs (i + 1))]) (rest := []) ⟨hx, hb, hml, hown, hts⟩ (kX0_passOf l dC dI h0 aT aS aP aR aL cA cZ cJ H.size N big n lp ft fs fp fr fl hV (xs (i + 1))) (cwV 1 hts gL_law_X0_passOf rfl rfl rfl (by decide +kernel) ⟨Nat.le_of_ble_eq_true rfl, Nat.le_of_ble_eq_true rfl⟩) hK hP hD hS hA (va_recv hK (sj_Pc hP) (ci := 0) (q0 := 0) rfl rfl) rfl hl.1 rfl (Nat.le_of_ble_eq_true rfl) dL_law_266 ⟨Nat.le_of_ble_eq_true rfl, Nat.le_of_ble_eq_true rfl⟩ (fun r1 u1 H locs hc hP hD hS => ?_)
  have hP : va_P (dC, dI) vwCl (sw h0 aT aS aP aR aL cA N big n lp ft fs fp fr fl ++ mw k0 bI bT bP bR cA cZ cJ N big n lp ft fk fp fr) H := sj_Ps hP
  have hD : va_D (fun q : Nat => s.heap.size ≤ q) (sw h0 aT aS aP aR aL cA N big n lp ft fs fp fr fl ++ mw k0 bI bT bP bR cA cZ cJ N big n lp ft fk fp fr) := sj_Ds hD
  refine lv_aload_n hx hb dL_law_269 rfl (lv_at hl 2 rfl) ?_
  refine lv_aload_n hx hb dL_law_270 rfl (lv_at hl 0 rfl) ?_
  refine lv_iload_n hx hb dL_law_271 rfl (lv_at hl 3 rfl) ?_
  refine lv_iconst (v := nI 1) hx hb dL_law_272 (by decide) ?_
  refine sr_iadd hx hb dL_law_273 ?_
  refine sr_sld hx hb hX hbl hbA hS (k := i + 1) (by omega) (by omega) dL_law_274 ?_
  refine sc_i (wr := sw h0 aT aS aP aR aL cA N big n lp ft fs fp fr fl) (wc := mw k0 bI bT bP bR cA cZ cJ N big n lp ft fk fp fr) (As := [.int (xs (i + 1))]) (rest := [.int r1]) ⟨hx, hb, hml, hown, hts⟩ (kX1_passOf l dC dI k0 bI bT bP bR cA cZ cJ H.size N big n lp ft fk fp fr hM (xs (i + 1))) (cwV 1 hts gL_law_X1_passOf rfl rfl rfl (by decide +kernel) ⟨Nat.le_of_ble_eq_true rfl, Nat.le_of_ble_eq_true rfl⟩) hK hP hD hS hA (va_recv hK (sj_Pc hP) (ci := 1) (q0 := 0) rfl rfl) rfl hl.1 rfl (Nat.le_of_ble_eq_true rfl) dL_law_275 ⟨Nat.le_of_ble_eq_true rfl, Nat.le_of_ble_eq_true rfl⟩ (fun r2 u2 H locs hm hP hD hS => ?_)
  have e1 := hc
  have e2 := hm
  exact lv_icmp_eq (tgt := 355) hx hb dL_law_278 (by decide) (fun _ => kk _ _ _ ⟨h0, aT, aS, aP, aR, aL, k0, bI, bT, bP, bR, N, big, n, lp, ft, fs, fp, fr, fl, fk, hV, hM, hP, hD, hS, hl⟩) (fun z => absurd (by rw [e1, e2]) z)
set_option maxHeartbeats 4000000 in
set_option maxRecDepth 100000 in
/-- case 7: strideOf -/
theorem lw_c7 {p : Program} {l : Launch} {e : Env} {s : State} {m : MethodId} {below : List Frame} {meth : Method} {c : Code} {Q : State → Prop} {dC : Nat → ClassId} {dI : Nat → Nat → Nat} {cA cZ cJ : ClassId} {b L i : Nat} {xs : Nat → Int32} {H : Heap} {locs : List Loc} {ls : Array Slot} (hL : L ≤ 1538) (C0 : lw_At p s m meth c b L xs) (hK : va_K (dC, dI) vwCl (ty3 cA cZ cJ) s) (hi : i + 3 ≤ L) (hI : lw_inv s dC dI cA cZ cJ b i H locs ls)
    (kk : ∀ (H : Heap) (locs : List Loc) (ls : Array Slot), lw_inv s dC dI cA cZ cJ b i H locs ls → W p l e room_1 s m #[Value.ref b] below meth c H locs 11 593 Q (F0 m 355 ls [])) : W p l e room_1 s m #[Value.ref b] below meth c H locs 11 593 Q (F0 m 283 ls []) := by
  obtain ⟨hx, hb, hr, hml, hown, hts, hX, hbl, hlocks, hgv⟩ := id C0
  have hts := fun w h => hts w (wsL_law_in w h)
  have hown : s.vm.findClass RL = some m.cls := hown
  have hA : ∀ q : Nat, s.heap.size ≤ q → (fun q : Nat => s.heap.size ≤ q) q := fun _ h => h
  have hbA : ¬ (fun q : Nat => s.heap.size ≤ q) b := Nat.not_le.mpr hbl
  obtain ⟨h0, aT, aS, aP, aR, aL, k0, bI, bT, bP, bR, N, big, n, lp, ft, fs, fp, fr, fl, fk, hV, hM, hP, hD, hS, hl⟩ := hI
  have hP := sj_Ps hP
  have hD := sj_Ds hD
  refine lv_aload_n hx hb dL_law_283 rfl (lv_at hl 1 rfl) ?_
  refine lv_aload_n hx hb dL_law_284 rfl (lv_at hl 0 rfl) ?_
  refine lv_iload_n hx hb dL_law_285 rfl (lv_at hl 3 rfl) ?_
  refine lv_iconst (v := nI 1) hx hb dL_law_286 (by decide) ?_
  refine sr_iadd hx hb dL_law_287 ?_
  refine sr_sld hx hb hX hbl hbA hS (k := i + 1) (by omega) (by omega) dL_law_288 ?_
  refine sc_i (wr := mw k0 bI bT bP bR cA cZ cJ N big n lp ft fk fp fr) (wc := sw h0 aT aS aP aR aL cA N big n lp ft fs fp fr fl) (As := [.int (xs (i + 1))]) (rest := []) ⟨hx, hb, hml, hown, hts⟩ (kX0_strideOf l dC dI h0 aT aS aP aR aL cA cZ cJ H.size N big n lp ft fs fp fr fl hV (xs (i + 1))) (cwV 1 hts gL_law_X0_strideOf rfl rfl rfl (by decide +kernel) ⟨Nat.le_of_ble_eq_true rfl, Nat.le_of_ble_eq_true rfl⟩) hK hP hD hS hA (va_recv hK (sj_Pc hP) (ci := 0) (q0 := 0) rfl rfl) rfl hl.1 rfl (Nat.le_of_ble_eq_true rfl) dL_law_289 ⟨Nat.le_of_ble_eq_true rfl, Nat.le_of_ble_eq_true rfl⟩ (fun r1 u1 H locs hc hP hD hS => ?_)
  have hP : va_P (dC, dI) vwCl (sw h0 aT aS aP aR aL cA N big n lp ft fs fp fr fl ++ mw k0 bI bT bP bR cA cZ cJ N big n lp ft fk fp fr) H := sj_Ps hP
  have hD : va_D (fun q : Nat => s.heap.size ≤ q) (sw h0 aT aS aP aR aL cA N big n lp ft fs fp fr fl ++ mw k0 bI bT bP bR cA cZ cJ N big n lp ft fk fp fr) := sj_Ds hD
  refine lv_aload_n hx hb dL_law_292 rfl (lv_at hl 2 rfl) ?_
  refine lv_aload_n hx hb dL_law_293 rfl (lv_at hl 0 rfl) ?_
  refine lv_iload_n hx hb dL_law_294 rfl (lv_at hl 3 rfl) ?_
  refine lv_iconst (v := nI 1) hx hb dL_law_295 (by decide) ?_
  refine sr_iadd hx hb dL_law_296 ?_
  refine sr_sld hx hb hX hbl hbA hS (k := i + 1) (by omega) (by omega) dL_law_297 ?_
  refine sc_i (wr := sw h0 aT aS aP aR aL cA N big n lp ft fs fp fr fl) (wc := mw k0 bI bT bP bR cA cZ cJ N big n lp ft fk fp fr) (As := [.int (xs (i + 1))]) (rest := [.int r1]) ⟨hx, hb, hml, hown, hts⟩ (kX1_strideOf l dC dI k0 bI bT bP bR cA cZ cJ H.size N big n lp ft fk fp fr hM (xs (i + 1))) (cwV 1 hts gL_law_X1_strideOf rfl rfl rfl (by decide +kernel) ⟨Nat.le_of_ble_eq_true rfl, Nat.le_of_ble_eq_true rfl⟩) hK hP hD hS hA (va_recv hK (sj_Pc hP) (ci := 1) (q0 := 0) rfl rfl) rfl hl.1 rfl (Nat.le_of_ble_eq_true rfl) dL_law_298 ⟨Nat.le_of_ble_eq_true rfl, Nat.le_of_ble_eq_true rfl⟩ (fun r2 u2 H locs hm hP hD hS => ?_)
  have e1 := hc
  have e2 := hm
  exact lv_icmp_eq (tgt := 355) hx hb dL_law_301 (by decide) (fun _ => kk _ _ _ ⟨h0, aT, aS, aP, aR, aL, k0, bI, bT, bP, bR, N, big, n, lp, ft, fs, fp, fr, fl, fk, hV, hM, hP, hD, hS, hl⟩) (fun z => absurd (by rw [e1, e2]) z)
set_option maxHeartbeats 4000000 in
set_option maxRecDepth 100000 in
/-- case 8: clients -/
theorem lw_c8 {p : Program} {l : Launch} {e : Env} {s : State} {m : MethodId} {below : List Frame} {meth : Method} {c : Code} {Q : State → Prop} {dC : Nat → ClassId} {dI : Nat → Nat → Nat} {cA cZ cJ : ClassId} {b L i : Nat} {xs : Nat → Int32} {H : Heap} {locs : List Loc} {ls : Array Slot} (hL : L ≤ 1538) (C0 : lw_At p s m meth c b L xs) (hK : va_K (dC, dI) vwCl (ty3 cA cZ cJ) s) (hi : i + 3 ≤ L) (hI : lw_inv s dC dI cA cZ cJ b i H locs ls)
    (kk : ∀ (H : Heap) (locs : List Loc) (ls : Array Slot), lw_inv s dC dI cA cZ cJ b i H locs ls → W p l e room_1 s m #[Value.ref b] below meth c H locs 11 593 Q (F0 m 355 ls [])) : W p l e room_1 s m #[Value.ref b] below meth c H locs 11 593 Q (F0 m 306 ls []) := by
  obtain ⟨hx, hb, hr, hml, hown, hts, hX, hbl, hlocks, hgv⟩ := id C0
  have hts := fun w h => hts w (wsL_law_in w h)
  have hown : s.vm.findClass RL = some m.cls := hown
  have hA : ∀ q : Nat, s.heap.size ≤ q → (fun q : Nat => s.heap.size ≤ q) q := fun _ h => h
  have hbA : ¬ (fun q : Nat => s.heap.size ≤ q) b := Nat.not_le.mpr hbl
  obtain ⟨h0, aT, aS, aP, aR, aL, k0, bI, bT, bP, bR, N, big, n, lp, ft, fs, fp, fr, fl, fk, hV, hM, hP, hD, hS, hl⟩ := hI
  have hP := sj_Ps hP
  have hD := sj_Ds hD
  refine lv_aload_n hx hb dL_law_306 rfl (lv_at hl 1 rfl) ?_
  refine sc_i (wr := mw k0 bI bT bP bR cA cZ cJ N big n lp ft fk fp fr) (wc := sw h0 aT aS aP aR aL cA N big n lp ft fs fp fr fl) (As := []) (rest := []) ⟨hx, hb, hml, hown, hts⟩ (kX0_clients l dC dI h0 aT aS aP aR aL cA cZ cJ H.size N big n lp ft fs fp fr fl hV ) (cwV 0 hts gL_law_X0_clients rfl rfl rfl (by decide +kernel) ⟨Nat.le_of_ble_eq_true rfl, Nat.le_of_ble_eq_true rfl⟩) hK hP hD hS hA (va_recv hK (sj_Pc hP) (ci := 0) (q0 := 0) rfl rfl) rfl hl.1 rfl (Nat.le_of_ble_eq_true rfl) dL_law_307 ⟨Nat.le_of_ble_eq_true rfl, Nat.le_of_ble_eq_true rfl⟩ (fun r1 u1 H locs hc hP hD hS => ?_)
  have hP : va_P (dC, dI) vwCl (sw h0 aT aS aP aR aL cA N big n lp ft fs fp fr fl ++ mw k0 bI bT bP bR cA cZ cJ N big n lp ft fk fp fr) H := sj_Ps hP
  have hD : va_D (fun q : Nat => s.heap.size ≤ q) (sw h0 aT aS aP aR aL cA N big n lp ft fs fp fr fl ++ mw k0 bI bT bP bR cA cZ cJ N big n lp ft fk fp fr) := sj_Ds hD
  refine lv_aload_n hx hb dL_law_310 rfl (lv_at hl 2 rfl) ?_
  refine sc_i (wr := sw h0 aT aS aP aR aL cA N big n lp ft fs fp fr fl) (wc := mw k0 bI bT bP bR cA cZ cJ N big n lp ft fk fp fr) (As := []) (rest := [.int r1]) ⟨hx, hb, hml, hown, hts⟩ (kX1_clients l dC dI k0 bI bT bP bR cA cZ cJ H.size N big n lp ft fk fp fr hM ) (cwV 0 hts gL_law_X1_clients rfl rfl rfl (by decide +kernel) ⟨Nat.le_of_ble_eq_true rfl, Nat.le_of_ble_eq_true rfl⟩) hK hP hD hS hA (va_recv hK (sj_Pc hP) (ci := 1) (q0 := 0) rfl rfl) rfl hl.1 rfl (Nat.le_of_ble_eq_true rfl) dL_law_311 ⟨Nat.le_of_ble_eq_true rfl, Nat.le_of_ble_eq_true rfl⟩ (fun r2 u2 H locs hm hP hD hS => ?_)
  have e1 := hc
  have e2 := hm
  exact lv_icmp_eq (tgt := 355) hx hb dL_law_314 (by decide) (fun _ => kk _ _ _ ⟨h0, aT, aS, aP, aR, aL, k0, bI, bT, bP, bR, N, big, n, lp, ft, fs, fp, fr, fl, fk, hV, hM, hP, hD, hS, hl⟩) (fun z => absurd (by rw [e1, e2]) z)
set_option maxHeartbeats 4000000 in
set_option maxRecDepth 100000 in
/-- case 9: spread -/
theorem lw_c9 {p : Program} {l : Launch} {e : Env} {s : State} {m : MethodId} {below : List Frame} {meth : Method} {c : Code} {Q : State → Prop} {dC : Nat → ClassId} {dI : Nat → Nat → Nat} {cA cZ cJ : ClassId} {b L i : Nat} {xs : Nat → Int32} {H : Heap} {locs : List Loc} {ls : Array Slot} (hL : L ≤ 1538) (C0 : lw_At p s m meth c b L xs) (hK : va_K (dC, dI) vwCl (ty3 cA cZ cJ) s) (hi : i + 3 ≤ L) (hI : lw_inv s dC dI cA cZ cJ b i H locs ls)
    (kk : ∀ (H : Heap) (locs : List Loc) (ls : Array Slot), lw_inv s dC dI cA cZ cJ b i H locs ls → W p l e room_1 s m #[Value.ref b] below meth c H locs 11 593 Q (F0 m 355 ls [])) : W p l e room_1 s m #[Value.ref b] below meth c H locs 11 593 Q (F0 m 319 ls []) := by
  obtain ⟨hx, hb, hr, hml, hown, hts, hX, hbl, hlocks, hgv⟩ := id C0
  have hts := fun w h => hts w (wsL_law_in w h)
  have hown : s.vm.findClass RL = some m.cls := hown
  have hA : ∀ q : Nat, s.heap.size ≤ q → (fun q : Nat => s.heap.size ≤ q) q := fun _ h => h
  have hbA : ¬ (fun q : Nat => s.heap.size ≤ q) b := Nat.not_le.mpr hbl
  obtain ⟨h0, aT, aS, aP, aR, aL, k0, bI, bT, bP, bR, N, big, n, lp, ft, fs, fp, fr, fl, fk, hV, hM, hP, hD, hS, hl⟩ := hI
  have hP := sj_Ps hP
  have hD := sj_Ds hD
  refine lv_aload_n hx hb dL_law_319 rfl (lv_at hl 1 rfl) ?_
  refine sc_i (wr := mw k0 bI bT bP bR cA cZ cJ N big n lp ft fk fp fr) (wc := sw h0 aT aS aP aR aL cA N big n lp ft fs fp fr fl) (As := []) (rest := []) ⟨hx, hb, hml, hown, hts⟩ (kX0_spread l dC dI h0 aT aS aP aR aL cA cZ cJ H.size N big n lp ft fs fp fr fl hV ) (cwV 0 hts gL_law_X0_spread rfl rfl rfl (by decide +kernel) ⟨Nat.le_of_ble_eq_true rfl, Nat.le_of_ble_eq_true rfl⟩) hK hP hD hS hA (va_recv hK (sj_Pc hP) (ci := 0) (q0 := 0) rfl rfl) rfl hl.1 rfl (Nat.le_of_ble_eq_true rfl) dL_law_320 ⟨Nat.le_of_ble_eq_true rfl, Nat.le_of_ble_eq_true rfl⟩ (fun r1 u1 H locs hc hP hD hS => ?_)
  have hP : va_P (dC, dI) vwCl (sw h0 aT aS aP aR aL cA N big n lp ft fs fp fr fl ++ mw k0 bI bT bP bR cA cZ cJ N big n lp ft fk fp fr) H := sj_Ps hP
  have hD : va_D (fun q : Nat => s.heap.size ≤ q) (sw h0 aT aS aP aR aL cA N big n lp ft fs fp fr fl ++ mw k0 bI bT bP bR cA cZ cJ N big n lp ft fk fp fr) := sj_Ds hD
  refine lv_aload_n hx hb dL_law_323 rfl (lv_at hl 2 rfl) ?_
  refine sc_i (wr := sw h0 aT aS aP aR aL cA N big n lp ft fs fp fr fl) (wc := mw k0 bI bT bP bR cA cZ cJ N big n lp ft fk fp fr) (As := []) (rest := [.int r1]) ⟨hx, hb, hml, hown, hts⟩ (kX1_spread l dC dI k0 bI bT bP bR cA cZ cJ H.size N big n lp ft fk fp fr hM ) (cwV 0 hts gL_law_X1_spread rfl rfl rfl (by decide +kernel) ⟨Nat.le_of_ble_eq_true rfl, Nat.le_of_ble_eq_true rfl⟩) hK hP hD hS hA (va_recv hK (sj_Pc hP) (ci := 1) (q0 := 0) rfl rfl) rfl hl.1 rfl (Nat.le_of_ble_eq_true rfl) dL_law_324 ⟨Nat.le_of_ble_eq_true rfl, Nat.le_of_ble_eq_true rfl⟩ (fun r2 u2 H locs hm hP hD hS => ?_)
  have e1 := hc
  have e2 := hm
  exact lv_icmp_eq (tgt := 355) hx hb dL_law_327 (by decide) (fun _ => kk _ _ _ ⟨h0, aT, aS, aP, aR, aL, k0, bI, bT, bP, bR, N, big, n, lp, ft, fs, fp, fr, fl, fk, hV, hM, hP, hD, hS, hl⟩) (fun z => absurd (by rw [e1, e2]) z)
set_option maxHeartbeats 4000000 in
set_option maxRecDepth 100000 in
/-- case 10: order -/
theorem lw_c10 {p : Program} {l : Launch} {e : Env} {s : State} {m : MethodId} {below : List Frame} {meth : Method} {c : Code} {Q : State → Prop} {dC : Nat → ClassId} {dI : Nat → Nat → Nat} {cA cZ cJ : ClassId} {b L i : Nat} {xs : Nat → Int32} {H : Heap} {locs : List Loc} {ls : Array Slot} (hL : L ≤ 1538) (C0 : lw_At p s m meth c b L xs) (hK : va_K (dC, dI) vwCl (ty3 cA cZ cJ) s) (hi : i + 3 ≤ L) (hI : lw_inv s dC dI cA cZ cJ b i H locs ls)
    (kk : ∀ (H : Heap) (locs : List Loc) (ls : Array Slot), lw_inv s dC dI cA cZ cJ b i H locs ls → W p l e room_1 s m #[Value.ref b] below meth c H locs 11 593 Q (F0 m 355 ls [])) : W p l e room_1 s m #[Value.ref b] below meth c H locs 11 593 Q (F0 m 332 ls []) := by
  obtain ⟨hx, hb, hr, hml, hown, hts, hX, hbl, hlocks, hgv⟩ := id C0
  have hts := fun w h => hts w (wsL_law_in w h)
  have hown : s.vm.findClass RL = some m.cls := hown
  have hA : ∀ q : Nat, s.heap.size ≤ q → (fun q : Nat => s.heap.size ≤ q) q := fun _ h => h
  have hbA : ¬ (fun q : Nat => s.heap.size ≤ q) b := Nat.not_le.mpr hbl
  obtain ⟨h0, aT, aS, aP, aR, aL, k0, bI, bT, bP, bR, N, big, n, lp, ft, fs, fp, fr, fl, fk, hV, hM, hP, hD, hS, hl⟩ := hI
  have hP := sj_Ps hP
  have hD := sj_Ds hD
  have hIl : sh_I N ft fp fl n := hV.2.2.2.2.2.2.2.2
  have hnN : n ≤ N := by rw [hIl.1]; exact cnt_le ft N
  have hN64 : N ≤ 64 := hV.2.1
  refine lv_aload_n hx hb dL_law_332 rfl (lv_at hl 1 rfl) ?_
  refine lv_aload_n hx hb dL_law_333 rfl (lv_at hl 0 rfl) ?_
  refine lv_iload_n hx hb dL_law_334 rfl (lv_at hl 3 rfl) ?_
  refine lv_iconst (v := nI 1) hx hb dL_law_335 (by decide) ?_
  refine sr_iadd hx hb dL_law_336 ?_
  refine sr_sld hx hb hX hbl hbA hS (k := i + 1) (by omega) (by omega) dL_law_337 ?_
  refine sc_i (wr := mw k0 bI bT bP bR cA cZ cJ N big n lp ft fk fp fr) (wc := sw h0 aT aS aP aR aL cA N big n lp ft fs fp fr fl) (As := [.int (xs (i + 1))]) (rest := []) ⟨hx, hb, hml, hown, hts⟩ (kX0_order l dC dI h0 aT aS aP aR aL cA cZ cJ H.size N big n lp ft fs fp fr fl hV (xs (i + 1))) (cwV 1 hts gL_law_X0_order rfl rfl rfl (by decide +kernel) ⟨Nat.le_of_ble_eq_true rfl, Nat.le_of_ble_eq_true rfl⟩) hK hP hD hS hA (va_recv hK (sj_Pc hP) (ci := 0) (q0 := 0) rfl rfl) rfl hl.1 rfl (Nat.le_of_ble_eq_true rfl) dL_law_338 ⟨Nat.le_of_ble_eq_true rfl, Nat.le_of_ble_eq_true rfl⟩ (fun r1 u1 H locs hc hP hD hS => ?_)
  have hP : va_P (dC, dI) vwCl (sw h0 aT aS aP aR aL cA N big n lp ft fs fp fr fl ++ mw k0 bI bT bP bR cA cZ cJ N big n lp ft fk fp fr) H := sj_Ps hP
  have hD : va_D (fun q : Nat => s.heap.size ≤ q) (sw h0 aT aS aP aR aL cA N big n lp ft fs fp fr fl ++ mw k0 bI bT bP bR cA cZ cJ N big n lp ft fk fp fr) := sj_Ds hD
  refine lv_aload_n hx hb dL_law_341 rfl (lv_at hl 2 rfl) ?_
  refine lv_aload_n hx hb dL_law_342 rfl (lv_at hl 0 rfl) ?_
  refine lv_iload_n hx hb dL_law_343 rfl (lv_at hl 3 rfl) ?_
  refine lv_iconst (v := nI 1) hx hb dL_law_344 (by decide) ?_
  refine sr_iadd hx hb dL_law_345 ?_
  refine sr_sld hx hb hX hbl hbA hS (k := i + 1) (by omega) (by omega) dL_law_346 ?_
  refine sc_i (wr := sw h0 aT aS aP aR aL cA N big n lp ft fs fp fr fl) (wc := mw k0 bI bT bP bR cA cZ cJ N big n lp ft fk fp fr) (As := [.int (xs (i + 1))]) (rest := [.int r1]) ⟨hx, hb, hml, hown, hts⟩ (kX1_order l dC dI k0 bI bT bP bR cA cZ cJ H.size N big n lp ft fk fp fr hM (fun k hk => ⟨fl k, (hIl.2.1 k hk).1, (hIl.2.1 k hk).2, rk_I hIl hk⟩) (xs (i + 1))) (cwV 1 hts gL_law_X1_order rfl rfl rfl (by decide +kernel) ⟨Nat.le_of_ble_eq_true rfl, Nat.le_of_ble_eq_true rfl⟩) hK hP hD hS hA (va_recv hK (sj_Pc hP) (ci := 1) (q0 := 0) rfl rfl) rfl hl.1 rfl (Nat.le_of_ble_eq_true rfl) dL_law_347 ⟨Nat.le_of_ble_eq_true rfl, Nat.le_of_ble_eq_true rfl⟩ (fun r2 u2 H locs hm hP hD hS => ?_)
  rcases hc with ⟨hn1, e1⟩ | ⟨k, z1, hk, hkx, g1, g2, g3, e1⟩
  · rcases hm with ⟨hn2, e2⟩ | ⟨k2, z2, hk2, hkx2, -⟩
    · exact lv_icmp_eq (tgt := 355) hx hb dL_law_350 (by decide) (fun _ => kk _ _ _ ⟨h0, aT, aS, aP, aR, aL, k0, bI, bT, bP, bR, N, big, n, lp, ft, fs, fp, fr, fl, fk, hV, hM, hP, hD, hS, hl⟩) (fun z => absurd (by rw [e1, e2]) z)
    · rw [hkx2, ix_in hk2 (by omega)] at hn1
      cases hn1
  · rcases hm with ⟨hn2, e2⟩ | ⟨k2, z2, hk2, hkx2, f1, f2, f3, e2⟩
    · rw [hkx, ix_in hk (by omega)] at hn2
      cases hn2
    · have hkk : k = k2 := (nI_eq (by omega) (by omega)).mp (hkx.symm.trans hkx2)
      subst hkk
      have hzz : z1 = z2 := rk_un hIl g1 g2 g3 f1 f2 f3
      subst hzz
      exact lv_icmp_eq (tgt := 355) hx hb dL_law_350 (by decide) (fun _ => kk _ _ _ ⟨h0, aT, aS, aP, aR, aL, k0, bI, bT, bP, bR, N, big, n, lp, ft, fs, fp, fr, fl, fk, hV, hM, hP, hD, hS, hl⟩) (fun z => absurd (by rw [e1, e2]) z)
