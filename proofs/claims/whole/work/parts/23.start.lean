-- THE LAW: its loop, its start
set_option maxHeartbeats 4000000 in
set_option maxRecDepth 100000 in
/-- the law's loop -/
theorem lw_loop {p : Program} {l : Launch} {e : Env} {s : State} {m : MethodId} {below : List Frame} {meth : Method} {c : Code} {dC : Nat → ClassId} {dI : Nat → Nat → Nat} {cA cZ cJ : ClassId} {b L : Nat} {xs : Nat → Int32} (hL : L ≤ 1538) (C0 : lw_At p s m meth c b L xs) (hK : va_K (dC, dI) vwCl (ty3 cA cZ cJ) s) :
    ∀ (d i : Nat) (H : Heap) (locs : List Loc) (ls : Array Slot), (L + 3 ≤ i + d ∧ i ≤ L + 2 ∧ lw_inv s dC dI cA cZ cJ b i H locs ls) → W p l e room_1 s m #[Value.ref b] below meth c H locs 11 593 (lw_Z below #[Value.ref b] s) (F0 m 38 ls []) := by
  obtain ⟨hx, hb, hr, hml, hown, hts, hX, hbl, hlocks, hgv⟩ := id C0
  have hbA : ¬ (fun q : Nat => s.heap.size ≤ q) b := Nat.not_le.mpr hbl
  refine sl_loop (fun d (i : Nat) H locs ls => L + 3 ≤ i + d ∧ i ≤ L + 2 ∧ lw_inv s dC dI cA cZ cJ b i H locs ls) (fun i H locs ls h => by omega) ?_
  intro d i H locs ls ih hI0
  obtain ⟨h1, h2, hI⟩ := hI0
  have kk : i + 3 ≤ L → ∀ (H : Heap) (locs : List Loc) (ls : Array Slot), lw_inv s dC dI cA cZ cJ b i H locs ls → W p l e room_1 s m #[Value.ref b] below meth c H locs 11 593 (lw_Z below #[Value.ref b] s) (F0 m 355 ls []) := by
    intro hi H locs ls hI
    obtain ⟨h0, aT, aS, aP, aR, aL, k0, bI, bT, bP, bR, N, big, n, lp, ft, fs, fp, fr, fl, fk, hV, hM, hP, hD, hS, hl⟩ := hI
    refine lv_iinc (v := nI (i + 3)) (lv' := [(3, .int (nI (i + 3))), (0, .ref b), (1, .ref h0), (2, .ref k0)]) hx hb dL_law_355 hl (k := 3) rfl (nI_add i 3) (by decide) rfl (fun ls hl => ?_)
    refine lv_goto (tgt := 38) hx hb dL_law_358 (by decide) ?_
    exact ih (i + 3) _ _ _ ⟨by omega, by omega, h0, aT, aS, aP, aR, aL, k0, bI, bT, bP, bR, N, big, n, lp, ft, fs, fp, fr, fl, fk, hV, hM, hP, hD, hS, lv_sub hl [1, 2, 3, 0] rfl⟩
  obtain ⟨h0, aT, aS, aP, aR, aL, k0, bI, bT, bP, bR, N, big, n, lp, ft, fs, fp, fr, fl, fk, hV, hM, hP, hD, hS, hl⟩ := id hI
  refine lv_iload_n hx hb dL_law_38 rfl (lv_at hl 3 rfl) ?_
  refine lv_aload_n hx hb dL_law_39 rfl (lv_at hl 0 rfl) ?_
  refine va_slen hx hb hX hbl hbA hS dL_law_40 ?_
  refine lv_iconst (v := nI 3) hx hb dL_law_41 (by decide) ?_
  refine lv_isub hx hb dL_law_42 ?_
  refine lv_icmp_gt (tgt := 361) hx hb dL_law_43 (by decide) (fun c1 => ?_) (fun c1 => ?_)
  · refine lv_iconst (v := 1) hx hb dL_law_361 (by decide) ?_
    refine va_forget (fun q hq => hS.2.2 q hq) ?_
    refine W.widen (k := 600000) (n := 7302250) (by decide) (by decide) ?_
    exact lw_ret hx hb hr hlocks dL_law_362
  · have hi : i + 3 ≤ L := by
      rcases Nat.lt_or_ge L (i + 3) with q | q
      · exact absurd ((lw_gt (by omega) (by omega)).mpr q) c1
      · exact q
    have kk := kk hi
    refine lv_aload_n hx hb dL_law_46 rfl (lv_at hl 0 rfl) ?_
    refine lv_iload_n hx hb dL_law_47 rfl (lv_at hl 3 rfl) ?_
    refine sr_sld hx hb hX hbl hbA hS (k := i) (by omega) (by omega) dL_law_48 ?_
    refine lv_bipush (v := nI 15) hx hb dL_law_49 (by decide) ?_
    refine lv_iand hx hb dL_law_51 ?_
    obtain ⟨j, hj, ej⟩ := pk_andE (xs i) (m := nI 15) 4 (by decide)
    rw [ej]
    rcases (show j = 0 ∨ j = 1 ∨ j = 2 ∨ j = 3 ∨ j = 4 ∨ j = 5 ∨ j = 6 ∨ j = 7 ∨ j = 8 ∨ j = 9 ∨ j = 10 ∨ 11 ≤ j by omega) with rfl | rfl | rfl | rfl | rfl | rfl | rfl | rfl | rfl | rfl | rfl | hj2
    · refine lv_tableIn (off := 60) (tgt := 112) hx hb dL_law_52 (by decide) (by decide) (by decide) (by decide) ?_
      exact lw_c0 hL C0 hK hi hI kk
    · refine lv_tableIn (off := 93) (tgt := 145) hx hb dL_law_52 (by decide) (by decide) (by decide) (by decide) ?_
      exact lw_c1 hL C0 hK hi hI kk
    · refine lv_tableIn (off := 116) (tgt := 168) hx hb dL_law_52 (by decide) (by decide) (by decide) (by decide) ?_
      exact lw_c2 hL C0 hK hi hI kk
    · refine lv_tableIn (off := 129) (tgt := 181) hx hb dL_law_52 (by decide) (by decide) (by decide) (by decide) ?_
      exact lw_c3 hL C0 hK hi hI kk
    · refine lv_tableIn (off := 152) (tgt := 204) hx hb dL_law_52 (by decide) (by decide) (by decide) (by decide) ?_
      exact lw_c4 hL C0 hK hi hI kk
    · refine lv_tableIn (off := 185) (tgt := 237) hx hb dL_law_52 (by decide) (by decide) (by decide) (by decide) ?_
      exact lw_c5 hL C0 hK hi hI kk
    · refine lv_tableIn (off := 208) (tgt := 260) hx hb dL_law_52 (by decide) (by decide) (by decide) (by decide) ?_
      exact lw_c6 hL C0 hK hi hI kk
    · refine lv_tableIn (off := 231) (tgt := 283) hx hb dL_law_52 (by decide) (by decide) (by decide) (by decide) ?_
      exact lw_c7 hL C0 hK hi hI kk
    · refine lv_tableIn (off := 254) (tgt := 306) hx hb dL_law_52 (by decide) (by decide) (by decide) (by decide) ?_
      exact lw_c8 hL C0 hK hi hI kk
    · refine lv_tableIn (off := 267) (tgt := 319) hx hb dL_law_52 (by decide) (by decide) (by decide) (by decide) ?_
      exact lw_c9 hL C0 hK hi hI kk
    · refine lv_tableIn (off := 280) (tgt := 332) hx hb dL_law_52 (by decide) (by decide) (by decide) (by decide) ?_
      exact lw_c10 hL C0 hK hi hI kk
    · exact lv_tableOut (tgt := 355) hx hb dL_law_52 (Or.inr (by rw [nI_toInt (by omega)]; omega)) (by decide) (kk _ _ _ hI)
theorem V_new {N big : Nat} (h1 : 0 < N) (h2 : N ≤ 64) (h3 : 2 ≤ big) (h4 : big ≤ 32768) : sh_V N big 0 0 (fun _ => 0) (fun _ => 0) (fun _ => 0) (fun _ => 0) := ⟨h1, h2, h3, h4, by decide, fun _ => (by decide : 0 < 2 ^ 31), fun _ => (by omega : 0 < big), fun _ h => absurd h (Nat.lt_irrefl 0), I_new (fun _ _ => rfl)⟩
theorem M_new {N big : Nat} (h1 : 0 < N) (h2 : N ≤ 64) (h3 : 2 ≤ big) (h4 : big ≤ 32768) : sh_M N big 0 0 (fun _ => 0) (fun _ => 0) (fun _ => 0) := ⟨h1, h2, h3, h4, by decide, fun _ => (by decide : 0 < 2 ^ 31), fun _ => (by omega : 0 < big), fun _ h => absurd h (Nat.lt_irrefl 0), (cnt_none N).symm⟩
set_option maxHeartbeats 4000000 in
set_option maxRecDepth 100000 in
/-- THE LAW, from its entry -/
theorem whole_start {p : Program} {e : Env} {s : State} {m : MethodId} {below : List Frame} {meth : Method} {c : Code} (l : Launch) {b L : Nat} {xs : Nat → Int32} (hL : L ≤ 1538) (C0 : lw_At p s m meth c b L xs) : W p l e room_1 s m #[Value.ref b] below meth c s.heap [] 0 0 (lw_Z below #[Value.ref b] s) (entryFrame m ([Value.ref b] : List Value).toArray 4) := by
  obtain ⟨hx, hb, hr, hml, hown, hts0, hX, hbl, hlocks, hgv⟩ := id C0
  have hts := fun w h => hts0 w (wsL_law_in w h)
  have hown : s.vm.findClass RL = some m.cls := hown
  have hA : ∀ q : Nat, s.heap.size ≤ q → (fun q : Nat => s.heap.size ≤ q) q := fun _ h => h
  have hbA : ¬ (fun q : Nat => s.heap.size ≤ q) b := Nat.not_le.mpr hbl
  obtain ⟨c0, iS0, hKn0⟩ := u_known (C := RX0) (T := TX0) (N := 9) (n := 9) hts0 inX0 (hts (.instantiable RX0 9) (by decide +kernel))
  obtain ⟨c1, iS1, hKn1⟩ := u_known (C := RX1) (T := TX1) (N := 8) (n := 8) hts0 inX1 (hts (.instantiable RX1 8) (by decide +kernel))
  obtain ⟨dC, dI, hKc⟩ : ∃ (dC : Nat → ClassId) (dI : Nat → Nat → Nat), ∀ (k : Nat) (q : vw_C), vwCl[k]? = some q → u_Kn s q.1 q.2.1 q.2.2 (dC k) (dI k) := by
    refine ⟨fun k => if k = 0 then c0 else c1, fun k => if k = 0 then iS0 else iS1, ?_⟩
    intro k q hq
    match k, hq with
    | 0, hq => cases hq; exact hKn0
    | 1, hq => cases hq; exact hKn1
    | k + 2, hq => simp [vwCl] at hq
  have hS : va_S (fun q : Nat => s.heap.size ≤ q) s.heap s.heap [] := va_S.rf
  have hK : va_K (dC, dI) vwCl [] s := ⟨hKc, fun k q h => by simp at h⟩
  have hP : va_P (dC, dI) vwCl [] s.heap := fun k q h => by simp at h
  have hD : va_D (fun q : Nat => s.heap.size ≤ q) [] := ⟨fun i j p q h => by simp at h, fun k q h => by simp at h⟩
  have hl := lv_entry ([.ref b]) (n := 4) (Nat.le_of_ble_eq_true rfl)
  rw [lg_entry_eq]
  generalize (lg_sl ([.ref b]) ++ List.replicate (4 - (lg_sl ([.ref b])).length) Slot.unset).toArray = ls at hl ⊢
  have hl : lv_has ls 4 [(0, .ref b)] := hl
  refine va_new (ci := 0) (fs := [.int (nI 0), .int (nI 0), .null, .null, .null, .null, .null, .int (nI 0), .int (nI 0)]) (C := RX0) (T := TX0) (N := 9) hx hb hts inlX0 tyX0 tyX0_ok hown (hts (.classLink RL 7 RX0) (by decide +kernel)) (hts (.instantiable RX0 9) (by decide +kernel)) (hts (.initialized RX0) (by decide +kernel)) hK hP hD hS hA rfl (fun j hj => by rcases (show j = 0 ∨ j = 1 ∨ j = 2 ∨ j = 3 ∨ j = 4 ∨ j = 5 ∨ j = 6 ∨ j = 7 ∨ j = 8 by omega) with rfl | rfl | rfl | rfl | rfl | rfl | rfl | rfl | rfl <;> rfl) (Nat.le_of_ble_eq_true rfl) (Nat.le_of_ble_eq_true rfl) dL_law_0 (fun h0 H hP hD hS => ?_)
  have hP : va_P (dC, dI) vwCl [(h0, .inr (0, [.int (nI 0), .int (nI 0), .null, .null, .null, .null, .null, .int (nI 0), .int (nI 0)]))] H := hP
  have hD : va_D (fun q : Nat => s.heap.size ≤ q) [(h0, .inr (0, [.int (nI 0), .int (nI 0), .null, .null, .null, .null, .null, .int (nI 0), .int (nI 0)]))] := hD
  refine W.widen (k := 1) (n := 9) (by omega) (by omega) ?_
  refine lv_dup hx hb dL_law_3 rfl ?_
  refine lv_aload_n hx hb dL_law_4 rfl (lv_at hl 0 rfl) ?_
  refine lv_iconst (v := nI 0) hx hb dL_law_5 (by decide) ?_
  refine sc_s (As := [.ref b, .int (nI 0)]) (rest := [.ref h0, .ref h0]) ⟨hx, hb, hml, hown, hts⟩ (kL_cell l H.size b L xs 0 (by decide) (by omega)) (va_cwS 2 hts gL_law_L_cell rfl rfl rfl (by decide +kernel) ⟨Nat.le_of_ble_eq_true rfl, Nat.le_of_ble_eq_true rfl⟩) ⟨fun a U g mk q => ⟨q.1, q.2.1, q.2.2.1, va_X.moved (u := U) (U := U.calling g mk a) (Vm.Alike.refl U.vm) q.2.2.2⟩, fun U hU hW => ⟨rfl, congrArg Array.size hU, Nat.lt_of_lt_of_le hbl hS.1, by rw [hU]; exact va_X.moved hW.alike (hX.kept (hS.2.1 b hbl hbA))⟩⟩ hP hD hS hA rfl hl.1 rfl (Nat.le_of_ble_eq_true rfl) dL_law_6 ⟨Nat.le_of_ble_eq_true rfl, Nat.le_of_ble_eq_true rfl⟩ (fun r H locs hw hP hD hS => ?_)
  subst hw
  refine lv_aload_n hx hb dL_law_9 rfl (lv_at hl 0 rfl) ?_
  refine lv_iconst (v := nI 1) hx hb dL_law_10 (by decide) ?_
  refine sc_s (As := [.ref b, .int (nI 1)]) (rest := [.int (if 0 < L then xs 0 else nI 0), .ref h0, .ref h0]) ⟨hx, hb, hml, hown, hts⟩ (kL_cell l H.size b L xs 1 (by decide) (by omega)) (va_cwS 2 hts gL_law_L_cell rfl rfl rfl (by decide +kernel) ⟨Nat.le_of_ble_eq_true rfl, Nat.le_of_ble_eq_true rfl⟩) ⟨fun a U g mk q => ⟨q.1, q.2.1, q.2.2.1, va_X.moved (u := U) (U := U.calling g mk a) (Vm.Alike.refl U.vm) q.2.2.2⟩, fun U hU hW => ⟨rfl, congrArg Array.size hU, Nat.lt_of_lt_of_le hbl hS.1, by rw [hU]; exact va_X.moved hW.alike (hX.kept (hS.2.1 b hbl hbA))⟩⟩ hP hD hS hA rfl hl.1 rfl (Nat.le_of_ble_eq_true rfl) dL_law_11 ⟨Nat.le_of_ble_eq_true rfl, Nat.le_of_ble_eq_true rfl⟩ (fun r H locs hw hP hD hS => ?_)
  subst hw
  have hF := sj_free (wr := []) (wc := [(h0, .inr (0, [.int (nI 0), .int (nI 0), .null, .null, .null, .null, .null, .int (nI 0), .int (nI 0)]))]) hD hS hA
  refine va_callv (va_runI (As := [.int (if 0 < L then xs 0 else nI 0), .int (if 1 < L then xs 1 else nI 0)]) (rest := [.ref h0]) ⟨hx, hb, hml, hown, hts⟩ (kX0_init l dC dI h0 H.size (if 0 < L then xs 0 else nI 0) (if 1 < L then xs 1 else nI 0)) (cwI 2 hts gL_law_X0_init rfl rfl rfl (hts (.initialized RX0) (by decide +kernel)) (hts (.methodLink RL 15 yX0_init) (by decide +kernel)) (hts (.instanceMethod yX0_init) (by decide +kernel)) rfl (by decide +kernel) ⟨Nat.le_of_ble_eq_true rfl, Nat.le_of_ble_eq_true rfl⟩) ⟨fun a U g mk q => by obtain ⟨q0, q1, qP, qK, qD⟩ := q; exact ⟨q0, q1, qP, va_K.moved (u := U) (U := U.calling g mk a) (Vm.Alike.refl U.vm) qK, qD⟩, fun U hU hW => ⟨rfl, congrArg Array.size hU, by rw [hU]; exact sj_Pc (wr := []) hP, va_K.moved hW.alike hK, (sj_Dc (wr := []) hD).weaken (fun _ _ _ _ => trivial)⟩⟩ rfl rfl hl.1 rfl (lv_room (Nat.le_of_ble_eq_true rfl)) dL_law_14 ⟨Nat.le_of_ble_eq_true rfl, Nat.le_of_ble_eq_true rfl⟩) hS (fun q _ h => hF q h) hF (fun u t H1 locs ht hvm hw hB hz1 hk1 hS => ?_)
  obtain ⟨aT, aS, aP, aR, aL, cA, hP1, hK1, hD1⟩ := hB
  rw [ht] at hP1
  have hK1 := va_K.moved hvm.symm hK1
  obtain ⟨hP, hD⟩ := sj_join (wr := []) hP hD hk1 hF hP1 hD1
  generalize H1 = H at hP hS ⊢
  have hP : va_P (dC, dI) vwCl (sw h0 aT aS aP aR aL cA (1 + sh_fm (if 0 < L then xs 0 else nI 0) 64) (2 + sh_fm (if 1 < L then xs 1 else nI 0) 32767) 0 0 (fun _ => 0) (fun _ => 0) (fun _ => 0) (fun _ => 0) (fun _ => 0)) H := hP
  have hD : va_D (fun q : Nat => s.heap.size ≤ q) (sw h0 aT aS aP aR aL cA (1 + sh_fm (if 0 < L then xs 0 else nI 0) 64) (2 + sh_fm (if 1 < L then xs 1 else nI 0) 32767) 0 0 (fun _ => 0) (fun _ => 0) (fun _ => 0) (fun _ => 0) (fun _ => 0)) := hD
  refine W.widen (k := 6) (n := 329) (by omega) (by omega) ?_
  refine lv_astore_n (lv' := [(1, .ref h0), (0, .ref b)]) hx hb dL_law_17 rfl hl (by decide) rfl (fun ls hl => ?_)
  refine va_new (ci := 1) (fs := [.int (nI 0), .int (nI 0), .null, .null, .null, .null, .int (nI 0), .long (lN 0)]) (C := RX1) (T := TX1) (N := 8) hx hb hts inlX1 tyX1 tyX1_ok hown (hts (.classLink RL 18 RX1) (by decide +kernel)) (hts (.instantiable RX1 8) (by decide +kernel)) (hts (.initialized RX1) (by decide +kernel)) hK1 hP hD hS hA rfl (fun j hj => by rcases (show j = 0 ∨ j = 1 ∨ j = 2 ∨ j = 3 ∨ j = 4 ∨ j = 5 ∨ j = 6 ∨ j = 7 by omega) with rfl | rfl | rfl | rfl | rfl | rfl | rfl | rfl <;> rfl) (Nat.le_of_ble_eq_true rfl) (Nat.le_of_ble_eq_true rfl) dL_law_18 (fun k0 H hP hD hS => ?_)
  refine W.widen (k := 7) (n := 337) (by omega) (by omega) ?_
  refine lv_dup hx hb dL_law_21 rfl ?_
  have hK0 := hK1
  refine lv_aload_n hx hb dL_law_22 rfl (lv_at hl 1 rfl) ?_
  refine lv_iconst (v := nI 0) hx hb dL_law_23 (by decide) ?_
  refine sc_s (As := [.ref b, .int (nI 0)]) (rest := [.ref k0, .ref k0]) ⟨hx, hb, hml, hown, hts⟩ (kL_cell l H.size b L xs 0 (by decide) (by omega)) (va_cwS 2 hts gL_law_L_cell rfl rfl rfl (by decide +kernel) ⟨Nat.le_of_ble_eq_true rfl, Nat.le_of_ble_eq_true rfl⟩) ⟨fun a U g mk q => ⟨q.1, q.2.1, q.2.2.1, va_X.moved (u := U) (U := U.calling g mk a) (Vm.Alike.refl U.vm) q.2.2.2⟩, fun U hU hW => ⟨rfl, congrArg Array.size hU, Nat.lt_of_lt_of_le hbl hS.1, by rw [hU]; exact va_X.moved hW.alike (hX.kept (hS.2.1 b hbl hbA))⟩⟩ hP hD hS hA rfl hl.1 rfl (Nat.le_of_ble_eq_true rfl) dL_law_24 ⟨Nat.le_of_ble_eq_true rfl, Nat.le_of_ble_eq_true rfl⟩ (fun r H locs hw hP hD hS => ?_)
  subst hw
  refine lv_aload_n hx hb dL_law_27 rfl (lv_at hl 1 rfl) ?_
  refine lv_iconst (v := nI 1) hx hb dL_law_28 (by decide) ?_
  refine sc_s (As := [.ref b, .int (nI 1)]) (rest := [.int (if 0 < L then xs 0 else nI 0), .ref k0, .ref k0]) ⟨hx, hb, hml, hown, hts⟩ (kL_cell l H.size b L xs 1 (by decide) (by omega)) (va_cwS 2 hts gL_law_L_cell rfl rfl rfl (by decide +kernel) ⟨Nat.le_of_ble_eq_true rfl, Nat.le_of_ble_eq_true rfl⟩) ⟨fun a U g mk q => ⟨q.1, q.2.1, q.2.2.1, va_X.moved (u := U) (U := U.calling g mk a) (Vm.Alike.refl U.vm) q.2.2.2⟩, fun U hU hW => ⟨rfl, congrArg Array.size hU, Nat.lt_of_lt_of_le hbl hS.1, by rw [hU]; exact va_X.moved hW.alike (hX.kept (hS.2.1 b hbl hbA))⟩⟩ hP hD hS hA rfl hl.1 rfl (Nat.le_of_ble_eq_true rfl) dL_law_29 ⟨Nat.le_of_ble_eq_true rfl, Nat.le_of_ble_eq_true rfl⟩ (fun r H locs hw hP hD hS => ?_)
  subst hw
  have hF := sj_free (wr := (sw h0 aT aS aP aR aL cA (1 + sh_fm (if 0 < L then xs 0 else nI 0) 64) (2 + sh_fm (if 1 < L then xs 1 else nI 0) 32767) 0 0 (fun _ => 0) (fun _ => 0) (fun _ => 0) (fun _ => 0) (fun _ => 0))) (wc := [(k0, .inr (1, [.int (nI 0), .int (nI 0), .null, .null, .null, .null, .int (nI 0), .long (lN 0)]))]) hD hS hA
  refine va_callv (va_runI (As := [.int (if 0 < L then xs 0 else nI 0), .int (if 1 < L then xs 1 else nI 0)]) (rest := [.ref k0]) ⟨hx, hb, hml, hown, hts⟩ (kX1_init l dC dI k0 H.size (if 0 < L then xs 0 else nI 0) (if 1 < L then xs 1 else nI 0)) (cwI 2 hts gL_law_X1_init rfl rfl rfl (hts (.initialized RX1) (by decide +kernel)) (hts (.methodLink RL 20 yX1_init) (by decide +kernel)) (hts (.instanceMethod yX1_init) (by decide +kernel)) rfl (by decide +kernel) ⟨Nat.le_of_ble_eq_true rfl, Nat.le_of_ble_eq_true rfl⟩) ⟨fun a U g mk q => by obtain ⟨q0, q1, qP, qK, qD⟩ := q; exact ⟨q0, q1, qP, va_K.moved (u := U) (U := U.calling g mk a) (Vm.Alike.refl U.vm) qK, qD⟩, fun U hU hW => ⟨rfl, congrArg Array.size hU, by rw [hU]; exact sj_Pc (wr := (sw h0 aT aS aP aR aL cA (1 + sh_fm (if 0 < L then xs 0 else nI 0) 64) (2 + sh_fm (if 1 < L then xs 1 else nI 0) 32767) 0 0 (fun _ => 0) (fun _ => 0) (fun _ => 0) (fun _ => 0) (fun _ => 0))) hP, va_K.moved hW.alike hK, (sj_Dc (wr := (sw h0 aT aS aP aR aL cA (1 + sh_fm (if 0 < L then xs 0 else nI 0) 64) (2 + sh_fm (if 1 < L then xs 1 else nI 0) 32767) 0 0 (fun _ => 0) (fun _ => 0) (fun _ => 0) (fun _ => 0) (fun _ => 0))) hD).weaken (fun _ _ _ _ => trivial)⟩⟩ rfl rfl hl.1 rfl (lv_room (Nat.le_of_ble_eq_true rfl)) dL_law_32 ⟨Nat.le_of_ble_eq_true rfl, Nat.le_of_ble_eq_true rfl⟩) hS (fun q _ h => hF q h) hF (fun u t H1 locs ht hvm hw hB hz1 hk1 hS => ?_)
  obtain ⟨bI, bT, bP, bR, cZ, cA2, cJ, hP1, hK1, hD1⟩ := hB
  rw [ht] at hP1
  have hK1 := va_K.moved hvm.symm hK1
  obtain ⟨hP, hD⟩ := sj_join (wr := (sw h0 aT aS aP aR aL cA (1 + sh_fm (if 0 < L then xs 0 else nI 0) 64) (2 + sh_fm (if 1 < L then xs 1 else nI 0) 32767) 0 0 (fun _ => 0) (fun _ => 0) (fun _ => 0) (fun _ => 0) (fun _ => 0))) hP hD hk1 hF hP1 hD1
  generalize H1 = H at hP hS ⊢
  have hKa := hK0.app hK1
  obtain rfl := K_one hKa 0 2 rfl rfl
  have hK3 : va_K (dC, dI) vwCl (ty3 cA2 cZ cJ) s := hKa.sub [0, 1, 3] rfl
  refine W.widen (k := 11) (n := 593) (by omega) (by omega) ?_
  refine lv_astore_n (lv' := [(2, .ref k0), (1, .ref h0), (0, .ref b)]) hx hb dL_law_35 rfl hl (by decide) rfl (fun ls hl => ?_)
  refine lv_iconst (v := nI 2) hx hb dL_law_36 (by decide) ?_
  refine lv_istore_n (lv' := [(3, .int (nI 2)), (2, .ref k0), (1, .ref h0), (0, .ref b)]) hx hb dL_law_37 rfl hl (by decide) rfl (fun ls hl => ?_)
  have f1 := fm_lt (if 0 < L then xs 0 else nI 0) (d := 64) (by decide)
  have f2 := fm_lt (if 1 < L then xs 1 else nI 0) (d := 32767) (by decide)
  exact lw_loop hL C0 hK3 (L + 1) 2 _ _ _ ⟨by omega, by omega, h0, aT, aS, aP, aR, aL, k0, bI, bT, bP, bR, _, _, _, _, _, _, _, _, _, _, V_new (by omega) (by omega) (by omega) (by omega), M_new (by omega) (by omega) (by omega) (by omega), hP, hD, hS, lv_sub hl [3, 2, 1, 0] rfl⟩
