-- THE CONSTRUCTORS
set_option maxHeartbeats 4000000 in
set_option maxRecDepth 100000 in
/-- StrideHeap(x, y): nobody is in -/
theorem kX0_init (l : Launch) (dC : Nat → ClassId) (dI : Nat → Nat → Nat) (h0 sz : Nat) (x y : Int32) : Met l yX0_init wsX0_init ({ frames := 1, cells := 5, slots := 320, locals := 22 }) (va_Pc [.ref h0, .int x, .int y] (sB dC dI [] sz [(h0, .inr (0, [.int (nI 0), .int (nI 0), .null, .null, .null, .null, .null, .int (nI 0), .int (nI 0)]))])) (va_Qv (fun _ : Unit => True) (fun _ t => ∃ (aT aS aP aR aL : Nat) (cA : ClassId), va_P (dC, dI) vwCl (sw h0 aT aS aP aR aL cA (1 + sh_fm x 64) (2 + sh_fm y 32767) 0 0 (fun _ => 0) (fun _ => 0) (fun _ => 0) (fun _ => 0) (fun _ => 0)) t.heap ∧ va_K (dC, dI) vwCl [(cA, .int)] t ∧ va_D (va_A [(h0, .inr (0, [.int (nI 0), .int (nI 0), .null, .null, .null, .null, .null, .int (nI 0), .int (nI 0)]))] sz) (sw h0 aT aS aP aR aL cA (1 + sh_fm x 64) (2 + sh_fm y 32767) 0 0 (fun _ => 0) (fun _ => 0) (fun _ => 0) (fun _ => 0) (fun _ => 0))) (va_A [(h0, .inr (0, [.int (nI 0), .int (nI 0), .null, .null, .null, .null, .null, .int (nI 0), .int (nI 0)]))] sz)) 5 320 (va_A [(h0, .inr (0, [.int (nI 0), .int (nI 0), .null, .null, .null, .null, .null, .int (nI 0), .int (nI 0)]))] sz) := by
  refine Met.ofW (cc := cX0_init) (maxL := 3) (ret := none) (by decide) rfl ?_
  intro p e s m args below meth c s₁ B hml hv
  obtain ⟨rfl, hsz, hP, hK, hD0⟩ := hv
  have hx := B.exec
  have hb := B.bytes
  have hr := B.returns
  have hts := atoms_spec (ws := wsX0_init) B.pre
  have hown : s.vm.findClass RX0 = some m.cls := findClass_of_methodNamed B.named
  have hlocks := B.notSynchronized
  have hin : meth.name = "<init>" := (name_of_methodNamed B.named B.method).1
  subst hsz
  have hD := hD0.self (sz := s.heap.size)
  generalize hAe : va_A [(h0, .inr (0, [.int (nI 0), .int (nI 0), .null, .null, .null, .null, .null, .int (nI 0), .int (nI 0)]))] s.heap.size = A at hD ⊢
  have hA : ∀ q : Nat, s.heap.size ≤ q → A q := fun q h => by rw [← hAe]; exact Or.inr h
  have hS : va_S A s.heap s.heap [] := va_S.rf
  have hl := lv_entry ([.ref h0, .int x, .int y]) (n := 3) (Nat.le_of_ble_eq_true rfl)
  rw [lg_entry_eq]
  generalize (lg_sl ([.ref h0, .int x, .int y]) ++ List.replicate (3 - (lg_sl ([.ref h0, .int x, .int y])).length) Slot.unset).toArray = ls at hl ⊢
  have hl : lv_has ls 3 [(0, .ref h0), (1, .int x), (2, .int y)] := hl
  have hf64 : 1 + sh_fm x 64 ≤ 64 := by have := fm_lt x (d := 64) (by decide); omega
  refine lv_aload_n hx hb dX0_init_0 rfl (lv_at hl 0 rfl) ?_
  refine W.objInit hx hb hown (hts (.methodLink RX0 1 objectInit) (by decide +kernel)) (hts (.instanceMethod objectInit) (by decide +kernel)) (hts _ (List.mem_cons_of_mem _ (List.mem_append_left _ (List.mem_of_getElem? (i := 2) rfl)))) rfl (by rw [hml]; exact hl.1) rfl dX0_init_1 (Nat.le_of_ble_eq_true rfl) (Nat.le_of_ble_eq_true rfl) ?_
  refine W.eq (g2 := F0 m 4 ls []) rfl ?_
  refine lv_aload_n hx hb dX0_init_4 rfl (lv_at hl 0 rfl) ?_
  refine lv_iconst (v := nI 1) hx hb dX0_init_5 (by decide) ?_
  refine lv_iload_n hx hb dX0_init_6 rfl (lv_at hl 1 rfl) ?_
  refine lv_bipush (v := nI 64) hx hb dX0_init_7 (by decide) ?_
  refine sc_s (As := [.int x, .int (nI 64)]) (rest := [.int (nI 1), .ref h0]) ⟨hx, hb, hml, hown, hts⟩ (kJ9_floorMod l s.heap.size x 64 (by decide) (by decide)) (va_cwS 2 hts gX0_init_J9_floorMod_7cf53 rfl rfl rfl (by decide +kernel) ⟨Nat.le_of_ble_eq_true rfl, Nat.le_of_ble_eq_true rfl⟩) ⟨fun a U g mk q => q, fun U hU hW => ⟨rfl, congrArg Array.size hU⟩⟩ hP hD hS hA rfl hl.1 rfl (Nat.le_of_ble_eq_true rfl) dX0_init_9 ⟨Nat.le_of_ble_eq_true rfl, Nat.le_of_ble_eq_true rfl⟩ (fun r H locs hw hP hD hS => ?_)
  subst hw
  refine sr_iadd hx hb dX0_init_12 ?_
  refine va_putF (D := (dC, dI)) (ci := 0) (v := .int (nI (1 + sh_fm x 64))) (ty := .int) (C := RX0) (T := TX0) (N := 9) hx hb hts wiX0_init tyX0 tyX0_ok nmX0 hown hK hP hD hS 0 rfl rfl 0 (by decide) (hts (.fieldLink RX0 15 "StrideHeap" "cap" "I") (by decide +kernel)) (fun _ h9 => h9) rfl hin rfl (by decide +kernel) rfl rfl (Nat.le_of_ble_eq_true rfl) dX0_init_13 (fun H locs hP hD hS => ?_)
  have hP : va_P (dC, dI) vwCl [(h0, .inr (0, [.int (nI (1 + sh_fm x 64)), .int (nI 0), .null, .null, .null, .null, .null, .int (nI 0), .int (nI 0)]))] H := hP
  have hD : va_D A [(h0, .inr (0, [.int (nI (1 + sh_fm x 64)), .int (nI 0), .null, .null, .null, .null, .null, .int (nI 0), .int (nI 0)]))] := hD
  refine lv_aload_n hx hb dX0_init_16 rfl (lv_at hl 0 rfl) ?_
  refine lv_iconst (v := nI 2) hx hb dX0_init_17 (by decide) ?_
  refine lv_iload_n hx hb dX0_init_18 rfl (lv_at hl 2 rfl) ?_
  refine lv_sipush (v := nI 32767) hx hb dX0_init_19 (by decide) ?_
  refine sc_s (As := [.int y, .int (nI 32767)]) (rest := [.int (nI 2), .ref h0]) ⟨hx, hb, hml, hown, hts⟩ (kJ9_floorMod l H.size y 32767 (by decide) (by decide)) (va_cwS 2 hts gX0_init_J9_floorMod_7cf53 rfl rfl rfl (by decide +kernel) ⟨Nat.le_of_ble_eq_true rfl, Nat.le_of_ble_eq_true rfl⟩) ⟨fun a U g mk q => q, fun U hU hW => ⟨rfl, congrArg Array.size hU⟩⟩ hP hD hS hA rfl hl.1 rfl (Nat.le_of_ble_eq_true rfl) dX0_init_22 ⟨Nat.le_of_ble_eq_true rfl, Nat.le_of_ble_eq_true rfl⟩ (fun r H locs hw hP hD hS => ?_)
  subst hw
  refine sr_iadd hx hb dX0_init_25 ?_
  refine va_putF (D := (dC, dI)) (ci := 0) (v := .int (nI (2 + sh_fm y 32767))) (ty := .int) (C := RX0) (T := TX0) (N := 9) hx hb hts wiX0_init tyX0 tyX0_ok nmX0 hown hK hP hD hS 0 rfl rfl 1 (by decide) (hts (.fieldLink RX0 19 "StrideHeap" "big" "I") (by decide +kernel)) (fun _ h9 => h9) rfl hin rfl (by decide +kernel) rfl rfl (Nat.le_of_ble_eq_true rfl) dX0_init_26 (fun H locs hP hD hS => ?_)
  have hP : va_P (dC, dI) vwCl [(h0, .inr (0, [.int (nI (1 + sh_fm x 64)), .int (nI (2 + sh_fm y 32767)), .null, .null, .null, .null, .null, .int (nI 0), .int (nI 0)]))] H := hP
  have hD : va_D A [(h0, .inr (0, [.int (nI (1 + sh_fm x 64)), .int (nI (2 + sh_fm y 32767)), .null, .null, .null, .null, .null, .int (nI 0), .int (nI 0)]))] := hD
  refine lv_aload_n hx hb dX0_init_29 rfl (lv_at hl 0 rfl) ?_
  refine lv_aload_n hx hb dX0_init_30 rfl (lv_at hl 0 rfl) ?_
  refine va_get (D := (dC, dI)) (ci := 0) (v := .int (nI (1 + sh_fm x 64))) (C := RX0) (T := TX0) (N := 9) hx hb hts wiX0_init hown hK hP 0 rfl rfl 0 (by decide) (hts (.fieldLink RX0 15 "StrideHeap" "cap" "I") (by decide +kernel)) (fun _ h9 => h9) rfl dX0_init_31 ?_
  refine sr_newI hx hb (hts (.arrayClass .int) (by decide +kernel)) hK hP hD hS hA (n := 1 + sh_fm x 64) hf64 (Nat.le_of_ble_eq_true rfl) (Nat.le_trans (Nat.add_le_add_left hf64 _) (Nat.le_of_ble_eq_true rfl)) dX0_init_34 (fun aT caT H hK hP hD hS => ?_)
  refine W.widen (k := 1) (n := 64) (by omega) (by omega) ?_
  have hK : va_K (dC, dI) vwCl [(caT, .int)] s := hK
  have hP : va_P (dC, dI) vwCl [(h0, .inr (0, [.int (nI (1 + sh_fm x 64)), .int (nI (2 + sh_fm y 32767)), .null, .null, .null, .null, .null, .int (nI 0), .int (nI 0)])), (aT, .inl (caT, 1 + sh_fm x 64, .inl (sh_a (fun _ => 0))))] H := hP
  have hD : va_D A [(h0, .inr (0, [.int (nI (1 + sh_fm x 64)), .int (nI (2 + sh_fm y 32767)), .null, .null, .null, .null, .null, .int (nI 0), .int (nI 0)])), (aT, .inl (caT, 1 + sh_fm x 64, .inl (sh_a (fun _ => 0))))] := hD
  refine va_putF (D := (dC, dI)) (ci := 0) (v := .ref aT) (ty := .array .int) (C := RX0) (T := TX0) (N := 9) hx hb hts wiX0_init tyX0 tyX0_ok nmX0 hown hK hP hD hS 0 rfl rfl 2 (by decide) (hts (.fieldLink RX0 22 "StrideHeap" "ticketsOf" "[I") (by decide +kernel)) (fun _ h9 => h9) rfl hin rfl (by decide +kernel) rfl rfl (Nat.le_of_ble_eq_true rfl) dX0_init_36 (fun H locs hP hD hS => ?_)
  have hP : va_P (dC, dI) vwCl [(h0, .inr (0, [.int (nI (1 + sh_fm x 64)), .int (nI (2 + sh_fm y 32767)), .ref aT, .null, .null, .null, .null, .int (nI 0), .int (nI 0)])), (aT, .inl (caT, 1 + sh_fm x 64, .inl (sh_a (fun _ => 0))))] H := hP
  have hD : va_D A [(h0, .inr (0, [.int (nI (1 + sh_fm x 64)), .int (nI (2 + sh_fm y 32767)), .ref aT, .null, .null, .null, .null, .int (nI 0), .int (nI 0)])), (aT, .inl (caT, 1 + sh_fm x 64, .inl (sh_a (fun _ => 0))))] := hD
  refine lv_aload_n hx hb dX0_init_39 rfl (lv_at hl 0 rfl) ?_
  refine lv_aload_n hx hb dX0_init_40 rfl (lv_at hl 0 rfl) ?_
  refine va_get (D := (dC, dI)) (ci := 0) (v := .int (nI (1 + sh_fm x 64))) (C := RX0) (T := TX0) (N := 9) hx hb hts wiX0_init hown hK hP 0 rfl rfl 0 (by decide) (hts (.fieldLink RX0 15 "StrideHeap" "cap" "I") (by decide +kernel)) (fun _ h9 => h9) rfl dX0_init_41 ?_
  refine sr_newI hx hb (hts (.arrayClass .int) (by decide +kernel)) hK hP hD hS hA (n := 1 + sh_fm x 64) hf64 (Nat.le_of_ble_eq_true rfl) (Nat.le_trans (Nat.add_le_add_left hf64 _) (Nat.le_of_ble_eq_true rfl)) dX0_init_44 (fun aS caS H hK hP hD hS => ?_)
  refine W.widen (k := 2) (n := 128) (by omega) (by omega) ?_
  obtain rfl := K_one hK 0 1 rfl rfl
  have hK : va_K (dC, dI) vwCl [(caS, .int)] s := hK.sub [0] rfl
  have hP : va_P (dC, dI) vwCl [(h0, .inr (0, [.int (nI (1 + sh_fm x 64)), .int (nI (2 + sh_fm y 32767)), .ref aT, .null, .null, .null, .null, .int (nI 0), .int (nI 0)])), (aT, .inl (caS, 1 + sh_fm x 64, .inl (sh_a (fun _ => 0)))), (aS, .inl (caS, 1 + sh_fm x 64, .inl (sh_a (fun _ => 0))))] H := hP
  have hD : va_D A [(h0, .inr (0, [.int (nI (1 + sh_fm x 64)), .int (nI (2 + sh_fm y 32767)), .ref aT, .null, .null, .null, .null, .int (nI 0), .int (nI 0)])), (aT, .inl (caS, 1 + sh_fm x 64, .inl (sh_a (fun _ => 0)))), (aS, .inl (caS, 1 + sh_fm x 64, .inl (sh_a (fun _ => 0))))] := hD
  refine va_putF (D := (dC, dI)) (ci := 0) (v := .ref aS) (ty := .array .int) (C := RX0) (T := TX0) (N := 9) hx hb hts wiX0_init tyX0 tyX0_ok nmX0 hown hK hP hD hS 0 rfl rfl 3 (by decide) (hts (.fieldLink RX0 26 "StrideHeap" "strides" "[I") (by decide +kernel)) (fun _ h9 => h9) rfl hin rfl (by decide +kernel) rfl rfl (Nat.le_of_ble_eq_true rfl) dX0_init_46 (fun H locs hP hD hS => ?_)
  have hP : va_P (dC, dI) vwCl [(h0, .inr (0, [.int (nI (1 + sh_fm x 64)), .int (nI (2 + sh_fm y 32767)), .ref aT, .ref aS, .null, .null, .null, .int (nI 0), .int (nI 0)])), (aT, .inl (caS, 1 + sh_fm x 64, .inl (sh_a (fun _ => 0)))), (aS, .inl (caS, 1 + sh_fm x 64, .inl (sh_a (fun _ => 0))))] H := hP
  have hD : va_D A [(h0, .inr (0, [.int (nI (1 + sh_fm x 64)), .int (nI (2 + sh_fm y 32767)), .ref aT, .ref aS, .null, .null, .null, .int (nI 0), .int (nI 0)])), (aT, .inl (caS, 1 + sh_fm x 64, .inl (sh_a (fun _ => 0)))), (aS, .inl (caS, 1 + sh_fm x 64, .inl (sh_a (fun _ => 0))))] := hD
  refine lv_aload_n hx hb dX0_init_49 rfl (lv_at hl 0 rfl) ?_
  refine lv_aload_n hx hb dX0_init_50 rfl (lv_at hl 0 rfl) ?_
  refine va_get (D := (dC, dI)) (ci := 0) (v := .int (nI (1 + sh_fm x 64))) (C := RX0) (T := TX0) (N := 9) hx hb hts wiX0_init hown hK hP 0 rfl rfl 0 (by decide) (hts (.fieldLink RX0 15 "StrideHeap" "cap" "I") (by decide +kernel)) (fun _ h9 => h9) rfl dX0_init_51 ?_
  refine sr_newI hx hb (hts (.arrayClass .int) (by decide +kernel)) hK hP hD hS hA (n := 1 + sh_fm x 64) hf64 (Nat.le_of_ble_eq_true rfl) (Nat.le_trans (Nat.add_le_add_left hf64 _) (Nat.le_of_ble_eq_true rfl)) dX0_init_54 (fun aP caP H hK hP hD hS => ?_)
  refine W.widen (k := 3) (n := 192) (by omega) (by omega) ?_
  obtain rfl := K_one hK 0 1 rfl rfl
  have hK : va_K (dC, dI) vwCl [(caP, .int)] s := hK.sub [0] rfl
  have hP : va_P (dC, dI) vwCl [(h0, .inr (0, [.int (nI (1 + sh_fm x 64)), .int (nI (2 + sh_fm y 32767)), .ref aT, .ref aS, .null, .null, .null, .int (nI 0), .int (nI 0)])), (aT, .inl (caP, 1 + sh_fm x 64, .inl (sh_a (fun _ => 0)))), (aS, .inl (caP, 1 + sh_fm x 64, .inl (sh_a (fun _ => 0)))), (aP, .inl (caP, 1 + sh_fm x 64, .inl (sh_a (fun _ => 0))))] H := hP
  have hD : va_D A [(h0, .inr (0, [.int (nI (1 + sh_fm x 64)), .int (nI (2 + sh_fm y 32767)), .ref aT, .ref aS, .null, .null, .null, .int (nI 0), .int (nI 0)])), (aT, .inl (caP, 1 + sh_fm x 64, .inl (sh_a (fun _ => 0)))), (aS, .inl (caP, 1 + sh_fm x 64, .inl (sh_a (fun _ => 0)))), (aP, .inl (caP, 1 + sh_fm x 64, .inl (sh_a (fun _ => 0))))] := hD
  refine va_putF (D := (dC, dI)) (ci := 0) (v := .ref aP) (ty := .array .int) (C := RX0) (T := TX0) (N := 9) hx hb hts wiX0_init tyX0 tyX0_ok nmX0 hown hK hP hD hS 0 rfl rfl 4 (by decide) (hts (.fieldLink RX0 29 "StrideHeap" "passes" "[I") (by decide +kernel)) (fun _ h9 => h9) rfl hin rfl (by decide +kernel) rfl rfl (Nat.le_of_ble_eq_true rfl) dX0_init_56 (fun H locs hP hD hS => ?_)
  have hP : va_P (dC, dI) vwCl [(h0, .inr (0, [.int (nI (1 + sh_fm x 64)), .int (nI (2 + sh_fm y 32767)), .ref aT, .ref aS, .ref aP, .null, .null, .int (nI 0), .int (nI 0)])), (aT, .inl (caP, 1 + sh_fm x 64, .inl (sh_a (fun _ => 0)))), (aS, .inl (caP, 1 + sh_fm x 64, .inl (sh_a (fun _ => 0)))), (aP, .inl (caP, 1 + sh_fm x 64, .inl (sh_a (fun _ => 0))))] H := hP
  have hD : va_D A [(h0, .inr (0, [.int (nI (1 + sh_fm x 64)), .int (nI (2 + sh_fm y 32767)), .ref aT, .ref aS, .ref aP, .null, .null, .int (nI 0), .int (nI 0)])), (aT, .inl (caP, 1 + sh_fm x 64, .inl (sh_a (fun _ => 0)))), (aS, .inl (caP, 1 + sh_fm x 64, .inl (sh_a (fun _ => 0)))), (aP, .inl (caP, 1 + sh_fm x 64, .inl (sh_a (fun _ => 0))))] := hD
  refine lv_aload_n hx hb dX0_init_59 rfl (lv_at hl 0 rfl) ?_
  refine lv_aload_n hx hb dX0_init_60 rfl (lv_at hl 0 rfl) ?_
  refine va_get (D := (dC, dI)) (ci := 0) (v := .int (nI (1 + sh_fm x 64))) (C := RX0) (T := TX0) (N := 9) hx hb hts wiX0_init hown hK hP 0 rfl rfl 0 (by decide) (hts (.fieldLink RX0 15 "StrideHeap" "cap" "I") (by decide +kernel)) (fun _ h9 => h9) rfl dX0_init_61 ?_
  refine sr_newI hx hb (hts (.arrayClass .int) (by decide +kernel)) hK hP hD hS hA (n := 1 + sh_fm x 64) hf64 (Nat.le_of_ble_eq_true rfl) (Nat.le_trans (Nat.add_le_add_left hf64 _) (Nat.le_of_ble_eq_true rfl)) dX0_init_64 (fun aR caR H hK hP hD hS => ?_)
  refine W.widen (k := 4) (n := 256) (by omega) (by omega) ?_
  obtain rfl := K_one hK 0 1 rfl rfl
  have hK : va_K (dC, dI) vwCl [(caR, .int)] s := hK.sub [0] rfl
  have hP : va_P (dC, dI) vwCl [(h0, .inr (0, [.int (nI (1 + sh_fm x 64)), .int (nI (2 + sh_fm y 32767)), .ref aT, .ref aS, .ref aP, .null, .null, .int (nI 0), .int (nI 0)])), (aT, .inl (caR, 1 + sh_fm x 64, .inl (sh_a (fun _ => 0)))), (aS, .inl (caR, 1 + sh_fm x 64, .inl (sh_a (fun _ => 0)))), (aP, .inl (caR, 1 + sh_fm x 64, .inl (sh_a (fun _ => 0)))), (aR, .inl (caR, 1 + sh_fm x 64, .inl (sh_a (fun _ => 0))))] H := hP
  have hD : va_D A [(h0, .inr (0, [.int (nI (1 + sh_fm x 64)), .int (nI (2 + sh_fm y 32767)), .ref aT, .ref aS, .ref aP, .null, .null, .int (nI 0), .int (nI 0)])), (aT, .inl (caR, 1 + sh_fm x 64, .inl (sh_a (fun _ => 0)))), (aS, .inl (caR, 1 + sh_fm x 64, .inl (sh_a (fun _ => 0)))), (aP, .inl (caR, 1 + sh_fm x 64, .inl (sh_a (fun _ => 0)))), (aR, .inl (caR, 1 + sh_fm x 64, .inl (sh_a (fun _ => 0))))] := hD
  refine va_putF (D := (dC, dI)) (ci := 0) (v := .ref aR) (ty := .array .int) (C := RX0) (T := TX0) (N := 9) hx hb hts wiX0_init tyX0 tyX0_ok nmX0 hown hK hP hD hS 0 rfl rfl 5 (by decide) (hts (.fieldLink RX0 32 "StrideHeap" "ran" "[I") (by decide +kernel)) (fun _ h9 => h9) rfl hin rfl (by decide +kernel) rfl rfl (Nat.le_of_ble_eq_true rfl) dX0_init_66 (fun H locs hP hD hS => ?_)
  have hP : va_P (dC, dI) vwCl [(h0, .inr (0, [.int (nI (1 + sh_fm x 64)), .int (nI (2 + sh_fm y 32767)), .ref aT, .ref aS, .ref aP, .ref aR, .null, .int (nI 0), .int (nI 0)])), (aT, .inl (caR, 1 + sh_fm x 64, .inl (sh_a (fun _ => 0)))), (aS, .inl (caR, 1 + sh_fm x 64, .inl (sh_a (fun _ => 0)))), (aP, .inl (caR, 1 + sh_fm x 64, .inl (sh_a (fun _ => 0)))), (aR, .inl (caR, 1 + sh_fm x 64, .inl (sh_a (fun _ => 0))))] H := hP
  have hD : va_D A [(h0, .inr (0, [.int (nI (1 + sh_fm x 64)), .int (nI (2 + sh_fm y 32767)), .ref aT, .ref aS, .ref aP, .ref aR, .null, .int (nI 0), .int (nI 0)])), (aT, .inl (caR, 1 + sh_fm x 64, .inl (sh_a (fun _ => 0)))), (aS, .inl (caR, 1 + sh_fm x 64, .inl (sh_a (fun _ => 0)))), (aP, .inl (caR, 1 + sh_fm x 64, .inl (sh_a (fun _ => 0)))), (aR, .inl (caR, 1 + sh_fm x 64, .inl (sh_a (fun _ => 0))))] := hD
  refine lv_aload_n hx hb dX0_init_69 rfl (lv_at hl 0 rfl) ?_
  refine lv_aload_n hx hb dX0_init_70 rfl (lv_at hl 0 rfl) ?_
  refine va_get (D := (dC, dI)) (ci := 0) (v := .int (nI (1 + sh_fm x 64))) (C := RX0) (T := TX0) (N := 9) hx hb hts wiX0_init hown hK hP 0 rfl rfl 0 (by decide) (hts (.fieldLink RX0 15 "StrideHeap" "cap" "I") (by decide +kernel)) (fun _ h9 => h9) rfl dX0_init_71 ?_
  refine sr_newI hx hb (hts (.arrayClass .int) (by decide +kernel)) hK hP hD hS hA (n := 1 + sh_fm x 64) hf64 (Nat.le_of_ble_eq_true rfl) (Nat.le_trans (Nat.add_le_add_left hf64 _) (Nat.le_of_ble_eq_true rfl)) dX0_init_74 (fun aL caL H hK hP hD hS => ?_)
  refine W.widen (k := 5) (n := 320) (by omega) (by omega) ?_
  obtain rfl := K_one hK 0 1 rfl rfl
  have hK : va_K (dC, dI) vwCl [(caL, .int)] s := hK.sub [0] rfl
  have hP : va_P (dC, dI) vwCl [(h0, .inr (0, [.int (nI (1 + sh_fm x 64)), .int (nI (2 + sh_fm y 32767)), .ref aT, .ref aS, .ref aP, .ref aR, .null, .int (nI 0), .int (nI 0)])), (aT, .inl (caL, 1 + sh_fm x 64, .inl (sh_a (fun _ => 0)))), (aS, .inl (caL, 1 + sh_fm x 64, .inl (sh_a (fun _ => 0)))), (aP, .inl (caL, 1 + sh_fm x 64, .inl (sh_a (fun _ => 0)))), (aR, .inl (caL, 1 + sh_fm x 64, .inl (sh_a (fun _ => 0)))), (aL, .inl (caL, 1 + sh_fm x 64, .inl (sh_a (fun _ => 0))))] H := hP
  have hD : va_D A [(h0, .inr (0, [.int (nI (1 + sh_fm x 64)), .int (nI (2 + sh_fm y 32767)), .ref aT, .ref aS, .ref aP, .ref aR, .null, .int (nI 0), .int (nI 0)])), (aT, .inl (caL, 1 + sh_fm x 64, .inl (sh_a (fun _ => 0)))), (aS, .inl (caL, 1 + sh_fm x 64, .inl (sh_a (fun _ => 0)))), (aP, .inl (caL, 1 + sh_fm x 64, .inl (sh_a (fun _ => 0)))), (aR, .inl (caL, 1 + sh_fm x 64, .inl (sh_a (fun _ => 0)))), (aL, .inl (caL, 1 + sh_fm x 64, .inl (sh_a (fun _ => 0))))] := hD
  refine va_putF (D := (dC, dI)) (ci := 0) (v := .ref aL) (ty := .array .int) (C := RX0) (T := TX0) (N := 9) hx hb hts wiX0_init tyX0 tyX0_ok nmX0 hown hK hP hD hS 0 rfl rfl 6 (by decide) (hts (.fieldLink RX0 35 "StrideHeap" "line" "[I") (by decide +kernel)) (fun _ h9 => h9) rfl hin rfl (by decide +kernel) rfl rfl (Nat.le_of_ble_eq_true rfl) dX0_init_76 (fun H locs hP hD hS => ?_)
  have hP : va_P (dC, dI) vwCl [(h0, .inr (0, [.int (nI (1 + sh_fm x 64)), .int (nI (2 + sh_fm y 32767)), .ref aT, .ref aS, .ref aP, .ref aR, .ref aL, .int (nI 0), .int (nI 0)])), (aT, .inl (caL, 1 + sh_fm x 64, .inl (sh_a (fun _ => 0)))), (aS, .inl (caL, 1 + sh_fm x 64, .inl (sh_a (fun _ => 0)))), (aP, .inl (caL, 1 + sh_fm x 64, .inl (sh_a (fun _ => 0)))), (aR, .inl (caL, 1 + sh_fm x 64, .inl (sh_a (fun _ => 0)))), (aL, .inl (caL, 1 + sh_fm x 64, .inl (sh_a (fun _ => 0))))] H := hP
  have hD : va_D A [(h0, .inr (0, [.int (nI (1 + sh_fm x 64)), .int (nI (2 + sh_fm y 32767)), .ref aT, .ref aS, .ref aP, .ref aR, .ref aL, .int (nI 0), .int (nI 0)])), (aT, .inl (caL, 1 + sh_fm x 64, .inl (sh_a (fun _ => 0)))), (aS, .inl (caL, 1 + sh_fm x 64, .inl (sh_a (fun _ => 0)))), (aP, .inl (caL, 1 + sh_fm x 64, .inl (sh_a (fun _ => 0)))), (aR, .inl (caL, 1 + sh_fm x 64, .inl (sh_a (fun _ => 0)))), (aL, .inl (caL, 1 + sh_fm x 64, .inl (sh_a (fun _ => 0))))] := hD
  refine lv_aload_n hx hb dX0_init_79 rfl (lv_at hl 0 rfl) ?_
  refine lv_iconst (v := nI 0) hx hb dX0_init_80 (by decide) ?_
  refine va_put (D := (dC, dI)) (ci := 0) (v := .int (nI 0)) (ty := .int) (C := RX0) (T := TX0) (N := 9) hx hb hts wiX0_init tyX0 tyX0_ok nmX0 hown hK hP hD hS 0 rfl rfl 7 (by decide) (hts (.fieldLink RX0 38 "StrideHeap" "inLine" "I") (by decide +kernel)) (fun _ h9 => h9) rfl (by decide +kernel) rfl rfl (Nat.le_of_ble_eq_true rfl) dX0_init_81 (fun H locs hP hD hS => ?_)
  have hP : va_P (dC, dI) vwCl [(h0, .inr (0, [.int (nI (1 + sh_fm x 64)), .int (nI (2 + sh_fm y 32767)), .ref aT, .ref aS, .ref aP, .ref aR, .ref aL, .int (nI 0), .int (nI 0)])), (aT, .inl (caL, 1 + sh_fm x 64, .inl (sh_a (fun _ => 0)))), (aS, .inl (caL, 1 + sh_fm x 64, .inl (sh_a (fun _ => 0)))), (aP, .inl (caL, 1 + sh_fm x 64, .inl (sh_a (fun _ => 0)))), (aR, .inl (caL, 1 + sh_fm x 64, .inl (sh_a (fun _ => 0)))), (aL, .inl (caL, 1 + sh_fm x 64, .inl (sh_a (fun _ => 0))))] H := hP
  have hD : va_D A [(h0, .inr (0, [.int (nI (1 + sh_fm x 64)), .int (nI (2 + sh_fm y 32767)), .ref aT, .ref aS, .ref aP, .ref aR, .ref aL, .int (nI 0), .int (nI 0)])), (aT, .inl (caL, 1 + sh_fm x 64, .inl (sh_a (fun _ => 0)))), (aS, .inl (caL, 1 + sh_fm x 64, .inl (sh_a (fun _ => 0)))), (aP, .inl (caL, 1 + sh_fm x 64, .inl (sh_a (fun _ => 0)))), (aR, .inl (caL, 1 + sh_fm x 64, .inl (sh_a (fun _ => 0)))), (aL, .inl (caL, 1 + sh_fm x 64, .inl (sh_a (fun _ => 0))))] := hD
  refine lv_aload_n hx hb dX0_init_84 rfl (lv_at hl 0 rfl) ?_
  refine lv_iconst (v := nI 0) hx hb dX0_init_85 (by decide) ?_
  refine va_put (D := (dC, dI)) (ci := 0) (v := .int (nI 0)) (ty := .int) (C := RX0) (T := TX0) (N := 9) hx hb hts wiX0_init tyX0 tyX0_ok nmX0 hown hK hP hD hS 0 rfl rfl 8 (by decide) (hts (.fieldLink RX0 41 "StrideHeap" "latestLeftPass" "I") (by decide +kernel)) (fun _ h9 => h9) rfl (by decide +kernel) rfl rfl (Nat.le_of_ble_eq_true rfl) dX0_init_86 (fun H locs hP hD hS => ?_)
  have hP : va_P (dC, dI) vwCl [(h0, .inr (0, [.int (nI (1 + sh_fm x 64)), .int (nI (2 + sh_fm y 32767)), .ref aT, .ref aS, .ref aP, .ref aR, .ref aL, .int (nI 0), .int (nI 0)])), (aT, .inl (caL, 1 + sh_fm x 64, .inl (sh_a (fun _ => 0)))), (aS, .inl (caL, 1 + sh_fm x 64, .inl (sh_a (fun _ => 0)))), (aP, .inl (caL, 1 + sh_fm x 64, .inl (sh_a (fun _ => 0)))), (aR, .inl (caL, 1 + sh_fm x 64, .inl (sh_a (fun _ => 0)))), (aL, .inl (caL, 1 + sh_fm x 64, .inl (sh_a (fun _ => 0))))] H := hP
  have hD : va_D A [(h0, .inr (0, [.int (nI (1 + sh_fm x 64)), .int (nI (2 + sh_fm y 32767)), .ref aT, .ref aS, .ref aP, .ref aR, .ref aL, .int (nI 0), .int (nI 0)])), (aT, .inl (caL, 1 + sh_fm x 64, .inl (sh_a (fun _ => 0)))), (aS, .inl (caL, 1 + sh_fm x 64, .inl (sh_a (fun _ => 0)))), (aP, .inl (caL, 1 + sh_fm x 64, .inl (sh_a (fun _ => 0)))), (aR, .inl (caL, 1 + sh_fm x 64, .inl (sh_a (fun _ => 0)))), (aL, .inl (caL, 1 + sh_fm x 64, .inl (sh_a (fun _ => 0))))] := hD
  exact W.vret hx hb hr (fun t ht hW => ⟨⟨(), rfl, trivial, aT, aS, aP, aR, aL, caL, by rw [ht]; exact hP, va_K.moved hW.alike hK, hD⟩, hS.F ht⟩) hS.2.2 dX0_init_89
set_option maxHeartbeats 4000000 in
set_option maxRecDepth 100000 in
/-- StrideHeapModel(x, y): nobody is in -/
theorem kX1_init (l : Launch) (dC : Nat → ClassId) (dI : Nat → Nat → Nat) (k0 sz : Nat) (x y : Int32) : Met l yX1_init wsX1_init ({ frames := 1, cells := 4, slots := 256, locals := 22 }) (va_Pc [.ref k0, .int x, .int y] (sB dC dI [] sz [(k0, .inr (1, [.int (nI 0), .int (nI 0), .null, .null, .null, .null, .int (nI 0), .long (lN 0)]))])) (va_Qv (fun _ : Unit => True) (fun _ t => ∃ (bI bT bP bR : Nat) (cZ cA cJ : ClassId), va_P (dC, dI) vwCl (mw k0 bI bT bP bR cA cZ cJ (1 + sh_fm x 64) (2 + sh_fm y 32767) 0 0 (fun _ => 0) (fun _ => 0) (fun _ => 0) (fun _ => 0)) t.heap ∧ va_K (dC, dI) vwCl [(cZ, .boolean), (cA, .int), (cJ, .long)] t ∧ va_D (va_A [(k0, .inr (1, [.int (nI 0), .int (nI 0), .null, .null, .null, .null, .int (nI 0), .long (lN 0)]))] sz) (mw k0 bI bT bP bR cA cZ cJ (1 + sh_fm x 64) (2 + sh_fm y 32767) 0 0 (fun _ => 0) (fun _ => 0) (fun _ => 0) (fun _ => 0))) (va_A [(k0, .inr (1, [.int (nI 0), .int (nI 0), .null, .null, .null, .null, .int (nI 0), .long (lN 0)]))] sz)) 4 256 (va_A [(k0, .inr (1, [.int (nI 0), .int (nI 0), .null, .null, .null, .null, .int (nI 0), .long (lN 0)]))] sz) := by
  refine Met.ofW (cc := cX1_init) (maxL := 4) (ret := none) (by decide) rfl ?_
  intro p e s m args below meth c s₁ B hml hv
  obtain ⟨rfl, hsz, hP, hK, hD0⟩ := hv
  have hx := B.exec
  have hb := B.bytes
  have hr := B.returns
  have hts := atoms_spec (ws := wsX1_init) B.pre
  have hown : s.vm.findClass RX1 = some m.cls := findClass_of_methodNamed B.named
  have hlocks := B.notSynchronized
  have hin : meth.name = "<init>" := (name_of_methodNamed B.named B.method).1
  subst hsz
  have hD := hD0.self (sz := s.heap.size)
  generalize hAe : va_A [(k0, .inr (1, [.int (nI 0), .int (nI 0), .null, .null, .null, .null, .int (nI 0), .long (lN 0)]))] s.heap.size = A at hD ⊢
  have hA : ∀ q : Nat, s.heap.size ≤ q → A q := fun q h => by rw [← hAe]; exact Or.inr h
  have hS : va_S A s.heap s.heap [] := va_S.rf
  have hl := lv_entry ([.ref k0, .int x, .int y]) (n := 4) (Nat.le_of_ble_eq_true rfl)
  rw [lg_entry_eq]
  generalize (lg_sl ([.ref k0, .int x, .int y]) ++ List.replicate (4 - (lg_sl ([.ref k0, .int x, .int y])).length) Slot.unset).toArray = ls at hl ⊢
  have hl : lv_has ls 4 [(0, .ref k0), (1, .int x), (2, .int y)] := hl
  have hf64 : 1 + sh_fm x 64 ≤ 64 := by have := fm_lt x (d := 64) (by decide); omega
  refine lv_aload_n hx hb dX1_init_0 rfl (lv_at hl 0 rfl) ?_
  refine W.objInit hx hb hown (hts (.methodLink RX1 1 objectInit) (by decide +kernel)) (hts (.instanceMethod objectInit) (by decide +kernel)) (hts _ (List.mem_cons_of_mem _ (List.mem_append_left _ (List.mem_of_getElem? (i := 2) rfl)))) rfl (by rw [hml]; exact hl.1) rfl dX1_init_1 (Nat.le_of_ble_eq_true rfl) (Nat.le_of_ble_eq_true rfl) ?_
  refine W.eq (g2 := F0 m 4 ls []) rfl ?_
  refine lv_aload_n hx hb dX1_init_4 rfl (lv_at hl 0 rfl) ?_
  refine lv_bipush (v := nI 64) hx hb dX1_init_5 (by decide) ?_
  refine sr_newZ hx hb (hts (.arrayClass .boolean) (by decide +kernel)) hK hP hD hS hA (n := 64) (by decide) (Nat.le_of_ble_eq_true rfl) (Nat.le_trans (Nat.add_le_add_left (Nat.le_refl 64) _) (Nat.le_of_ble_eq_true rfl)) dX1_init_7 (fun bI cbI H hK hP hD hS => ?_)
  refine W.widen (k := 1) (n := 64) (by omega) (by omega) ?_
  have hK : va_K (dC, dI) vwCl [(cbI, .boolean)] s := hK
  have hP : va_P (dC, dI) vwCl [(k0, .inr (1, [.int (nI 0), .int (nI 0), .null, .null, .null, .null, .int (nI 0), .long (lN 0)])), (bI, .inl (cbI, 64, .inl (sh_a (sh_in (fun _ => 0)))))] H := hP
  have hD : va_D A [(k0, .inr (1, [.int (nI 0), .int (nI 0), .null, .null, .null, .null, .int (nI 0), .long (lN 0)])), (bI, .inl (cbI, 64, .inl (sh_a (sh_in (fun _ => 0)))))] := hD
  refine va_putF (D := (dC, dI)) (ci := 1) (v := .ref bI) (ty := .array .boolean) (C := RX1) (T := TX1) (N := 8) hx hb hts wiX1_init tyX1 tyX1_ok nmX1 hown hK hP hD hS 0 rfl rfl 2 (by decide) (hts (.fieldLink RX1 7 "StrideHeapModel" "in" "[Z") (by decide +kernel)) (fun _ h9 => h9) rfl hin rfl (by decide +kernel) rfl rfl (Nat.le_of_ble_eq_true rfl) dX1_init_9 (fun H locs hP hD hS => ?_)
  have hP : va_P (dC, dI) vwCl [(k0, .inr (1, [.int (nI 0), .int (nI 0), .ref bI, .null, .null, .null, .int (nI 0), .long (lN 0)])), (bI, .inl (cbI, 64, .inl (sh_a (sh_in (fun _ => 0)))))] H := hP
  have hD : va_D A [(k0, .inr (1, [.int (nI 0), .int (nI 0), .ref bI, .null, .null, .null, .int (nI 0), .long (lN 0)])), (bI, .inl (cbI, 64, .inl (sh_a (sh_in (fun _ => 0)))))] := hD
  refine lv_aload_n hx hb dX1_init_12 rfl (lv_at hl 0 rfl) ?_
  refine lv_bipush (v := nI 64) hx hb dX1_init_13 (by decide) ?_
  refine sr_newI hx hb (hts (.arrayClass .int) (by decide +kernel)) hK hP hD hS hA (n := 64) (by decide) (Nat.le_of_ble_eq_true rfl) (Nat.le_trans (Nat.add_le_add_left (Nat.le_refl 64) _) (Nat.le_of_ble_eq_true rfl)) dX1_init_15 (fun bT cbT H hK hP hD hS => ?_)
  refine W.widen (k := 2) (n := 128) (by omega) (by omega) ?_
  have hK : va_K (dC, dI) vwCl [(cbI, .boolean), (cbT, .int)] s := hK
  have hP : va_P (dC, dI) vwCl [(k0, .inr (1, [.int (nI 0), .int (nI 0), .ref bI, .null, .null, .null, .int (nI 0), .long (lN 0)])), (bI, .inl (cbI, 64, .inl (sh_a (sh_in (fun _ => 0))))), (bT, .inl (cbT, 64, .inl (sh_a (fun _ => 0))))] H := hP
  have hD : va_D A [(k0, .inr (1, [.int (nI 0), .int (nI 0), .ref bI, .null, .null, .null, .int (nI 0), .long (lN 0)])), (bI, .inl (cbI, 64, .inl (sh_a (sh_in (fun _ => 0))))), (bT, .inl (cbT, 64, .inl (sh_a (fun _ => 0))))] := hD
  refine va_putF (D := (dC, dI)) (ci := 1) (v := .ref bT) (ty := .array .int) (C := RX1) (T := TX1) (N := 8) hx hb hts wiX1_init tyX1 tyX1_ok nmX1 hown hK hP hD hS 0 rfl rfl 3 (by decide) (hts (.fieldLink RX1 13 "StrideHeapModel" "tickets" "[I") (by decide +kernel)) (fun _ h9 => h9) rfl hin rfl (by decide +kernel) rfl rfl (Nat.le_of_ble_eq_true rfl) dX1_init_17 (fun H locs hP hD hS => ?_)
  have hP : va_P (dC, dI) vwCl [(k0, .inr (1, [.int (nI 0), .int (nI 0), .ref bI, .ref bT, .null, .null, .int (nI 0), .long (lN 0)])), (bI, .inl (cbI, 64, .inl (sh_a (sh_in (fun _ => 0))))), (bT, .inl (cbT, 64, .inl (sh_a (fun _ => 0))))] H := hP
  have hD : va_D A [(k0, .inr (1, [.int (nI 0), .int (nI 0), .ref bI, .ref bT, .null, .null, .int (nI 0), .long (lN 0)])), (bI, .inl (cbI, 64, .inl (sh_a (sh_in (fun _ => 0))))), (bT, .inl (cbT, 64, .inl (sh_a (fun _ => 0))))] := hD
  refine lv_aload_n hx hb dX1_init_20 rfl (lv_at hl 0 rfl) ?_
  refine lv_bipush (v := nI 64) hx hb dX1_init_21 (by decide) ?_
  refine sr_newJ hx hb (hts (.arrayClass .long) (by decide +kernel)) hK hP hD hS hA (n := 64) (by decide) (Nat.le_of_ble_eq_true rfl) (Nat.le_trans (Nat.add_le_add_left (Nat.le_refl 64) _) (Nat.le_of_ble_eq_true rfl)) dX1_init_23 (fun bP cbP H hK hP hD hS => ?_)
  refine W.widen (k := 3) (n := 192) (by omega) (by omega) ?_
  have hK : va_K (dC, dI) vwCl [(cbI, .boolean), (cbT, .int), (cbP, .long)] s := hK
  have hP : va_P (dC, dI) vwCl [(k0, .inr (1, [.int (nI 0), .int (nI 0), .ref bI, .ref bT, .null, .null, .int (nI 0), .long (lN 0)])), (bI, .inl (cbI, 64, .inl (sh_a (sh_in (fun _ => 0))))), (bT, .inl (cbT, 64, .inl (sh_a (fun _ => 0)))), (bP, .inl (cbP, 64, .inr (.inl (sl_a (fun _ => 0)))))] H := hP
  have hD : va_D A [(k0, .inr (1, [.int (nI 0), .int (nI 0), .ref bI, .ref bT, .null, .null, .int (nI 0), .long (lN 0)])), (bI, .inl (cbI, 64, .inl (sh_a (sh_in (fun _ => 0))))), (bT, .inl (cbT, 64, .inl (sh_a (fun _ => 0)))), (bP, .inl (cbP, 64, .inr (.inl (sl_a (fun _ => 0)))))] := hD
  refine va_putF (D := (dC, dI)) (ci := 1) (v := .ref bP) (ty := .array .long) (C := RX1) (T := TX1) (N := 8) hx hb hts wiX1_init tyX1 tyX1_ok nmX1 hown hK hP hD hS 0 rfl rfl 4 (by decide) (hts (.fieldLink RX1 17 "StrideHeapModel" "pass" "[J") (by decide +kernel)) (fun _ h9 => h9) rfl hin rfl (by decide +kernel) rfl rfl (Nat.le_of_ble_eq_true rfl) dX1_init_25 (fun H locs hP hD hS => ?_)
  have hP : va_P (dC, dI) vwCl [(k0, .inr (1, [.int (nI 0), .int (nI 0), .ref bI, .ref bT, .ref bP, .null, .int (nI 0), .long (lN 0)])), (bI, .inl (cbI, 64, .inl (sh_a (sh_in (fun _ => 0))))), (bT, .inl (cbT, 64, .inl (sh_a (fun _ => 0)))), (bP, .inl (cbP, 64, .inr (.inl (sl_a (fun _ => 0)))))] H := hP
  have hD : va_D A [(k0, .inr (1, [.int (nI 0), .int (nI 0), .ref bI, .ref bT, .ref bP, .null, .int (nI 0), .long (lN 0)])), (bI, .inl (cbI, 64, .inl (sh_a (sh_in (fun _ => 0))))), (bT, .inl (cbT, 64, .inl (sh_a (fun _ => 0)))), (bP, .inl (cbP, 64, .inr (.inl (sl_a (fun _ => 0)))))] := hD
  refine lv_aload_n hx hb dX1_init_28 rfl (lv_at hl 0 rfl) ?_
  refine lv_bipush (v := nI 64) hx hb dX1_init_29 (by decide) ?_
  refine sr_newI hx hb (hts (.arrayClass .int) (by decide +kernel)) hK hP hD hS hA (n := 64) (by decide) (Nat.le_of_ble_eq_true rfl) (Nat.le_trans (Nat.add_le_add_left (Nat.le_refl 64) _) (Nat.le_of_ble_eq_true rfl)) dX1_init_31 (fun bR cbR H hK hP hD hS => ?_)
  refine W.widen (k := 4) (n := 256) (by omega) (by omega) ?_
  obtain rfl := K_one hK 1 3 rfl rfl
  have hK : va_K (dC, dI) vwCl [(cbI, .boolean), (cbR, .int), (cbP, .long)] s := hK.sub [0, 1, 2] rfl
  have hP : va_P (dC, dI) vwCl [(k0, .inr (1, [.int (nI 0), .int (nI 0), .ref bI, .ref bT, .ref bP, .null, .int (nI 0), .long (lN 0)])), (bI, .inl (cbI, 64, .inl (sh_a (sh_in (fun _ => 0))))), (bT, .inl (cbR, 64, .inl (sh_a (fun _ => 0)))), (bP, .inl (cbP, 64, .inr (.inl (sl_a (fun _ => 0))))), (bR, .inl (cbR, 64, .inl (sh_a (fun _ => 0))))] H := hP
  have hD : va_D A [(k0, .inr (1, [.int (nI 0), .int (nI 0), .ref bI, .ref bT, .ref bP, .null, .int (nI 0), .long (lN 0)])), (bI, .inl (cbI, 64, .inl (sh_a (sh_in (fun _ => 0))))), (bT, .inl (cbR, 64, .inl (sh_a (fun _ => 0)))), (bP, .inl (cbP, 64, .inr (.inl (sl_a (fun _ => 0))))), (bR, .inl (cbR, 64, .inl (sh_a (fun _ => 0))))] := hD
  refine va_putF (D := (dC, dI)) (ci := 1) (v := .ref bR) (ty := .array .int) (C := RX1) (T := TX1) (N := 8) hx hb hts wiX1_init tyX1 tyX1_ok nmX1 hown hK hP hD hS 0 rfl rfl 5 (by decide) (hts (.fieldLink RX1 21 "StrideHeapModel" "ran" "[I") (by decide +kernel)) (fun _ h9 => h9) rfl hin rfl (by decide +kernel) rfl rfl (Nat.le_of_ble_eq_true rfl) dX1_init_33 (fun H locs hP hD hS => ?_)
  have hP : va_P (dC, dI) vwCl [(k0, .inr (1, [.int (nI 0), .int (nI 0), .ref bI, .ref bT, .ref bP, .ref bR, .int (nI 0), .long (lN 0)])), (bI, .inl (cbI, 64, .inl (sh_a (sh_in (fun _ => 0))))), (bT, .inl (cbR, 64, .inl (sh_a (fun _ => 0)))), (bP, .inl (cbP, 64, .inr (.inl (sl_a (fun _ => 0))))), (bR, .inl (cbR, 64, .inl (sh_a (fun _ => 0))))] H := hP
  have hD : va_D A [(k0, .inr (1, [.int (nI 0), .int (nI 0), .ref bI, .ref bT, .ref bP, .ref bR, .int (nI 0), .long (lN 0)])), (bI, .inl (cbI, 64, .inl (sh_a (sh_in (fun _ => 0))))), (bT, .inl (cbR, 64, .inl (sh_a (fun _ => 0)))), (bP, .inl (cbP, 64, .inr (.inl (sl_a (fun _ => 0))))), (bR, .inl (cbR, 64, .inl (sh_a (fun _ => 0))))] := hD
  refine lv_aload_n hx hb dX1_init_36 rfl (lv_at hl 0 rfl) ?_
  refine lv_iload_n hx hb dX1_init_37 rfl (lv_at hl 1 rfl) ?_
  refine lv_bipush (v := nI 63) hx hb dX1_init_38 (by decide) ?_
  refine lv_iand hx hb dX1_init_40 ?_
  rw [fm_and]
  refine lv_iconst (v := nI 1) hx hb dX1_init_41 (by decide) ?_
  refine sr_iadd hx hb dX1_init_42 ?_
  rw [Nat.add_comm (sh_fm x 64) 1]
  refine va_putF (D := (dC, dI)) (ci := 1) (v := .int (nI (1 + sh_fm x 64))) (ty := .int) (C := RX1) (T := TX1) (N := 8) hx hb hts wiX1_init tyX1 tyX1_ok nmX1 hown hK hP hD hS 0 rfl rfl 0 (by decide) (hts (.fieldLink RX1 24 "StrideHeapModel" "cap" "I") (by decide +kernel)) (fun _ h9 => h9) rfl hin rfl (by decide +kernel) rfl rfl (Nat.le_of_ble_eq_true rfl) dX1_init_43 (fun H locs hP hD hS => ?_)
  have hP : va_P (dC, dI) vwCl [(k0, .inr (1, [.int (nI (1 + sh_fm x 64)), .int (nI 0), .ref bI, .ref bT, .ref bP, .ref bR, .int (nI 0), .long (lN 0)])), (bI, .inl (cbI, 64, .inl (sh_a (sh_in (fun _ => 0))))), (bT, .inl (cbR, 64, .inl (sh_a (fun _ => 0)))), (bP, .inl (cbP, 64, .inr (.inl (sl_a (fun _ => 0))))), (bR, .inl (cbR, 64, .inl (sh_a (fun _ => 0))))] H := hP
  have hD : va_D A [(k0, .inr (1, [.int (nI (1 + sh_fm x 64)), .int (nI 0), .ref bI, .ref bT, .ref bP, .ref bR, .int (nI 0), .long (lN 0)])), (bI, .inl (cbI, 64, .inl (sh_a (sh_in (fun _ => 0))))), (bT, .inl (cbR, 64, .inl (sh_a (fun _ => 0)))), (bP, .inl (cbP, 64, .inr (.inl (sl_a (fun _ => 0))))), (bR, .inl (cbR, 64, .inl (sh_a (fun _ => 0))))] := hD
  obtain ⟨f1, f2, f3, f4⟩ := fm_facts y (d := 32767) (by decide) (by decide)
  refine lv_iload_n hx hb dX1_init_46 rfl (lv_at hl 2 rfl) ?_
  refine lv_sipush (v := nI 32767) hx hb dX1_init_47 (by decide) ?_
  refine lv_irem hx hb dX1_init_50 (by decide) ?_
  refine lv_topi (fun q eq => ?_)
  rw [← eq] at f1 f2 f3 f4
  refine lv_istore_n (lv' := [(3, .int q), (0, .ref k0), (1, .int x), (2, .int y)]) hx hb dX1_init_51 rfl hl (by decide) rfl (fun ls hl => ?_)
  refine lv_aload_n hx hb dX1_init_52 rfl (lv_at hl 1 rfl) ?_
  refine lv_iload_n hx hb dX1_init_53 rfl (lv_at hl 0 rfl) ?_
  refine lv_if_ge (tgt := 65) hx hb dX1_init_54 (by decide) (fun c1 => ?_) (fun c1 => ?_)
  · skip
    refine lv_iload_n hx hb dX1_init_65 rfl (lv_at hl 0 rfl) ?_
    refine lv_topi (fun yy eyy => ?_)
    have eyy : yy = nI (sh_fm y 32767) := by rw [eyy]; exact f3 (fun z => Int32.not_lt.mpr c1 z)
    subst eyy
    refine lv_iconst (v := nI 2) hx hb dX1_init_66 (by decide) ?_
    refine sr_iadd hx hb dX1_init_67 ?_
    rw [Nat.add_comm (sh_fm y 32767) 2]
    refine va_putF (D := (dC, dI)) (ci := 1) (v := .int (nI (2 + sh_fm y 32767))) (ty := .int) (C := RX1) (T := TX1) (N := 8) hx hb hts wiX1_init tyX1 tyX1_ok nmX1 hown hK hP hD hS 0 rfl rfl 1 (by decide) (hts (.fieldLink RX1 28 "StrideHeapModel" "big" "I") (by decide +kernel)) (fun _ h9 => h9) rfl hin rfl (by decide +kernel) rfl rfl (Nat.le_of_ble_eq_true rfl) dX1_init_68 (fun H locs hP hD hS => ?_)
    have hP : va_P (dC, dI) vwCl [(k0, .inr (1, [.int (nI (1 + sh_fm x 64)), .int (nI (2 + sh_fm y 32767)), .ref bI, .ref bT, .ref bP, .ref bR, .int (nI 0), .long (lN 0)])), (bI, .inl (cbI, 64, .inl (sh_a (sh_in (fun _ => 0))))), (bT, .inl (cbR, 64, .inl (sh_a (fun _ => 0)))), (bP, .inl (cbP, 64, .inr (.inl (sl_a (fun _ => 0))))), (bR, .inl (cbR, 64, .inl (sh_a (fun _ => 0))))] H := hP
    have hD : va_D A [(k0, .inr (1, [.int (nI (1 + sh_fm x 64)), .int (nI (2 + sh_fm y 32767)), .ref bI, .ref bT, .ref bP, .ref bR, .int (nI 0), .long (lN 0)])), (bI, .inl (cbI, 64, .inl (sh_a (sh_in (fun _ => 0))))), (bT, .inl (cbR, 64, .inl (sh_a (fun _ => 0)))), (bP, .inl (cbP, 64, .inr (.inl (sl_a (fun _ => 0))))), (bR, .inl (cbR, 64, .inl (sh_a (fun _ => 0))))] := hD
    exact W.vret hx hb hr (fun t ht hW => ⟨⟨(), rfl, trivial, bI, bT, bP, bR, cbI, cbR, cbP, by rw [ht]; exact hP, va_K.moved hW.alike hK, hD⟩, hS.F ht⟩) hS.2.2 dX1_init_71
  · skip
    refine lv_iload_n hx hb dX1_init_57 rfl (lv_at hl 0 rfl) ?_
    refine lv_sipush (v := nI 32767) hx hb dX1_init_58 (by decide) ?_
    refine lv_iadd hx hb dX1_init_61 ?_
    refine lv_topi (fun yy eyy => ?_)
    have eyy : yy = nI (sh_fm y 32767) := by rw [eyy]; exact f4 (Int32.not_le.mp c1)
    subst eyy
    refine lv_goto (tgt := 66) hx hb dX1_init_62 (by decide) ?_
    refine lv_iconst (v := nI 2) hx hb dX1_init_66 (by decide) ?_
    refine sr_iadd hx hb dX1_init_67 ?_
    rw [Nat.add_comm (sh_fm y 32767) 2]
    refine va_putF (D := (dC, dI)) (ci := 1) (v := .int (nI (2 + sh_fm y 32767))) (ty := .int) (C := RX1) (T := TX1) (N := 8) hx hb hts wiX1_init tyX1 tyX1_ok nmX1 hown hK hP hD hS 0 rfl rfl 1 (by decide) (hts (.fieldLink RX1 28 "StrideHeapModel" "big" "I") (by decide +kernel)) (fun _ h9 => h9) rfl hin rfl (by decide +kernel) rfl rfl (Nat.le_of_ble_eq_true rfl) dX1_init_68 (fun H locs hP hD hS => ?_)
    have hP : va_P (dC, dI) vwCl [(k0, .inr (1, [.int (nI (1 + sh_fm x 64)), .int (nI (2 + sh_fm y 32767)), .ref bI, .ref bT, .ref bP, .ref bR, .int (nI 0), .long (lN 0)])), (bI, .inl (cbI, 64, .inl (sh_a (sh_in (fun _ => 0))))), (bT, .inl (cbR, 64, .inl (sh_a (fun _ => 0)))), (bP, .inl (cbP, 64, .inr (.inl (sl_a (fun _ => 0))))), (bR, .inl (cbR, 64, .inl (sh_a (fun _ => 0))))] H := hP
    have hD : va_D A [(k0, .inr (1, [.int (nI (1 + sh_fm x 64)), .int (nI (2 + sh_fm y 32767)), .ref bI, .ref bT, .ref bP, .ref bR, .int (nI 0), .long (lN 0)])), (bI, .inl (cbI, 64, .inl (sh_a (sh_in (fun _ => 0))))), (bT, .inl (cbR, 64, .inl (sh_a (fun _ => 0)))), (bP, .inl (cbP, 64, .inr (.inl (sl_a (fun _ => 0))))), (bR, .inl (cbR, 64, .inl (sh_a (fun _ => 0))))] := hD
    exact W.vret hx hb hr (fun t ht hW => ⟨⟨(), rfl, trivial, bI, bT, bP, bR, cbI, cbR, cbP, by rw [ht]; exact hP, va_K.moved hW.alike hK, hD⟩, hS.F ht⟩) hS.2.2 dX1_init_71
