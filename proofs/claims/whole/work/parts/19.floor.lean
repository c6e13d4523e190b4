-- floorMod, static calls, new arrays
def sh_fm (x : Int32) (d : Nat) : Nat := (x.toInt % (d : Int)).toNat
theorem fm_lt (x : Int32) {d : Nat} (h0 : 0 < d) : sh_fm x d < d := by
  have h1 := Int.emod_nonneg x.toInt (b := (d : Int)) (by omega)
  have h2 := Int.emod_lt_of_pos x.toInt (b := (d : Int)) (by omega)
  unfold sh_fm
  omega
theorem fm_facts (x : Int32) {d : Nat} (h0 : 0 < d) (hd : d < 2 ^ 31) : (¬ x < 0 → ¬ (x - x / nI d * nI d) < 0) ∧ (x < 0 → ¬ (x - x / nI d * nI d) = 0 → (x - x / nI d * nI d) < 0) ∧ (¬ (x - x / nI d * nI d) < 0 → (x - x / nI d * nI d) = nI (sh_fm x d)) ∧ ((x - x / nI d * nI d) < 0 → (x - x / nI d * nI d) + nI d = nI (sh_fm x d)) := by
  have hq : (x - x / nI d * nI d).toInt = x.toInt.tmod d := by rw [rem_toInt, nI_toInt hd]
  have hb := tmod_bounds (a := x.toInt) (M := (d : Int)) (by omega)
  have hdef := Int.tmod_def x.toInt d
  have he : x.toInt % (d : Int) = x.toInt.tmod d % (d : Int) := by
    rw [hdef, Int.sub_mul_emod_self_left]
  have hfl := fm_lt x h0
  have hfi : ((sh_fm x d : Nat) : Int) = x.toInt % (d : Int) := by
    have h1 := Int.emod_nonneg x.toInt (b := (d : Int)) (by omega)
    unfold sh_fm
    omega
  have z0 : (0 : Int32).toInt = 0 := by decide
  refine ⟨fun h => ?_, fun h hn => ?_, fun h => ?_, fun h => ?_⟩
  · rw [Int32.lt_iff_toInt_lt, z0] at h ⊢
    rw [hq]
    have := Int.tmod_nonneg (d : Int) (a := x.toInt) (by omega)
    omega
  · rw [Int32.lt_iff_toInt_lt, z0] at h ⊢
    have hn2 : ¬ (x - x / nI d * nI d).toInt = 0 := fun z => hn (Int32.toInt_inj.mp (by rw [z, z0]))
    rw [hq] at hn2 ⊢
    have h1 : x.toInt.tmod d = -((-x.toInt).tmod d) := by rw [Int.neg_tmod, Int.neg_neg]
    have := Int.tmod_nonneg (d : Int) (a := -x.toInt) (by omega)
    omega
  · rw [Int32.lt_iff_toInt_lt, z0, hq] at h
    apply Int32.toInt_inj.mp
    rw [hq, nI_toInt (by omega), hfi, he, Int.emod_eq_of_lt (by omega) hb.2]
  · rw [Int32.lt_iff_toInt_lt, z0, hq] at h
    apply Int32.toInt_inj.mp
    rw [Int32.toInt_add, hq, nI_toInt hd, nI_toInt (by omega), hfi, he, ← Int.add_emod_right, Int.emod_eq_of_lt (by omega) (by omega)]
    exact Int.bmod_eq_of_le (by omega) (by omega)
theorem xor_sg (x : Int32) {d : Nat} (hd : d < 2 ^ 31) : (0 ≤ x ^^^ nI d) ↔ ¬ x < 0 := by
  have z0 : (0 : Int32).toInt = 0 := by decide
  rw [Int32.le_iff_toInt_le, Int32.lt_iff_toInt_lt, z0]
  have h1 : (x ^^^ nI d).toBitVec.msb = (x.toBitVec.msb ^^ (nI d).toBitVec.msb) := by
    rw [Int32.toBitVec_xor, BitVec.msb_xor]
  rw [BitVec.msb_eq_toInt, BitVec.msb_eq_toInt, BitVec.msb_eq_toInt] at h1
  have h2 := nI_toInt hd
  have e1 : (x ^^^ nI d).toBitVec.toInt = (x ^^^ nI d).toInt := rfl
  have e2 : x.toBitVec.toInt = x.toInt := rfl
  have e3 : (nI d).toBitVec.toInt = (nI d).toInt := rfl
  rw [e1, e2, e3, h2] at h1
  have h4 : decide ((d : Int) < 0) = false := decide_eq_false (by omega)
  rw [h4, Bool.xor_false] at h1
  have := decide_eq_decide.mp h1
  omega
theorem fm_and (x : Int32) : x &&& nI 63 = nI (sh_fm x 64) := by
  rw [pk_and x 6 (by decide)]
  congr 1
  unfold sh_fm
  have e : x.toInt = x.toBitVec.toInt := rfl
  rw [e, BitVec.toInt_eq_toNat_cond]
  split <;> omega
section SS
variable {p : Program} {l : Launch} {e : Env} {R : Room} {s : State} {m : MethodId} {args : Array Value} {below : List Frame} {meth : Method} {c : Code} {H : Heap} {locs : List Loc} {cells slots : Nat} {Q : State → Prop}
variable {cc : ByteArray} {pc nL n index maxL : Nat} {ls : Array Slot} {rest As st0 : List Value} {A : Nat → Prop} {b : Nat} {tys : List (ClassId × FieldType)} {ws : va_W} {H0 : Heap} {dC : Nat → ClassId} {dI : Nat → Nat → Nat} {Ts wy : List Cond} {own C : String} {y : MethodName} {bytes : ByteArray} {ret : Option FieldType} {rm : Room}
/-- a static method that answers an int and changes nothing -/
theorem sc_s {post : Int32 → Unit → Prop} {B : State → Prop} (F : CallFix p m c cc nL s args Ts own) (hM : Met l y wy rm (va_Pc As B) (va_Qi post (fun _ _ => True) (va_A [] H.size)) 0 0 (va_A [] H.size)) (cw : CallB R s args own index y bytes maxL ret wy rm 0 0 n ∧ (Cond.static y).before args s = true) (hp : PreS s H (va_Pc As B) As)
    (hP : va_P (dC, dI) vwCl ws H) (hD : va_D A ws) (hS : va_S A H0 H locs) (hA : ∀ q, H0.size ≤ q → A q) (hn : As.length = n) (hsize : ls.size = nL) (hst : st0 = As.reverse ++ rest) (hW : (rest.map fun v => v.category).sum ≤ 8) (hdg : decode cc pc = .ok (.invokestatic index, 3)) (hcs : cells ≤ R.cells ∧ slots ≤ R.slots)
    (kk : ∀ (r : Int32) (H1 : Heap) (locs1 : List Loc), post r () → va_P (dC, dI) vwCl ws H1 → va_D A ws → va_S A H0 H1 locs1 → W p l e R s m args below meth c H1 locs1 cells slots Q (F0 m (pc + 3) ls (.int r :: rest))) : W p l e R s m args below meth c H locs cells slots Q (F0 m pc ls st0) := by
  have hP' : va_P (dC, dI) vwCl (ws ++ []) H := by rw [List.append_nil]; exact hP
  have hD' : va_D A (ws ++ []) := by rw [List.append_nil]; exact hD
  have hF := sj_free hD' hS hA
  refine va_calli (va_runS (As := As) (rest := rest) F hM cw hp rfl hn hsize hst (lv_room hW) hdg hcs) hS (fun q _ h => hF q h) hF (fun r u t H1 locs1 ht hvm hw hB hz1 hk1 hS1 => ?_)
  obtain ⟨hP2, hD2⟩ := sj_join (w1 := []) hP' hD' hk1 hF (fun k q h => by simp at h) ⟨fun i j p q h => by simp at h, fun k q h => by simp at h⟩
  rw [List.append_nil] at hP2 hD2
  exact kk r H1 locs1 hw hP2 hD2 hS1
theorem sr_newI {D : va_G} {cl : List vw_C} (hx : p.tables.exec = Jvm.exec) (hb : c.code = cc) (harr : (Cond.arrayClass .int).before args s = true) (hK : va_K D cl tys s) (hP : va_P D cl ws H) (hD : va_D A ws) (hS : va_S A H0 H locs) (hA : ∀ q, H0.size ≤ q → A q) {n : Nat} (hn : n ≤ 64) (hcells : cells + 1 ≤ R.cells) (hslots : slots + n ≤ R.slots) (hdg : decode cc pc = .ok (.newarray .int, 2))
    (kk : ∀ (q : Nat) (cA : ClassId) (H1 : Heap), va_K D cl (tys ++ [(cA, .int)]) s → va_P D cl (ws ++ [(q, .inl (cA, n, .inl (sh_a (fun _ => 0))))]) H1 → va_D A (ws ++ [(q, .inl (cA, n, .inl (sh_a (fun _ => 0))))]) → va_S A H0 H1 locs → W p l e R s m args below meth c H1 locs (cells + 1) (slots + n) Q (F0 m (pc + 2) ls (.ref q :: rest))) : W p l e R s m args below meth c H locs cells slots Q (F0 m pc ls (.int (nI n) :: rest)) :=
  va_newa hx hb (atype := .int) harr rfl hK hP hD hS hA (a0 := (n, .inl (sh_a (fun _ => 0)))) (fun _ => rfl) (nI_pos (by omega)) (nI_clamp (by omega)) (by show n * 4 ≤ 536870912; omega) hcells hslots hdg kk
theorem sr_newZ {D : va_G} {cl : List vw_C} (hx : p.tables.exec = Jvm.exec) (hb : c.code = cc) (harr : (Cond.arrayClass .boolean).before args s = true) (hK : va_K D cl tys s) (hP : va_P D cl ws H) (hD : va_D A ws) (hS : va_S A H0 H locs) (hA : ∀ q, H0.size ≤ q → A q) {n : Nat} (hn : n ≤ 64) (hcells : cells + 1 ≤ R.cells) (hslots : slots + n ≤ R.slots) (hdg : decode cc pc = .ok (.newarray .boolean, 2))
    (kk : ∀ (q : Nat) (cA : ClassId) (H1 : Heap), va_K D cl (tys ++ [(cA, .boolean)]) s → va_P D cl (ws ++ [(q, .inl (cA, n, .inl (sh_a (sh_in (fun _ => 0)))))]) H1 → va_D A (ws ++ [(q, .inl (cA, n, .inl (sh_a (sh_in (fun _ => 0)))))]) → va_S A H0 H1 locs → W p l e R s m args below meth c H1 locs (cells + 1) (slots + n) Q (F0 m (pc + 2) ls (.ref q :: rest))) : W p l e R s m args below meth c H locs cells slots Q (F0 m pc ls (.int (nI n) :: rest)) :=
  va_newa hx hb (atype := .boolean) harr rfl hK hP hD hS hA (a0 := (n, .inl (sh_a (sh_in (fun _ => 0))))) (fun _ => rfl) (nI_pos (by omega)) (nI_clamp (by omega)) (by show n * 1 ≤ 536870912; omega) hcells hslots hdg kk
theorem sr_newJ {D : va_G} {cl : List vw_C} (hx : p.tables.exec = Jvm.exec) (hb : c.code = cc) (harr : (Cond.arrayClass .long).before args s = true) (hK : va_K D cl tys s) (hP : va_P D cl ws H) (hD : va_D A ws) (hS : va_S A H0 H locs) (hA : ∀ q, H0.size ≤ q → A q) {n : Nat} (hn : n ≤ 64) (hcells : cells + 1 ≤ R.cells) (hslots : slots + n ≤ R.slots) (hdg : decode cc pc = .ok (.newarray .long, 2))
    (kk : ∀ (q : Nat) (cA : ClassId) (H1 : Heap), va_K D cl (tys ++ [(cA, .long)]) s → va_P D cl (ws ++ [(q, .inl (cA, n, .inr (.inl (sl_a (fun _ => 0)))))]) H1 → va_D A (ws ++ [(q, .inl (cA, n, .inr (.inl (sl_a (fun _ => 0)))))]) → va_S A H0 H1 locs → W p l e R s m args below meth c H1 locs (cells + 1) (slots + n) Q (F0 m (pc + 2) ls (.ref q :: rest))) : W p l e R s m args below meth c H locs cells slots Q (F0 m pc ls (.int (nI n) :: rest)) :=
  va_newa hx hb (atype := .long) harr rfl hK hP hD hS hA (a0 := (n, .inr (.inl (sl_a (fun _ => 0))))) (fun _ => rfl) (nI_pos (by omega)) (nI_clamp (by omega)) (by show n * 8 ≤ 536870912; omega) hcells hslots hdg kk
end SS
/-- the class of the int arrays is one -/
theorem K_one {D : va_G} {cl : List vw_C} {tys : List (ClassId × FieldType)} {U : State} {cA cB : ClassId} (h : va_K D cl tys U) (i j : Nat) (hi : tys[i]? = some (cA, .int)) (hj : tys[j]? = some (cB, .int)) : cB = cA := by
  have h1 : U.vm.findClass ("[" ++ (FieldType.int).toString) = some cA := (h.2 i _ hi).2
  have h2 : U.vm.findClass ("[" ++ (FieldType.int).toString) = some cB := (h.2 j _ hj).2
  exact Option.some.inj (h2.symm.trans h1)
/-- as Met.ofW, for a method of a class that has natives, where this method has no row among them -/
theorem sm_ofWF {l : Launch} {y : MethodName} {ws ws' : List Cond} {rm : Room} {Pc : Array Value → State → Prop} {Qc : Array Value → State → Outcome → State → Prop} {mc ms : Nat} {free : Addr → Prop} {cc : ByteArray} {maxL : Nat} {ret : Option FieldType}
    (hy : plainFor y = true) (hw : ws = Cond.code y cc maxL ret :: ws')
    (body : ∀ p e s m args below meth c s₁, BodyLoose p l y (headSpec ws rm) cc maxL ret e s m args below meth c s₁ → c.maxLocals = maxL → Pc args s →
      W p l e (headSpec ws rm).room s m args below meth c s.heap [] 0 0 (MQ below Qc args s mc ms free) (entryFrame m args maxL)) : Met l y ws rm Pc Qc mc ms free := by
  refine MetFree.of_bodySF (code := cc) (maxLocals := maxL) (ret := ret) hy ?_ ?_
  · intro args s m h hn
    obtain ⟨meth, c, h1, h2, h3, h4, h5, h6, -, -⟩ := Cond.code_spec hn (atoms_spec (ws := ws) h _ (by rw [hw]; exact List.mem_cons_self))
    exact ⟨meth, c, h1, h2, h3, h4, h5, h6⟩
  · intro p e s m args below meth c s₁ B hml hP _
    have hh0 : s₁.heap = s.heap := by rw [B.state]; rfl
    obtain ⟨t, a1, o, b1, b2, b3⟩ := body p e s m args below meth c s₁ B hml hP s₁ hh0 (Stand.of_body B)
    exact ⟨t, o, a1, b1, b2, ⟨b3.1, b3.2⟩⟩
set_option maxHeartbeats 4000000 in
set_option maxRecDepth 100000 in
/-- Math.floorMod(x, d), d above 0 -/
theorem kJ9_floorMod (l : Launch) (sz : Nat) (x : Int32) (d : Nat) (hd0 : 0 < d) (hd : d < 2 ^ 31) : Met l yJ9_floorMod_7cf53 wsJ9_floorMod_7cf53 ({ frames := 0, cells := 0, slots := 0, locals := 0 }) (va_Pc [.int x, .int (nI d)] (fun U => U.heap.size = sz)) (va_Qi (fun (r : Int32) (_ : Unit) => r = nI (sh_fm x d)) (fun _ _ => True) (va_A [] sz)) 0 0 (va_A [] sz) := by
  refine sm_ofWF (cc := cJ9_floorMod_7cf53) (maxL := 3) (ret := (some .int)) (by decide +kernel) rfl ?_
  intro p e s m args below meth c s₁ B hml hv
  obtain ⟨rfl, hsz⟩ := hv
  have hx := B.exec
  have hb := B.bytes
  have hr := B.returns
  have hlocks := B.notSynchronized
  subst hsz
  have hS : va_S (va_A [] s.heap.size) s.heap s.heap [] := va_S.rf
  have hl := lv_entry ([.int x, .int (nI d)]) (n := 3) (Nat.le_of_ble_eq_true rfl)
  rw [lg_entry_eq]
  generalize (lg_sl ([.int x, .int (nI d)]) ++ List.replicate (3 - (lg_sl ([.int x, .int (nI d)])).length) Slot.unset).toArray = ls at hl ⊢
  have hl : lv_has ls 3 [(0, .int x), (1, .int (nI d))] := hl
  obtain ⟨f1, f2, f3, f4⟩ := fm_facts x hd0 hd
  refine lv_iload_n hx hb dJ9_floorMod_7cf53_0 rfl (lv_at hl 0 rfl) ?_
  refine lv_iload_n hx hb dJ9_floorMod_7cf53_1 rfl (lv_at hl 1 rfl) ?_
  refine lv_irem hx hb dJ9_floorMod_7cf53_2 (nI_ne0 hd0 hd) ?_
  refine lv_topi (fun q eq => ?_)
  rw [← eq] at f1 f2 f3 f4
  refine lv_istore_n (lv' := [(2, .int q), (0, .int x), (1, .int (nI d))]) hx hb dJ9_floorMod_7cf53_3 rfl hl (by decide) rfl (fun ls hl => ?_)
  refine lv_iload_n hx hb dJ9_floorMod_7cf53_4 rfl (lv_at hl 1 rfl) ?_
  refine lv_iload_n hx hb dJ9_floorMod_7cf53_5 rfl (lv_at hl 2 rfl) ?_
  refine lv_ixor hx hb dJ9_floorMod_7cf53_6 ?_
  refine lv_if_ge (tgt := 18) hx hb dJ9_floorMod_7cf53_7 (by decide) (fun c1 => ?_) (fun c1 => ?_)
  · refine lv_iload_n hx hb dJ9_floorMod_7cf53_18 rfl (lv_at hl 0 rfl) ?_
    exact W.iret (v := q) hx hb hr (fun t ht hW => ⟨⟨q, (), rfl, f3 (f1 ((xor_sg x hd).mp c1)), trivial⟩, hS.F ht⟩) hS.2.2 dJ9_floorMod_7cf53_19
  · have hneg : x < 0 := by
      by_cases z : x < 0
      · exact z
      · exact absurd ((xor_sg x hd).mpr z) c1
    refine lv_iload_n hx hb dJ9_floorMod_7cf53_10 rfl (lv_at hl 0 rfl) ?_
    refine lv_if_eq (tgt := 18) hx hb dJ9_floorMod_7cf53_11 (by decide) (fun c2 => ?_) (fun c2 => ?_)
    · refine lv_iload_n hx hb dJ9_floorMod_7cf53_18 rfl (lv_at hl 0 rfl) ?_
      exact W.iret (v := q) hx hb hr (fun t ht hW => ⟨⟨q, (), rfl, f3 (by rw [c2]; decide), trivial⟩, hS.F ht⟩) hS.2.2 dJ9_floorMod_7cf53_19
    · refine lv_iload_n hx hb dJ9_floorMod_7cf53_14 rfl (lv_at hl 0 rfl) ?_
      refine lv_iload_n hx hb dJ9_floorMod_7cf53_15 rfl (lv_at hl 2 rfl) ?_
      refine lv_iadd hx hb dJ9_floorMod_7cf53_16 ?_
      exact W.iret (v := q + nI d) hx hb hr (fun t ht hW => ⟨⟨q + nI d, (), rfl, f4 (f2 hneg c2), trivial⟩, hS.F ht⟩) hS.2.2 dJ9_floorMod_7cf53_17
