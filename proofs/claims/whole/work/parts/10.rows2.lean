-- more rows: a loop's rule, arraycopy within an array, what the tests of arguments say
theorem ix_yes {N : Nat} {x : Int32} (h1 : ¬ x < 0) (h2 : ¬ nI N ≤ x) (hN : N < 2 ^ 31) : ∃ j, j < N ∧ x = nI j := by
  rcases pk_ix x hN with h | h | h
  · exact absurd h h1
  · exact absurd h h2
  · exact h
theorem tk_lt {big : Nat} {y : Int32} (hb : big < 2 ^ 31) (h : y < nI 1) : sh_ix big y = none ∨ sh_ix big y = some 0 := by
  rcases ix_of (x := y) hb with q | ⟨j, hj, rfl, q⟩
  · exact Or.inl q
  · have := (nI_ltI (a := j) (b := 1) (by omega) (by decide)).mp h
    have : j = 0 := by omega
    subst this
    exact Or.inr q
theorem tk_le {big : Nat} {y : Int32} (hb : big < 2 ^ 31) (h : y ≤ 0) : sh_ix big y = none ∨ sh_ix big y = some 0 := by
  rcases ix_of (x := y) hb with q | ⟨j, hj, rfl, q⟩
  · exact Or.inl q
  · have := (nI_leI (a := j) (b := 0) (by omega) (by decide)).mp (by rw [nI_0]; exact h)
    have : j = 0 := by omega
    subst this
    exact Or.inr q
theorem tk_ok {big : Nat} {y : Int32} (hb : big < 2 ^ 31) (h1 : ¬ y < nI 1) (h2 : ¬ nI big ≤ y) : ∃ k, 0 < k ∧ k < big ∧ y = nI k := by
  have h0 : ¬ y < 0 := fun q => h1 (Int32.lt_trans q (by decide))
  obtain ⟨j, hj, rfl⟩ := ix_yes h0 h2 hb
  refine ⟨j, ?_, hj, rfl⟩
  rcases Nat.eq_zero_or_pos j with q | q
  · subst q
    exact absurd (by decide) h1
  · exact q
theorem tk_ok2 {big : Nat} {y : Int32} (hb : big < 2 ^ 31) (h1 : ¬ y ≤ 0) (h2 : ¬ nI big ≤ y) : ∃ k, 0 < k ∧ k < big ∧ y = nI k := by
  have h0 : ¬ y < 0 := fun q => h1 (Int32.le_of_lt q)
  obtain ⟨j, hj, rfl⟩ := ix_yes h0 h2 hb
  refine ⟨j, ?_, hj, rfl⟩
  rcases Nat.eq_zero_or_pos j with q | q
  · subst q
    exact absurd (by decide) h1
  · exact q
theorem sh_cpy (f : Nat → Nat) (sp dp k : Nat) : va_cpy (sh_a f) (sh_a f) sp dp k = sh_a (va_cpy f f sp dp k) := by
  funext j
  simp only [va_cpy, sh_a]
  split <;> rfl
section SL
variable {p : Program} {l : Launch} {e : Env} {R : Room} {s : State} {m : MethodId} {args : Array Value} {below : List Frame} {meth : Method} {c : Code} {H : Heap} {locs : List Loc} {cells slots : Nat} {Q : State → Prop}
variable {cc : ByteArray} {pc : Nat} {ls : Array Slot} {rest : List Value} {D : va_G} {cl : List vw_C} {A : Nat → Prop} {a : Nat} {tys : List (ClassId × FieldType)} {ws : va_W} {H0 : Heap}
/-- a loop whose measure falls: the invariant I at measure d gives the walk from its head -/
theorem sl_loop {α : Type} {st : List Value} (I : Nat → α → Heap → List Loc → Array Slot → Prop) (h0 : ∀ x H locs ls, ¬ I 0 x H locs ls)
    (hs : ∀ d x H locs ls, (∀ y H1 locs1 ls1, I d y H1 locs1 ls1 → W p l e R s m args below meth c H1 locs1 cells slots Q (F0 m pc ls1 st)) → I (d + 1) x H locs ls → W p l e R s m args below meth c H locs cells slots Q (F0 m pc ls st)) :
    ∀ d x H locs ls, I d x H locs ls → W p l e R s m args below meth c H locs cells slots Q (F0 m pc ls st) := by
  intro d
  induction d with
  | zero => exact fun x H locs ls h => absurd h (h0 x H locs ls)
  | succ d ih => exact fun x H locs ls h => hs d x H locs ls ih h
theorem sr_cpy (hx : p.tables.exec = Jvm.exec) (hb : c.code = cc) (hml : c.maxLocals = ls.size) {own : String} {index : Nat} (hown : s.vm.findClass own = some m.cls) (hlink : (Cond.methodLink own index arraycopyName).before args s = true) (hnat : (Cond.native arraycopyName).before args s = true) (hstat : (Cond.static arraycopyName).before args s = true) (hini : (Cond.initialized "java/lang/System").before args s = true)
    (hK : va_K D cl tys s) (hP : va_P D cl ws H) (hD : va_D A ws) (hS : va_S A H0 H locs) (q0 t0 : Nat) {cA : ClassId} {n : Nat} {f : Nat → Nat} (ha : ws[q0]? = some (a, .inl (cA, n, .inl (sh_a f)))) (ht : tys[t0]? = some (cA, .int)) {sp dp k : Nat} (h4 : sp + k ≤ n) (h5 : dp + k ≤ n) (hn : n < 2 ^ 31)
    (hframes : 1 ≤ R.frames) (hlocals : (rest.map fun v => v.category).sum + (nativeFrameWords "java/lang/System" "arraycopy" 5 + 11) ≤ R.locals) (hdg : decode cc pc = .ok (.invokestatic index, 3))
    (kk : ∀ (H1 : Heap) (locs1 : List Loc), va_P D cl (ws.set q0 (a, .inl (cA, n, .inl (sh_a (va_cpy f f sp dp k))))) H1 → va_D A (ws.set q0 (a, .inl (cA, n, .inl (sh_a (va_cpy f f sp dp k))))) → va_S A H0 H1 locs1 → W p l e R s m args below meth c H1 locs1 cells slots Q (F0 m (pc + 3) ls rest)) : W p l e R s m args below meth c H locs cells slots Q (F0 m pc ls (.int (nI k) :: .int (nI dp) :: .ref a :: .int (nI sp) :: .ref a :: rest)) := by
  have e1 : (nI sp).toNatClampNeg = sp := nI_clamp (by omega)
  have e2 : (nI dp).toNatClampNeg = dp := nI_clamp (by omega)
  have e3 : (nI k).toNatClampNeg = k := nI_clamp (by omega)
  refine va_copyi hx hb hml hown hlink hnat hstat hini hK hP hD hS q0 q0 t0 t0 ha ha ht ht rfl (nI_pos (by omega)) (nI_pos (by omega)) (nI_pos (by omega)) (by rw [e1, e3]; exact h4) (by rw [e2, e3]; exact h5) (fun i _ => rfl) hframes hlocals hdg (fun H1 locs1 hP1 hD1 hS1 => ?_)
  rw [e1, e2, e3, sh_cpy] at hP1 hD1
  exact kk H1 locs1 hP1 hD1 hS1
end SL
/-- what holds of the class's state between calls -/
def sh_V (N big n lp : Nat) (ft fs fp fl : Nat → Nat) : Prop := 0 < N ∧ N ≤ 64 ∧ 2 ≤ big ∧ big ≤ 32768 ∧ lp < 2 ^ 31 ∧ (∀ c, fp c < 2 ^ 31) ∧ (∀ c, ft c < big) ∧ (∀ c, 0 < ft c → fs c = big / ft c) ∧ sh_I N ft fp fl n
/-- and of the reference's -/
def sh_M (N big n lp : Nat) (ft fk fp : Nat → Nat) : Prop := 0 < N ∧ N ≤ 64 ∧ 2 ≤ big ∧ big ≤ 32768 ∧ lp < 2 ^ 31 ∧ (∀ c, fp c < 2 ^ 31) ∧ (∀ c, ft c < big) ∧ (∀ c, 0 < ft c → fk c = ft c) ∧ n = sh_cnt ft N
