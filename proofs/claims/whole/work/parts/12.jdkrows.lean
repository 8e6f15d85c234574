/-! rows for the JDK's own: getClass, the mirror, arraycopy -/
abbrev yGetC : MethodName := ⟨"java/lang/Object", "getClass", "()Ljava/lang/Class;"⟩
/-- an object that a list may hold -/
def EO (I : aH) (α : Nat) : Prop := ∃ (ci : Nat) (fs : List Value) (C : String) (T : u_T) (N : Nat), I α = some (.inr (ci, fs)) ∧ vwCl[ci]? = some (C, T, N) ∧ Cond.castable C sOb ∈ nwL
theorem EO.ne {I : aH} {α : Nat} (h : EO I α) : I α ≠ none := by
  obtain ⟨ci, fs, C, T, N, h, -⟩ := h
  rw [h]
  exact fun q => by cases q
section Jdk
variable {Z : Zt} {l0 : Launch} {R0 : Room} {cc : ByteArray} {nL : Nat} {own : String} {ret : Option FieldType} {Post : Option Value → aH → Prop} {I : aH} {lv : List (Option Value)} {st : List Value} {cells slots pc : Nat}
theorem V_getC {idx α n : Nat} {f : Nat → Option Nat} (X : Fx Z l0 R0 cc nL own ret Post) (d : decode cc pc = .ok (.invokevirtual idx, 3)) (hw : Cond.methodLink own idx yGetC ∈ wsA) (h : I α = some (.inl (3, aR n f))) (hr : ¬ ro α) (hf : 1 ≤ R0.frames) (hl : (st.map fun v => v.category).sum + 14 ≤ R0.locals) (k : V Z nL I lv (.ref mirr :: st) cells slots (pc + 3)) : V Z nL I lv (.ref α :: st) cells slots pc := by
  obtain ⟨p, l, e, R, s, m, args, below, meth, c, Q, D, tC, A, ρ0, I0⟩ := Z
  obtain ⟨⟨hx, hb, hml, hown, hts⟩, hU, hlk, hret, rfl, rfl, rfl⟩ := X
  intro ρ H locs ls hH hE hlo hL hcL hcS
  have hmi : ρ mirr = ρ0 mirr := hE.1 mirr (Or.inr rfl)
  obtain ⟨kA, comp, g1, g2, g3, g4⟩ := (hU.1.2 3 _ rfl).2
  have k1 := k ρ H locs ls hH hE hlo hL hcL (clS_cons (fun a ea => by cases ea; exact Or.inr rfl) (clS_tl hcS))
  refine va_getC (C := "[Ljava/lang/Object;") (mi := ρ mirr) hx hb (by rw [hml]; exact hL.1.symm) hown (hts _ hw) (va_Nw.use rfl (hU.2.1 _ (List.mem_of_getElem? (i := 9) rfl))) (hts _ (inA6 31 rfl rfl)) (hts _ (inA1 154 rfl rfl)) (hts _ (inA1 167 rfl rfl)) (by rw [hmi]; exact hU.2.2.2.2) ⟨_, hH.1 α _ h hr, rfl, g4⟩ hf ?_ d k1
  rw [List.map_map, show ((fun v : Value => v.category) ∘ cv ρ) = fun v => v.category from funext (cv_cat ρ)]
  exact hl
theorem V_ldcM {idx : Nat} (X : Fx Z l0 R0 cc nL own ret Post) (d : decode cc pc = .ok (.ldc idx, 2)) (hw : Cond.classLink own idx "[Ljava/lang/Object;" ∈ wsA) (k : V Z nL I lv (.ref mirr :: st) cells slots (pc + 2)) : V Z nL I lv st cells slots pc := by
  obtain ⟨p, l, e, R, s, m, args, below, meth, c, Q, D, tC, A, ρ0, I0⟩ := Z
  obtain ⟨⟨hx, hb, hml, hown, hts⟩, hU, hlk, hret, rfl, rfl, rfl⟩ := X
  intro ρ H locs ls hH hE hlo hL hcL hcS
  have hmi : ρ mirr = ρ0 mirr := hE.1 mirr (Or.inr rfl)
  exact va_ldcM (mi := ρ mirr) hx hb hown (hts _ hw) (by rw [hmi]; exact hU.2.2.2.2) d (k ρ H locs ls hH hE hlo hL hcL (clS_cons (fun a ea => by cases ea; exact Or.inr rfl) hcS))
theorem i32_nn (z : Int32) (hz : ¬ z < 0) : z.toInt = (z.toNatClampNeg : Int) := by
  have hz0 : (0 : Int) ≤ z.toInt := by
    have := Int32.not_lt.mp hz
    simpa using Int32.le_iff_toInt_le.mp this
  show z.toInt = ((z.toInt.toNat : Nat) : Int)
  omega
theorem V_copy {idx α0 α n0 n1 : Nat} {f g : Nat → Option Nat} {sp dp n : Int32} (X : Fx Z l0 R0 cc nL own ret Post) (d : decode cc pc = .ok (.invokestatic idx, 3)) (hw : Cond.methodLink own idx arraycopyName ∈ wsA) (ha0 : I α0 = some (.inl (3, aR n0 f))) (hr0 : ¬ ro α0) (ha1 : I α = some (.inl (3, aR n1 g))) (hr : ¬ ro α) (h1 : ¬ sp < 0) (h2 : ¬ dp < 0) (h3 : ¬ n < 0) (h4 : sp.toNatClampNeg + n.toNatClampNeg ≤ n0) (h5 : dp.toNatClampNeg + n.toNatClampNeg ≤ n1) (hel : ∀ i : Nat, i < n.toNatClampNeg → ∀ y : Nat, f (sp.toNatClampNeg + i) = some y → EO I y) (hf : 1 ≤ R0.frames) (hl : (st.map fun v => v.category).sum + (nativeFrameWords "java/lang/System" "arraycopy" 5 + 11) ≤ R0.locals) (k : V Z nL (hu I α (.inl (3, aR n1 (va_cpy f g sp.toNatClampNeg dp.toNatClampNeg n.toNatClampNeg)))) lv st cells slots (pc + 3)) : V Z nL I lv (.int n :: .int dp :: .ref α :: .int sp :: .ref α0 :: st) cells slots pc := by
  obtain ⟨p, l, e, R, s, m, args, below, meth, c, Q, D, tC, A, ρ0, I0⟩ := Z
  obtain ⟨⟨hx, hb, hml, hown, hts⟩, hU, hlk, hret, rfl, rfl, rfl⟩ := X
  intro ρ H locs ls hH hE hlo hL hcL hcS
  intro T hT Xs
  have hc0 : H[ρ α0]? = some (vp_cell (tC 3) (aR n0 (fun j => (f j).map ρ))) := hH.1 α0 _ ha0 hr0
  have hc1 : H[ρ α]? = some (vp_cell (tC 3) (aR n1 (fun j => (g j).map ρ))) := hH.1 α _ ha1 hr
  obtain ⟨-, k0, hk0, cm0, hkk0⟩ := (hU.1.2 3 _ rfl).1 n0 (fun j => va_rf ((f j).map ρ))
  obtain ⟨-, k1, hk1, cm1, hkk1⟩ := (hU.1.2 3 _ rfl).1 n1 (fun j => va_rf ((g j).map ρ))
  obtain ⟨vm', X', step⟩ := Xs.arraycopy hx hown (hts _ hw) (hts _ (inA1 179 rfl rfl)) (hts _ (inA1 178 rfl rfl)) (hts _ (inA1 10 rfl rfl)) (src := ρ α0) (dst := ρ α) (cs := vp_cell (tC 3) (aR n0 (fun j => (f j).map ρ))) (cd := vp_cell (tC 3) (aR n1 (fun j => (g j).map ρ))) (srcPos := sp) (destPos := dp) (n := n) (by rw [hT]; exact hc0) (by rw [hT]; exact hc1)
    (fun _ h => by cases h) (fun _ h => by cases h) (fun h => by cases h) (fun h => by cases h) hk0 hk1 hkk0 hkk1 rfl h1 h2 h3
    (by rw [i32_nn sp h1, i32_nn n h3]; show ¬ _ > ((arrV (tC 3) n0 (fun j => va_rf ((f j).map ρ))).slots.size : Int); rw [arrV_size]; omega)
    (by rw [i32_nn dp h2, i32_nn n h3]; show ¬ _ > ((arrV (tC 3) n1 (fun j => va_rf ((g j).map ρ))).slots.size : Int); rw [arrV_size]; omega)
    (fun vm₁ hal i hi => by
      have e : (vp_cell (tC 3) (aR n0 (fun j => (f j).map ρ))).slots.getD (sp.toNatClampNeg + i) .null = va_rf ((f (sp.toNatClampNeg + i)).map ρ) := by
        show (arrV (tC 3) n0 (fun j => va_rf ((f j).map ρ))).slots.getD _ _ = _
        rw [Array.getD_eq_getD_getElem?, arrV_read _ _ (by omega)]
        rfl
      rw [e]
      cases hy : f (sp.toNatClampNeg + i) with
      | none => exact ⟨rfl, trivial⟩
      | some y =>
        obtain ⟨ci, fs, C, T0, N, q1, q2, q3⟩ := hel i hi y hy
        obtain ⟨cellV, g1, g2, g3⟩ := va_recv hU.1 (hH.P q1 (hH.nob q1)) q2 (q0 := 0) rfl
        obtain ⟨kA, comp, r1, r2, r3, -⟩ := (hU.1.2 3 _ rfl).2
        cases hk1.symm.trans r1
        cases hkk1.symm.trans r2
        obtain ⟨kC, hkC, -⟩ := Vm.findClass_spec g3
        obtain ⟨kE, hkE, -⟩ := Vm.findClass_spec r3
        obtain ⟨kC', hkC', -⟩ := hal.2.2 _ _ hkC
        obtain ⟨kE', hkE', -⟩ := hal.2.2 _ _ hkE
        refine ⟨rfl, cellV, (show T.heap[ρ y]? = some cellV by rw [hT]; exact g1), (fun q h => by rw [h] at g2; cases g2), ⟨kC', hkC'⟩, ?_, ?_⟩
        · exact ⟨kE', hkE'⟩
        · show vm₁.assignable _ _ = true
          rw [hal.assignable]
          obtain ⟨c0, t0, f1, f2, f3⟩ := Cond.castable_spec (va_Nw.use (A := args) rfl (hU.2.1 _ q3))
          have e1 := Option.some.inj (f1.symm.trans g3)
          have e2 := Option.some.inj (f2.symm.trans r3)
          rw [← e1, ← e2]
          exact f3)
    (g := F0 m pc ls (.int n :: .int dp :: .ref (ρ α) :: .int sp :: .ref (ρ α0) :: st.map (cv ρ))) rfl (by rw [hml]; exact hL.1) (rest := st.map (cv ρ)) rfl (by rw [hb]; exact d) hf (by
      show 2 * 0 + _ + _ ≤ _
      rw [List.map_map, show ((fun v : Value => v.category) ∘ cv ρ) = fun v => v.category from funext (cv_cat ρ)]
      omega)
  have ecp : va_cpy (fun j => (f j).map ρ) (fun j => (g j).map ρ) sp.toNatClampNeg dp.toNatClampNeg n.toNatClampNeg = fun j => (va_cpy f g sp.toNatClampNeg dp.toNatClampNeg n.toNatClampNeg j).map ρ := by
    funext j
    unfold va_cpy
    split <;> rfl
  have e1 : copied (vp_cell (tC 3) (aR n0 (fun j => (f j).map ρ))) (vp_cell (tC 3) (aR n1 (fun j => (g j).map ρ))) sp dp n = vp_cell (tC 3) (aR n1 (fun j => (va_cpy f g sp.toNatClampNeg dp.toNatClampNeg n.toNatClampNeg j).map ρ)) := by
    rw [← ecp, vp_cell_q, vp_cell_q, vp_cell_q]
    exact va_copied (fun z => va_rf z) (tC 3) (tC 3) _ _ h4
  rw [e1] at X' step
  have hlt : ρ α < H.size := (Array.getElem?_eq_some_iff.mp hc1).1
  have hheap : ((T.setVm vm').setCell (ρ α) (vp_cell (tC 3) (aR n1 (fun j => (va_cpy f g sp.toNatClampNeg dp.toNatClampNeg n.toNatClampNeg j).map ρ)))).heap = H.setIfInBounds (ρ α) (vp_cell (tC 3) (aR n1 (fun j => (va_cpy f g sp.toNatClampNeg dp.toNatClampNeg n.toNatClampNeg j).map ρ))) := by rw [← hT]; rfl
  have hclo : clO I (.inl (3, aR n1 (va_cpy f g sp.toNatClampNeg dp.toNatClampNeg n.toNatClampNeg))) := by
    refine ⟨fun t' n' f' e j β q => ?_, fun c fs e => (by cases e)⟩
    cases e
    unfold va_cpy at q
    split at q
    · exact (hH.2.2.1 α0 _ ha0).1 3 n0 f rfl _ _ q
    · exact (hH.2.2.1 α _ ha1).1 3 n1 g rfl _ _ q
  have hA := hH.inA ha1 hr
  obtain ⟨t, a1, b1⟩ := k ρ _ _ ls (hH.write ha1 hr hclo (show (H.setIfInBounds (ρ α) _)[ρ α]? = some _ by simp [Array.getElem?_setIfInBounds, hlt]; rfl) (by simp) (fun q hq => by simp [Array.getElem?_setIfInBounds, Ne.symm hq])) (ext_hu hE hr) (fun q hq => by
      rcases List.mem_append.mp hq with h | h
      · exact hlo q h
      · obtain ⟨z, -, hz⟩ := List.mem_map.mp h
        rw [← hz]
        exact hA) hL (hcL.to dm_hu) ((clS_tl (clS_tl (clS_tl (clS_tl (clS_tl hcS))))).to dm_hu) _ hheap X'
  exact ⟨t, step t a1, b1⟩
end Jdk
