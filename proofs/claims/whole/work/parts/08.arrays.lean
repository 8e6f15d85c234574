section Arrays
variable {Z : Zt} {l0 : Launch} {R0 : Room} {cc : ByteArray} {nL : Nat} {own : String} {ret : Option FieldType} {Post : Option Value → aH → Prop} {I : aH} {lv : List (Option Value)} {st : List Value} {cells slots pc : Nat}
theorem V_iaload {α n : Nat} {f : Nat → Int32} {i : Int32} (X : Fx Z l0 R0 cc nL own ret Post) (d : decode cc pc = .ok (.iaload, 1)) (h : I α = some (.inl (0, aI n f))) (hi : vp_in i n) (k : V Z nL I lv (.int (f i.toNatClampNeg) :: st) cells slots (pc + 1)) : V Z nL I lv (.int i :: .ref α :: st) cells slots pc := by
  obtain ⟨p, l, e, R, s, m, args, below, meth, c, Q, D, tC, A, ρ0, I0⟩ := Z
  obtain ⟨⟨hx, hb, hml, hown, hts⟩, hU, hlk, hret, rfl, rfl, rfl⟩ := X
  intro ρ H locs ls hH hE hlo hL hcL hcS
  have k1 := k ρ H locs ls hH hE hlo hL hcL (clS_cons clV_i (clS_tl (clS_tl hcS)))
  by_cases hr : ro α
  · rcases hr with rfl | rfl
    · rw [hH.2.2.2.2.2.2.1] at h
      cases h
    · obtain ⟨n', f', g1, c', q1, q2, q3, q4, q5⟩ := hH.2.2.2.2.2.2.2.2.2 _ h
      cases g1
      have hlt : i.toNatClampNeg < n := Nat.not_le.mp fun q => hi (Or.inr q)
      exact W.iald (v := .int (f i.toNatClampNeg)) hx hb q1 q2 q3 (by rw [q4]; exact hi) (q5 _ hlt) rfl rfl d k1
  · exact va_iald hx hb hU.1 (hH.P h hr) 0 0 rfl rfl hi d k1
theorem V_laload {α n : Nat} {f : Nat → Int64} {i : Int32} (X : Fx Z l0 R0 cc nL own ret Post) (d : decode cc pc = .ok (.laload, 1)) (h : I α = some (.inl (1, aL n f))) (hi : vp_in i n) (k : V Z nL I lv (.long (f i.toNatClampNeg) :: st) cells slots (pc + 1)) : V Z nL I lv (.int i :: .ref α :: st) cells slots pc := by
  obtain ⟨p, l, e, R, s, m, args, below, meth, c, Q, D, tC, A, ρ0, I0⟩ := Z
  obtain ⟨⟨hx, hb, hml, hown, hts⟩, hU, hlk, hret, rfl, rfl, rfl⟩ := X
  intro ρ H locs ls hH hE hlo hL hcL hcS
  exact va_lald hx hb hU.1 (hH.P h (hH.nty h (by decide) (by decide))) 0 1 rfl rfl hi d (k ρ H locs ls hH hE hlo hL hcL (clS_cons clV_l (clS_tl (clS_tl hcS))))
theorem V_baload {α n : Nat} {f : Nat → Int32} {i : Int32} (X : Fx Z l0 R0 cc nL own ret Post) (d : decode cc pc = .ok (.baload, 1)) (h : I α = some (.inl (2, aI n f))) (hi : vp_in i n) (k : V Z nL I lv (.int (f i.toNatClampNeg) :: st) cells slots (pc + 1)) : V Z nL I lv (.int i :: .ref α :: st) cells slots pc := by
  obtain ⟨p, l, e, R, s, m, args, below, meth, c, Q, D, tC, A, ρ0, I0⟩ := Z
  obtain ⟨⟨hx, hb, hml, hown, hts⟩, hU, hlk, hret, rfl, rfl, rfl⟩ := X
  intro ρ H locs ls hH hE hlo hL hcL hcS
  exact va_zald hx hb hU.1 (hH.P h (hH.nty h (by decide) (by decide))) 0 2 rfl rfl hi d (k ρ H locs ls hH hE hlo hL hcL (clS_cons clV_i (clS_tl (clS_tl hcS))))
theorem cv_rf (ρ : Nat → Nat) (x : Option Nat) : cv ρ (va_rf x) = va_rf (x.map ρ) := by cases x <;> rfl
theorem V_aaload {α n t : Nat} {C : String} {f : Nat → Option Nat} {i : Int32} (X : Fx Z l0 R0 cc nL own ret Post) (d : decode cc pc = .ok (.aaload, 1)) (ht : ∀ tC, (tyL tC)[t]? = some (tC t, .object C)) (h : I α = some (.inl (t, aR n f))) (hi : vp_in i n) (k : V Z nL I lv (va_rf (f i.toNatClampNeg) :: st) cells slots (pc + 1)) : V Z nL I lv (.int i :: .ref α :: st) cells slots pc := by
  obtain ⟨p, l, e, R, s, m, args, below, meth, c, Q, D, tC, A, ρ0, I0⟩ := Z
  obtain ⟨⟨hx, hb, hml, hown, hts⟩, hU, hlk, hret, rfl, rfl, rfl⟩ := X
  intro ρ H locs ls hH hE hlo hL hcL hcS
  have hcl : clV I (va_rf (f i.toNatClampNeg)) := by
    intro a ha
    cases hf : f i.toNatClampNeg with
    | none => rw [hf] at ha; cases ha
    | some b =>
      rw [hf] at ha
      cases ha
      exact (hH.2.2.1 α _ h).1 t n f rfl _ _ hf
  have k1 := k ρ H locs ls hH hE hlo hL hcL (clS_cons hcl (clS_tl (clS_tl hcS)))
  rw [List.map_cons, cv_rf] at k1
  have hr : ¬ ro α := by
    rintro (rfl | rfl)
    · rw [hH.2.2.2.2.2.2.1] at h
      cases h
      exact hi (Or.inr (Nat.zero_le _))
    · obtain ⟨n', f', g1, -⟩ := hH.2.2.2.2.2.2.2.2.2 _ h
      cases g1
  exact va_aldq hx hb hU.1 (hH.P h hr) 0 t rfl (ht tC) hi d k1
theorem V_alen {α t : Nat} {ty : FieldType} {x : vp_A} (X : Fx Z l0 R0 cc nL own ret Post) (d : decode cc pc = .ok (.arraylength, 1)) (ht : ∀ tC, (tyL tC)[t]? = some (tC t, ty)) (h : I α = some (.inl (t, x))) (k : V Z nL I lv (.int (nI x.1) :: st) cells slots (pc + 1)) : V Z nL I lv (.ref α :: st) cells slots pc := by
  obtain ⟨p, l, e, R, s, m, args, below, meth, c, Q, D, tC, A, ρ0, I0⟩ := Z
  obtain ⟨⟨hx, hb, hml, hown, hts⟩, hU, hlk, hret, rfl, rfl, rfl⟩ := X
  intro ρ H locs ls hH hE hlo hL hcL hcS
  have k1 := k ρ H locs ls hH hE hlo hL hcL (clS_cons clV_i (clS_tl hcS))
  by_cases hr : ro α
  · rcases hr with rfl | rfl
    · rw [hH.2.2.2.2.2.2.1] at h
      cases h
      obtain ⟨c', q1, q2, q3⟩ := hH.2.2.2.2.2.2.2.2.1
      exact W.alen (n := nI 0) hx hb q1 q2 (by rw [q3] <;> rfl) rfl rfl d k1
    · obtain ⟨n', f', g1, c', q1, q2, q3, q4, q5⟩ := hH.2.2.2.2.2.2.2.2.2 _ h
      cases g1
      exact W.alen (n := nI n') hx hb q1 q2 (by rw [q4] <;> rfl) rfl rfl d k1
  · exact va_alen hx hb hU.1 (hH.P h hr) 0 t rfl (ht tC) (v := nI x.1) rfl d k1
theorem locs_put {A : Nat → Prop} {locs : List Loc} {a k : Nat} (h : ∀ q ∈ locs, A q.base) (ha : A a) : ∀ q ∈ locs ++ [(⟨a, k⟩ : Loc)], A q.base := by
  intro q hq
  rcases List.mem_append.mp hq with hq | hq
  · exact h q hq
  · rw [List.mem_singleton.mp hq]
    exact ha
theorem V_iastore {α n : Nat} {f : Nat → Int32} {i x : Int32} (X : Fx Z l0 R0 cc nL own ret Post) (d : decode cc pc = .ok (.iastore, 1)) (h : I α = some (.inl (0, aI n f))) (hr : ¬ ro α) (hi : vp_in i n) (k : V Z nL (hu I α (.inl (0, aI n (upd f i.toNatClampNeg x)))) lv st cells slots (pc + 1)) : V Z nL I lv (.int x :: .int i :: .ref α :: st) cells slots pc := by
  obtain ⟨p, l, e, R, s, m, args, below, meth, c, Q, D, tC, A, ρ0, I0⟩ := Z
  obtain ⟨⟨hx, hb, hml, hown, hts⟩, hU, hlk, hret, rfl, rfl, rfl⟩ := X
  intro ρ H locs ls hH hE hlo hL hcL hcS
  have hc0 : H[ρ α]? = some (arrV (tC 0) n (fun j => .int (f j))) := hH.1 α _ h hr
  refine W.iast hx hb hc0 ((hU.1.2 0 _ rfl).1 n _) (fun q => by cases q) (by rw [arrV_size]; exact hi) rfl rfl d fun H1 e1 z1 o1 => ?_
  refine k ρ H1 _ ls (hH.write h hr clO_i ?_ z1 o1) (ext_hu hE hr) (locs_put hlo (hH.inA h hr)) hL (hcL.to dm_hu) ((clS_tl (clS_tl (clS_tl hcS))).to dm_hu)
  show H1[ρ α]? = some (arrV (tC 0) n (fun j => .int (upd f i.toNatClampNeg x j)))
  rw [e1, arrV_store]
  congr 2
  funext q
  by_cases hq : q = i.toNatClampNeg
  · subst hq
    simp [updV, upd]
  · simp [updV, upd, hq]
theorem V_lastore {α n : Nat} {f : Nat → Int64} {i : Int32} {x : Int64} (X : Fx Z l0 R0 cc nL own ret Post) (d : decode cc pc = .ok (.lastore, 1)) (h : I α = some (.inl (1, aL n f))) (hr : ¬ ro α) (hi : vp_in i n) (k : V Z nL (hu I α (.inl (1, aL n (vp_updL f i.toNatClampNeg x)))) lv st cells slots (pc + 1)) : V Z nL I lv (.long x :: .int i :: .ref α :: st) cells slots pc := by
  obtain ⟨p, l, e, R, s, m, args, below, meth, c, Q, D, tC, A, ρ0, I0⟩ := Z
  obtain ⟨⟨hx, hb, hml, hown, hts⟩, hU, hlk, hret, rfl, rfl, rfl⟩ := X
  intro ρ H locs ls hH hE hlo hL hcL hcS
  have hc0 : H[ρ α]? = some (arrV (tC 1) n (fun j => .long (f j))) := hH.1 α _ h hr
  refine W.last hx hb hc0 ((hU.1.2 1 _ rfl).1 n _) (fun q => by cases q) (by rw [arrV_size]; exact hi) rfl rfl d fun H1 e1 z1 o1 => ?_
  refine k ρ H1 _ ls (hH.write h hr clO_l ?_ z1 o1) (ext_hu hE hr) (locs_put hlo (hH.inA h hr)) hL (hcL.to dm_hu) ((clS_tl (clS_tl (clS_tl hcS))).to dm_hu)
  show H1[ρ α]? = some (arrV (tC 1) n (fun j => .long (vp_updL f i.toNatClampNeg x j)))
  rw [e1, arrV_store]
  congr 2
  funext q
  by_cases hq : q = i.toNatClampNeg
  · subst hq
    simp [updV, vp_updL]
  · simp [updV, vp_updL, hq]
theorem V_bastore {α n : Nat} {f : Nat → Int32} {i x : Int32} (X : Fx Z l0 R0 cc nL own ret Post) (d : decode cc pc = .ok (.bastore, 1)) (h : I α = some (.inl (2, aI n f))) (hr : ¬ ro α) (hi : vp_in i n) (k : V Z nL (hu I α (.inl (2, aI n (upd f i.toNatClampNeg (vp_nar .boolean x))))) lv st cells slots (pc + 1)) : V Z nL I lv (.int x :: .int i :: .ref α :: st) cells slots pc := by
  obtain ⟨p, l, e, R, s, m, args, below, meth, c, Q, D, tC, A, ρ0, I0⟩ := Z
  obtain ⟨⟨hx, hb, hml, hown, hts⟩, hU, hlk, hret, rfl, rfl, rfl⟩ := X
  intro ρ H locs ls hH hE hlo hL hcL hcS
  have hc0 : H[ρ α]? = some (arrV (tC 2) n (fun j => .int (f j))) := hH.1 α _ h hr
  refine W.zast hx hb hc0 ((hU.1.2 2 _ rfl).1 n _) (fun q => by cases q) (by rw [arrV_size]; exact hi) rfl rfl d fun H1 e1 z1 o1 => ?_
  refine k ρ H1 _ ls (hH.write h hr clO_i ?_ z1 o1) (ext_hu hE hr) (locs_put hlo (hH.inA h hr)) hL (hcL.to dm_hu) ((clS_tl (clS_tl (clS_tl hcS))).to dm_hu)
  show H1[ρ α]? = some (arrV (tC 2) n (fun j => .int (upd f i.toNatClampNeg (vp_nar .boolean x) j)))
  rw [e1, arrV_store]
  congr 2
  funext q
  by_cases hq : q = i.toNatClampNeg
  · subst hq
    simp [updV, upd, vp_nar]
    try rfl
  · simp [updV, upd, hq]
/-- an object into an array: of its own class, or of Objects -/
theorem V_aastore {α β n t ci : Nat} {C : String} {T : u_T} {N : Nat} {fs : List Value} {E : String} {f : Nat → Option Nat} {i : Int32} (X : Fx Z l0 R0 cc nL own ret Post) (d : decode cc pc = .ok (.aastore, 1)) (ht : ∀ tC, (tyL tC)[t]? = some (tC t, .object E)) (h : I α = some (.inl (t, aR n f))) (hr : ¬ ro α) (hi : vp_in i n) (hv : I β = some (.inr (ci, fs))) (hc : vwCl[ci]? = some (C, T, N)) (hE : E = C ∨ Cond.castable C E ∈ nwL) (k : V Z nL (hu I α (.inl (t, aR n (va_up f i.toNatClampNeg (some β))))) lv st cells slots (pc + 1)) : V Z nL I lv (.ref β :: .int i :: .ref α :: st) cells slots pc := by
  obtain ⟨p, l, e, R, s, m, args, below, meth, c, Q, D, tC, A, ρ0, I0⟩ := Z
  obtain ⟨⟨hx, hb, hml, hown, hts⟩, hU, hlk, hret, rfl, rfl, rfl⟩ := X
  intro ρ H locs ls hH hEx hlo hL hcL hcS
  have hlt : i.toNatClampNeg < n := Nat.not_le.mp fun q => hi (Or.inr q)
  have h0 : ¬ i < 0 := fun q => hi (Or.inl q)
  have hc0 : H[ρ α]? = some (arrV (tC t) n (fun j => va_rf ((f j).map ρ))) := hH.1 α _ h hr
  obtain ⟨r', hr', cellV, g1, g2, g3, -⟩ := hH.1 β _ hv (hH.nob hv)
  have hcls := (hU.1.1 ci _ hc).2
  obtain ⟨kA, comp, k1, k2, k3, -⟩ := (hU.1.2 t _ (ht tC)).2
  obtain ⟨kC, hkC, -⟩ := hcls.2
  obtain ⟨kc, hkc, -⟩ := Vm.findClass_spec k3
  have hasg : s.vm.assignable (D.1 ci) comp = true := by
    rcases hE with rfl | hE
    · have : comp = D.1 ci := Option.some.inj (k3.symm.trans hcls.1)
      rw [this]
      exact va_asg _ _
    · obtain ⟨c0, t0, f1, f2, f3⟩ := Cond.castable_spec (va_Nw.use (A := args) rfl (hU.2.1 _ hE))
      have e1 : c0 = D.1 ci := Option.some.inj (f1.symm.trans hcls.1)
      have e2 : t0 = comp := Option.some.inj (f2.symm.trans k3)
      rw [← e1, ← e2]
      exact f3
  refine W.aast hx hb hc0 (fun q h => by cases h) (fun h => by cases h) k1 k2 rfl hkc ⟨h0, by rw [arrV_size]; exact hlt⟩ g1 (fun q h => by rw [g3] at h; cases h) (by rw [g2]; exact hkC) (by rw [g2]; exact hasg) rfl rfl d fun H1 e1 z1 o1 => ?_
  refine k ρ H1 _ ls (hH.write h hr (clO_up (hH.2.2.1 α _ h) (fun a ea => by cases ea; exact Or.inl (by rw [hv]; exact fun q => by cases q))) ?_ z1 o1) (ext_hu hEx hr) (locs_put hlo (hH.inA h hr)) hL (hcL.to dm_hu) ((clS_tl (clS_tl (clS_tl hcS))).to dm_hu)
  show H1[ρ α]? = some (arrV (tC t) n (fun j => va_rf ((va_up f i.toNatClampNeg (some β) j).map ρ)))
  rw [e1, arrV_store]
  congr 2
  funext q
  by_cases hq : q = i.toNatClampNeg
  · subst hq
    simp [updV, va_up, va_rf]
  · simp [updV, va_up, hq]
theorem V_aastoreN {α n t : Nat} {E : String} {f : Nat → Option Nat} {i : Int32} (X : Fx Z l0 R0 cc nL own ret Post) (d : decode cc pc = .ok (.aastore, 1)) (ht : ∀ tC, (tyL tC)[t]? = some (tC t, .object E)) (h : I α = some (.inl (t, aR n f))) (hr : ¬ ro α) (hi : vp_in i n) (k : V Z nL (hu I α (.inl (t, aR n (va_up f i.toNatClampNeg none)))) lv st cells slots (pc + 1)) : V Z nL I lv (.null :: .int i :: .ref α :: st) cells slots pc := by
  obtain ⟨p, l, e, R, s, m, args, below, meth, c, Q, D, tC, A, ρ0, I0⟩ := Z
  obtain ⟨⟨hx, hb, hml, hown, hts⟩, hU, hlk, hret, rfl, rfl, rfl⟩ := X
  intro ρ H locs ls hH hEx hlo hL hcL hcS
  have hlt : i.toNatClampNeg < n := Nat.not_le.mp fun q => hi (Or.inr q)
  have hc0 : H[ρ α]? = some (arrV (tC t) n (fun j => va_rf ((f j).map ρ))) := hH.1 α _ h hr
  have ha : ρ α < H.size := (Array.getElem?_eq_some_iff.mp hc0).1
  intro T hT Xs
  obtain ⟨X', st'⟩ := va_aastN0 Xs hx (a := ρ α) (cell := arrV (tC t) n (fun j => va_rf ((f j).map ρ))) (C := E) (j := i) (by rw [hT]; exact hc0) ((hU.1.2 t _ (ht tC)).1 n _) (fun q => by cases q) (by rw [arrV_size]; exact hi) (g := F0 m pc ls (.null :: .int i :: .ref (ρ α) :: st.map (cv ρ))) rfl (rest := st.map (cv ρ)) rfl (by rw [hb]; exact d)
  have hheap : (T.setCell (ρ α) ((arrV (tC t) n (fun j => va_rf ((f j).map ρ))).setSlot i.toNatClampNeg .null)).heap = H.setIfInBounds (ρ α) (arrV (tC t) n (fun j => va_rf ((va_up f i.toNatClampNeg none j).map ρ))) := by
    rw [← hT, arrV_store]
    have e : updV (fun j => va_rf ((f j).map ρ)) i.toNatClampNeg .null = fun j => va_rf ((va_up f i.toNatClampNeg none j).map ρ) := by
      funext q
      by_cases hq : q = i.toNatClampNeg
      · subst hq
        simp [updV, va_up, va_rf]
      · simp [updV, va_up, hq]
    rw [e]
    rfl
  obtain ⟨t2, a1, b1⟩ := k ρ _ _ ls (hH.write h hr (clO_up (hH.2.2.1 α _ h) (fun a ea => by cases ea)) (show (H.setIfInBounds (ρ α) _)[ρ α]? = some _ by simp [Array.getElem?_setIfInBounds, ha]; rfl) (by simp) (fun q hq => by simp [Array.getElem?_setIfInBounds, Ne.symm hq])) (ext_hu hEx hr) (locs_put hlo (hH.inA h hr)) hL (hcL.to dm_hu) ((clS_tl (clS_tl (clS_tl hcS))).to dm_hu) _ hheap X'
  exact ⟨t2, st' t2 a1, b1⟩
theorem V_cast {idx α ci : Nat} {C : String} {T : u_T} {N : Nat} {fs : List Value} (X : Fx Z l0 R0 cc nL own ret Post) (d : decode cc pc = .ok (.checkcast idx, 3)) (hw : Cond.classLink own idx C ∈ wsA) (hc : vwCl[ci]? = some (C, T, N)) (h : I α = some (.inr (ci, fs))) (k : V Z nL I lv (.ref α :: st) cells slots (pc + 3)) : V Z nL I lv (.ref α :: st) cells slots pc := by
  obtain ⟨p, l, e, R, s, m, args, below, meth, c, Q, D, tC, A, ρ0, I0⟩ := Z
  obtain ⟨⟨hx, hb, hml, hown, hts⟩, hU, hlk, hret, rfl, rfl, rfl⟩ := X
  intro ρ H locs ls hH hE hlo hL hcL hcS
  exact va_castS hx hb hown (hts _ hw) (hU.1.1 ci _ hc).2 (va_recv hU.1 (hH.P h (hH.nob h)) hc (q0 := 0) rfl) d (k ρ H locs ls hH hE hlo hL hcL hcS)
theorem V_castN {idx : Nat} (X : Fx Z l0 R0 cc nL own ret Post) (d : decode cc pc = .ok (.checkcast idx, 3)) (k : V Z nL I lv (.null :: st) cells slots (pc + 3)) : V Z nL I lv (.null :: st) cells slots pc := by
  obtain ⟨p, l, e, R, s, m, args, below, meth, c, Q, D, tC, A, ρ0, I0⟩ := Z
  obtain ⟨⟨hx, hb, hml, hown, hts⟩, hU, hlk, hret, rfl, rfl, rfl⟩ := X
  intro ρ H locs ls hH hE hlo hL hcL hcS
  exact lv_castN hx hb d (k ρ H locs ls hH hE hlo hL hcL hcS)
theorem V_gets {idx : Nat} (X : Fx Z l0 R0 cc nL own ret Post) (d : decode cc pc = .ok (.getstatic idx, 3)) (hw : Cond.fieldLink own idx "java/util/ArrayList" "DEFAULTCAPACITY_EMPTY_ELEMENTDATA" "[Ljava/lang/Object;" ∈ wsA) (k : V Z nL I lv (.ref zed :: st) cells slots (pc + 3)) : V Z nL I lv st cells slots pc := by
  obtain ⟨p, l, e, R, s, m, args, below, meth, c, Q, D, tC, A, ρ0, I0⟩ := Z
  obtain ⟨⟨hx, hb, hml, hown, hts⟩, hU, hlk, hret, rfl, rfl, rfl⟩ := X
  intro ρ H locs ls hH hE hlo hL hcL hcS
  obtain ⟨cf, kf, fi, f, a, cell, h1, h2, h3, h4, h5, h6, h7, h8⟩ := hH.2.2.2.2.2.1
  exact W.gets hx hb hown (hts _ hw) h1 h2 h3 h4 h5 (fun q => by rw [q] at h6; cases h6) h7 rfl d (k ρ H locs ls hH hE hlo hL hcL (clS_cons (clV_r (by rw [hH.2.2.2.2.2.2.1]; exact fun q => by cases q)) hcS))
end Arrays
