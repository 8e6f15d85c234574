/-! locals -/
def asL (ρ : Nat → Nat) (lv : List (Option Value)) : List (Nat × Value) := (List.range lv.length).filterMap (fun k => match lv[k]? with
  | some (some v) => some (k, cv ρ v)
  | _ => none)
theorem asL_of {ρ : Nat → Nat} {lv : List (Option Value)} {q : Nat × Value} (h : q ∈ asL ρ lv) : ∃ v, lv[q.1]? = some (some v) ∧ q.2 = cv ρ v := by
  obtain ⟨k, -, hk⟩ := List.mem_filterMap.mp h
  split at hk
  · rename_i v hv
    cases hk
    exact ⟨v, hv, rfl⟩
  · cases hk
theorem asL_in {ρ : Nat → Nat} {lv : List (Option Value)} {k : Nat} {v : Value} (h : lv[k]? = some (some v)) : (k, cv ρ v) ∈ asL ρ lv := by
  refine List.mem_filterMap.mpr ⟨k, List.mem_range.mpr (List.getElem?_eq_some_iff.mp h).1, ?_⟩
  rw [h]
theorem hasL.list {ρ : Nat → Nat} {nL : Nat} {ls : Array Slot} {lv : List (Option Value)} (h : hasL ρ nL ls lv) : lv_has ls nL (asL ρ lv) := by
  refine ⟨h.1, h.2.1, fun q hq => ?_⟩
  obtain ⟨v, h1, h2⟩ := asL_of hq
  rw [h2]
  exact h.2.2 _ _ h1
/-- no long stands just ahead of place i -/
def nsl (lv : List (Option Value)) (i : Nat) : Bool := match i with
  | 0 => true
  | k + 1 => match lv[k]? with
    | some (some v) => v.category == 1
    | _ => true
theorem nsl_spec {lv : List (Option Value)} {i k : Nat} {v : Value} (h : nsl lv i = true) (hk : k + 1 = i) (hv : lv[k]? = some (some v)) : v.category = 1 := by
  subst hk
  simp only [nsl, hv] at h
  simpa using h
theorem hasL.set1 {ρ : Nat → Nat} {nL : Nat} {ls : Array Slot} {lv : List (Option Value)} {i : Nat} {v : Value} (hn : nsl lv i = true) (h : lv_has ls nL ((i, cv ρ v) :: (asL ρ lv).filter (fun q => !(q.1 == i) && !(q.1 + 1 == i && q.2.category == 2)))) : hasL ρ nL ls (lv.set i (some v)) := by
  refine ⟨h.1, h.2.1, fun k w hk => ?_⟩
  rw [List.getElem?_set] at hk
  by_cases hki : i = k
  · subst hki
    rw [if_pos rfl] at hk
    split at hk
    · cases hk
      exact h.2.2 _ List.mem_cons_self
    · cases hk
  · rw [if_neg hki] at hk
    refine h.2.2 (k, cv ρ w) (List.mem_cons_of_mem _ (List.mem_filter.mpr ⟨asL_in hk, ?_⟩))
    have h1 : (k == i) = false := by simpa using fun q => hki q.symm
    simp only [h1, Bool.not_false, Bool.true_and]
    by_cases h2 : k + 1 = i
    · have h3 := nsl_spec hn h2 hk
      simp [cv_cat, h3]
    · have h4 : (k + 1 == i) = false := by simpa using h2
      simp [h4]
theorem hasL.set2 {ρ : Nat → Nat} {nL : Nat} {ls : Array Slot} {lv : List (Option Value)} {i : Nat} {v : Value} (hn : nsl lv i = true) (h : lv_has ls nL ((i, cv ρ v) :: (asL ρ lv).filter (fun q => !(q.1 == i) && (!(q.1 == i + 1) && !(q.1 + 1 == i && q.2.category == 2))))) : hasL ρ nL ls ((lv.set i (some v)).set (i + 1) none) := by
  refine ⟨h.1, h.2.1, fun k w hk => ?_⟩
  rw [List.getElem?_set] at hk
  by_cases hki' : i + 1 = k
  · subst hki'
    rw [if_pos rfl] at hk
    split at hk <;> cases hk
  rw [if_neg hki', List.getElem?_set] at hk
  by_cases hki : i = k
  · subst hki
    rw [if_pos rfl] at hk
    split at hk
    · cases hk
      exact h.2.2 _ List.mem_cons_self
    · cases hk
  · rw [if_neg hki] at hk
    refine h.2.2 (k, cv ρ w) (List.mem_cons_of_mem _ (List.mem_filter.mpr ⟨asL_in hk, ?_⟩))
    have h1 : (k == i) = false := by simpa using fun q => hki q.symm
    have h5 : (k == i + 1) = false := by simpa using fun q => hki' q.symm
    simp only [h1, h5, Bool.not_false, Bool.true_and]
    by_cases h2 : k + 1 = i
    · have h3 := nsl_spec hn h2 hk
      simp [cv_cat, h3]
    · have h4 : (k + 1 == i) = false := by simpa using h2
      simp [h4]
theorem clL_set {I : aH} {lv : List (Option Value)} {i : Nat} {v : Value} (h : clL I lv) (hv : clV I v) : clL I (lv.set i (some v)) := by
  intro w hw
  rcases List.mem_or_eq_of_mem_set hw with q | q
  · exact h w q
  · cases q
    exact hv
theorem clL_setN {I : aH} {lv : List (Option Value)} {i : Nat} (h : clL I lv) : clL I (lv.set i none) := by
  intro w hw
  rcases List.mem_or_eq_of_mem_set hw with q | q
  · exact h w q
  · cases q
section Stores
variable {Z : Zt} {l0 : Launch} {R0 : Room} {cc : ByteArray} {nL : Nat} {own : String} {ret : Option FieldType} {Post : Option Value → aH → Prop} {I : aH} {lv : List (Option Value)} {st : List Value} {cells slots pc : Nat}
theorem V_istore_n {j : Fin 4} {x : Int32} (X : Fx Z l0 R0 cc nL own ret Post) (d : decode cc pc = .ok (.istore_n j, 1)) (hi : (j : Nat) < nL) (hn : nsl lv j = true) (k : V Z nL I (lv.set j (some (.int x))) st cells slots (pc + 1)) : V Z nL I lv (.int x :: st) cells slots pc := by
  obtain ⟨p, l, e, R, s, m, args, below, meth, c, Q, D, tC, A, ρ0, I0⟩ := Z
  obtain ⟨⟨hx, hb, hml, hown, hts⟩, hU, hlk, hret, rfl, rfl, rfl⟩ := X
  intro ρ H locs ls hH hE hlo hL hcL hcS
  exact lv_istore_n hx hb d rfl hL.list hi rfl (fun ls' h' => k ρ H locs ls' hH hE hlo (hasL.set1 (v := .int x) hn h') (clL_set hcL clV_i) (clS_tl hcS))
theorem V_istore {i : Nat} {x : Int32} (X : Fx Z l0 R0 cc nL own ret Post) (d : decode cc pc = .ok (.istore i, 2)) (hi : i < nL) (hn : nsl lv i = true) (k : V Z nL I (lv.set i (some (.int x))) st cells slots (pc + 2)) : V Z nL I lv (.int x :: st) cells slots pc := by
  obtain ⟨p, l, e, R, s, m, args, below, meth, c, Q, D, tC, A, ρ0, I0⟩ := Z
  obtain ⟨⟨hx, hb, hml, hown, hts⟩, hU, hlk, hret, rfl, rfl, rfl⟩ := X
  intro ρ H locs ls hH hE hlo hL hcL hcS
  exact lv_istore hx hb d hL.list hi rfl (fun ls' h' => k ρ H locs ls' hH hE hlo (hasL.set1 (v := .int x) hn h') (clL_set hcL clV_i) (clS_tl hcS))
theorem V_lstore_n {j : Fin 4} {x : Int64} (X : Fx Z l0 R0 cc nL own ret Post) (d : decode cc pc = .ok (.lstore_n j, 1)) (hi : (j : Nat) + 1 < nL) (hn : nsl lv j = true) (k : V Z nL I ((lv.set j (some (.long x))).set ((j : Nat) + 1) none) st cells slots (pc + 1)) : V Z nL I lv (.long x :: st) cells slots pc := by
  obtain ⟨p, l, e, R, s, m, args, below, meth, c, Q, D, tC, A, ρ0, I0⟩ := Z
  obtain ⟨⟨hx, hb, hml, hown, hts⟩, hU, hlk, hret, rfl, rfl, rfl⟩ := X
  intro ρ H locs ls hH hE hlo hL hcL hcS
  exact lv_lstore_n hx hb d rfl hL.list hi rfl (fun ls' h' => k ρ H locs ls' hH hE hlo (hasL.set2 (v := .long x) hn h') (clL_setN (clL_set hcL clV_l)) (clS_tl hcS))
theorem V_lstore {i : Nat} {x : Int64} (X : Fx Z l0 R0 cc nL own ret Post) (d : decode cc pc = .ok (.lstore i, 2)) (hi : i + 1 < nL) (hn : nsl lv i = true) (k : V Z nL I ((lv.set i (some (.long x))).set (i + 1) none) st cells slots (pc + 2)) : V Z nL I lv (.long x :: st) cells slots pc := by
  obtain ⟨p, l, e, R, s, m, args, below, meth, c, Q, D, tC, A, ρ0, I0⟩ := Z
  obtain ⟨⟨hx, hb, hml, hown, hts⟩, hU, hlk, hret, rfl, rfl, rfl⟩ := X
  intro ρ H locs ls hH hE hlo hL hcL hcS
  exact lv_lstore hx hb d hL.list hi rfl (fun ls' h' => k ρ H locs ls' hH hE hlo (hasL.set2 (v := .long x) hn h') (clL_setN (clL_set hcL clV_l)) (clS_tl hcS))
theorem V_astore_n {j : Fin 4} {v : Value} (X : Fx Z l0 R0 cc nL own ret Post) (d : decode cc pc = .ok (.astore_n j, 1)) (hi : (j : Nat) < nL) (hn : nsl lv j = true) (hr : isR v = true) (k : V Z nL I (lv.set j (some v)) st cells slots (pc + 1)) : V Z nL I lv (v :: st) cells slots pc := by
  obtain ⟨p, l, e, R, s, m, args, below, meth, c, Q, D, tC, A, ρ0, I0⟩ := Z
  obtain ⟨⟨hx, hb, hml, hown, hts⟩, hU, hlk, hret, rfl, rfl, rfl⟩ := X
  intro ρ H locs ls hH hE hlo hL hcL hcS
  rcases isR_or hr with rfl | ⟨a, rfl⟩
  · exact lv_astore_nN hx hb d rfl hL.list hi rfl (fun ls' h' => k ρ H locs ls' hH hE hlo (hasL.set1 (v := .null) hn h') (clL_set hcL clV_n) (clS_tl hcS))
  · exact lv_astore_n hx hb d rfl hL.list hi rfl (fun ls' h' => k ρ H locs ls' hH hE hlo (hasL.set1 (v := .ref a) hn h') (clL_set hcL (clS_hd hcS)) (clS_tl hcS))
theorem V_astore {i : Nat} {v : Value} (X : Fx Z l0 R0 cc nL own ret Post) (d : decode cc pc = .ok (.astore i, 2)) (hi : i < nL) (hn : nsl lv i = true) (hr : isR v = true) (k : V Z nL I (lv.set i (some v)) st cells slots (pc + 2)) : V Z nL I lv (v :: st) cells slots pc := by
  obtain ⟨p, l, e, R, s, m, args, below, meth, c, Q, D, tC, A, ρ0, I0⟩ := Z
  obtain ⟨⟨hx, hb, hml, hown, hts⟩, hU, hlk, hret, rfl, rfl, rfl⟩ := X
  intro ρ H locs ls hH hE hlo hL hcL hcS
  rcases isR_or hr with rfl | ⟨a, rfl⟩
  · exact lv_astoreN hx hb d hL.list hi rfl (fun ls' h' => k ρ H locs ls' hH hE hlo (hasL.set1 (v := .null) hn h') (clL_set hcL clV_n) (clS_tl hcS))
  · exact lv_astore hx hb d hL.list hi rfl (fun ls' h' => k ρ H locs ls' hH hE hlo (hasL.set1 (v := .ref a) hn h') (clL_set hcL (clS_hd hcS)) (clS_tl hcS))
theorem V_iinc {i : Nat} {n : Int} {x : Int32} (X : Fx Z l0 R0 cc nL own ret Post) (d : decode cc pc = .ok (.iinc i n, 3)) (h : lv[i]? = some (some (.int x))) (hi : i < nL) (hn : nsl lv i = true) (v : Int32) (hv : x + Int32.ofInt n = v) (k : V Z nL I (lv.set i (some (.int v))) st cells slots (pc + 3)) : V Z nL I lv st cells slots pc := by
  obtain ⟨p, l, e, R, s, m, args, below, meth, c, Q, D, tC, A, ρ0, I0⟩ := Z
  obtain ⟨⟨hx, hb, hml, hown, hts⟩, hU, hlk, hret, rfl, rfl, rfl⟩ := X
  intro ρ H locs ls hH hE hlo hL hcL hcS
  obtain ⟨k0, hk0⟩ := List.mem_iff_getElem?.mp (asL_in (ρ := ρ) h)
  exact lv_iinc (k := k0) hx hb d hL.list hk0 hv hi rfl (fun ls' h' => k ρ H locs ls' hH hE hlo (hasL.set1 (v := .int v) hn h') (clL_set hcL clV_i) hcS)
end Stores
