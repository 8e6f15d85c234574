/-! FROM THE LAW'S ENTRY TO THE CLAIM -/
theorem tA {w : Cond} (h : w ∈ tables_1) : w ∈ lw_tbl := List.mem_append_right _ h
theorem tA1 {w : Cond} (i : Nat) (h : tables_1_1[i]? = some w) : w ∈ lw_tbl := tA (List.mem_append_left _ (List.mem_of_getElem? h))
theorem tA2 {w : Cond} (i : Nat) (h : tables_1_2[i]? = some w) : w ∈ lw_tbl := tA (List.mem_append_right _ (List.mem_append_left _ (List.mem_of_getElem? h)))
theorem tA3 {w : Cond} (i : Nat) (h : tables_1_3[i]? = some w) : w ∈ lw_tbl := tA (List.mem_append_right _ (List.mem_append_right _ (List.mem_append_left _ (List.mem_of_getElem? h))))
theorem tA4 {w : Cond} (i : Nat) (h : tables_1_4[i]? = some w) : w ∈ lw_tbl := tA (List.mem_append_right _ (List.mem_append_right _ (List.mem_append_right _ (List.mem_append_left _ (List.mem_of_getElem? h)))))
theorem tA5 {w : Cond} (i : Nat) (h : tables_1_5[i]? = some w) : w ∈ lw_tbl := tA (List.mem_append_right _ (List.mem_append_right _ (List.mem_append_right _ (List.mem_append_right _ (List.mem_append_left _ (List.mem_of_getElem? h))))))
theorem tA6 {w : Cond} (i : Nat) (h : tables_1_6[i]? = some w) : w ∈ lw_tbl := tA (List.mem_append_right _ (List.mem_append_right _ (List.mem_append_right _ (List.mem_append_right _ (List.mem_append_right _ (List.mem_of_getElem? h))))))
theorem W_of {p : Program} {l : Launch} {e : Env} {R : Room} {s : State} {m : MethodId} {args : Array Value} {below : List Frame} {meth : Method} {c : Code} {Q : State → Prop} {D : va_G} {tC : Nat → ClassId} {A : Nat → Prop} {ρ0 : Nat → Nat} {I0 : aH} {maxL : Nat} {av : List Value} (lvl : List (Option Value)) (hlv : lv0 av maxL = lvl) (hlen : (lvA av).length ≤ maxL) (hcl : clS I0 av) (hH : okH D tC A ρ0 I0 s s.heap) (v : V (p, l, e, R, s, m, args, below, meth, c, Q, D, tC, A, ρ0, I0) maxL I0 lvl [] 0 0 0) : W p l e R s m args below meth c s.heap [] 0 0 Q (entryFrame m (av.map (cv ρ0)).toArray maxL) := by
  rw [lg_entry_eq]
  have hl := lv_entry (av.map (cv ρ0)) (n := maxL) (by rw [lvA_len]; exact hlen)
  subst hlv
  exact v ρ0 s.heap [] _ hH ext.rf (fun _ h => by cases h) ⟨hl.1, hl.2.1, fun k v hk => hl.2.2 (k, cv ρ0 v) (by have := lvA_in ρ0 av 0 k v (lv0_at hk); rwa [Nat.zero_add] at this)⟩ (fun v hv => hcl v (lv0_mem hv)) (fun _ h => by cases h)
theorem W_mono {p : Program} {l : Launch} {e : Env} {R : Room} {s : State} {m : MethodId} {args : Array Value} {below : List Frame} {meth : Method} {c : Code} {H : Heap} {locs : List Loc} {cells slots : Nat} {Q Q' : State → Prop} {g : JFrame} (h : ∀ t, Q t → Q' t) (w : W p l e R s m args below meth c H locs cells slots Q g) : W p l e R s m args below meth c H locs cells slots Q' g := fun T hT X => by
  obtain ⟨t, a, b⟩ := w T hT X
  exact ⟨t, a, h t b⟩
/-- what was written was all new -/
theorem framed_new {s t : State} {o : Outcome} {L : List Loc} {k n : Nat} (h : FrameEnd s o t L k n) (hL : ∀ q ∈ L, s.heap.size ≤ q.base) : Framed s o t [] k n := by
  obtain ⟨h1, h2, e1, e2, e3, e4, e5, e6⟩ := h
  refine ⟨h1, h2, e1, e2, e3, e4, e5, fun a c hc => ?_⟩
  obtain ⟨c', g1, g2, g3, g4⟩ := e6 a c hc
  have hlt : a < s.heap.size := (Array.getElem?_eq_some_iff.mp hc).1
  exact ⟨c', g1, g2, g3, fun i _ => g4 i (fun q => absurd (hL _ q) (Nat.not_le.mpr hlt))⟩
theorem arr_prim {s : State} {args : Array Value} {ty : FieldType} (h : (Cond.arrayClass ty).before args s = true) (ho : ∀ C, ty ≠ .object C) : ∃ cA, ArrOfT s cA ty ∧ va_RA s cA ty := by
  obtain ⟨cA, kA, comp, h1, h2, h3⟩ := Cond.arrayClass_spec h
  refine ⟨cA, fun n z => ⟨fun k h => (by cases h), kA, h2, comp, h3⟩, ?_⟩
  cases ty with
  | object C => exact absurd rfl (ho C)
  | _ => exact h1
theorem arr_obj {s : State} {args : Array Value} {C : String} (h : (Cond.arrayOver (.object C)).before args s = true) : ∃ cA, ArrOfT s cA (.object C) ∧ va_RA s cA (.object C) := by
  obtain ⟨comp, c, k, h1, h2, h3, h4, h5⟩ := Cond.arrayOver_spec h
  exact ⟨c, fun n z => ⟨fun k h => (by cases h), k, h3, comp, h4⟩, k, comp, h3, h4, h1, h5⟩
/-- the empty list's array, out of what the Statement gives -/
theorem zed_at {s : State} {args : Array Value} {t : Term} {C : String} (h1 : (Cond.arrayOf t (.object C)).before args s = true) (h2 : (Cond.eq (.length t) (.int 0)).before args s = true) : ∃ a cell, t.eval args s none [] s = some (.ref a) ∧ s.heap[a]? = some cell ∧ s.isArrayOf cell (.object C) ∧ cell.slots.size = 0 := by
  cases hv : (Term.length t).eval args s none [] s with
  | none => simp [Cond.before, Cond.holds, Cond.value, hv] at h2
  | some v =>
    obtain ⟨a, cell, e1, e2, rfl, e4⟩ := Term.length_small hv
    have hc := (State.arrayAt?_spec e2).1
    have hq := Cond.eq_ints hv (show (Term.int 0).eval args s none [] s = some (.int 0) from rfl)
    have h0 : cell.slots.size.toInt32 = 0 := by
      simpa [Cond.before, Cond.holds, hq] using h2
    refine ⟨a, cell, e1, hc, (Cond.arrayOf_spec h1 e1 hc).1, ?_⟩
    have e5 : nI cell.slots.size = 0 := h0
    rw [← nnI e4, e5]
    rfl
