section MathRows
variable {Z : Zt} {l0 : Launch} {R0 : Room} {cc : ByteArray} {nL : Nat} {own : String} {ret : Option FieldType} {Post : Option Value → aH → Prop} {I : aH} {lv : List (Option Value)} {st : List Value} {cells slots pc : Nat}
theorem V_mmax {idx : Nat} {x y : Int32} (X : Fx Z l0 R0 cc nL own ret Post) (d : decode cc pc = .ok (.invokestatic idx, 3)) (hw : Cond.methodLink own idx Lib.Math.max.name ∈ wsA) (hf : 1 ≤ R0.frames) (hl : (st.map fun v => v.category).sum + 13 ≤ R0.locals) (hce : cells ≤ R0.cells) (hsl : slots ≤ R0.slots) (k : V Z nL I lv (.int (if x < y then y else x) :: st) cells slots (pc + 3)) : V Z nL I lv (.int y :: .int x :: st) cells slots pc := by
  obtain ⟨p, l, e, R, s, m, args, below, meth, c, Q, D, tC, A, ρ0, I0⟩ := Z
  obtain ⟨⟨hx, hb, hml, hown, hts⟩, hU, hlk, hret, rfl, rfl, rfl⟩ := X
  intro ρ H locs ls hH hE hlo hL hcL hcS
  refine va_mmax hx hb (by rw [hml]; exact hL.1.symm) hown (hts _ hw) (hts _ (inA1 144 rfl rfl)) (hts _ (inA1 8 rfl rfl)) (hts _ (inA1 145 rfl rfl)) hf ?_ hce hsl d (k ρ H locs ls hH hE hlo hL hcL (clS_cons clV_i (clS_tl (clS_tl hcS))))
  rw [List.map_map, show ((fun v : Value => v.category) ∘ cv ρ) = fun v => v.category from funext (cv_cat ρ)]
  exact hl
theorem V_mmin {idx : Nat} {x y : Int32} (X : Fx Z l0 R0 cc nL own ret Post) (d : decode cc pc = .ok (.invokestatic idx, 3)) (hw : Cond.methodLink own idx Lib.Math.min.name ∈ wsA) (hf : 1 ≤ R0.frames) (hl : (st.map fun v => v.category).sum + 13 ≤ R0.locals) (hce : cells ≤ R0.cells) (hsl : slots ≤ R0.slots) (k : V Z nL I lv (.int (if y < x then y else x) :: st) cells slots (pc + 3)) : V Z nL I lv (.int y :: .int x :: st) cells slots pc := by
  obtain ⟨p, l, e, R, s, m, args, below, meth, c, Q, D, tC, A, ρ0, I0⟩ := Z
  obtain ⟨⟨hx, hb, hml, hown, hts⟩, hU, hlk, hret, rfl, rfl, rfl⟩ := X
  intro ρ H locs ls hH hE hlo hL hcL hcS
  refine va_mmin hx hb (by rw [hml]; exact hL.1.symm) hown (hts _ hw) (hts _ (inA1 175 rfl rfl)) (hts _ (inA1 8 rfl rfl)) (hts _ (inA1 176 rfl rfl)) hf ?_ hce hsl d (k ρ H locs ls hH hE hlo hL hcL (clS_cons clV_i (clS_tl (clS_tl hcS))))
  rw [List.map_map, show ((fun v : Value => v.category) ∘ cv ρ) = fun v => v.category from funext (cv_cat ρ)]
  exact hl
theorem V_mmaxL {idx : Nat} {x y : Int64} (X : Fx Z l0 R0 cc nL own ret Post) (d : decode cc pc = .ok (.invokestatic idx, 3)) (hw : Cond.methodLink own idx Lib.MathLoose.max_long.x ∈ wsA) (hf : 1 ≤ R0.frames) (hl : (st.map fun v => v.category).sum + 15 ≤ R0.locals) (hce : cells ≤ R0.cells) (hsl : slots ≤ R0.slots) (k : V Z nL I lv (.long (if y < x then x else y) :: st) cells slots (pc + 3)) : V Z nL I lv (.long y :: .long x :: st) cells slots pc := by
  obtain ⟨p, l, e, R, s, m, args, below, meth, c, Q, D, tC, A, ρ0, I0⟩ := Z
  obtain ⟨⟨hx, hb, hml, hown, hts⟩, hU, hlk, hret, rfl, rfl, rfl⟩ := X
  intro ρ H locs ls hH hE hlo hL hcL hcS
  refine va_mmax_long hx hb (by rw [hml]; exact hL.1.symm) hown (hts _ hw) (hts _ (inA2 10 rfl rfl)) (hts _ (inA1 8 rfl rfl)) (hts _ (inA2 11 rfl rfl)) hf ?_ hce hsl d (k ρ H locs ls hH hE hlo hL hcL (clS_cons clV_l (clS_tl (clS_tl hcS))))
  rw [List.map_map, show ((fun v : Value => v.category) ∘ cv ρ) = fun v => v.category from funext (cv_cat ρ)]
  exact hl
theorem V_mminL {idx : Nat} {x y : Int64} (X : Fx Z l0 R0 cc nL own ret Post) (d : decode cc pc = .ok (.invokestatic idx, 3)) (hw : Cond.methodLink own idx Lib.MathLoose.min_long.x ∈ wsA) (hf : 1 ≤ R0.frames) (hl : (st.map fun v => v.category).sum + 15 ≤ R0.locals) (hce : cells ≤ R0.cells) (hsl : slots ≤ R0.slots) (k : V Z nL I lv (.long (if y < x then y else x) :: st) cells slots (pc + 3)) : V Z nL I lv (.long y :: .long x :: st) cells slots pc := by
  obtain ⟨p, l, e, R, s, m, args, below, meth, c, Q, D, tC, A, ρ0, I0⟩ := Z
  obtain ⟨⟨hx, hb, hml, hown, hts⟩, hU, hlk, hret, rfl, rfl, rfl⟩ := X
  intro ρ H locs ls hH hE hlo hL hcL hcS
  refine va_mmin_long hx hb (by rw [hml]; exact hL.1.symm) hown (hts _ hw) (hts _ (inA2 13 rfl rfl)) (hts _ (inA1 8 rfl rfl)) (hts _ (inA2 14 rfl rfl)) hf ?_ hce hsl d (k ρ H locs ls hH hE hlo hL hcL (clS_cons clV_l (clS_tl (clS_tl hcS))))
  rw [List.map_map, show ((fun v : Value => v.category) ∘ cv ρ) = fun v => v.category from funext (cv_cat ρ)]
  exact hl
end MathRows
