/-! a constructor's call with up to twelve words below its receiver -/
section Wide
variable {p : Program} {l : Launch} {e : Env} {R : Room} {s : State} {m : MethodId} {args : Array Value} {below : List Frame} {meth : Method} {c : Code} {H : Heap} {locs : List Loc} {cells slots : Nat} {y : MethodName} {bytes cc : ByteArray} {maxL nL mc ms n index : Nat} {ws : List Cond} {rm : Room} {Pc : Array Value → State → Prop} {Qc : Array Value → State → Outcome → State → Prop} {free : Addr → Prop} {Ts : List Cond} {own : String} {b : Addr} {As rest : List Value} {g : JFrame}
theorem runI12 (S : CallFix p m c cc nL s args Ts own) (hM : Met l y ws rm Pc Qc mc ms free) (cw : CallB R s args own index y bytes maxL none ws rm mc ms n ∧ y.name = "<init>" ∧ (Cond.instanceMethod y).before args s = true) (hlo : 12 + (maxL + 11) + rm.locals ≤ R.locals) (hp : PreS s H Pc (.ref b :: As))
    (hg : g.method = m) (hn : As.length = n) (hsize : g.locals.size = nL) (hstack : g.stack = As.reverse ++ .ref b :: rest) (hW : 2 * g.monitorRoom + (rest.map fun v => v.category).sum ≤ 12) (hdg : decode cc g.pc = .ok (.invokespecial index, 3)) (hf : cells + mc ≤ R.cells ∧ slots + ms ≤ R.slots) :
    va_Run p l e R s m args below meth c H locs cells slots mc ms g rest (Qc (Value.ref b :: As).toArray) (free) := by
  obtain ⟨⟨hrc, hrs, hfr, -, hws, hcw, hcode, hini, hy, hlen, hl⟩, hy1, hin⟩ := cw
  have hK : Back l R p e below s args y 3 12 (PreOf R mc ms Pc) (PostOf Qc mc ms free) := back_of (bytes := bytes) (maxL := maxL) (ret := none) hM hp.1 hrc hrs hfr hlo hws hcw (fun a' U hW => word_at hW (Or.inl (by first | rfl | simp [Cond.onTables, Cond.keeps, Cond.steady])) hini)
  obtain ⟨hx, hb, hml, ho, -⟩ := S
  intro T hT X
  obtain ⟨v, vm₁, ⟨U', l2, c2, s2⟩, hW₁, X', ⟨g', mk, t, L, e1, e2, hq, h1, hL, h2, h3⟩, st⟩ := callI X hx (bytes := bytes) (maxL := maxL) ho hy1 hl hin hcode hy hK hg (hsize.trans hml.symm) (a := b) (argsL := As) (rest := rest) (fun sig h => hn.trans (hlen sig h)) hstack hW (by rw [hb]; exact hdg)
    (fun vm₁ hW₁ => ⟨hf.1, hf.2, hp.2 (T.setVm vm₁) hT hW₁⟩)
  dsimp only [Pt.U, Pt.locs, Pt.cells, Pt.slots] at X' e1 e2 h1 h2 h3 st
  subst h1; subst h2; subst h3
  exact ⟨v, (T.setVm vm₁).calling g' mk (Value.ref b :: As).toArray, t, U', L, hT, X', hL, e1, e2, hq, st⟩
end Wide
section WideV
variable {Z : Zt} {l0 : Launch} {R0 : Room} {cc : ByteArray} {nL : Nat} {own : String} {ret : Option FieldType} {Post : Option Value → aH → Prop} {I : aH} {lv : List (Option Value)} {cells slots pc : Nat}
theorem V_callI2w {idx : Nat} {y : MethodName} {ccY : ByteArray} {maxY : Nat} {rm : Room} {b : Nat} {P : Option Value → aH → Prop} {a1 a2 : Value} {rest : List Value} (X : Fx Z l0 R0 cc nL own ret Post) (d : decode cc pc = .ok (.invokespecial idx, 3)) (M : MK own idx y ccY maxY none 2) (hi : y.name = "<init>" ∧ Cond.instanceMethod y ∈ wsA) (hM : AM l0 y ccY maxY none rm [.ref b, a1, a2] I P) (hw : (rest.map fun v => v.category).sum ≤ 12) (hR : rm.frames + 1 ≤ R0.frames ∧ 12 + (maxY + 11) + rm.locals ≤ R0.locals) (hf : cells + rm.cells ≤ R0.cells ∧ slots + rm.slots ≤ R0.slots)
    (kk : ∀ (r : Option Value) (I' : aH), P r I' → V Z nL I' lv (r.toList ++ rest) (cells + rm.cells) (slots + rm.slots) (pc + 3)) : V Z nL I lv (a2 :: a1 :: .ref b :: rest) cells slots pc := by
  obtain ⟨p, l, e, R, s, m, args, below, meth, c, Q, D, tC, A, ρ0, I0⟩ := Z
  obtain ⟨⟨hx, hb, hml, hown, hts⟩, hU, hlk, hret, rfl, rfl, rfl⟩ := X
  intro ρ H locs ls hH hE hlo hL hcL hcS
  have hcA : clS I [.ref b, a1, a2] := by
    intro w hw
    refine hcS w ?_
    simp only [List.mem_cons, List.not_mem_nil, or_false] at hw ⊢
    rcases hw with h | h | h
    · exact Or.inr (Or.inr (Or.inl h))
    · exact Or.inr (Or.inl h)
    · exact Or.inl h
  have hcR : clS I rest := fun w hw => hcS w (by simp [hw])
  have hmi : ρ mirr = ρ0 mirr := hE.1 mirr (Or.inr rfl)
  have hcw : CallB R s args own idx y ccY maxY none (.code y ccY maxY none :: wsA) rm rm.cells rm.slots 2 ∧ y.name = "<init>" ∧ (Cond.instanceMethod y).before args s = true := ⟨callB_of 2 hts (wsA_code M.2.2.1) rfl rfl rfl (hts _ M.2.1) (hts _ M.1) M.2.2.2 ⟨hR.1, by omega⟩, hi.1, hts _ hi.2⟩
  refine call_core (P := P) (rest := rest) (runI12 (b := ρ b) (As := [a1, a2].map (cv ρ)) ⟨hx, hb, hml, hown, hts⟩ (hM D tC A ρ hcA) hcw hR.2 ⟨pc_blind, fun U hUh hW => ⟨rfl, by rw [hUh]; exact okH.moved hW.alike hH, by rw [hmi]; exact okU.warm hW hU⟩⟩ rfl rfl hL.1 ?_ ?_ d hf) hE hlo hL hcL hcR kk
  · rfl
  · show 2 * 0 + _ ≤ 12
    rw [List.map_map, show ((fun v : Value => v.category) ∘ cv ρ) = fun v => v.category from funext (cv_cat ρ)]
    omega
end WideV
