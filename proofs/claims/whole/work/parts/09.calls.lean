/-! a method's start -/
def lvA : List Value → List (Option Value)
  | [] => []
  | v :: vs => if v.category = 2 then some v :: none :: lvA vs else some v :: lvA vs
def lv0 (av : List Value) (n : Nat) : List (Option Value) := lvA av ++ List.replicate (n - (lvA av).length) none
theorem lvA_len (ρ : Nat → Nat) : ∀ av : List Value, (lg_sl (av.map (cv ρ))).length = (lvA av).length
  | [] => rfl
  | v :: vs => by
    have ih := lvA_len ρ vs
    unfold lg_sl at ih ⊢
    rw [List.map_cons, List.flatMap_cons, List.length_append, ih, cv_cat]
    rw [lvA]
    split <;> simp <;> omega
theorem lvA_in (ρ : Nat → Nat) : ∀ (av : List Value) (k0 k : Nat) (v : Value), (lvA av)[k]? = some (some v) → (k0 + k, cv ρ v) ∈ lv_args k0 (av.map (cv ρ))
  | [], _, _, _, h => by simp [lvA] at h
  | u :: us, k0, k, v, h => by
    rw [List.map_cons, lv_args, cv_cat]
    unfold lvA at h
    split at h
    · rename_i hc
      match k, h with
      | 0, h =>
        simp at h
        subst h
        exact List.mem_cons_self
      | 1, h => simp at h
      | k + 2, h =>
        simp at h
        have := lvA_in ρ us (k0 + 2) k v h
        rw [show k0 + (k + 2) = k0 + 2 + k by omega]
        rw [if_pos hc]
        exact List.mem_cons_of_mem _ this
    · rename_i hc
      match k, h with
      | 0, h =>
        simp at h
        subst h
        exact List.mem_cons_self
      | k + 1, h =>
        simp at h
        have := lvA_in ρ us (k0 + 1) k v h
        rw [show k0 + (k + 1) = k0 + 1 + k by omega]
        rw [if_neg hc]
        exact List.mem_cons_of_mem _ this
theorem lvA_mem : ∀ {av : List Value} {v : Value}, some v ∈ lvA av → v ∈ av
  | [], _, h => by simp [lvA] at h
  | u :: us, v, h => by
    unfold lvA at h
    split at h
    · simp at h
      rcases h with rfl | h
      · exact List.mem_cons_self
      · exact List.mem_cons_of_mem _ (lvA_mem h)
    · simp at h
      rcases h with rfl | h
      · exact List.mem_cons_self
      · exact List.mem_cons_of_mem _ (lvA_mem h)
theorem lv0_at {av : List Value} {n k : Nat} {v : Value} (h : (lv0 av n)[k]? = some (some v)) : (lvA av)[k]? = some (some v) := by
  unfold lv0 at h
  rw [List.getElem?_append] at h
  split at h
  · exact h
  · rw [List.getElem?_replicate] at h
    split at h <;> simp at h
theorem lv0_mem {av : List Value} {n : Nat} {v : Value} (h : some v ∈ lv0 av n) : v ∈ av := by
  unfold lv0 at h
  rcases List.mem_append.mp h with h | h
  · exact lvA_mem h
  · have := (List.mem_replicate.mp h).2
    cases this
theorem AM_of {l : Launch} {y : MethodName} {cc : ByteArray} {maxL : Nat} {ret : Option FieldType} {rm : Room} {av : List Value} {I0 : aH} {Post : Option Value → aH → Prop} (own : String) (hy : plainName y.cls = true) (ho : y.cls = own) (lvl : List (Option Value)) (hlv : lv0 av maxL = lvl) (hlen : (lvA av).length ≤ maxL)
    (body : ∀ Z, Fx Z l rm cc maxL own ret Post → Nm Z y.name → V Z maxL I0 lvl [] 0 0 0) : AM l y cc maxL ret rm av I0 Post := by
  intro D tC A ρ0 hcl
  refine Met.ofW (cc := cc) (maxL := maxL) (ret := ret) hy rfl ?_
  intro p e s m args below meth c s₁ B hml hv
  obtain ⟨rfl, hH, hU⟩ := hv
  have hts := atoms_spec (ws := Cond.code y cc maxL ret :: wsA) B.pre
  have hown : s.vm.findClass y.cls = some m.cls := findClass_of_methodNamed B.named
  have hlocks := B.notSynchronized
  have hname := (name_of_methodNamed B.named B.method).1
  rw [lg_entry_eq]
  have hl := lv_entry (av.map (cv ρ0)) (n := maxL) (by rw [lvA_len]; exact hlen)
  subst ho
  subst hlv
  exact body (p, l, e, rm, s, m, (av.map (cv ρ0)).toArray, below, meth, c, MQ below (QcV D tC A ρ0 I0 Post) (av.map (cv ρ0)).toArray s rm.cells rm.slots A, D, tC, A, ρ0, I0) ⟨⟨B.exec, B.bytes, hml, hown, fun w hw => hts w (List.mem_cons_of_mem _ hw)⟩, hU, hlocks, B.returns, rfl, rfl, rfl⟩ hname ρ0 s.heap [] _ hH ext.rf (fun _ h => by cases h)
    ⟨hl.1, hl.2.1, fun k v hk => hl.2.2 (k, cv ρ0 v) (by have := lvA_in ρ0 av 0 k v (lv0_at hk); rwa [Nat.zero_add] at this)⟩ (fun v hv => hcl v (lv0_mem hv)) (fun _ h => by cases h)
/-- a method's entry in the tables -/
def MK (own : String) (idx : Nat) (y : MethodName) (cc : ByteArray) (maxL : Nat) (ret : Option FieldType) (n : Nat) : Prop := Cond.methodLink own idx y ∈ wsA ∧ Cond.initialized y.cls ∈ wsA ∧ Cond.code y cc maxL ret ∈ wsA ∧ (y.cls ≠ "java/lang/invoke/MethodHandle" ∧ y.cls ≠ "java/lang/invoke/VarHandle" ∧ (parseMethodDescriptor y.desc).map (fun d => d.parameters.length) = some n)
theorem pc_blind {D : va_G} {tC : Nat → ClassId} {A : Nat → Prop} {ρ : Nat → Nat} {I : aH} {av : List Value} : FrameBlind (fun a U => a = (av.map (cv ρ)).toArray ∧ okH D tC A ρ I U U.heap ∧ okU D tC (ρ mirr) U) := by
  intro a U g mk h
  refine ⟨h.1, okH.moved (u := U) (U := U.calling g mk a) (Vm.Alike.refl U.vm) h.2.1, ?_⟩
  obtain ⟨h1, h2, h3, h4, h5⟩ := h.2.2
  refine ⟨va_K.moved (u := U) (U := U.calling g mk a) (Vm.Alike.refl U.vm) h1, fun w hw => ?_, va_AO.moved (u := U) (U := U.calling g mk a) (Vm.Alike.refl U.vm) h3, va_AO.moved (u := U) (U := U.calling g mk a) (Vm.Alike.refl U.vm) h4, va_Mi.moved (u := U) (U := U.calling g mk a) (Vm.Alike.refl U.vm) h5⟩
  have hz := h2 w hw
  refine va_Nw.same ?_ (rfl : U.vm = (U.calling g mk a).vm) hz
  simp only [nwL, List.mem_cons, List.not_mem_nil, or_false] at hw
  rcases hw with rfl | rfl | rfl | rfl | rfl | rfl | rfl | rfl | rfl | rfl <;> rfl
theorem toL_map {f : Value → Value} (r : Option Value) : (r.map f).toList = r.toList.map f := by cases r <;> rfl
section Calls
variable {Z : Zt} {l0 : Launch} {R0 : Room} {cc : ByteArray} {nL : Nat} {own : String} {ret : Option FieldType} {Post : Option Value → aH → Prop} {I : aH} {lv : List (Option Value)} {st : List Value} {cells slots pc : Nat}
/-- what is left behind any call -/
theorem call_core {p : Program} {l : Launch} {e : Env} {R : Room} {s : State} {m : MethodId} {args : Array Value} {below : List Frame} {meth : Method} {c : Code} {Q : State → Prop} {D : va_G} {tC : Nat → ClassId} {A : Nat → Prop} {ρ0 ρ : Nat → Nat} {I0 : aH} {H : Heap} {locs : List Loc} {ls : Array Slot} {rest st0 : List Value} {mc ms : Nat} {a : Array Value} {P : Option Value → aH → Prop}
    (hr : va_Run p l e R s m args below meth c H locs cells slots mc ms (F0 m pc ls st0) (rest.map (cv ρ)) (QcV D tC A ρ I P a) A) (hE : ext ρ0 I0 ρ I) (hlo : ∀ q ∈ locs, A q.base) (hL : hasL ρ nL ls lv) (hcL : clL I lv) (hcS : clS I rest)
    (kk : ∀ (r : Option Value) (I' : aH), P r I' → V (p, l, e, R, s, m, args, below, meth, c, Q, D, tC, A, ρ0, I0) nL I' lv (r.toList ++ rest) (cells + mc) (slots + ms) (pc + 3)) : W p l e R s m args below meth c H locs cells slots Q (F0 m pc ls st0) := by
  intro T hT Xs
  obtain ⟨v, st₀, t, T', L, h0, X', hLo, e1, e2, ⟨r, I', ρ', hv, hp, hok, hex, hcl⟩, stp⟩ := hr T hT Xs
  have hv : v = r.map (cv ρ') := by injection hv
  subst hv
  have hdm := ext_dm hex
  have hok' : okH D tC A ρ' I' s T'.heap := by
    rw [e1]
    exact okH.moved (by rw [← e2]; exact X'.warmed.alike.symm) hok
  have hst : clS I' (r.toList ++ rest) := by
    intro w hw
    rcases List.mem_append.mp hw with h | h
    · exact hcl w (by simpa using h)
    · exact clV.to hdm (hcS w h)
  have hlo' : ∀ q ∈ locs ++ L, A q.base := by
    intro q hq
    rcases List.mem_append.mp hq with h | h
    · exact hlo q h
    · exact hLo q h
  obtain ⟨t2, a1, b1⟩ := kk r I' hp ρ' T'.heap (locs ++ L) ls hok' (hE.tr hex) hlo' (hL.to (fun β hβ => hex.1 β hβ) hcL) (hcL.to hdm) hst T' rfl X'
  rw [List.map_append, cvS_congr (fun β hβ => hex.1 β hβ) hcS, ← toL_map] at a1
  exact ⟨t2, stp t2 a1, b1⟩
theorem V_callV {idx : Nat} {y : MethodName} {ccY : ByteArray} {maxY n : Nat} {retY : Option FieldType} {rm : Room} {b : Nat} {P : Option Value → aH → Prop} {ci : Nat} {T : u_T} {N : Nat} {fs : List Value} (X : Fx Z l0 R0 cc nL own ret Post) (d : decode cc pc = .ok (.invokevirtual idx, 3)) (M : MK own idx y ccY maxY retY n) (hi : Cond.instanceMethod y ∈ wsA ∧ Cond.selects y.cls y y ∈ wsA) (As rest : List Value) (hM : AM l0 y ccY maxY retY rm (.ref b :: As) I P) (hst : st = As.reverse ++ .ref b :: rest) (hob : I b = some (.inr (ci, fs))) (hci : vwCl[ci]? = some (y.cls, T, N)) (hn : As.length = n) (hw : (rest.map fun v => v.category).sum ≤ 8) (hR : rm.frames + 1 ≤ R0.frames ∧ 8 + (maxY + 11) + rm.locals ≤ R0.locals) (hf : cells + rm.cells ≤ R0.cells ∧ slots + rm.slots ≤ R0.slots)
    (kk : ∀ (r : Option Value) (I' : aH), P r I' → V Z nL I' lv (r.toList ++ rest) (cells + rm.cells) (slots + rm.slots) (pc + 3)) : V Z nL I lv st cells slots pc := by
  obtain ⟨p, l, e, R, s, m, args, below, meth, c, Q, D, tC, A, ρ0, I0⟩ := Z
  obtain ⟨⟨hx, hb, hml, hown, hts⟩, hU, hlk, hret, rfl, rfl, rfl⟩ := X
  intro ρ H locs ls hH hE hlo hL hcL hcS
  subst hst
  have hcA : clS I (.ref b :: As) := by
    refine clS_cons (hcS _ (List.mem_append_right _ List.mem_cons_self)) (fun w hw => hcS w (List.mem_append_left _ (List.mem_reverse.mpr hw)))
  have hcR : clS I rest := fun w hw => hcS w (List.mem_append_right _ (List.mem_cons_of_mem _ hw))
  have hmi : ρ mirr = ρ0 mirr := hE.1 mirr (Or.inr rfl)
  have hcw : CallW R s args own y.cls idx y ccY maxY retY (.code y ccY maxY retY :: wsA) rm rm.cells rm.slots n := ⟨callB_of n hts (wsA_code M.2.2.1) rfl rfl rfl (hts _ M.2.1) (hts _ M.1) M.2.2.2 hR, hts _ hi.1, hts _ hi.2⟩
  refine call_core (P := P) (rest := rest) (va_runV (C := y.cls) (As := As.map (cv ρ)) ⟨hx, hb, hml, hown, hts⟩ (hM D tC A ρ hcA) hcw ⟨pc_blind, va_recv hU.1 (hH.P hob (hH.nob hob)) hci (q0 := 0) rfl, fun U hUh hW => ⟨rfl, by rw [hUh]; exact okH.moved hW.alike hH, by rw [hmi]; exact okU.warm hW hU⟩⟩ rfl (by rw [List.length_map]; exact hn) hL.1 ?_ ?_ d hf) hE hlo hL hcL hcR kk
  · show List.map (cv ρ) (As.reverse ++ .ref b :: rest) = _
    rw [List.map_append, List.map_reverse, List.map_cons]
    rfl
  · show 2 * 0 + _ ≤ 8
    rw [List.map_map, show ((fun v : Value => v.category) ∘ cv ρ) = fun v => v.category from funext (cv_cat ρ)]
    omega
theorem V_callS {idx : Nat} {y : MethodName} {ccY : ByteArray} {maxY n : Nat} {retY : Option FieldType} {rm : Room} {P : Option Value → aH → Prop} (X : Fx Z l0 R0 cc nL own ret Post) (d : decode cc pc = .ok (.invokestatic idx, 3)) (M : MK own idx y ccY maxY retY n) (hi : Cond.static y ∈ wsA) (As rest : List Value) (hM : AM l0 y ccY maxY retY rm As I P) (hst : st = As.reverse ++ rest) (hn : As.length = n) (hw : (rest.map fun v => v.category).sum ≤ 8) (hR : rm.frames + 1 ≤ R0.frames ∧ 8 + (maxY + 11) + rm.locals ≤ R0.locals) (hf : cells + rm.cells ≤ R0.cells ∧ slots + rm.slots ≤ R0.slots)
    (kk : ∀ (r : Option Value) (I' : aH), P r I' → V Z nL I' lv (r.toList ++ rest) (cells + rm.cells) (slots + rm.slots) (pc + 3)) : V Z nL I lv st cells slots pc := by
  obtain ⟨p, l, e, R, s, m, args, below, meth, c, Q, D, tC, A, ρ0, I0⟩ := Z
  obtain ⟨⟨hx, hb, hml, hown, hts⟩, hU, hlk, hret, rfl, rfl, rfl⟩ := X
  intro ρ H locs ls hH hE hlo hL hcL hcS
  subst hst
  have hcA : clS I As := fun w hw => hcS w (List.mem_append_left _ (List.mem_reverse.mpr hw))
  have hcR : clS I rest := fun w hw => hcS w (List.mem_append_right _ hw)
  have hmi : ρ mirr = ρ0 mirr := hE.1 mirr (Or.inr rfl)
  have hcw : CallB R s args own idx y ccY maxY retY (.code y ccY maxY retY :: wsA) rm rm.cells rm.slots n ∧ (Cond.static y).before args s = true := ⟨callB_of n hts (wsA_code M.2.2.1) rfl rfl rfl (hts _ M.2.1) (hts _ M.1) M.2.2.2 hR, hts _ hi⟩
  refine call_core (P := P) (rest := rest) (va_runS (As := As.map (cv ρ)) ⟨hx, hb, hml, hown, hts⟩ (hM D tC A ρ hcA) hcw ⟨pc_blind, fun U hUh hW => ⟨rfl, by rw [hUh]; exact okH.moved hW.alike hH, by rw [hmi]; exact okU.warm hW hU⟩⟩ rfl (by rw [List.length_map]; exact hn) hL.1 ?_ ?_ d hf) hE hlo hL hcL hcR kk
  · show List.map (cv ρ) (As.reverse ++ rest) = _
    rw [List.map_append, List.map_reverse]
  · show 2 * 0 + _ ≤ 8
    rw [List.map_map, show ((fun v : Value => v.category) ∘ cv ρ) = fun v => v.category from funext (cv_cat ρ)]
    omega
theorem V_callSN {idx : Nat} {y : MethodName} {host : String} {ccY : ByteArray} {maxY n : Nat} {retY : Option FieldType} {rm : Room} {P : Option Value → aH → Prop} (X : Fx Z l0 R0 cc nL own ret Post) (d : decode cc pc = .ok (.invokestatic idx, 3)) (M0 : Cond.methodLinkNest own idx y host ∈ nwL) (M1 : Cond.initialized y.cls ∈ wsA) (M2 : Cond.code y ccY maxY retY ∈ wsA) (M3 : y.cls ≠ "java/lang/invoke/MethodHandle" ∧ y.cls ≠ "java/lang/invoke/VarHandle" ∧ (parseMethodDescriptor y.desc).map (fun d => d.parameters.length) = some n) (hi : Cond.static y ∈ wsA) (As rest : List Value) (hM : AM l0 y ccY maxY retY rm As I P) (hst : st = As.reverse ++ rest) (hn : As.length = n) (hw : (rest.map fun v => v.category).sum ≤ 8) (hR : rm.frames + 1 ≤ R0.frames ∧ 8 + (maxY + 11) + rm.locals ≤ R0.locals) (hf : cells + rm.cells ≤ R0.cells ∧ slots + rm.slots ≤ R0.slots)
    (kk : ∀ (r : Option Value) (I' : aH), P r I' → V Z nL I' lv (r.toList ++ rest) (cells + rm.cells) (slots + rm.slots) (pc + 3)) : V Z nL I lv st cells slots pc := by
  obtain ⟨p, l, e, R, s, m, args, below, meth, c, Q, D, tC, A, ρ0, I0⟩ := Z
  obtain ⟨⟨hx, hb, hml, hown, hts⟩, hU, hlk, hret, rfl, rfl, rfl⟩ := X
  intro ρ H locs ls hH hE hlo hL hcL hcS
  subst hst
  have hcA : clS I As := fun w hw => hcS w (List.mem_append_left _ (List.mem_reverse.mpr hw))
  have hcR : clS I rest := fun w hw => hcS w (List.mem_append_right _ hw)
  have hmi : ρ mirr = ρ0 mirr := hE.1 mirr (Or.inr rfl)
  have hcw : va_CN R s args own idx y host ccY maxY retY (.code y ccY maxY retY :: wsA) rm rm.cells rm.slots n ∧ (Cond.static y).before args s = true ∧ True := ⟨va_cnB n hts (wsA_code M2) rfl rfl rfl (hU.2.1 _ M0) (hts _ M1) M3 hR, hts _ hi, trivial⟩
  refine call_core (P := P) (rest := rest) (va_runSN (As := As.map (cv ρ)) ⟨hx, hb, hml, hown, hts⟩ (hM D tC A ρ hcA) hcw ⟨pc_blind, fun U hUh hW => ⟨rfl, by rw [hUh]; exact okH.moved hW.alike hH, by rw [hmi]; exact okU.warm hW hU⟩⟩ rfl (by rw [List.length_map]; exact hn) hL.1 ?_ ?_ d hf) hE hlo hL hcL hcR kk
  · show List.map (cv ρ) (As.reverse ++ rest) = _
    rw [List.map_append, List.map_reverse]
  · show 2 * 0 + _ ≤ 8
    rw [List.map_map, show ((fun v : Value => v.category) ∘ cv ρ) = fun v => v.category from funext (cv_cat ρ)]
    omega
theorem V_callI {idx : Nat} {y : MethodName} {ccY : ByteArray} {maxY n : Nat} {rm : Room} {b : Nat} {P : Option Value → aH → Prop} (X : Fx Z l0 R0 cc nL own ret Post) (d : decode cc pc = .ok (.invokespecial idx, 3)) (M : MK own idx y ccY maxY none n) (hi : y.name = "<init>" ∧ Cond.instanceMethod y ∈ wsA) (As rest : List Value) (hM : AM l0 y ccY maxY none rm (.ref b :: As) I P) (hst : st = As.reverse ++ .ref b :: rest) (hn : As.length = n) (hw : (rest.map fun v => v.category).sum ≤ 8) (hR : rm.frames + 1 ≤ R0.frames ∧ 8 + (maxY + 11) + rm.locals ≤ R0.locals) (hf : cells + rm.cells ≤ R0.cells ∧ slots + rm.slots ≤ R0.slots)
    (kk : ∀ (r : Option Value) (I' : aH), P r I' → V Z nL I' lv (r.toList ++ rest) (cells + rm.cells) (slots + rm.slots) (pc + 3)) : V Z nL I lv st cells slots pc := by
  obtain ⟨p, l, e, R, s, m, args, below, meth, c, Q, D, tC, A, ρ0, I0⟩ := Z
  obtain ⟨⟨hx, hb, hml, hown, hts⟩, hU, hlk, hret, rfl, rfl, rfl⟩ := X
  intro ρ H locs ls hH hE hlo hL hcL hcS
  subst hst
  have hcA : clS I (.ref b :: As) := by
    refine clS_cons (hcS _ (List.mem_append_right _ List.mem_cons_self)) (fun w hw => hcS w (List.mem_append_left _ (List.mem_reverse.mpr hw)))
  have hcR : clS I rest := fun w hw => hcS w (List.mem_append_right _ (List.mem_cons_of_mem _ hw))
  have hmi : ρ mirr = ρ0 mirr := hE.1 mirr (Or.inr rfl)
  have hcw : CallB R s args own idx y ccY maxY none (.code y ccY maxY none :: wsA) rm rm.cells rm.slots n ∧ y.name = "<init>" ∧ (Cond.instanceMethod y).before args s = true := ⟨callB_of n hts (wsA_code M.2.2.1) rfl rfl rfl (hts _ M.2.1) (hts _ M.1) M.2.2.2 hR, hi.1, hts _ hi.2⟩
  refine call_core (P := P) (rest := rest) (va_runI (b := ρ b) (As := As.map (cv ρ)) ⟨hx, hb, hml, hown, hts⟩ (hM D tC A ρ hcA) hcw ⟨pc_blind, fun U hUh hW => ⟨rfl, by rw [hUh]; exact okH.moved hW.alike hH, by rw [hmi]; exact okU.warm hW hU⟩⟩ rfl (by rw [List.length_map]; exact hn) hL.1 ?_ ?_ d hf) hE hlo hL hcL hcR kk
  · show List.map (cv ρ) (As.reverse ++ .ref b :: rest) = _
    rw [List.map_append, List.map_reverse, List.map_cons]
    rfl
  · show 2 * 0 + _ ≤ 8
    rw [List.map_map, show ((fun v : Value => v.category) ∘ cv ρ) = fun v => v.category from funext (cv_cat ρ)]
    omega
/-- the ends -/
theorem V_iret {v : Int32} {ty : FieldType} (X : Fx Z l0 R0 cc nL own (some ty) Post) (d : decode cc pc = .ok (.ireturn, 1)) (hn : narrow ty (.int v) = .int v) (hce : cells ≤ R0.cells) (hsl : slots ≤ R0.slots) (hp : Post (some (.int v)) I) : V Z nL I lv [.int v] cells slots pc := by
  obtain ⟨p, l, e, R, s, m, args, below, meth, c, Q, D, tC, A, ρ0, I0⟩ := Z
  obtain ⟨⟨hx, hb, hml, hown, hts⟩, hU, hlk, hret, rfl, rfl, rfl⟩ := X
  intro ρ H locs ls hH hE hlo hL hcL hcS
  refine W.widen hce hsl ?_
  exact W.zret hx hb hret hn (fun t ht hW => ⟨some (.int v), I, ρ, rfl, hp, by rw [ht]; exact okH.moved hW.alike hH, hE, fun w hw => by cases hw; exact clV_i⟩) hlo d hlk
theorem V_lret {v : Int64} (X : Fx Z l0 R0 cc nL own (some .long) Post) (d : decode cc pc = .ok (.lreturn, 1)) (hce : cells ≤ R0.cells) (hsl : slots ≤ R0.slots) (hp : Post (some (.long v)) I) : V Z nL I lv [.long v] cells slots pc := by
  obtain ⟨p, l, e, R, s, m, args, below, meth, c, Q, D, tC, A, ρ0, I0⟩ := Z
  obtain ⟨⟨hx, hb, hml, hown, hts⟩, hU, hlk, hret, rfl, rfl, rfl⟩ := X
  intro ρ H locs ls hH hE hlo hL hcL hcS
  refine W.widen hce hsl ?_
  exact W.lret hx hb hret (fun t ht hW => ⟨some (.long v), I, ρ, rfl, hp, by rw [ht]; exact okH.moved hW.alike hH, hE, fun w hw => by cases hw; exact clV_l⟩) hlo d hlk
theorem V_vret (X : Fx Z l0 R0 cc nL own none Post) (d : decode cc pc = .ok (.return_, 1)) (hce : cells ≤ R0.cells) (hsl : slots ≤ R0.slots) (hp : Post none I) : V Z nL I lv [] cells slots pc := by
  obtain ⟨p, l, e, R, s, m, args, below, meth, c, Q, D, tC, A, ρ0, I0⟩ := Z
  obtain ⟨⟨hx, hb, hml, hown, hts⟩, hU, hlk, hret, rfl, rfl, rfl⟩ := X
  intro ρ H locs ls hH hE hlo hL hcL hcS
  refine W.widen hce hsl ?_
  exact W.vret hx hb hret (fun t ht hW => ⟨none, I, ρ, rfl, hp, by rw [ht]; exact okH.moved hW.alike hH, hE, fun w hw => by cases hw⟩) hlo d hlk
theorem V_aret {v : Value} {rt : FieldType} (X : Fx Z l0 R0 cc nL own (some rt) Post) (d : decode cc pc = .ok (.areturn, 1)) (hrt : (∃ n, rt = .object n) ∨ ∃ t, rt = .array t) (hv : isR v = true) (hce : cells ≤ R0.cells) (hsl : slots ≤ R0.slots) (hp : Post (some v) I) : V Z nL I lv [v] cells slots pc := by
  obtain ⟨p, l, e, R, s, m, args, below, meth, c, Q, D, tC, A, ρ0, I0⟩ := Z
  obtain ⟨⟨hx, hb, hml, hown, hts⟩, hU, hlk, hret, rfl, rfl, rfl⟩ := X
  intro ρ H locs ls hH hE hlo hL hcL hcS
  refine W.widen hce hsl ?_
  have hv2 : cv ρ v = .null ∨ ∃ a, cv ρ v = .ref a := by
    rcases isR_or hv with rfl | ⟨a, rfl⟩
    · exact Or.inl rfl
    · exact Or.inr ⟨_, rfl⟩
  exact W.aret hx hb hret hrt hv2 (fun t ht hW => ⟨some v, I, ρ, rfl, hp, by rw [ht]; exact okH.moved hW.alike hH, hE, fun w hw => by cases hw; exact clS_hd hcS⟩) hlo d hlk
theorem V_objInit {idx α : Nat} (X : Fx Z l0 R0 cc nL own ret Post) (d : decode cc pc = .ok (.invokespecial idx, 3)) (h1 : Cond.methodLink own idx Lib.objectInit ∈ wsA) (h2 : Cond.instanceMethod Lib.objectInit ∈ wsA) (h3 : Cond.code Lib.objectInit ⟨#[0xb1]⟩ 1 none ∈ wsA) (hf : 1 ≤ R0.frames) (hw : (st.map fun v => v.category).sum + 12 ≤ R0.locals) (k : V Z nL I lv st cells slots (pc + 3)) : V Z nL I lv (.ref α :: st) cells slots pc := by
  obtain ⟨p, l, e, R, s, m, args, below, meth, c, Q, D, tC, A, ρ0, I0⟩ := Z
  obtain ⟨⟨hx, hb, hml, hown, hts⟩, hU, hlk, hret, rfl, rfl, rfl⟩ := X
  intro ρ H locs ls hH hE hlo hL hcL hcS
  refine W.objInit hx hb hown (hts _ h1) (hts _ h2) (hts _ h3) rfl (by rw [hml]; exact hL.1) rfl d hf ?_ (k ρ H locs ls hH hE hlo hL hcL (clS_tl hcS))
  show 2 * 0 + _ + 12 ≤ _
  rw [List.map_map, show ((fun v : Value => v.category) ∘ cv ρ) = fun v => v.category from funext (cv_cat ρ)]
  omega
theorem V_widen {c2 s2 : Nat} (h1 : cells ≤ c2) (h2 : slots ≤ s2) (k : V Z nL I lv st c2 s2 pc) : V Z nL I lv st cells slots pc := by
  obtain ⟨p, l, e, R, s, m, args, below, meth, c, Q, D, tC, A, ρ0, I0⟩ := Z
  intro ρ H locs ls hH hE hlo hL hcL hcS
  exact W.widen h1 h2 (k ρ H locs ls hH hE hlo hL hcL hcS)
end Calls
