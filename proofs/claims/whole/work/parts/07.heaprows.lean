/-! rows for fields, arrays, calls, ends -/
def CI (ci : Nat) (C : String) (T : u_T) (N : Nat) (ty : Nat → FieldType) : Prop := vwCl[ci]? = some (C, T, N) ∧ (∀ w ∈ u_ws C T N, w ∈ wsA) ∧ (∀ k, k < N → parseFieldDescriptor (T k).2.2.1 = some (ty k)) ∧ (∀ a, a < N → ∀ b, b < N → a ≠ b → (T a).2.1 ≠ (T b).2.1)
theorem ws_of {C : String} {T : u_T} {N : Nat} (h : ∀ k, k < N → u_lay C T k ∈ wsA) : ∀ w ∈ u_ws C T N, w ∈ wsA := by
  intro w hw
  obtain ⟨k, hk, rfl⟩ := List.mem_map.mp hw
  exact h k (List.mem_range.mp hk)
/-- a field's entry: class ci, its field k, final or not, its type -/
def FK (own : String) (idx ci k : Nat) (fin : Bool) (fty : FieldType) : Prop := ∃ (C : String) (T : u_T) (N : Nat) (ty : Nat → FieldType) (ref : String), CI ci C T N ty ∧ k < N ∧ Cond.fieldLink own idx ref (T k).2.1 (T k).2.2.1 ∈ wsA ∧ (ref = (T k).1 ∨ Cond.sameField ref (T k).1 (T k).2.1 (T k).2.2.1 ∈ wsA) ∧ (T k).2.2.2 = fin ∧ ty k = fty
/-- a final field's entry, in its own constructor -/
def FP (own : String) (idx ci k : Nat) (fty : FieldType) : Prop := ∃ (C : String) (T : u_T) (N : Nat) (ty : Nat → FieldType) (ref : String), CI ci C T N ty ∧ k < N ∧ Cond.fieldLink own idx ref (T k).2.1 (T k).2.2.1 ∈ wsA ∧ (ref = (T k).1 ∨ Cond.sameField ref (T k).1 (T k).2.1 (T k).2.2.1 ∈ wsA) ∧ (T k).2.2.2 = true ∧ ty k = fty ∧ (T k).1 = own
/-- a made object's entry -/
def NK (own : String) (idx ci N : Nat) (fs : List Value) : Prop := ∃ (C : String) (T : u_T) (ty : Nat → FieldType), CI ci C T N ty ∧ Cond.classLink own idx C ∈ wsA ∧ Cond.instantiable C N ∈ wsA ∧ Cond.initialized C ∈ wsA ∧ (∀ j, j < N → defaultValue (ty j) = vp_V fs j) ∧ (∀ v ∈ fs, ∀ a, v ≠ .ref a)
def Nm (Z : Zt) (n : String) : Prop := match Z with
  | (_, _, _, _, _, _, _, _, meth, _) => meth.name = n
theorem nar_cv {ρ : Nat → Nat} {ty : FieldType} {v : Value} (h : narrow ty v = v) : narrow ty (cv ρ v) = cv ρ v := by
  cases v with
  | ref a => cases ty <;> rfl
  | _ => exact h
theorem fit_cv {ρ : Nat → Nat} {ty : FieldType} {v : Value} (h : fits ty v = true) : fits ty (cv ρ v) = true := by
  cases v with
  | ref a => cases ty <;> first | exact h | cases h
  | _ => exact h
theorem set_map {ρ : Nat → Nat} {fs : List Value} {k : Nat} {v : Value} : (fs.map (cv ρ)).set k (cv ρ v) = (fs.set k v).map (cv ρ) := by rw [List.map_set]
section Heap
variable {Z : Zt} {l0 : Launch} {R0 : Room} {cc : ByteArray} {nL : Nat} {own : String} {ret : Option FieldType} {Post : Option Value → aH → Prop} {I : aH} {lv : List (Option Value)} {st : List Value} {cells slots pc : Nat}
theorem V_get {idx ci k α : Nat} {fs : List Value} {v : Value} {fin : Bool} {fty : FieldType} (X : Fx Z l0 R0 cc nL own ret Post) (d : decode cc pc = .ok (.getfield idx, 3)) (F : FK own idx ci k fin fty) (h : I α = some (.inr (ci, fs))) (hv : fs[k]? = some v) (kk : V Z nL I lv (v :: st) cells slots (pc + 3)) : V Z nL I lv (.ref α :: st) cells slots pc := by
  obtain ⟨p, l, e, R, s, m, args, below, meth, c, Q, D, tC, A, ρ0, I0⟩ := Z
  obtain ⟨⟨hx, hb, hml, hown, hts⟩, hU, hlk, hret, rfl, rfl, rfl⟩ := X
  intro ρ H locs ls hH hE hlo hL hcL hcS
  obtain ⟨C, T, N, ty, ref, ⟨hc, hin, hty, hnm⟩, hk, hl, hsm, -⟩ := F
  refine va_get (ref := ref) hx hb hts hin hown hU.1 (hH.P h (hH.nob h)) 0 rfl hc k hk (hts _ hl) ?_ (v := cv ρ v) ?_ d (kk ρ H locs ls hH hE hlo hL hcL (clS_cons ((hH.2.2.1 α _ h).2 ci fs rfl v (List.mem_of_getElem? hv)) (clS_tl hcS)))
  · intro x hx
    rcases hsm with rfl | hsm
    · exact hx
    · exact u_same (hts _ hsm) x hx
  · rw [List.getElem?_map, hv]
    rfl
theorem V_put {idx ci k α : Nat} {fs : List Value} {v : Value} {fty : FieldType} (X : Fx Z l0 R0 cc nL own ret Post) (d : decode cc pc = .ok (.putfield idx, 3)) (F : FK own idx ci k false fty) (h : I α = some (.inr (ci, fs))) (hr : ¬ ro α) (hl0 : k < fs.length) (hn : narrow fty v = v) (hf : fits fty v = true) (kk : V Z nL (hu I α (.inr (ci, fs.set k v))) lv st cells slots (pc + 3)) : V Z nL I lv (v :: .ref α :: st) cells slots pc := by
  obtain ⟨p, l, e, R, s, m, args, below, meth, c, Q, D, tC, A, ρ0, I0⟩ := Z
  obtain ⟨⟨hx, hb, hml, hown, hts⟩, hU, hlk, hret, rfl, rfl, rfl⟩ := X
  intro ρ H locs ls hH hE hlo hL hcL hcS
  obtain ⟨C, T, N, ty, ref, ⟨hc, hin, hty, hnm⟩, hk, hl, hsm, hfin, rfl⟩ := F
  have hap := va_apart (own := own) hts hin ty hty hnm hU.1 hc
  obtain ⟨r, h1, cell, q1, q2, q3, q4⟩ := hH.1 α _ h hr
  have hrr : r = (C, T, N) := Option.some.inj (h1.symm.trans hc)
  subst hrr
  obtain ⟨hS, hfc, kC, hkC, hkind⟩ := hU.1.1 ci _ hc
  obtain ⟨cf, kf, fi, f, hi, hsl⟩ := hS k hk
  have hlay := hts _ (hin _ (u_in_lay hk))
  unfold u_lay at hlay
  rw [if_neg (by rw [hfin]; decide)] at hlay
  have hst := (u_facts hfc hkC (u_lays hts hin hk) hi).1
  have h6 := u_store hfc hkC hkind hlay hi (hty k hk) (nar_cv (ρ := ρ) hn) (fit_cv (ρ := ρ) hf)
  have hsame : s.fieldFound? ref (T k).2.1 (T k).2.2.1 = some (cf, kf, fi, f) := by
    rcases hsm with rfl | hsm
    · exact hi
    · exact u_same (hts _ hsm) _ hi
  have hcv : clV I v := clS_hd hcS
  have hA := hH.inA h hr
  refine W.putK hx hb (f := f) ⟨hown, hts _ hl, ⟨_, _, _, hsame⟩, hst⟩ (by rw [q2]; exact h6) q1 q3 (by rw [hsl]; exact k2_hasslot (q4 k hk)) rfl rfl d fun H' e1 e2 e3 => ?_
  rw [hsl] at e1 ⊢
  refine kk ρ H' _ ls (hH.write h hr (clO_set (hH.2.2.1 α _ h) hcv) ?_ e2 e3) (ext_hu hE hr) ?_ hL (hcL.to dm_hu) ((clS_tl (clS_tl hcS)).to dm_hu)
  · refine ⟨_, hc, t_OB.to (V := updV (vp_V (fs.map (cv ρ))) k (cv ρ v)) ⟨_, e1, q2, q3, t_set q4 hap hk (cv ρ v)⟩ (fun j _ => ?_)⟩
    rw [vp_updV_set (by rw [List.length_map]; exact hl0), set_map]
  · intro q hq
    rcases List.mem_append.mp hq with hq | hq
    · exact hlo q hq
    · rw [List.mem_singleton.mp hq]
      exact hA
theorem V_putF {idx ci k α : Nat} {fs : List Value} {v : Value} {fty : FieldType} (X : Fx Z l0 R0 cc nL own ret Post) (hmn : Nm Z "<init>") (d : decode cc pc = .ok (.putfield idx, 3)) (F : FP own idx ci k fty) (h : I α = some (.inr (ci, fs))) (hr : ¬ ro α) (hl0 : k < fs.length) (hn : narrow fty v = v) (hf : fits fty v = true) (kk : V Z nL (hu I α (.inr (ci, fs.set k v))) lv st cells slots (pc + 3)) : V Z nL I lv (v :: .ref α :: st) cells slots pc := by
  obtain ⟨p, l, e, R, s, m, args, below, meth, c, Q, D, tC, A, ρ0, I0⟩ := Z
  obtain ⟨⟨hx, hb, hml, hown, hts⟩, hU, hlk, hret, rfl, rfl, rfl⟩ := X
  intro ρ H locs ls hH hE hlo hL hcL hcS
  obtain ⟨C, T, N, ty, ref, ⟨hc, hin, hty, hnm⟩, hk, hl, hsm, hfin, rfl, hdecl⟩ := F
  have hap := va_apart (own := own) hts hin ty hty hnm hU.1 hc
  obtain ⟨r, h1, cell, q1, q2, q3, q4⟩ := hH.1 α _ h hr
  have hrr : r = (C, T, N) := Option.some.inj (h1.symm.trans hc)
  subst hrr
  obtain ⟨hS, hfc, kC, hkC, hkind⟩ := hU.1.1 ci _ hc
  obtain ⟨cf, kf, fi, f, hi, hsl⟩ := hS k hk
  have hlay := hts _ (hin _ (u_in_lay hk))
  unfold u_lay at hlay
  rw [if_pos hfin] at hlay
  have hst := (u_facts hfc hkC (u_lays hts hin hk) hi).1
  have hcf : m.cls = cf := by
    obtain ⟨_, _, c', _, _, _, -, -, hf', -, -, -, hown2, -⟩ := Cond.laysFinal_spec hlay
    have e1 : c' = cf := by have := hi.symm.trans hf'; simp at this; exact this.1.symm
    rw [hdecl] at hown2
    rw [← e1]; exact Option.some.inj (hown.symm.trans hown2)
  have h6 := u_fits hfc hkC hkind (Or.inr hlay) hi (hty k hk) (nar_cv (ρ := ρ) hn) (fit_cv (ρ := ρ) hf)
  have hsame : s.fieldFound? ref (T k).2.1 (T k).2.2.1 = some (cf, kf, fi, f) := by
    rcases hsm with rfl | hsm
    · exact hi
    · exact u_same (hts _ hsm) _ hi
  have hcv : clV I v := clS_hd hcS
  have hA := hH.inA h hr
  refine W.putFinK hx hb hown (hts _ hl) hsame hst hcf hmn (by rw [q2]; exact h6) q1 q3 (by rw [hsl]; exact k2_hasslot (q4 k hk)) rfl rfl d fun H' e1 e2 e3 => ?_
  rw [hsl] at e1 ⊢
  refine kk ρ H' _ ls (hH.write h hr (clO_set (hH.2.2.1 α _ h) hcv) ?_ e2 e3) (ext_hu hE hr) ?_ hL (hcL.to dm_hu) ((clS_tl (clS_tl hcS)).to dm_hu)
  · refine ⟨_, hc, t_OB.to (V := updV (vp_V (fs.map (cv ρ))) k (cv ρ v)) ⟨_, e1, q2, q3, t_set q4 hap hk (cv ρ v)⟩ (fun j _ => ?_)⟩
    rw [vp_updV_set (by rw [List.length_map]; exact hl0), set_map]
  · intro q hq
    rcases List.mem_append.mp hq with hq | hq
    · exact hlo q hq
    · rw [List.mem_singleton.mp hq]
      exact hA
theorem vpV_map {ρ : Nat → Nat} {fs : List Value} (h : ∀ v ∈ fs, ∀ a, v ≠ .ref a) (j : Nat) : vp_V fs j = vp_V (fs.map (cv ρ)) j := by
  unfold vp_V
  rw [List.getD_eq_getElem?_getD, List.getD_eq_getElem?_getD, List.getElem?_map]
  cases hj : fs[j]? with
  | none => rfl
  | some v =>
    have := h v (List.mem_of_getElem? hj)
    cases v with
    | ref a => exact absurd rfl (this a)
    | _ => rfl
theorem V_new {idx ci N : Nat} {fs : List Value} (X : Fx Z l0 R0 cc nL own ret Post) (d : decode cc pc = .ok (.new idx, 3)) (F : NK own idx ci N fs) (α : Nat) (h : I α = none) (hm : α ≠ mirr) (hr : ¬ ro α) (hce : cells + 1 ≤ R0.cells) (hsl : slots + N ≤ R0.slots) (kk : V Z nL (hu I α (.inr (ci, fs))) lv (.ref α :: st) (cells + 1) (slots + N) (pc + 3)) : V Z nL I lv st cells slots pc := by
  obtain ⟨p, l, e, R, s, m, args, below, meth, c, Q, D, tC, A, ρ0, I0⟩ := Z
  obtain ⟨⟨hx, hb, hml, hown, hts⟩, hU, hlk, hret, rfl, rfl, rfl⟩ := X
  intro ρ H locs ls hH hE hlo hL hcL hcS
  obtain ⟨C, T, ty, ⟨hc, hin, hty, hnm⟩, hcl, hinst, hini, hfs, hnr⟩ := F
  have hKn := hU.1.1 ci _ hc
  refine W.newcK hx hb hown (hts _ hcl) (hts _ hinst) (hts _ hini) rfl d hce hsl hKn.2.1 rfl fun H1 kC hkC e1 z1 o1 => ?_
  have hat : va_at D vwCl (H.size, cE tC ρ (.inr (ci, fs))) H1 := ⟨_, hc, (u_born ty hts hin hKn hkC e1 hty).to (fun j hj => (hfs j hj).trans (vpV_map hnr j))⟩
  have hclo : clO I (.inr (ci, fs)) := ⟨fun t n f e => (by cases e), fun c' fs' e v hv a ea => absurd ea (hnr v (by cases e; exact hv) a)⟩
  have k1 := kk (ru ρ α H.size) H1 locs ls (hH.make h hm hr hclo hat z1 o1) (ext_ru hE h hm hr) hlo (hL.to (ru_eq h hm) hcL) (hcL.to dm_hu) (clS_cons (clV_r (by rw [hu_s]; exact fun q => by cases q)) (hcS.to dm_hu))
  rw [List.map_cons, cvS_congr (ru_eq h hm) hcS] at k1
  have e2 : cv (ru ρ α H.size) (.ref α) = .ref H.size := by simp [cv, ru]
  rw [e2] at k1
  exact k1
theorem newa_core {D : va_G} {tC : Nat → ClassId} {s : State} (hK : va_K D vwCl (tyL tC) s) {cA0 : ClassId} {ty : FieldType} {t : Nat} (ht : (tyL tC)[t]? = some (tC t, ty)) (ho : ∀ C, ty ≠ .object C) (hf : s.vm.findClass ("[" ++ ty.toString) = some cA0) : cA0 = tC t := by
  have h := (hK.2 t _ ht).2
  have h2 : s.vm.findClass ("[" ++ ty.toString) = some (tC t) := by
    cases ty <;> first | exact h | exact absurd rfl (ho _)
  exact Option.some.inj (hf.symm.trans h2)
theorem V_newarray {atype : ArrayType} {n : Int32} {a0 : vp_A} {t : Nat} {ty : FieldType} (X : Fx Z l0 R0 cc nL own ret Post) (d : decode cc pc = .ok (.newarray atype, 2)) (N' : Nat) (hw : Cond.arrayClass (newarray.typeOf atype) ∈ wsA) (hty : newarray.typeOf atype = ty) (ht : ∀ tC, (tyL tC)[t]? = some (tC t, ty)) (ho : ∀ C, ty ≠ .object C) (ha : ∀ cA : ClassId, vp_cell cA a0 = arrV cA N' (fun _ => defaultValue ty)) (hca : ∀ ρ, cA ρ a0 = a0) (hcl : ∀ I, clO I (.inl (t, a0))) (hn : ¬ n < 0) (hN : n.toNatClampNeg = N') (hby : N' * componentBytes ty ≤ 536870912) (α : Nat) (h : I α = none) (hm : α ≠ mirr) (hr : ¬ ro α) (hce : cells + 1 ≤ R0.cells) (hsl : slots + N' ≤ R0.slots) (kk : V Z nL (hu I α (.inl (t, a0))) lv (.ref α :: st) (cells + 1) (slots + N') (pc + 2)) : V Z nL I lv (.int n :: st) cells slots pc := by
  obtain ⟨p, l, e, R, s, m, args, below, meth, c, Q, D, tC, A, ρ0, I0⟩ := Z
  obtain ⟨⟨hx, hb, hml, hown, hts⟩, hU, hlk, hret, rfl, rfl, rfl⟩ := X
  intro ρ H locs ls hH hE hlo hL hcL hcS
  subst hty
  refine va_newaK hx hb (hts _ hw) rfl d rfl hn hN hby hce hsl rfl fun H1 cA1 e1 z1 o1 hAr hNm => ?_
  have hcA := newa_core hU.1 (ht tC) ho hNm
  subst hcA
  have hat : va_at D vwCl (H.size, cE tC ρ (.inl (t, a0))) H1 := by
    show H1[H.size]? = some (vp_cell (tC t) (cA ρ a0))
    rw [hca, ha]
    exact e1
  have k1 := kk (ru ρ α H.size) H1 locs ls (hH.make h hm hr (hcl I) hat z1 o1) (ext_ru hE h hm hr) hlo (hL.to (ru_eq h hm) hcL) (hcL.to dm_hu) (clS_cons (clV_r (by rw [hu_s]; exact fun q => by cases q)) ((clS_tl hcS).to dm_hu))
  rw [List.map_cons, cvS_congr (ru_eq h hm) (clS_tl hcS)] at k1
  have e2 : cv (ru ρ α H.size) (.ref α) = .ref H.size := by simp [cv, ru]
  rw [e2] at k1
  exact k1
theorem V_anewarray {idx t : Nat} {C : String} {n : Int32} (X : Fx Z l0 R0 cc nL own ret Post) (d : decode cc pc = .ok (.anewarray idx, 3)) (N' : Nat) (hw : Cond.classLink own idx C ∈ wsA) (ht : ∀ tC, (tyL tC)[t]? = some (tC t, .object C)) (hC : C = sOb ∨ C = RX0) (hn : ¬ n < 0) (hN : n.toNatClampNeg = N') (hby : N' * 4 ≤ 536870912) (α : Nat) (h : I α = none) (hm : α ≠ mirr) (hr : ¬ ro α) (hce : cells + 1 ≤ R0.cells) (hsl : slots + N' ≤ R0.slots) (kk : V Z nL (hu I α (.inl (t, aR N' (fun _ => none)))) lv (.ref α :: st) (cells + 1) (slots + N') (pc + 3)) : V Z nL I lv (.int n :: st) cells slots pc := by
  obtain ⟨p, l, e, R, s, m, args, below, meth, c, Q, D, tC, A, ρ0, I0⟩ := Z
  obtain ⟨⟨hx, hb, hml, hown, hts⟩, hU, hlk, hret, rfl, rfl, rfl⟩ := X
  intro ρ H locs ls hH hE hlo hL hcL hcS
  subst hN
  have hover : va_AO C s := by
    rcases hC with rfl | rfl
    · exact hU.2.2.1
    · exact hU.2.2.2.1
  refine W.anew hx hb hown (hts _ hw) (va_AO.use hover) rfl d rfl hn hby hce hsl fun cA1 kA comp f1 f2 f3 f4 => ?_
  obtain ⟨kA', comp', g1, g2, g3, g4⟩ := (hU.1.2 t _ (ht tC)).2
  have hcA : cA1 = tC t := Option.some.inj (f1.symm.trans g4)
  subst hcA
  generalize hH1 : H.push ({ cls := tC t, slots := Array.replicate n.toNatClampNeg .null, vm := .none } : Cell) = H1
  have z1 : H1.size = H.size + 1 := by rw [← hH1, Array.size_push]
  have e1 : H1[H.size]? = some (arrV (tC t) n.toNatClampNeg (fun _ => .null)) := by rw [← hH1, Array.getElem?_push_size, ← arrV_new]
  have o1 : ∀ q : Nat, q < H.size → H1[q]? = H[q]? := fun q hq => by rw [← hH1, Array.getElem?_push, if_neg (Nat.ne_of_lt hq)]
  have hat : va_at D vwCl (H.size, cE tC ρ (.inl (t, aR n.toNatClampNeg (fun _ => none)))) H1 := by
    show H1[H.size]? = some (vp_cell (tC t) _)
    rw [e1]
    rfl
  have hclo : clO I (.inl (t, aR n.toNatClampNeg (fun _ => none))) := ⟨fun t n f e j α q => (by cases e; cases q), fun c' fs' e => (by cases e)⟩
  have k1 := kk (ru ρ α H.size) H1 locs ls (hH.make h hm hr hclo hat z1 o1) (ext_ru hE h hm hr) hlo (hL.to (ru_eq h hm) hcL) (hcL.to dm_hu) (clS_cons (clV_r (by rw [hu_s]; exact fun q => by cases q)) ((clS_tl hcS).to dm_hu))
  rw [List.map_cons, cvS_congr (ru_eq h hm) (clS_tl hcS)] at k1
  have e2 : cv (ru ρ α H.size) (.ref α) = .ref H.size := by simp [cv, ru]
  rw [e2] at k1
  exact k1
end Heap
