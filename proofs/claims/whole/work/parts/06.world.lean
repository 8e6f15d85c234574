/-! writing and making in the ideal heap -/
theorem cv_congr {I : aH} {ρ ρ' : Nat → Nat} (h : ∀ β, dm I β → ρ' β = ρ β) {v : Value} (hv : clV I v) : cv ρ' v = cv ρ v := by
  cases v with
  | ref a => simp only [cv]; rw [h a (hv a rfl)]
  | _ => rfl
theorem cvS_congr {I : aH} {ρ ρ' : Nat → Nat} (h : ∀ β, dm I β → ρ' β = ρ β) {st : List Value} (hv : clS I st) : st.map (cv ρ') = st.map (cv ρ) := List.map_congr_left fun v hm => cv_congr h (hv v hm)
theorem cE_congr {I : aH} {tC : Nat → ClassId} {ρ ρ' : Nat → Nat} (h : ∀ β, dm I β → ρ' β = ρ β) {o : aO} (ho : clO I o) : cE tC ρ' o = cE tC ρ o := by
  obtain ⟨t, n, f⟩ | ⟨c, fs⟩ := o
  · match f, ho with
    | .inl f, _ => rfl
    | .inr (.inl f), _ => rfl
    | .inr (.inr (.inl f)), _ => rfl
    | .inr (.inr (.inr (.inl f))), _ => rfl
    | .inr (.inr (.inr (.inr f))), ho =>
      have e : (fun j => (f j).map ρ') = (fun j => (f j).map ρ) := by
        funext j
        cases hj : f j with
        | none => rfl
        | some α => simp only [Option.map_some]; rw [h α (ho.1 t n f rfl j α hj)]
      simp only [cE, cA, e]
  · simp only [cE]
    rw [List.map_congr_left (fun v hm => cv_congr h (ho.2 c fs rfl v hm))]
theorem hasL.to {I : aH} {ρ ρ' : Nat → Nat} {nL : Nat} {ls : Array Slot} {lv : List (Option Value)} (h : ∀ β, dm I β → ρ' β = ρ β) (hc : clL I lv) (k : hasL ρ nL ls lv) : hasL ρ' nL ls lv :=
  ⟨k.1, k.2.1, fun i v hv => by rw [cv_congr h (clL_at hc hv)]; exact k.2.2 i v hv⟩
theorem clV.to {I I' : aH} (h : ∀ β, dm I β → dm I' β) {v : Value} (k : clV I v) : clV I' v := fun α q => h α (k α q)
theorem clO.to {I I' : aH} (h : ∀ β, dm I β → dm I' β) {o : aO} (k : clO I o) : clO I' o := ⟨fun t n f e j α q => h α (k.1 t n f e j α q), fun c fs e v hv => clV.to h (k.2 c fs e v hv)⟩
theorem clL.to {I I' : aH} (h : ∀ β, dm I β → dm I' β) {lv : List (Option Value)} (k : clL I lv) : clL I' lv := fun v hv => clV.to h (k v hv)
theorem clS.to {I I' : aH} (h : ∀ β, dm I β → dm I' β) {st : List Value} (k : clS I st) : clS I' st := fun v hv => clV.to h (k v hv)
theorem dm_hu {I : aH} {α : Nat} {o : aO} : ∀ β, dm I β → dm (hu I α o) β := by
  intro β h
  rcases h with h | h
  · refine Or.inl ?_
    unfold hu
    split
    · exact fun q => by cases q
    · exact h
  · exact Or.inr h
theorem ext_dm {ρ0 ρ : Nat → Nat} {I0 I : aH} (h : ext ρ0 I0 ρ I) : ∀ β, dm I0 β → dm I β := fun β q => q.elim (fun z => Or.inl (h.2.1 β z)) Or.inr
section World
variable {D : va_G} {tC : Nat → ClassId} {A : Nat → Prop} {ρ : Nat → Nat} {I : aH} {s : State} {H : Heap}
theorem zdC.moved {a : Nat} {u U : State} (hvm : u.vm.Alike U.vm) (h : zdC a u H) : zdC a U H := by
  obtain ⟨c, h1, h2, h3⟩ := h
  exact ⟨c, h1, State.isArrayOf_alike hvm h2, h3⟩
theorem scC.moved {u U : State} (hvm : u.vm.Alike U.vm) (h : scC ρ I u H) : scC ρ I U H := fun o ho => by
  obtain ⟨n, f, h1, h2⟩ := h o ho
  exact ⟨n, f, h1, va_X.moved hvm h2⟩
theorem zdC.kept {a : Nat} {H' : Heap} (hq : H'[a]? = H[a]?) (h : zdC a s H) : zdC a s H' := by
  obtain ⟨c, h1, h2⟩ := h
  exact ⟨c, hq.trans h1, h2⟩
theorem zdC.lt {a : Nat} (h : zdC a s H) : a < H.size := by
  obtain ⟨c, h1, -⟩ := h
  exact (Array.getElem?_eq_some_iff.mp h1).1
theorem vaX_lt {b L : Nat} {xs : Nat → Int32} (h : va_X b L xs s H) : b < H.size := by
  obtain ⟨c, h1, -⟩ := h
  exact (Array.getElem?_eq_some_iff.mp h1).1
theorem okH.moved {u U : State} (hvm : u.vm.Alike U.vm) (h : okH D tC A ρ I u H) : okH D tC A ρ I U H := ⟨h.1, h.2.1, h.2.2.1, h.2.2.2.1, h.2.2.2.2.1, va_Z.moved hvm h.2.2.2.2.2.1, h.2.2.2.2.2.2.1, h.2.2.2.2.2.2.2.1, zdC.moved hvm h.2.2.2.2.2.2.2.2.1, scC.moved hvm h.2.2.2.2.2.2.2.2.2⟩
theorem okH.P {α : Nat} {o : aO} (h : okH D tC A ρ I s H) (hα : I α = some o) (hr : ¬ ro α) : va_P D vwCl [(ρ α, cE tC ρ o)] H := by
  intro k q hk
  have hz : k < 1 := (List.getElem?_eq_some_iff.mp hk).1
  rw [show k = 0 by omega] at hk
  cases hk
  exact h.1 α o hα hr
/-- an object is none of the read-only ones -/
theorem okH.nob {α : Nat} {o : Nat × List Value} (h : okH D tC A ρ I s H) (hα : I α = some (.inr o)) : ¬ ro α := by
  rintro (rfl | rfl)
  · rw [h.2.2.2.2.2.2.1] at hα
    cases hα
  · obtain ⟨n, f, h1, -⟩ := h.2.2.2.2.2.2.2.2.2 _ hα
    cases h1
theorem okH.nty {α t : Nat} {x : vp_A} (h : okH D tC A ρ I s H) (hα : I α = some (.inl (t, x))) (h0 : t ≠ 0) (h3 : t ≠ 3) : ¬ ro α := by
  rintro (rfl | rfl)
  · rw [h.2.2.2.2.2.2.1] at hα
    cases hα
    exact h3 rfl
  · obtain ⟨n, f, h1, -⟩ := h.2.2.2.2.2.2.2.2.2 _ hα
    cases h1
    exact h0 rfl
theorem okH.lt {α : Nat} {o : aO} (h : okH D tC A ρ I s H) (hα : I α = some o) : ρ α < H.size := by
  by_cases hr : ro α
  · rcases hr with rfl | rfl
    · exact h.2.2.2.2.2.2.2.2.1.lt
    · obtain ⟨n, f, -, h2⟩ := h.2.2.2.2.2.2.2.2.2 _ hα
      exact vaX_lt h2
  · exact (h.1 α o hα hr).lt
theorem okH.inA {α : Nat} {o : aO} (h : okH D tC A ρ I s H) (hα : I α = some o) (hr : ¬ ro α) : A (ρ α) := (h.2.2.2.1 α (by rw [hα]; exact fun q => by cases q)).resolve_left hr
/-- a cell is written -/
theorem okH.write {α : Nat} {o o' : aO} {H' : Heap} (h : okH D tC A ρ I s H) (hα : I α = some o) (hr : ¬ ro α) (hcl : clO I o') (hat : va_at D vwCl (ρ α, cE tC ρ o') H') (hsz : H'.size = H.size) (hq : ∀ q, q ≠ ρ α → H'[q]? = H[q]?) : okH D tC A ρ (hu I α o') s H' := by
  have hA := h.inA hα hr
  have hne : I α ≠ none := by rw [hα]; exact fun q => by cases q
  obtain ⟨h1, h2, h3, h4, h5, h6, h7, h8, h9, h10⟩ := h
  have hdn : ∀ β, hu I α o' β ≠ none → I β ≠ none := by
    intro β hβ
    by_cases e : β = α
    · rw [e]; exact hne
    · rwa [hu_n e] at hβ
  refine ⟨?_, fun a b ha hb => h2 a b (hdn a ha) (hdn b hb), ?_, fun β hβ => h4 β (hdn β hβ), fun q hq2 => h5 q (by rw [← hsz]; exact hq2), va_Z.kept h6 (fun a ha hna => hq a (fun e => hna (e ▸ hA))), ?_, ?_, h9.kept (hq _ (fun q => hr (Or.inl (h2 α zed hne (by rw [h7]; exact fun q => by cases q) q.symm)))), ?_⟩
  · intro β b hb hrb
    by_cases e : β = α
    · subst e
      rw [hu_s] at hb
      cases hb
      exact hat
    · rw [hu_n e] at hb
      exact (h1 β b hb hrb).kept (hq _ (fun q => e (h2 β α (by rw [hb]; exact fun q => by cases q) hne q)))
  · intro β b hb
    by_cases e : β = α
    · subst e
      rw [hu_s] at hb
      cases hb
      exact hcl.to dm_hu
    · rw [hu_n e] at hb
      exact (h3 β b hb).to dm_hu
  · rw [hu_n (fun e => hr (Or.inl e.symm))]
    exact h7
  · by_cases e : mirr = α
    · rw [← e] at hne
      exact absurd h8 hne
    · rw [hu_n e]
      exact h8
  · intro b hb
    have e : scr ≠ α := fun e => hr (Or.inr e.symm)
    rw [hu_n e] at hb
    obtain ⟨n, f, g1, g2⟩ := h10 b hb
    exact ⟨n, f, g1, va_X.kept g2 (hq _ (fun q => e (h2 scr α (by rw [hb]; exact fun q => by cases q) hne q)))⟩
def ru (ρ : Nat → Nat) (α q : Nat) : Nat → Nat := fun β => if β = α then q else ρ β
theorem ru_eq {α q : Nat} (hα : I α = none) (hm : α ≠ mirr) : ∀ β, dm I β → ru ρ α q β = ρ β := by
  intro β hβ
  refine if_neg (fun e => ?_)
  subst e
  exact hβ.elim (fun z => z hα) hm
/-- a cell is made -/
theorem okH.make {α : Nat} {o : aO} {H' : Heap} (h : okH D tC A ρ I s H) (hα : I α = none) (hm : α ≠ mirr) (hr : ¬ ro α) (hcl : clO I o) (hat : va_at D vwCl (H.size, cE tC ρ o) H') (hsz : H'.size = H.size + 1) (hq : ∀ q, q < H.size → H'[q]? = H[q]?) : okH D tC A (ru ρ α H.size) (hu I α o) s H' := by
  have hru := ru_eq (ρ := ρ) (q := H.size) hα hm
  have hlt : ∀ β, I β ≠ none → ρ β < H.size := by
    intro β hβ
    cases hb : I β with
    | none => exact absurd hb hβ
    | some b => exact h.lt hb
  obtain ⟨h1, h2, h3, h4, h5, h6, h7, h8, h9, h10⟩ := h
  have hα' : ru ρ α H.size α = H.size := if_pos rfl
  have hβ' : ∀ β, β ≠ α → ru ρ α H.size β = ρ β := fun β e => if_neg e
  have hdn : ∀ β, β ≠ α → hu I α o β ≠ none → I β ≠ none := fun β e hβ => by rwa [hu_n e] at hβ
  refine ⟨?_, ?_, ?_, ?_, fun q hq2 => h5 q (by omega), ?_, ?_, ?_, ?_, ?_⟩
  · intro β b hb hrb
    by_cases e : β = α
    · subst e
      rw [hu_s] at hb
      cases hb
      rw [hα', cE_congr hru hcl]
      exact hat
    · rw [hu_n e] at hb
      rw [hβ' β e, cE_congr hru (h3 β b hb)]
      exact (h1 β b hb hrb).kept (hq _ ((h1 β b hb hrb).lt))
  · intro a b ha hb e
    by_cases ea : a = α
    · by_cases eb : b = α
      · rw [ea, eb]
      · rw [ea, hα', hβ' b eb] at e
        have := hlt b (hdn b eb hb)
        omega
    · by_cases eb : b = α
      · rw [eb, hα', hβ' a ea] at e
        have := hlt a (hdn a ea ha)
        omega
      · rw [hβ' a ea, hβ' b eb] at e
        exact h2 a b (hdn a ea ha) (hdn b eb hb) e
  · intro β b hb
    by_cases e : β = α
    · subst e
      rw [hu_s] at hb
      cases hb
      exact hcl.to dm_hu
    · rw [hu_n e] at hb
      exact (h3 β b hb).to dm_hu
  · intro β hβ
    by_cases e : β = α
    · subst e
      rw [hα']
      exact Or.inr (h5 _ (Nat.le_refl _))
    · rw [hβ' β e]
      exact h4 β (hdn β e hβ)
  · have e : ru ρ α H.size zed = ρ zed := if_neg (fun q => hr (Or.inl q.symm))
    unfold vaZ
    rw [e]
    exact va_Z.kept h6 (fun a ha _ => hq a ha)
  · rw [hu_n (fun e => hr (Or.inl e.symm))]
    exact h7
  · rw [hu_n (fun e => hm e.symm)]
    exact h8
  · have e : ru ρ α H.size zed = ρ zed := if_neg (fun q => hr (Or.inl q.symm))
    rw [e]
    exact h9.kept (hq _ h9.lt)
  · intro b hb
    have e : scr ≠ α := fun e => hr (Or.inr e.symm)
    rw [hu_n e] at hb
    obtain ⟨n, f, g1, g2⟩ := h10 b hb
    rw [hβ' scr e]
    exact ⟨n, f, g1, va_X.kept g2 (hq _ (vaX_lt g2))⟩
theorem ext_hu {ρ0 : Nat → Nat} {I0 : aH} {α : Nat} {o : aO} (h : ext ρ0 I0 ρ I) (hr : ¬ ro α) : ext ρ0 I0 ρ (hu I α o) := by
  refine ⟨h.1, fun β hβ => ?_, fun β hβ => ?_⟩
  · have := h.2.1 β hβ
    unfold hu
    split
    · exact fun q => by cases q
    · exact this
  · rw [hu_n (fun e : β = α => hr (by rw [← e]; exact hβ))]
    exact h.2.2 β hβ
theorem ext_ru {ρ0 : Nat → Nat} {I0 : aH} {α q : Nat} {o : aO} (h : ext ρ0 I0 ρ I) (hα : I α = none) (hm : α ≠ mirr) (hr : ¬ ro α) : ext ρ0 I0 (ru ρ α q) (hu I α o) := by
  have h2 := ext_hu (o := o) h hr
  refine ⟨fun β hβ => ?_, h2.2⟩
  rw [ru_eq hα hm β (ext_dm h β hβ)]
  exact h.1 β hβ
end World
theorem clO_set {I : aH} {c k : Nat} {fs : List Value} {v : Value} (h : clO I (.inr (c, fs))) (hv : clV I v) : clO I (.inr (c, fs.set k v)) := by
  refine ⟨fun t n f e => (by cases e), fun c' fs' e w hw => ?_⟩
  cases e
  rcases List.mem_or_eq_of_mem_set hw with q | q
  · exact h.2 c fs rfl w q
  · rw [q]; exact hv
theorem clO_up {I : aH} {t n i : Nat} {f : Nat → Option Nat} {x : Option Nat} (h : clO I (.inl (t, aR n f))) (hx : ∀ α, x = some α → dm I α) : clO I (.inl (t, aR n (va_up f i x))) := by
  refine ⟨fun t' n' f' e j α q => ?_, fun c fs e => (by cases e)⟩
  cases e
  unfold va_up at q
  split at q
  · exact hx α q
  · exact h.1 t n f rfl j α q
theorem clO_i {I : aH} {t n : Nat} {f : Nat → Int32} : clO I (.inl (t, aI n f)) := ⟨fun _ _ _ e => (by cases e), fun _ _ e => (by cases e)⟩
theorem clO_l {I : aH} {t n : Nat} {f : Nat → Int64} : clO I (.inl (t, aL n f)) := ⟨fun _ _ _ e => (by cases e), fun _ _ e => (by cases e)⟩
