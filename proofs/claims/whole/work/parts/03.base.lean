/-! THE WORDS: all of the tables' that keep over a call -/
def wsA : List Cond := lw_tbl.filter goodWord
theorem inA {w : Cond} (h : w ∈ tables_1) (g : goodWord w = true) : w ∈ wsA := List.mem_filter.mpr ⟨List.mem_append_right _ h, g⟩
theorem inP {w : Cond} (h : w ∈ k2_sels lw_privs) (g : goodWord w = true) : w ∈ wsA := List.mem_filter.mpr ⟨List.mem_append_left _ h, g⟩
theorem inA1 {w : Cond} (i : Nat) (h : tables_1_1[i]? = some w) (g : goodWord w = true) : w ∈ wsA := inA (List.mem_append_left _ (List.mem_of_getElem? h)) g
theorem inA2 {w : Cond} (i : Nat) (h : tables_1_2[i]? = some w) (g : goodWord w = true) : w ∈ wsA := inA (List.mem_append_right _ (List.mem_append_left _ (List.mem_of_getElem? h))) g
theorem inA3 {w : Cond} (i : Nat) (h : tables_1_3[i]? = some w) (g : goodWord w = true) : w ∈ wsA := inA (List.mem_append_right _ (List.mem_append_right _ (List.mem_append_left _ (List.mem_of_getElem? h)))) g
theorem inA4 {w : Cond} (i : Nat) (h : tables_1_4[i]? = some w) (g : goodWord w = true) : w ∈ wsA := inA (List.mem_append_right _ (List.mem_append_right _ (List.mem_append_right _ (List.mem_append_left _ (List.mem_of_getElem? h))))) g
theorem inA5 {w : Cond} (i : Nat) (h : tables_1_5[i]? = some w) (g : goodWord w = true) : w ∈ wsA := inA (List.mem_append_right _ (List.mem_append_right _ (List.mem_append_right _ (List.mem_append_right _ (List.mem_append_left _ (List.mem_of_getElem? h)))))) g
theorem inA6 {w : Cond} (i : Nat) (h : tables_1_6[i]? = some w) (g : goodWord w = true) : w ∈ wsA := inA (List.mem_append_right _ (List.mem_append_right _ (List.mem_append_right _ (List.mem_append_right _ (List.mem_append_right _ (List.mem_of_getElem? h)))))) g
theorem inQ {w : Cond} (i : Nat) (h : (k2_sels lw_privs)[i]? = some w) (g : goodWord w = true) : w ∈ wsA := inP (List.mem_of_getElem? h) g
theorem wsA_good : GoodIn wsA wsA := fun w h => ⟨h, good_of_word (List.mem_filter.mp h).2⟩
theorem wsA_code {w : Cond} (h : w ∈ wsA) : GoodIn wsA (w :: wsA) := fun u hu => (List.mem_cons.mp hu).elim (fun e => e ▸ wsA_good w h) (wsA_good u)
/-! THE IDEAL HEAP. Objects and arrays stand at ideal addresses kd kind index generation; a renaming ρ takes them to the machine's. -/
theorem kd_pw : ∀ (a b x y : Nat), 2 ^ a * (2 * x + 1) = 2 ^ b * (2 * y + 1) → a = b ∧ x = y
  | 0, 0, x, y, h => by simp at h; omega
  | 0, b + 1, x, y, h => by
    exfalso
    have e : 2 ^ (b + 1) * (2 * y + 1) = 2 * (2 ^ b * (2 * y + 1)) := by rw [Nat.pow_succ, Nat.mul_comm (2 ^ b) 2, Nat.mul_assoc]
    rw [e] at h
    simp at h
    omega
  | a + 1, 0, x, y, h => by
    exfalso
    have e : 2 ^ (a + 1) * (2 * x + 1) = 2 * (2 ^ a * (2 * x + 1)) := by rw [Nat.pow_succ, Nat.mul_comm (2 ^ a) 2, Nat.mul_assoc]
    rw [e] at h
    simp at h
    omega
  | a + 1, b + 1, x, y, h => by
    have e : 2 ^ (a + 1) * (2 * x + 1) = 2 * (2 ^ a * (2 * x + 1)) := by rw [Nat.pow_succ, Nat.mul_comm (2 ^ a) 2, Nat.mul_assoc]
    have f : 2 ^ (b + 1) * (2 * y + 1) = 2 * (2 ^ b * (2 * y + 1)) := by rw [Nat.pow_succ, Nat.mul_comm (2 ^ b) 2, Nat.mul_assoc]
    rw [e, f] at h
    obtain ⟨h1, h2⟩ := kd_pw a b x y (Nat.eq_of_mul_eq_mul_left (by decide) h)
    exact ⟨by rw [h1], h2⟩
def kd (k i g : Nat) : Nat := 2 ^ k * (2 * (2 ^ i * (2 * g + 1)) + 1)
theorem kd_eq {k i g k' i' g' : Nat} : kd k i g = kd k' i' g' ↔ k = k' ∧ i = i' ∧ g = g' := by
  constructor
  · intro h
    obtain ⟨h1, h2⟩ := kd_pw _ _ _ _ h
    obtain ⟨h3, h4⟩ := kd_pw _ _ _ _ h2
    exact ⟨h1, h3, h4⟩
  · rintro ⟨rfl, rfl, rfl⟩
    rfl
theorem kd_ne {k i g k' i' g' : Nat} (h : ¬ (k = k' ∧ i = i' ∧ g = g')) : kd k i g ≠ kd k' i' g' := fun q => h (kd_eq.mp q)
theorem kd_nk {k i g k' i' g' : Nat} (h : k ≠ k') : kd k i g ≠ kd k' i' g' := kd_ne fun q => h q.1
theorem kd_ni {k i g k' i' g' : Nat} (h : i ≠ i') : kd k i g ≠ kd k' i' g' := kd_ne fun q => h q.2.1
theorem kd_ng {k i g k' i' g' : Nat} (h : g ≠ g') : kd k i g ≠ kd k' i' g' := kd_ne fun q => h q.2.2
abbrev aO : Type := (Nat × vp_A) ⊕ (Nat × List Value)
abbrev aH : Type := Nat → Option aO
/-- a heap with one more, or another, cell -/
def hu (I : aH) (α : Nat) (o : aO) : aH := fun β => if β = α then some o else I β
theorem hu_s {I : aH} {α : Nat} {o : aO} : hu I α o α = some o := if_pos rfl
theorem hu_n {I : aH} {α β : Nat} {o : aO} (h : β ≠ α) : hu I α o β = I β := if_neg h
def zed : Nat := kd 0 0 0
def mirr : Nat := kd 0 1 0
def scr : Nat := kd 0 2 0
def ro (α : Nat) : Prop := α = zed ∨ α = scr
theorem ro_k {k i g : Nat} (h : k ≠ 0) : ¬ ro (kd k i g) := fun q => q.elim (kd_nk h) (kd_nk h)
def cv (ρ : Nat → Nat) : Value → Value
  | .ref a => .ref (ρ a)
  | v => v
def cA (ρ : Nat → Nat) (a : vp_A) : vp_A := (a.1, match a.2 with
  | .inr (.inr (.inr (.inr f))) => .inr (.inr (.inr (.inr (fun j => (f j).map ρ))))
  | x => x)
def cE (tC : Nat → ClassId) (ρ : Nat → Nat) : aO → va_E
  | .inl a => .inl (tC a.1, cA ρ a.2)
  | .inr o => .inr (o.1, o.2.map (cv ρ))
def dm (I : aH) (α : Nat) : Prop := I α ≠ none ∨ α = mirr
def clV (I : aH) (v : Value) : Prop := ∀ α, v = .ref α → dm I α
def clO (I : aH) (o : aO) : Prop := (∀ (t n : Nat) (f : Nat → Option Nat), o = .inl (t, n, .inr (.inr (.inr (.inr f)))) → ∀ (j α : Nat), f j = some α → dm I α) ∧ (∀ (c : Nat) (fs : List Value), o = .inr (c, fs) → ∀ v ∈ fs, clV I v)
abbrev aR (n : Nat) (f : Nat → Option Nat) : vp_A := (n, .inr (.inr (.inr (.inr f))))
abbrev aI (n : Nat) (f : Nat → Int32) : vp_A := (n, .inl f)
abbrev aL (n : Nat) (f : Nat → Int64) : vp_A := (n, .inr (.inl f))
abbrev sOb : String := "java/lang/Object"
def tyL (tC : Nat → ClassId) : List (ClassId × FieldType) := [(tC 0, .int), (tC 1, .long), (tC 2, .boolean), (tC 3, .object sOb), (tC 4, .object RX0)]
def nwL : List Cond := [.castable RX0 sOb, .castable RX1 sOb, .castable RX2 sOb, .castable RX3 sOb, .castable RX5 sOb, .castable RX6 sOb, .castable RX7 sOb, .methodLinkNest RX7 49 yX8_isWithin RX8, .methodLinkNest RX1 48 yX8_isWithin RX8, .declares ⟨sOb, "getClass", "()Ljava/lang/Class;"⟩]
/-- what the machine's tables say, at any state -/
def okU (D : va_G) (tC : Nat → ClassId) (mi : Nat) (U : State) : Prop := va_K D vwCl (tyL tC) U ∧ (∀ w ∈ nwL, va_Nw w U) ∧ va_AO sOb U ∧ va_AO RX0 U ∧ va_Mi "[Ljava/lang/Object;" mi U
theorem okU.warm {D : va_G} {tC : Nat → ClassId} {mi : Nat} {s U : State} (hW : s.WarmedH U.vm) (h : okU D tC mi s) : okU D tC mi U := by
  obtain ⟨h1, h2, h3, h4, h5⟩ := h
  refine ⟨va_K.moved hW.alike h1, ?_, va_AO.moved hW.alike h3, va_AO.moved hW.alike h4, va_Mi.moved hW.alike h5⟩
  intro w hw
  have hz := h2 w hw
  simp only [nwL, List.mem_cons, List.not_mem_nil, or_false] at hw
  rcases hw with rfl | rfl | rfl | rfl | rfl | rfl | rfl | rfl | rfl | rfl
  · exact va_Nw.warmC hW hz
  · exact va_Nw.warmC hW hz
  · exact va_Nw.warmC hW hz
  · exact va_Nw.warmC hW hz
  · exact va_Nw.warmC hW hz
  · exact va_Nw.warmC hW hz
  · exact va_Nw.warmC hW hz
  · exact va_Nw.warmM hW hz
  · exact va_Nw.warmM hW hz
  · exact va_Nw.warmD hW hz
abbrev vaZ (ρ : Nat → Nat) (A : Nat → Prop) (U : State) (H : Heap) : Prop := va_Z "java/util/ArrayList" "DEFAULTCAPACITY_EMPTY_ELEMENTDATA" "[Ljava/lang/Object;" (.ref (ρ zed)) A U H
/-- the empty list's own array, of which only this much is known -/
def zdC (a : Nat) (U : State) (H : Heap) : Prop := ∃ cell : Cell, H[a]? = some cell ∧ U.isArrayOf cell (.object sOb) ∧ cell.slots.size = 0
/-- the script -/
def scC (ρ : Nat → Nat) (I : aH) (U : State) (H : Heap) : Prop := ∀ o, I scr = some o → ∃ (n : Nat) (f : Nat → Int32), o = .inl (0, aI n f) ∧ va_X (ρ scr) n f U H
/-- the machine's heap H is the ideal heap I, by ρ; what may be written lies in A -/
def okH (D : va_G) (tC : Nat → ClassId) (A : Nat → Prop) (ρ : Nat → Nat) (I : aH) (U : State) (H : Heap) : Prop :=
  (∀ α o, I α = some o → ¬ ro α → va_at D vwCl (ρ α, cE tC ρ o) H) ∧ (∀ α β, I α ≠ none → I β ≠ none → ρ α = ρ β → α = β) ∧ (∀ α o, I α = some o → clO I o) ∧
  (∀ α, I α ≠ none → ro α ∨ A (ρ α)) ∧ (∀ q, H.size ≤ q → A q) ∧ vaZ ρ A U H ∧ I zed = some (.inl (3, aR 0 (fun _ => none))) ∧ I mirr = none ∧ zdC (ρ zed) U H ∧ scC ρ I U H
/-- ρ, I go on from ρ0, I0 -/
def ext (ρ0 : Nat → Nat) (I0 : aH) (ρ : Nat → Nat) (I : aH) : Prop := (∀ α, dm I0 α → ρ α = ρ0 α) ∧ (∀ α, I0 α ≠ none → I α ≠ none) ∧ (∀ α, ro α → I α = I0 α)
theorem ext.rf {ρ : Nat → Nat} {I : aH} : ext ρ I ρ I := ⟨fun _ _ => rfl, fun _ h => h, fun _ _ => rfl⟩
theorem ext.tr {ρ0 ρ1 ρ2 : Nat → Nat} {I0 I1 I2 : aH} (h : ext ρ0 I0 ρ1 I1) (k : ext ρ1 I1 ρ2 I2) : ext ρ0 I0 ρ2 I2 := by
  refine ⟨fun α hα => ?_, fun α hα => k.2.1 α (h.2.1 α hα), fun α hα => (k.2.2 α hα).trans (h.2.2 α hα)⟩
  rw [k.1 α (hα.elim (fun q => Or.inl (h.2.1 α q)) Or.inr), h.1 α hα]
def hasL (ρ : Nat → Nat) (nL : Nat) (ls : Array Slot) (lv : List (Option Value)) : Prop := ls.size = nL ∧ lv_wf ls ∧ ∀ (k : Nat) (v : Value), lv[k]? = some (some v) → ls[k]? = some (.val (cv ρ v))
def clL (I : aH) (lv : List (Option Value)) : Prop := ∀ v, some v ∈ lv → clV I v
def clS (I : aH) (st : List Value) : Prop := ∀ v ∈ st, clV I v
abbrev Zt : Type := Program × Launch × Env × Room × State × MethodId × Array Value × List Frame × Method × Code × (State → Prop) × va_G × (Nat → ClassId) × (Nat → Prop) × (Nat → Nat) × aH
/-- the machine comes to Z's end from here, whatever the real heap is that I stands for -/
def V (Z : Zt) (nL : Nat) (I : aH) (lv : List (Option Value)) (st : List Value) (cells slots pc : Nat) : Prop :=
  match Z with
  | (p, l, e, R, s, m, args, below, meth, c, Q, D, tC, A, ρ0, I0) => ∀ (ρ : Nat → Nat) (H : Heap) (locs : List Loc) (ls : Array Slot), okH D tC A ρ I s H → ext ρ0 I0 ρ I → (∀ q ∈ locs, A q.base) → hasL ρ nL ls lv → clL I lv → clS I st →
    W p l e R s m args below meth c H locs cells slots Q (F0 m pc ls (st.map (cv ρ)))
/-- a method's end -/
def QcV (D : va_G) (tC : Nat → ClassId) (A : Nat → Prop) (ρ0 : Nat → Nat) (I0 : aH) (Post : Option Value → aH → Prop) : Array Value → State → Outcome → State → Prop := fun _ _ o t =>
  ∃ (r : Option Value) (I : aH) (ρ : Nat → Nat), o = .returned (r.map (cv ρ)) ∧ Post r I ∧ okH D tC A ρ I t t.heap ∧ ext ρ0 I0 ρ I ∧ (∀ v, r = some v → clV I v)
/-- what stands fast in a method's walk -/
def Fx (Z : Zt) (l0 : Launch) (R0 : Room) (cc : ByteArray) (nL : Nat) (own : String) (ret : Option FieldType) (Post : Option Value → aH → Prop) : Prop :=
  match Z with
  | (p, l, _, R, s, m, args, below, meth, c, Q, D, tC, A, ρ0, I0) => (p.tables.exec = Jvm.exec ∧ c.code = cc ∧ c.maxLocals = nL ∧ s.vm.findClass own = some m.cls ∧ ∀ w ∈ wsA, w.before args s = true) ∧ okU D tC (ρ0 mirr) s ∧ meth.locks = false ∧ meth.sig.returnType = ret ∧ l = l0 ∧ R = R0 ∧
    Q = MQ below (QcV D tC A ρ0 I0 Post) args s R0.cells R0.slots A
/-- the contract of a method at given arguments and heap -/
def AM (l : Launch) (y : MethodName) (cc : ByteArray) (maxL : Nat) (ret : Option FieldType) (rm : Room) (av : List Value) (I0 : aH) (Post : Option Value → aH → Prop) : Prop :=
  ∀ (D : va_G) (tC : Nat → ClassId) (A : Nat → Prop) (ρ0 : Nat → Nat), clS I0 av → Met l y (.code y cc maxL ret :: wsA) rm (fun a U => a = (av.map (cv ρ0)).toArray ∧ okH D tC A ρ0 I0 U U.heap ∧ okU D tC (ρ0 mirr) U) (QcV D tC A ρ0 I0 Post) rm.cells rm.slots A
theorem cv_cat (ρ : Nat → Nat) (v : Value) : (cv ρ v).category = v.category := by cases v <;> rfl
theorem clS_tl {I : aH} {v : Value} {st : List Value} (h : clS I (v :: st)) : clS I st := fun w hw => h w (List.mem_cons_of_mem _ hw)
theorem clS_hd {I : aH} {v : Value} {st : List Value} (h : clS I (v :: st)) : clV I v := h v List.mem_cons_self
theorem clS_cons {I : aH} {v : Value} {st : List Value} (h1 : clV I v) (h : clS I st) : clS I (v :: st) := fun w hw => (List.mem_cons.mp hw).elim (fun e => e ▸ h1) (h w)
theorem clV_i {I : aH} {x : Int32} : clV I (.int x) := fun _ h => by cases h
theorem clV_l {I : aH} {x : Int64} : clV I (.long x) := fun _ h => by cases h
theorem clV_n {I : aH} : clV I .null := fun _ h => by cases h
theorem clV_r {I : aH} {α : Nat} (h : I α ≠ none) : clV I (.ref α) := fun _ q => by cases q; exact Or.inl h
theorem clL_at {I : aH} {lv : List (Option Value)} {k : Nat} {v : Value} (h : clL I lv) (hk : lv[k]? = some (some v)) : clV I v := h v (List.mem_of_getElem? hk)
