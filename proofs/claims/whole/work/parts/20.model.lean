/-! THE REFERENCE'S STATE: field k, place i; ints and booleans in the first half, longs in the second -/
abbrev St : Type := (Nat → Nat → Int32) × (Nat → Nat → Int64)
def pa (S : St) (k i : Nat) (x : Int32) : St := (fun k' i' => if k' = k ∧ i' = i then x else S.1 k' i', S.2)
def pb (S : St) (k i : Nat) (x : Int64) : St := (S.1, fun k' i' => if k' = k ∧ i' = i then x else S.2 k' i')
theorem pa_1 (S : St) (k i : Nat) (x : Int32) (k' i' : Nat) : (pa S k i x).1 k' i' = if k' = k ∧ i' = i then x else S.1 k' i' := rfl
theorem pa_2 (S : St) (k i : Nat) (x : Int32) : (pa S k i x).2 = S.2 := rfl
theorem pb_1 (S : St) (k i : Nat) (x : Int64) : (pb S k i x).1 = S.1 := rfl
theorem pb_2 (S : St) (k i : Nat) (x : Int64) (k' i' : Nat) : (pb S k i x).2 k' i' = if k' = k ∧ i' = i then x else S.2 k' i' := rfl
theorem pa_n (S : St) {k i : Nat} (x : Int32) {k' i' : Nat} (h : k' ≠ k) : (pa S k i x).1 k' i' = S.1 k' i' := if_neg (fun q => h q.1)
theorem pa_s (S : St) {k i : Nat} (x : Int32) : (pa S k i x).1 k i = x := if_pos ⟨rfl, rfl⟩
theorem pa_i (S : St) {k i : Nat} (x : Int32) {i' : Nat} (h : i' ≠ i) : (pa S k i x).1 k i' = S.1 k i' := if_neg (fun q => h q.2)
/-- what each field is: 0 an int, 1 a long, else an array: is it of longs, its type's place, its length -/
def tbM : Nat → Nat ⊕ (Bool × Nat × Nat)
  | 0 => .inl 0 | 1 => .inl 0 | 2 => .inr (false, 0, 40) | 3 => .inr (true, 1, 40) | 4 => .inl 0 | 5 => .inr (false, 0, 100) | 6 => .inr (false, 0, 100) | 7 => .inr (false, 0, 100)
  | 8 => .inl 0 | 9 => .inr (false, 0, 12) | 10 => .inr (false, 0, 12) | 11 => .inr (false, 0, 12) | 12 => .inr (false, 0, 12) | 13 => .inr (false, 0, 12) | 14 => .inr (false, 0, 14400)
  | 15 => .inl 0 | 16 => .inr (false, 2, 20) | 17 => .inr (false, 0, 20) | 18 => .inr (false, 0, 20) | 19 => .inr (false, 0, 20) | 20 => .inr (false, 0, 20) | 21 => .inr (false, 0, 20) | 22 => .inr (false, 0, 20)
  | 23 => .inr (false, 2, 20) | 24 => .inr (false, 0, 20) | 25 => .inr (false, 0, 20) | 26 => .inr (false, 0, 20) | 27 => .inr (false, 2, 20) | 28 => .inr (false, 2, 20) | 29 => .inr (false, 0, 20)
  | 30 => .inl 0 | 31 => .inr (false, 2, 20) | 32 => .inl 0 | 33 => .inr (false, 2, 60) | 34 => .inr (false, 0, 60) | 35 => .inr (false, 0, 60) | 36 => .inr (false, 0, 60) | 37 => .inr (false, 0, 60) | 38 => .inr (false, 0, 60)
  | 39 => .inr (false, 2, 60) | 40 => .inr (false, 0, 60) | 41 => .inr (true, 1, 60) | 42 => .inr (false, 2, 60) | 43 => .inr (true, 1, 60) | 44 => .inr (false, 0, 60) | 45 => .inr (true, 1, 480) | 46 => .inr (false, 0, 480) | 47 => .inr (false, 0, 480)
  | 48 => .inl 0 | 49 => .inr (false, 0, 900) | 50 => .inr (false, 0, 900) | 51 => .inr (false, 0, 900) | 52 => .inr (false, 2, 900) | 53 => .inr (false, 0, 900) | 54 => .inr (false, 2, 900)
  | 55 => .inr (true, 1, 36000) | 56 => .inr (false, 0, 36000) | 57 => .inr (false, 0, 36000) | 58 => .inr (false, 0, 36000) | 59 => .inl 1 | 60 => .inl 0 | _ => .inr (false, 0, 10)
def mO : Nat := kd 40 0 0
def fldM (S : St) (k : Nat) : Value := match tbM k with
  | .inl 0 => .int (S.1 k 0)
  | .inl _ => .long (S.2 k 0)
  | .inr _ => .ref (kd 41 k 0)
def objM (S : St) : List Value := (List.range 62).map (fldM S)
def arrM (S : St) (k : Nat) : Option aO := match tbM k with
  | .inl _ => none
  | .inr (true, t, n) => some (.inl (t, aL n (S.2 k)))
  | .inr (false, t, n) => some (.inl (t, aI n (S.1 k)))
def dkM (α : Nat) : Option Nat := (List.range 62).find? (fun k => decide (α = kd 41 k 0))
/-- the heap J, with the reference in state S laid over it -/
def ovl (S : St) (J : aH) : aH := fun α => if α = mO then some (.inr (10, objM S)) else match dkM α with
  | some k => (arrM S k).or (J α)
  | none => J α
theorem dkM_kd {k : Nat} (hk : k < 62) : dkM (kd 41 k 0) = some k := by
  unfold dkM
  rw [List.find?_eq_some_iff_getElem]
  refine ⟨by simp, k, by simpa using hk, by simp, fun j hj => ?_⟩
  simp only [List.getElem_range, Bool.not_eq_true', decide_eq_false_iff_not]
  exact kd_ni (by omega)
theorem dkM_of {α k : Nat} (h : dkM α = some k) : α = kd 41 k 0 ∧ k < 62 := by
  unfold dkM at h
  have h1 := List.find?_some h
  have h2 := List.mem_of_find?_eq_some h
  exact ⟨by simpa using h1, List.mem_range.mp h2⟩
theorem ovl_o {S : St} {J : aH} : ovl S J mO = some (.inr (10, objM S)) := if_pos rfl
theorem ovl_a {S : St} {J : aH} {k : Nat} {o : aO} (hk : k < 62) (h : arrM S k = some o) : ovl S J (kd 41 k 0) = some o := by
  unfold ovl
  rw [if_neg (show kd 41 k 0 ≠ mO from kd_nk (by decide)), dkM_kd hk]
  simp [h]
theorem ovl_off {S : St} {J : aH} {α : Nat} (h1 : α ≠ mO) (h2 : ∀ k, α ≠ kd 41 k 0) : ovl S J α = J α := by
  unfold ovl
  rw [if_neg h1]
  cases h : dkM α with
  | none => rfl
  | some k => exact absurd (dkM_of h).1 (h2 k)
theorem ovl_k {S : St} {J : aH} {k i g : Nat} (h : k ≠ 40 ∧ k ≠ 41) : ovl S J (kd k i g) = J (kd k i g) := ovl_off (kd_nk h.1) (fun _ => kd_nk h.2)
theorem arrM_pa {S : St} {k i k' : Nat} {x : Int32} (h : k' ≠ k) : arrM (pa S k i x) k' = arrM S k' := by
  have e : (pa S k i x).1 k' = S.1 k' := by funext j; exact pa_n S x h
  unfold arrM
  rw [e]
  rfl
theorem arrM_pb {S : St} {k i k' : Nat} {x : Int64} (h : k' ≠ k) : arrM (pb S k i x) k' = arrM S k' := by
  have e : (pb S k i x).2 k' = S.2 k' := by funext j; exact if_neg (fun q => h q.1)
  unfold arrM
  rw [e]
  rfl
theorem objM_at {S : St} {k : Nat} (hk : k < 62) : (objM S)[k]? = some (fldM S k) := by
  unfold objM
  rw [List.getElem?_map, List.getElem?_range hk]
  rfl
theorem objM_ext {S S' : St} (h : ∀ k, k < 62 → fldM S k = fldM S' k) : objM S = objM S' := List.map_congr_left fun k hk => h k (List.mem_range.mp hk)
theorem fldM_pa {S : St} {k i k' : Nat} {x : Int32} (h : k' ≠ k ∨ i ≠ 0) : fldM (pa S k i x) k' = fldM S k' := by
  have e : (pa S k i x).1 k' 0 = S.1 k' 0 := if_neg (fun q => h.elim (fun z => z q.1) (fun z => z q.2.symm))
  unfold fldM
  rw [e]
  rfl
theorem fldM_arr {S S' : St} {k : Nat} {q : Bool × Nat × Nat} (h : tbM k = .inr q) : fldM S k = fldM S' k := by
  unfold fldM
  rw [h]
theorem fldM_pb {S : St} {k i k' : Nat} {x : Int64} (h : k' ≠ k) : fldM (pb S k i x) k' = fldM S k' := by
  have e : (pb S k i x).2 k' 0 = S.2 k' 0 := if_neg (fun q => h q.1)
  unfold fldM
  rw [e]
  rfl
theorem ovl_pa {S : St} {J : aH} {k i t n : Nat} {x : Int32} (hk : k < 62) (h : tbM k = .inr (false, t, n)) : hu (ovl S J) (kd 41 k 0) (.inl (t, aI n (upd (S.1 k) i x))) = ovl (pa S k i x) J := by
  have e0 : (pa S k i x).1 k = upd (S.1 k) i x := by
    funext j
    simp [pa, upd]
  have eo : objM (pa S k i x) = objM S := objM_ext fun k' hk' => by
    by_cases e : k' = k
    · subst e; exact fldM_arr h
    · exact fldM_pa (Or.inl e)
  funext α
  by_cases e : α = kd 41 k 0
  · subst e
    rw [hu_s, ovl_a hk]
    unfold arrM
    rw [h, e0]
  · rw [hu_n e]
    unfold ovl
    rw [eo]
    split
    · rfl
    · cases hd : dkM α with
      | none => rfl
      | some k' =>
        simp only
        rw [arrM_pa (fun q => e (by rw [(dkM_of hd).1, q]))]
theorem ovl_pb {S : St} {J : aH} {k i t n : Nat} {x : Int64} (hk : k < 62) (h : tbM k = .inr (true, t, n)) : hu (ovl S J) (kd 41 k 0) (.inl (t, aL n (vp_updL (S.2 k) i x))) = ovl (pb S k i x) J := by
  have e0 : (pb S k i x).2 k = vp_updL (S.2 k) i x := by
    funext j
    simp [pb, vp_updL]
  have eo : objM (pb S k i x) = objM S := objM_ext fun k' hk' => by
    by_cases e : k' = k
    · subst e; exact fldM_arr h
    · exact fldM_pb e
  funext α
  by_cases e : α = kd 41 k 0
  · subst e
    rw [hu_s, ovl_a hk]
    unfold arrM
    rw [h, e0]
  · rw [hu_n e]
    unfold ovl
    rw [eo]
    split
    · rfl
    · cases hd : dkM α with
      | none => rfl
      | some k' =>
        simp only
        rw [arrM_pb (fun q => e (by rw [(dkM_of hd).1, q]))]
theorem objM_set {S S' : St} {k : Nat} {v : Value} (h0 : fldM S' k = v) (h : ∀ k', k' ≠ k → fldM S' k' = fldM S k') : (objM S).set k v = objM S' := by
  apply List.ext_getElem?
  intro j
  rw [List.getElem?_set]
  have hlen : ∀ Q : St, (objM Q).length = 62 := fun Q => by simp [objM]
  by_cases e : k = j
  · subst e
    rw [if_pos rfl, hlen]
    split
    · rename_i hj
      rw [objM_at hj, h0]
    · rename_i hj
      rw [List.getElem?_eq_none (by rw [hlen]; omega)]
  · rw [if_neg e]
    by_cases hj : j < 62
    · rw [objM_at hj, objM_at hj, h j (fun q => e q.symm)]
    · rw [List.getElem?_eq_none (by rw [hlen]; omega), List.getElem?_eq_none (by rw [hlen]; omega)]
theorem ovl_ps {S : St} {J : aH} {k : Nat} {x : Int32} (h : tbM k = .inl 0) : hu (ovl S J) mO (.inr (10, (objM S).set k (.int x))) = ovl (pa S k 0 x) J := by
  have e0 : (objM S).set k (.int x) = objM (pa S k 0 x) := objM_set (by unfold fldM; rw [h]; simp [pa]) (fun k' hk' => fldM_pa (Or.inl hk'))
  rw [e0]
  funext α
  by_cases e : α = mO
  · subst e
    rw [hu_s, ovl_o]
  · rw [hu_n e]
    unfold ovl
    rw [if_neg e, if_neg e]
    cases hd : dkM α with
    | none => rfl
    | some k' =>
      simp only
      by_cases ek : k' = k
      · subst ek
        unfold arrM
        rw [h]
      · rw [arrM_pa ek]
theorem ovl_psl {S : St} {J : aH} {k : Nat} {x : Int64} (h : tbM k = .inl 1) : hu (ovl S J) mO (.inr (10, (objM S).set k (.long x))) = ovl (pb S k 0 x) J := by
  have e0 : (objM S).set k (.long x) = objM (pb S k 0 x) := objM_set (by unfold fldM; rw [h]; simp [pb]) (fun k' hk' => fldM_pb hk')
  rw [e0]
  funext α
  by_cases e : α = mO
  · subst e
    rw [hu_s, ovl_o]
  · rw [hu_n e]
    unfold ovl
    rw [if_neg e, if_neg e]
    cases hd : dkM α with
    | none => rfl
    | some k' =>
      simp only
      by_cases ek : k' = k
      · subst ek
        unfold arrM
        rw [h]
      · rw [arrM_pb ek]
section Model
variable {Z : Zt} {l0 : Launch} {R0 : Room} {cc : ByteArray} {nL : Nat} {own : String} {ret : Option FieldType} {Post : Option Value → aH → Prop} {S : St} {J : aH} {lv : List (Option Value)} {st : List Value} {cells slots pc : Nat}
theorem M_get {idx k : Nat} {v : Value} {fin : Bool} {fty : FieldType} (X : Fx Z l0 R0 cc nL own ret Post) (d : decode cc pc = .ok (.getfield idx, 3)) (F : FK own idx 10 k fin fty) (hk : k < 62) (hv : fldM S k = v) (kk : V Z nL (ovl S J) lv (v :: st) cells slots (pc + 3)) : V Z nL (ovl S J) lv (.ref mO :: st) cells slots pc :=
  V_get X d F ovl_o ((objM_at hk).trans (by rw [hv])) kk
theorem M_put {idx k : Nat} {x : Int32} (X : Fx Z l0 R0 cc nL own ret Post) (d : decode cc pc = .ok (.putfield idx, 3)) (F : FK own idx 10 k false .int) (hk : k < 62) (ht : tbM k = .inl 0) (kk : V Z nL (ovl (pa S k 0 x) J) lv st cells slots (pc + 3)) : V Z nL (ovl S J) lv (.int x :: .ref mO :: st) cells slots pc :=
  V_put X d F ovl_o (ro_k (by decide)) (by simp [objM]; exact hk) rfl rfl (by rw [ovl_ps ht]; exact kk)
theorem M_putl {idx k : Nat} {x : Int64} (X : Fx Z l0 R0 cc nL own ret Post) (d : decode cc pc = .ok (.putfield idx, 3)) (F : FK own idx 10 k false .long) (hk : k < 62) (ht : tbM k = .inl 1) (kk : V Z nL (ovl (pb S k 0 x) J) lv st cells slots (pc + 3)) : V Z nL (ovl S J) lv (.long x :: .ref mO :: st) cells slots pc :=
  V_put X d F ovl_o (ro_k (by decide)) (by simp [objM]; exact hk) rfl rfl (by rw [ovl_psl ht]; exact kk)
theorem arrM_i {k t n : Nat} (h : tbM k = .inr (false, t, n)) : arrM S k = some (.inl (t, aI n (S.1 k))) := by unfold arrM; rw [h]
theorem arrM_l {k t n : Nat} (h : tbM k = .inr (true, t, n)) : arrM S k = some (.inl (t, aL n (S.2 k))) := by unfold arrM; rw [h]
theorem M_iald {k n : Nat} {i : Int32} (X : Fx Z l0 R0 cc nL own ret Post) (d : decode cc pc = .ok (.iaload, 1)) (hk : k < 62) (ht : tbM k = .inr (false, 0, n)) (hi : vp_in i n) (kk : V Z nL (ovl S J) lv (.int (S.1 k i.toNatClampNeg) :: st) cells slots (pc + 1)) : V Z nL (ovl S J) lv (.int i :: .ref (kd 41 k 0) :: st) cells slots pc :=
  V_iaload X d (ovl_a hk (arrM_i ht)) hi kk
theorem M_zald {k n : Nat} {i : Int32} (X : Fx Z l0 R0 cc nL own ret Post) (d : decode cc pc = .ok (.baload, 1)) (hk : k < 62) (ht : tbM k = .inr (false, 2, n)) (hi : vp_in i n) (kk : V Z nL (ovl S J) lv (.int (S.1 k i.toNatClampNeg) :: st) cells slots (pc + 1)) : V Z nL (ovl S J) lv (.int i :: .ref (kd 41 k 0) :: st) cells slots pc :=
  V_baload X d (ovl_a hk (arrM_i ht)) hi kk
theorem M_lald {k n : Nat} {i : Int32} (X : Fx Z l0 R0 cc nL own ret Post) (d : decode cc pc = .ok (.laload, 1)) (hk : k < 62) (ht : tbM k = .inr (true, 1, n)) (hi : vp_in i n) (kk : V Z nL (ovl S J) lv (.long (S.2 k i.toNatClampNeg) :: st) cells slots (pc + 1)) : V Z nL (ovl S J) lv (.int i :: .ref (kd 41 k 0) :: st) cells slots pc :=
  V_laload X d (ovl_a hk (arrM_l ht)) hi kk
theorem M_iast {k n : Nat} {i x : Int32} (X : Fx Z l0 R0 cc nL own ret Post) (d : decode cc pc = .ok (.iastore, 1)) (hk : k < 62) (ht : tbM k = .inr (false, 0, n)) (hi : vp_in i n) (kk : V Z nL (ovl (pa S k i.toNatClampNeg x) J) lv st cells slots (pc + 1)) : V Z nL (ovl S J) lv (.int x :: .int i :: .ref (kd 41 k 0) :: st) cells slots pc :=
  V_iastore X d (ovl_a hk (arrM_i ht)) (ro_k (by decide)) hi (by rw [ovl_pa hk ht]; exact kk)
theorem M_zast {k n : Nat} {i x : Int32} (X : Fx Z l0 R0 cc nL own ret Post) (d : decode cc pc = .ok (.bastore, 1)) (hk : k < 62) (ht : tbM k = .inr (false, 2, n)) (hi : vp_in i n) (hx : vp_nar .boolean x = x) (kk : V Z nL (ovl (pa S k i.toNatClampNeg x) J) lv st cells slots (pc + 1)) : V Z nL (ovl S J) lv (.int x :: .int i :: .ref (kd 41 k 0) :: st) cells slots pc :=
  V_bastore X d (ovl_a hk (arrM_i ht)) (ro_k (by decide)) hi (by rw [hx, ovl_pa hk ht]; exact kk)
theorem M_last {k n : Nat} {i : Int32} {x : Int64} (X : Fx Z l0 R0 cc nL own ret Post) (d : decode cc pc = .ok (.lastore, 1)) (hk : k < 62) (ht : tbM k = .inr (true, 1, n)) (hi : vp_in i n) (kk : V Z nL (ovl (pb S k i.toNatClampNeg x) J) lv st cells slots (pc + 1)) : V Z nL (ovl S J) lv (.long x :: .int i :: .ref (kd 41 k 0) :: st) cells slots pc :=
  V_lastore X d (ovl_a hk (arrM_l ht)) (ro_k (by decide)) hi (by rw [ovl_pb hk ht]; exact kk)
end Model
