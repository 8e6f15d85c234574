/-! THE CLASS'S OBJECTS, laid over a heap J by the SAME state S: kinds 1 to 8 and 11; lists (20 to 29), entries (9) and their arrays (10) lie in J -/
def lo (x : Int32) : Int32 := if x = 0 then 0 else x - 1
def gb (x : Int32) : Int32 := if x = 0 then 1 else 0
def rO : Nat := kd 1 0 0
def rootO (S : St) : List Value := [.ref (kd 20 0 0), .ref (kd 20 1 0), .ref (kd 20 2 0), .ref (kd 20 3 0), .ref (kd 20 4 0), .ref (kd 20 5 0), .ref (kd 11 0 0), .int (S.1 0 0), .long (S.2 59 0), .int (S.1 60 0), .int (S.1 30 0)]
def nodeO (S : St) (i : Nat) : List Value := [.int (nI i), .int (S.1 2 i), .long (S.2 3 i)]
def refO (S : St) (i : Nat) : List Value := [.int (S.1 5 i), .int (S.1 6 i), .int (S.1 7 i)]
def sesO (S : St) (i : Nat) : List Value := [.int (nI i), .int (S.1 9 i), .ref (kd 22 i 0), .int (S.1 11 i), .int (S.1 10 i), .int (S.1 12 i)]
def subO (S : St) (b : Nat) : List Value := [.int (nI b), .ref (kd 24 b 0), .ref (kd 26 b 0), .ref (kd 4 (nn (S.1 17 b)) 0), .int (S.1 18 b), .int (S.1 19 b), .int (S.1 20 b), .int (S.1 21 b), .int (S.1 22 b), .int (S.1 23 b), .int (S.1 24 b), .int (S.1 25 b), .int (S.1 26 b), .int (S.1 27 b), .int (S.1 31 b), .int (S.1 28 b), .int (lo (S.1 29 b)), .int (gb (S.1 16 b))]
def itO (S : St) (i : Nat) : List Value := [.int (nI i), .ref (kd 5 (nn (S.1 34 i)) 0), .ref (kd 2 (nn (S.1 35 i)) 0), .int (S.1 36 i), .int (S.1 37 i), .long (S.2 41 i), .ref (kd 7 i 0), .int (S.1 40 i), .int (S.1 42 i), .long (S.2 43 i), .int (gb (S.1 33 i))]
def quO (S : St) (i : Nat) : List Value := [.int (S.1 38 i), .int (S.1 39 i), .ref (kd 28 i 0)]
/-- a message as it is made, ahead of its constructor; field 70 of S is a ghost: one is being made -/
def msZ : List Value := [.int 0, .int 0, .int 0, .int 0, .null, .int 0, .int 0]
def msO (S : St) (m : Nat) : List Value := [.int (nI m), .int (S.1 49 m), .int (S.1 50 m), .int (S.1 53 m), .ref (kd 10 m 0), .int (S.1 52 m), .int (S.1 54 m)]
def enO (v : Int64) (i : Nat) (t b : Int32) : List Value := [.long v, .int (nI i), .int t, .int b]
def ob (S : St) (k i : Nat) : Option aO := match k with
  | 1 => if i = 0 then some (.inr (9, rootO S)) else none
  | 2 => if i < nn (S.1 1 0) then some (.inr (4, nodeO S i)) else none
  | 3 => if i < nn (S.1 4 0) then some (.inr (6, refO S i)) else none
  | 4 => if i < nn (S.1 8 0) then some (.inr (7, sesO S i)) else none
  | 5 => if i < nn (S.1 15 0) then some (.inr (8, subO S i)) else none
  | 6 => if i < nn (S.1 32 0) then some (.inr (2, itO S i)) else none
  | 7 => if i < nn (S.1 32 0) then some (.inr (5, quO S i)) else none
  | 8 => if i < nn (S.1 48 0) then some (.inr (3, msO S i)) else if i = nn (S.1 48 0) ∧ ¬ S.1 70 0 = 0 then some (.inr (3, msZ)) else none
  | _ => if i = 0 then some (.inl (0, aI 10 (S.1 61))) else none
def kO (k : Nat) : Bool := (Nat.ble 1 k && Nat.ble k 8) || k == 11
theorem kO_c {k : Nat} (h : kO k = true) : k = 1 ∨ k = 2 ∨ k = 3 ∨ k = 4 ∨ k = 5 ∨ k = 6 ∨ k = 7 ∨ k = 8 ∨ k = 11 := by
  unfold kO at h
  rw [Bool.or_eq_true, Bool.and_eq_true, Nat.ble_eq, Nat.ble_eq, beq_iff_eq] at h
  omega
noncomputable def dc (α : Nat) : Option (Nat × Nat) := @dite (Option (Nat × Nat)) (∃ q : Nat × Nat, kO q.1 = true ∧ α = kd q.1 q.2 0) (Classical.propDecidable _) (fun h => some h.choose) (fun _ => none)
theorem dc_at {k i : Nat} (hk : kO k = true) : dc (kd k i 0) = some (k, i) := by
  unfold dc
  have h : ∃ q : Nat × Nat, kO q.1 = true ∧ kd k i 0 = kd q.1 q.2 0 := ⟨(k, i), hk, rfl⟩
  rw [dif_pos h]
  have := kd_eq.mp h.choose_spec.2
  congr 1
  exact Prod.ext this.1.symm this.2.1.symm
theorem dc_no {α : Nat} (h : ∀ k i, kO k = true → α ≠ kd k i 0) : dc α = none := by
  unfold dc
  rw [dif_neg]
  rintro ⟨q, h1, h2⟩
  exact h _ _ h1 h2
theorem dc_of {α k i : Nat} (h : dc α = some (k, i)) : kO k = true ∧ α = kd k i 0 := by
  unfold dc at h
  split at h
  · rename_i q
    have e := Option.some.inj h
    have := q.choose_spec
    rw [e] at this
    exact this
  · cases h
noncomputable def ovc (S : St) (J : aH) : aH := fun α => match dc α with
  | some q => ob S q.1 q.2
  | none => J α
theorem ovc_at {S : St} {J : aH} {k i : Nat} (hk : kO k = true) : ovc S J (kd k i 0) = ob S k i := by
  unfold ovc
  rw [dc_at hk]
theorem ovc_no {S : St} {J : aH} {α : Nat} (h : ∀ k i, kO k = true → α ≠ kd k i 0) : ovc S J α = J α := by
  unfold ovc
  rw [dc_no h]
theorem ovc_k {S : St} {J : aH} {k i g : Nat} (h : kO k = false) : ovc S J (kd k i g) = J (kd k i g) := ovc_no fun k' i' hk e => by
  rw [(kd_eq.mp e).1, hk] at h
  cases h
theorem at_root {S : St} {J : aH} : ovc S J rO = some (.inr (9, rootO S)) := ovc_at rfl
theorem at_fus {S : St} {J : aH} : ovc S J (kd 11 0 0) = some (.inl (0, aI 10 (S.1 61))) := ovc_at rfl
theorem at_node {S : St} {J : aH} {i : Nat} (h : i < nn (S.1 1 0)) : ovc S J (kd 2 i 0) = some (.inr (4, nodeO S i)) := (ovc_at rfl).trans (if_pos h)
theorem at_ref {S : St} {J : aH} {i : Nat} (h : i < nn (S.1 4 0)) : ovc S J (kd 3 i 0) = some (.inr (6, refO S i)) := (ovc_at rfl).trans (if_pos h)
theorem at_ses {S : St} {J : aH} {i : Nat} (h : i < nn (S.1 8 0)) : ovc S J (kd 4 i 0) = some (.inr (7, sesO S i)) := (ovc_at rfl).trans (if_pos h)
theorem at_sub {S : St} {J : aH} {i : Nat} (h : i < nn (S.1 15 0)) : ovc S J (kd 5 i 0) = some (.inr (8, subO S i)) := (ovc_at rfl).trans (if_pos h)
theorem at_it {S : St} {J : aH} {i : Nat} (h : i < nn (S.1 32 0)) : ovc S J (kd 6 i 0) = some (.inr (2, itO S i)) := (ovc_at rfl).trans (if_pos h)
theorem at_qu {S : St} {J : aH} {i : Nat} (h : i < nn (S.1 32 0)) : ovc S J (kd 7 i 0) = some (.inr (5, quO S i)) := (ovc_at rfl).trans (if_pos h)
theorem at_ms {S : St} {J : aH} {i : Nat} (h : i < nn (S.1 48 0)) : ovc S J (kd 8 i 0) = some (.inr (3, msO S i)) := (ovc_at rfl).trans (if_pos h)
theorem no_at {S : St} {J : aH} {k i : Nat} (hk : kO k = true) (h : ob S k i = none) : ovc S J (kd k i 0) = none := (ovc_at hk).trans h
theorem ovc_ext {S S' : St} {J : aH} (h : ∀ k i, kO k = true → ob S k i = ob S' k i) : ovc S J = ovc S' J := by
  funext α
  unfold ovc
  cases e : dc α with
  | none => rfl
  | some q => exact h _ _ (dc_of e).1
theorem hu_ovc {S S' : St} {J : aH} {k i : Nat} {o : aO} (hk : kO k = true) (h0 : ob S' k i = some o) (h : ∀ k' i', kO k' = true → ¬ (k' = k ∧ i' = i) → ob S' k' i' = ob S k' i') : hu (ovc S J) (kd k i 0) o = ovc S' J := by
  funext α
  by_cases e : α = kd k i 0
  · rw [e, hu_s, ovc_at hk, h0]
  · rw [hu_n e]
    unfold ovc
    cases ed : dc α with
    | none => rfl
    | some q =>
      obtain ⟨h1, h2⟩ := dc_of ed
      exact (h _ _ h1 (fun z => e (by rw [h2, z.1, z.2]))).symm
theorem hu_ovJ {S : St} {J : aH} {k i g : Nat} {o : aO} (hk : kO k = false) : hu (ovc S J) (kd k i g) o = ovc S (hu J (kd k i g) o) := by
  funext α
  by_cases e : α = kd k i g
  · rw [e, hu_s, ovc_k hk, hu_s]
  · rw [hu_n e]
    unfold ovc
    cases ed : dc α with
    | none => exact (hu_n e).symm
    | some q => rfl
/-- a heap whose objects are S's is S laid over itself -/
theorem ovc_self {S : St} {I : aH} (h : ∀ k i, kO k = true → I (kd k i 0) = ob S k i) : I = ovc S I := by
  funext α
  unfold ovc
  cases e : dc α with
  | none => rfl
  | some q =>
    obtain ⟨h1, h2⟩ := dc_of e
    rw [h2]
    exact h _ _ h1
/-! one field written -/
theorem oc1 {S S' : St} {i : Nat} (h0 : S'.1 0 0 = S.1 0 0) (h59 : S'.2 59 0 = S.2 59 0) (h60 : S'.1 60 0 = S.1 60 0) (h30 : S'.1 30 0 = S.1 30 0) : ob S' 1 i = ob S 1 i := by
  show (if i = 0 then (some (.inr (9, rootO S')) : Option aO) else none) = (if i = 0 then (some (.inr (9, rootO S)) : Option aO) else none)
  unfold rootO
  rw [h0, h59, h60, h30]
theorem oc2 {S S' : St} {i : Nat} (c1 : S'.1 1 0 = S.1 1 0) (h2 : S'.1 2 i = S.1 2 i) (h3 : S'.2 3 i = S.2 3 i) : ob S' 2 i = ob S 2 i := by
  show (if i < nn (S'.1 1 0) then (some (.inr (4, nodeO S' i)) : Option aO) else none) = (if i < nn (S.1 1 0) then (some (.inr (4, nodeO S i)) : Option aO) else none)
  unfold nodeO
  rw [c1, h2, h3]
theorem oc3 {S S' : St} {i : Nat} (c4 : S'.1 4 0 = S.1 4 0) (h5 : S'.1 5 i = S.1 5 i) (h6 : S'.1 6 i = S.1 6 i) (h7 : S'.1 7 i = S.1 7 i) : ob S' 3 i = ob S 3 i := by
  show (if i < nn (S'.1 4 0) then (some (.inr (6, refO S' i)) : Option aO) else none) = (if i < nn (S.1 4 0) then (some (.inr (6, refO S i)) : Option aO) else none)
  unfold refO
  rw [c4, h5, h6, h7]
theorem oc4 {S S' : St} {i : Nat} (c8 : S'.1 8 0 = S.1 8 0) (h9 : S'.1 9 i = S.1 9 i) (h11 : S'.1 11 i = S.1 11 i) (h10 : S'.1 10 i = S.1 10 i) (h12 : S'.1 12 i = S.1 12 i) : ob S' 4 i = ob S 4 i := by
  show (if i < nn (S'.1 8 0) then (some (.inr (7, sesO S' i)) : Option aO) else none) = (if i < nn (S.1 8 0) then (some (.inr (7, sesO S i)) : Option aO) else none)
  unfold sesO
  rw [c8, h9, h11, h10, h12]
theorem oc5 {S S' : St} {i : Nat} (c15 : S'.1 15 0 = S.1 15 0) (h17 : S'.1 17 i = S.1 17 i) (h18 : S'.1 18 i = S.1 18 i) (h19 : S'.1 19 i = S.1 19 i) (h20 : S'.1 20 i = S.1 20 i) (h21 : S'.1 21 i = S.1 21 i) (h22 : S'.1 22 i = S.1 22 i) (h23 : S'.1 23 i = S.1 23 i) (h24 : S'.1 24 i = S.1 24 i) (h25 : S'.1 25 i = S.1 25 i) (h26 : S'.1 26 i = S.1 26 i) (h27 : S'.1 27 i = S.1 27 i) (h31 : S'.1 31 i = S.1 31 i) (h28 : S'.1 28 i = S.1 28 i) (h29 : S'.1 29 i = S.1 29 i) (h16 : S'.1 16 i = S.1 16 i) : ob S' 5 i = ob S 5 i := by
  show (if i < nn (S'.1 15 0) then (some (.inr (8, subO S' i)) : Option aO) else none) = (if i < nn (S.1 15 0) then (some (.inr (8, subO S i)) : Option aO) else none)
  unfold subO
  rw [c15, h17, h18, h19, h20, h21, h22, h23, h24, h25, h26, h27, h31, h28, h29, h16]
theorem oc6 {S S' : St} {i : Nat} (c32 : S'.1 32 0 = S.1 32 0) (h34 : S'.1 34 i = S.1 34 i) (h35 : S'.1 35 i = S.1 35 i) (h36 : S'.1 36 i = S.1 36 i) (h37 : S'.1 37 i = S.1 37 i) (h41 : S'.2 41 i = S.2 41 i) (h40 : S'.1 40 i = S.1 40 i) (h42 : S'.1 42 i = S.1 42 i) (h43 : S'.2 43 i = S.2 43 i) (h33 : S'.1 33 i = S.1 33 i) : ob S' 6 i = ob S 6 i := by
  show (if i < nn (S'.1 32 0) then (some (.inr (2, itO S' i)) : Option aO) else none) = (if i < nn (S.1 32 0) then (some (.inr (2, itO S i)) : Option aO) else none)
  unfold itO
  rw [c32, h34, h35, h36, h37, h41, h40, h42, h43, h33]
theorem oc7 {S S' : St} {i : Nat} (c32 : S'.1 32 0 = S.1 32 0) (h38 : S'.1 38 i = S.1 38 i) (h39 : S'.1 39 i = S.1 39 i) : ob S' 7 i = ob S 7 i := by
  show (if i < nn (S'.1 32 0) then (some (.inr (5, quO S' i)) : Option aO) else none) = (if i < nn (S.1 32 0) then (some (.inr (5, quO S i)) : Option aO) else none)
  unfold quO
  rw [c32, h38, h39]
theorem oc8 {S S' : St} {i : Nat} (c48 : S'.1 48 0 = S.1 48 0) (h49 : S'.1 49 i = S.1 49 i) (h50 : S'.1 50 i = S.1 50 i) (h53 : S'.1 53 i = S.1 53 i) (h52 : S'.1 52 i = S.1 52 i) (h54 : S'.1 54 i = S.1 54 i) (h70 : S'.1 70 0 = S.1 70 0) : ob S' 8 i = ob S 8 i := by
  show (if i < nn (S'.1 48 0) then (some (.inr (3, msO S' i)) : Option aO) else if i = nn (S'.1 48 0) ∧ ¬ S'.1 70 0 = 0 then some (.inr (3, msZ)) else none) = (if i < nn (S.1 48 0) then (some (.inr (3, msO S i)) : Option aO) else if i = nn (S.1 48 0) ∧ ¬ S.1 70 0 = 0 then some (.inr (3, msZ)) else none)
  unfold msO
  rw [c48, h49, h50, h53, h52, h54, h70]
theorem oc11 {S S' : St} {i : Nat} (h1 : S'.1 61 = S.1 61) : ob S' 11 i = ob S 11 i := by
  show (if i = 0 then (some (.inl (0, aI 10 (S'.1 61))) : Option aO) else none) = _
  rw [h1]
  rfl
section ClsRows
variable {Z : Zt} {l0 : Launch} {R0 : Room} {cc : ByteArray} {nL : Nat} {own : String} {ret : Option FieldType} {Post : Option Value → aH → Prop} {S : St} {J : aH} {lv : List (Option Value)} {st : List Value} {cells slots pc : Nat}
theorem hu1_7 {S : St} {J : aH}  {x : Int32} : hu (ovc S J) (kd 1 0 0) (.inr (9, (rootO S).set 7 (.int x))) = ovc (pa S 0 0 x) J := by
  refine hu_ovc rfl ?_ ?_
  · have : ob (pa S 0 0 x) 1 0 = some (.inr (9, rootO (pa S 0 0 x))) := rfl
    rw [this]
    simp [rootO, pa_1, pa_2, pb_1, pb_2]
  · intro k' i' hk hne
    rcases kO_c hk with rfl | rfl | rfl | rfl | rfl | rfl | rfl | rfl | rfl
    · exact (if_neg (fun z => hne ⟨rfl, z⟩)).trans (if_neg (fun z => hne ⟨rfl, z⟩)).symm
    · exact oc2 rfl rfl rfl
    · exact oc3 rfl rfl rfl rfl
    · exact oc4 rfl rfl rfl rfl rfl
    · exact oc5 rfl rfl rfl rfl rfl rfl rfl rfl rfl rfl rfl rfl rfl rfl rfl rfl
    · exact oc6 rfl rfl rfl rfl rfl rfl rfl rfl rfl rfl
    · exact oc7 rfl rfl rfl
    · exact oc8 rfl rfl rfl rfl rfl rfl rfl
    · exact oc11 rfl
theorem P1_7  {x : Int32} {idx : Nat} (X : Fx Z l0 R0 cc nL own ret Post) (d : decode cc pc = .ok (.putfield idx, 3)) (F : FK own idx 9 7 false .int) (kk : V Z nL (ovc (pa S 0 0 x) J) lv st cells slots (pc + 3)) : V Z nL (ovc S J) lv (.int x :: .ref (kd 1 0 0) :: st) cells slots pc :=
  V_put X d F (at_root) (ro_k (by decide)) (Nat.le_of_ble_eq_true rfl) rfl rfl (by rw [hu1_7]; exact kk)
theorem hu1_8 {S : St} {J : aH}  {x : Int64} : hu (ovc S J) (kd 1 0 0) (.inr (9, (rootO S).set 8 (.long x))) = ovc (pb S 59 0 x) J := by
  refine hu_ovc rfl ?_ ?_
  · have : ob (pb S 59 0 x) 1 0 = some (.inr (9, rootO (pb S 59 0 x))) := rfl
    rw [this]
    simp [rootO, pa_1, pa_2, pb_1, pb_2]
  · intro k' i' hk hne
    rcases kO_c hk with rfl | rfl | rfl | rfl | rfl | rfl | rfl | rfl | rfl
    · exact (if_neg (fun z => hne ⟨rfl, z⟩)).trans (if_neg (fun z => hne ⟨rfl, z⟩)).symm
    · exact oc2 rfl rfl rfl
    · exact oc3 rfl rfl rfl rfl
    · exact oc4 rfl rfl rfl rfl rfl
    · exact oc5 rfl rfl rfl rfl rfl rfl rfl rfl rfl rfl rfl rfl rfl rfl rfl rfl
    · exact oc6 rfl rfl rfl rfl rfl rfl rfl rfl rfl rfl
    · exact oc7 rfl rfl rfl
    · exact oc8 rfl rfl rfl rfl rfl rfl rfl
    · exact oc11 rfl
theorem P1_8  {x : Int64} {idx : Nat} (X : Fx Z l0 R0 cc nL own ret Post) (d : decode cc pc = .ok (.putfield idx, 3)) (F : FK own idx 9 8 false .long) (kk : V Z nL (ovc (pb S 59 0 x) J) lv st cells slots (pc + 3)) : V Z nL (ovc S J) lv (.long x :: .ref (kd 1 0 0) :: st) cells slots pc :=
  V_put X d F (at_root) (ro_k (by decide)) (Nat.le_of_ble_eq_true rfl) rfl rfl (by rw [hu1_8]; exact kk)
theorem hu1_9 {S : St} {J : aH}  {x : Int32} : hu (ovc S J) (kd 1 0 0) (.inr (9, (rootO S).set 9 (.int x))) = ovc (pa S 60 0 x) J := by
  refine hu_ovc rfl ?_ ?_
  · have : ob (pa S 60 0 x) 1 0 = some (.inr (9, rootO (pa S 60 0 x))) := rfl
    rw [this]
    simp [rootO, pa_1, pa_2, pb_1, pb_2]
  · intro k' i' hk hne
    rcases kO_c hk with rfl | rfl | rfl | rfl | rfl | rfl | rfl | rfl | rfl
    · exact (if_neg (fun z => hne ⟨rfl, z⟩)).trans (if_neg (fun z => hne ⟨rfl, z⟩)).symm
    · exact oc2 rfl rfl rfl
    · exact oc3 rfl rfl rfl rfl
    · exact oc4 rfl rfl rfl rfl rfl
    · exact oc5 rfl rfl rfl rfl rfl rfl rfl rfl rfl rfl rfl rfl rfl rfl rfl rfl
    · exact oc6 rfl rfl rfl rfl rfl rfl rfl rfl rfl rfl
    · exact oc7 rfl rfl rfl
    · exact oc8 rfl rfl rfl rfl rfl rfl rfl
    · exact oc11 rfl
theorem P1_9  {x : Int32} {idx : Nat} (X : Fx Z l0 R0 cc nL own ret Post) (d : decode cc pc = .ok (.putfield idx, 3)) (F : FK own idx 9 9 false .int) (kk : V Z nL (ovc (pa S 60 0 x) J) lv st cells slots (pc + 3)) : V Z nL (ovc S J) lv (.int x :: .ref (kd 1 0 0) :: st) cells slots pc :=
  V_put X d F (at_root) (ro_k (by decide)) (Nat.le_of_ble_eq_true rfl) rfl rfl (by rw [hu1_9]; exact kk)
theorem hu1_10 {S : St} {J : aH}  {x : Int32} : hu (ovc S J) (kd 1 0 0) (.inr (9, (rootO S).set 10 (.int x))) = ovc (pa S 30 0 x) J := by
  refine hu_ovc rfl ?_ ?_
  · have : ob (pa S 30 0 x) 1 0 = some (.inr (9, rootO (pa S 30 0 x))) := rfl
    rw [this]
    simp [rootO, pa_1, pa_2, pb_1, pb_2]
  · intro k' i' hk hne
    rcases kO_c hk with rfl | rfl | rfl | rfl | rfl | rfl | rfl | rfl | rfl
    · exact (if_neg (fun z => hne ⟨rfl, z⟩)).trans (if_neg (fun z => hne ⟨rfl, z⟩)).symm
    · exact oc2 rfl rfl rfl
    · exact oc3 rfl rfl rfl rfl
    · exact oc4 rfl rfl rfl rfl rfl
    · exact oc5 rfl rfl rfl rfl rfl rfl rfl rfl rfl rfl rfl rfl rfl rfl rfl rfl
    · exact oc6 rfl rfl rfl rfl rfl rfl rfl rfl rfl rfl
    · exact oc7 rfl rfl rfl
    · exact oc8 rfl rfl rfl rfl rfl rfl rfl
    · exact oc11 rfl
theorem P1_10  {x : Int32} {idx : Nat} (X : Fx Z l0 R0 cc nL own ret Post) (d : decode cc pc = .ok (.putfield idx, 3)) (F : FK own idx 9 10 false .int) (kk : V Z nL (ovc (pa S 30 0 x) J) lv st cells slots (pc + 3)) : V Z nL (ovc S J) lv (.int x :: .ref (kd 1 0 0) :: st) cells slots pc :=
  V_put X d F (at_root) (ro_k (by decide)) (Nat.le_of_ble_eq_true rfl) rfl rfl (by rw [hu1_10]; exact kk)
theorem hu2_2 {S : St} {J : aH} {i : Nat} {x : Int64} (hb : i < nn (S.1 1 0)) : hu (ovc S J) (kd 2 i 0) (.inr (4, (nodeO S i).set 2 (.long x))) = ovc (pb S 3 i x) J := by
  refine hu_ovc rfl ?_ ?_
  · have : ob (pb S 3 i x) 2 i = some (.inr (4, nodeO (pb S 3 i x) i)) := if_pos hb
    rw [this]
    simp [nodeO, pa_1, pa_2, pb_1, pb_2]
  · intro k' i' hk hne
    rcases kO_c hk with rfl | rfl | rfl | rfl | rfl | rfl | rfl | rfl | rfl
    · exact oc1 rfl rfl rfl rfl
    · have hi : i' ≠ i := fun z => hne ⟨rfl, z⟩
      have e : nodeO (pb S 3 i x) i' = nodeO S i' := by simp [nodeO, pa_1, pa_2, pb_1, pb_2, hi]
      show (if i' < nn (S.1 1 0) then (some (.inr (4, nodeO (pb S 3 i x) i')) : Option aO) else none) = _
      rw [e]
      rfl
    · exact oc3 rfl rfl rfl rfl
    · exact oc4 rfl rfl rfl rfl rfl
    · exact oc5 rfl rfl rfl rfl rfl rfl rfl rfl rfl rfl rfl rfl rfl rfl rfl rfl
    · exact oc6 rfl rfl rfl rfl rfl rfl rfl rfl rfl rfl
    · exact oc7 rfl rfl rfl
    · exact oc8 rfl rfl rfl rfl rfl rfl rfl
    · exact oc11 rfl
theorem P2_2 {i : Nat} {x : Int64} {idx : Nat} (X : Fx Z l0 R0 cc nL own ret Post) (d : decode cc pc = .ok (.putfield idx, 3)) (F : FK own idx 4 2 false .long) (hb : i < nn (S.1 1 0)) (kk : V Z nL (ovc (pb S 3 i x) J) lv st cells slots (pc + 3)) : V Z nL (ovc S J) lv (.long x :: .ref (kd 2 i 0) :: st) cells slots pc :=
  V_put X d F (at_node hb) (ro_k (by decide)) (Nat.le_of_ble_eq_true rfl) rfl rfl (by rw [hu2_2 hb]; exact kk)
theorem hu4_3 {S : St} {J : aH} {i : Nat} {x : Int32} (hb : i < nn (S.1 8 0)) : hu (ovc S J) (kd 4 i 0) (.inr (7, (sesO S i).set 3 (.int x))) = ovc (pa S 11 i x) J := by
  refine hu_ovc rfl ?_ ?_
  · have : ob (pa S 11 i x) 4 i = some (.inr (7, sesO (pa S 11 i x) i)) := if_pos hb
    rw [this]
    simp [sesO, pa_1, pa_2, pb_1, pb_2]
  · intro k' i' hk hne
    rcases kO_c hk with rfl | rfl | rfl | rfl | rfl | rfl | rfl | rfl | rfl
    · exact oc1 rfl rfl rfl rfl
    · exact oc2 rfl rfl rfl
    · exact oc3 rfl rfl rfl rfl
    · have hi : i' ≠ i := fun z => hne ⟨rfl, z⟩
      have e : sesO (pa S 11 i x) i' = sesO S i' := by simp [sesO, pa_1, pa_2, pb_1, pb_2, hi]
      show (if i' < nn (S.1 8 0) then (some (.inr (7, sesO (pa S 11 i x) i')) : Option aO) else none) = _
      rw [e]
      rfl
    · exact oc5 rfl rfl rfl rfl rfl rfl rfl rfl rfl rfl rfl rfl rfl rfl rfl rfl
    · exact oc6 rfl rfl rfl rfl rfl rfl rfl rfl rfl rfl
    · exact oc7 rfl rfl rfl
    · exact oc8 rfl rfl rfl rfl rfl rfl rfl
    · exact oc11 rfl
theorem P4_3 {i : Nat} {x : Int32} {idx : Nat} (X : Fx Z l0 R0 cc nL own ret Post) (d : decode cc pc = .ok (.putfield idx, 3)) (F : FK own idx 7 3 false .int) (hb : i < nn (S.1 8 0)) (kk : V Z nL (ovc (pa S 11 i x) J) lv st cells slots (pc + 3)) : V Z nL (ovc S J) lv (.int x :: .ref (kd 4 i 0) :: st) cells slots pc :=
  V_put X d F (at_ses hb) (ro_k (by decide)) (Nat.le_of_ble_eq_true rfl) rfl rfl (by rw [hu4_3 hb]; exact kk)
theorem hu4_4 {S : St} {J : aH} {i : Nat} {x : Int32} (hb : i < nn (S.1 8 0)) : hu (ovc S J) (kd 4 i 0) (.inr (7, (sesO S i).set 4 (.int x))) = ovc (pa S 10 i x) J := by
  refine hu_ovc rfl ?_ ?_
  · have : ob (pa S 10 i x) 4 i = some (.inr (7, sesO (pa S 10 i x) i)) := if_pos hb
    rw [this]
    simp [sesO, pa_1, pa_2, pb_1, pb_2]
  · intro k' i' hk hne
    rcases kO_c hk with rfl | rfl | rfl | rfl | rfl | rfl | rfl | rfl | rfl
    · exact oc1 rfl rfl rfl rfl
    · exact oc2 rfl rfl rfl
    · exact oc3 rfl rfl rfl rfl
    · have hi : i' ≠ i := fun z => hne ⟨rfl, z⟩
      have e : sesO (pa S 10 i x) i' = sesO S i' := by simp [sesO, pa_1, pa_2, pb_1, pb_2, hi]
      show (if i' < nn (S.1 8 0) then (some (.inr (7, sesO (pa S 10 i x) i')) : Option aO) else none) = _
      rw [e]
      rfl
    · exact oc5 rfl rfl rfl rfl rfl rfl rfl rfl rfl rfl rfl rfl rfl rfl rfl rfl
    · exact oc6 rfl rfl rfl rfl rfl rfl rfl rfl rfl rfl
    · exact oc7 rfl rfl rfl
    · exact oc8 rfl rfl rfl rfl rfl rfl rfl
    · exact oc11 rfl
theorem P4_4 {i : Nat} {x : Int32} {idx : Nat} (X : Fx Z l0 R0 cc nL own ret Post) (d : decode cc pc = .ok (.putfield idx, 3)) (F : FK own idx 7 4 false .int) (hb : i < nn (S.1 8 0)) (kk : V Z nL (ovc (pa S 10 i x) J) lv st cells slots (pc + 3)) : V Z nL (ovc S J) lv (.int x :: .ref (kd 4 i 0) :: st) cells slots pc :=
  V_put X d F (at_ses hb) (ro_k (by decide)) (Nat.le_of_ble_eq_true rfl) rfl rfl (by rw [hu4_4 hb]; exact kk)
theorem hu4_5 {S : St} {J : aH} {i : Nat} {x : Int32} (hb : i < nn (S.1 8 0)) : hu (ovc S J) (kd 4 i 0) (.inr (7, (sesO S i).set 5 (.int x))) = ovc (pa S 12 i x) J := by
  refine hu_ovc rfl ?_ ?_
  · have : ob (pa S 12 i x) 4 i = some (.inr (7, sesO (pa S 12 i x) i)) := if_pos hb
    rw [this]
    simp [sesO, pa_1, pa_2, pb_1, pb_2]
  · intro k' i' hk hne
    rcases kO_c hk with rfl | rfl | rfl | rfl | rfl | rfl | rfl | rfl | rfl
    · exact oc1 rfl rfl rfl rfl
    · exact oc2 rfl rfl rfl
    · exact oc3 rfl rfl rfl rfl
    · have hi : i' ≠ i := fun z => hne ⟨rfl, z⟩
      have e : sesO (pa S 12 i x) i' = sesO S i' := by simp [sesO, pa_1, pa_2, pb_1, pb_2, hi]
      show (if i' < nn (S.1 8 0) then (some (.inr (7, sesO (pa S 12 i x) i')) : Option aO) else none) = _
      rw [e]
      rfl
    · exact oc5 rfl rfl rfl rfl rfl rfl rfl rfl rfl rfl rfl rfl rfl rfl rfl rfl
    · exact oc6 rfl rfl rfl rfl rfl rfl rfl rfl rfl rfl
    · exact oc7 rfl rfl rfl
    · exact oc8 rfl rfl rfl rfl rfl rfl rfl
    · exact oc11 rfl
theorem P4_5 {i : Nat} {x : Int32} {idx : Nat} (X : Fx Z l0 R0 cc nL own ret Post) (d : decode cc pc = .ok (.putfield idx, 3)) (F : FK own idx 7 5 false .int) (hb : i < nn (S.1 8 0)) (kk : V Z nL (ovc (pa S 12 i x) J) lv st cells slots (pc + 3)) : V Z nL (ovc S J) lv (.int x :: .ref (kd 4 i 0) :: st) cells slots pc :=
  V_put X d F (at_ses hb) (ro_k (by decide)) (Nat.le_of_ble_eq_true rfl) rfl rfl (by rw [hu4_5 hb]; exact kk)
theorem subO_17 {S : St} {i : Nat} {x : Int32} : subO (pa S 17 i x) i = (subO S i).set 3 (.ref (kd 4 (nn x) 0)) := by
  have e1 : (pa S 17 i x).1 17 i = x := pa_s S x
  have e2 : ∀ f, f ≠ 17 → (pa S 17 i x).1 f i = S.1 f i := fun f h => pa_n S x h
  unfold subO
  rw [e1, e2 18 (by decide), e2 19 (by decide), e2 20 (by decide), e2 21 (by decide), e2 22 (by decide), e2 23 (by decide), e2 24 (by decide), e2 25 (by decide), e2 26 (by decide), e2 27 (by decide), e2 31 (by decide), e2 28 (by decide), e2 29 (by decide), e2 16 (by decide)]
  rfl
theorem subO_17n {S : St} {i j : Nat} {x : Int32} (h : j ≠ i) : subO (pa S 17 i x) j = subO S j := by
  have e2 : ∀ f, (pa S 17 i x).1 f j = S.1 f j := fun f => if_neg (fun q => h q.2)
  unfold subO
  rw [e2 17, e2 18, e2 19, e2 20, e2 21, e2 22, e2 23, e2 24, e2 25, e2 26, e2 27, e2 31, e2 28, e2 29, e2 16]
theorem hu5_3 {S : St} {J : aH} {i : Nat} {a : Nat} {x : Int32} (hb : i < nn (S.1 15 0)) (ha : nn x = a) : hu (ovc S J) (kd 5 i 0) (.inr (8, (subO S i).set 3 (.ref (kd 4 a 0)))) = ovc (pa S 17 i x) J := by
  refine hu_ovc rfl ?_ ?_
  · have : ob (pa S 17 i x) 5 i = some (.inr (8, subO (pa S 17 i x) i)) := if_pos hb
    rw [this, subO_17, ha]
  · intro k' i' hk hne
    rcases kO_c hk with rfl | rfl | rfl | rfl | rfl | rfl | rfl | rfl | rfl
    · exact oc1 rfl rfl rfl rfl
    · exact oc2 rfl rfl rfl
    · exact oc3 rfl rfl rfl rfl
    · exact oc4 rfl rfl rfl rfl rfl
    · have hi : i' ≠ i := fun z => hne ⟨rfl, z⟩
      have e : subO (pa S 17 i x) i' = subO S i' := subO_17n hi
      show (if i' < nn (S.1 15 0) then (some (.inr (8, subO (pa S 17 i x) i')) : Option aO) else none) = _
      rw [e]
      rfl
    · exact oc6 rfl rfl rfl rfl rfl rfl rfl rfl rfl rfl
    · exact oc7 rfl rfl rfl
    · exact oc8 rfl rfl rfl rfl rfl rfl rfl
    · exact oc11 rfl
theorem P5_3 {i : Nat} {a : Nat} {x : Int32} {idx : Nat} (X : Fx Z l0 R0 cc nL own ret Post) (d : decode cc pc = .ok (.putfield idx, 3)) (F : FK own idx 8 3 false (.object "WatchServer$Session")) (hb : i < nn (S.1 15 0)) (ha : nn x = a) (kk : V Z nL (ovc (pa S 17 i x) J) lv st cells slots (pc + 3)) : V Z nL (ovc S J) lv (.ref (kd 4 a 0) :: .ref (kd 5 i 0) :: st) cells slots pc :=
  V_put X d F (at_sub hb) (ro_k (by decide)) (Nat.le_of_ble_eq_true rfl) rfl rfl (by rw [hu5_3 hb ha]; exact kk)
theorem hu5_4 {S : St} {J : aH} {i : Nat} {x : Int32} (hb : i < nn (S.1 15 0)) : hu (ovc S J) (kd 5 i 0) (.inr (8, (subO S i).set 4 (.int x))) = ovc (pa S 18 i x) J := by
  refine hu_ovc rfl ?_ ?_
  · have : ob (pa S 18 i x) 5 i = some (.inr (8, subO (pa S 18 i x) i)) := if_pos hb
    rw [this]
    simp [subO, pa_1, pa_2, pb_1, pb_2]
  · intro k' i' hk hne
    rcases kO_c hk with rfl | rfl | rfl | rfl | rfl | rfl | rfl | rfl | rfl
    · exact oc1 rfl rfl rfl rfl
    · exact oc2 rfl rfl rfl
    · exact oc3 rfl rfl rfl rfl
    · exact oc4 rfl rfl rfl rfl rfl
    · have hi : i' ≠ i := fun z => hne ⟨rfl, z⟩
      have e : subO (pa S 18 i x) i' = subO S i' := by simp [subO, pa_1, pa_2, pb_1, pb_2, hi]
      show (if i' < nn (S.1 15 0) then (some (.inr (8, subO (pa S 18 i x) i')) : Option aO) else none) = _
      rw [e]
      rfl
    · exact oc6 rfl rfl rfl rfl rfl rfl rfl rfl rfl rfl
    · exact oc7 rfl rfl rfl
    · exact oc8 rfl rfl rfl rfl rfl rfl rfl
    · exact oc11 rfl
theorem P5_4 {i : Nat} {x : Int32} {idx : Nat} (X : Fx Z l0 R0 cc nL own ret Post) (d : decode cc pc = .ok (.putfield idx, 3)) (F : FK own idx 8 4 false .int) (hb : i < nn (S.1 15 0)) (kk : V Z nL (ovc (pa S 18 i x) J) lv st cells slots (pc + 3)) : V Z nL (ovc S J) lv (.int x :: .ref (kd 5 i 0) :: st) cells slots pc :=
  V_put X d F (at_sub hb) (ro_k (by decide)) (Nat.le_of_ble_eq_true rfl) rfl rfl (by rw [hu5_4 hb]; exact kk)
theorem hu5_5 {S : St} {J : aH} {i : Nat} {x : Int32} (hb : i < nn (S.1 15 0)) : hu (ovc S J) (kd 5 i 0) (.inr (8, (subO S i).set 5 (.int x))) = ovc (pa S 19 i x) J := by
  refine hu_ovc rfl ?_ ?_
  · have : ob (pa S 19 i x) 5 i = some (.inr (8, subO (pa S 19 i x) i)) := if_pos hb
    rw [this]
    simp [subO, pa_1, pa_2, pb_1, pb_2]
  · intro k' i' hk hne
    rcases kO_c hk with rfl | rfl | rfl | rfl | rfl | rfl | rfl | rfl | rfl
    · exact oc1 rfl rfl rfl rfl
    · exact oc2 rfl rfl rfl
    · exact oc3 rfl rfl rfl rfl
    · exact oc4 rfl rfl rfl rfl rfl
    · have hi : i' ≠ i := fun z => hne ⟨rfl, z⟩
      have e : subO (pa S 19 i x) i' = subO S i' := by simp [subO, pa_1, pa_2, pb_1, pb_2, hi]
      show (if i' < nn (S.1 15 0) then (some (.inr (8, subO (pa S 19 i x) i')) : Option aO) else none) = _
      rw [e]
      rfl
    · exact oc6 rfl rfl rfl rfl rfl rfl rfl rfl rfl rfl
    · exact oc7 rfl rfl rfl
    · exact oc8 rfl rfl rfl rfl rfl rfl rfl
    · exact oc11 rfl
theorem P5_5 {i : Nat} {x : Int32} {idx : Nat} (X : Fx Z l0 R0 cc nL own ret Post) (d : decode cc pc = .ok (.putfield idx, 3)) (F : FK own idx 8 5 false .int) (hb : i < nn (S.1 15 0)) (kk : V Z nL (ovc (pa S 19 i x) J) lv st cells slots (pc + 3)) : V Z nL (ovc S J) lv (.int x :: .ref (kd 5 i 0) :: st) cells slots pc :=
  V_put X d F (at_sub hb) (ro_k (by decide)) (Nat.le_of_ble_eq_true rfl) rfl rfl (by rw [hu5_5 hb]; exact kk)
theorem hu5_6 {S : St} {J : aH} {i : Nat} {x : Int32} (hb : i < nn (S.1 15 0)) : hu (ovc S J) (kd 5 i 0) (.inr (8, (subO S i).set 6 (.int x))) = ovc (pa S 20 i x) J := by
  refine hu_ovc rfl ?_ ?_
  · have : ob (pa S 20 i x) 5 i = some (.inr (8, subO (pa S 20 i x) i)) := if_pos hb
    rw [this]
    simp [subO, pa_1, pa_2, pb_1, pb_2]
  · intro k' i' hk hne
    rcases kO_c hk with rfl | rfl | rfl | rfl | rfl | rfl | rfl | rfl | rfl
    · exact oc1 rfl rfl rfl rfl
    · exact oc2 rfl rfl rfl
    · exact oc3 rfl rfl rfl rfl
    · exact oc4 rfl rfl rfl rfl rfl
    · have hi : i' ≠ i := fun z => hne ⟨rfl, z⟩
      have e : subO (pa S 20 i x) i' = subO S i' := by simp [subO, pa_1, pa_2, pb_1, pb_2, hi]
      show (if i' < nn (S.1 15 0) then (some (.inr (8, subO (pa S 20 i x) i')) : Option aO) else none) = _
      rw [e]
      rfl
    · exact oc6 rfl rfl rfl rfl rfl rfl rfl rfl rfl rfl
    · exact oc7 rfl rfl rfl
    · exact oc8 rfl rfl rfl rfl rfl rfl rfl
    · exact oc11 rfl
theorem P5_6 {i : Nat} {x : Int32} {idx : Nat} (X : Fx Z l0 R0 cc nL own ret Post) (d : decode cc pc = .ok (.putfield idx, 3)) (F : FK own idx 8 6 false .int) (hb : i < nn (S.1 15 0)) (kk : V Z nL (ovc (pa S 20 i x) J) lv st cells slots (pc + 3)) : V Z nL (ovc S J) lv (.int x :: .ref (kd 5 i 0) :: st) cells slots pc :=
  V_put X d F (at_sub hb) (ro_k (by decide)) (Nat.le_of_ble_eq_true rfl) rfl rfl (by rw [hu5_6 hb]; exact kk)
theorem hu5_7 {S : St} {J : aH} {i : Nat} {x : Int32} (hb : i < nn (S.1 15 0)) : hu (ovc S J) (kd 5 i 0) (.inr (8, (subO S i).set 7 (.int x))) = ovc (pa S 21 i x) J := by
  refine hu_ovc rfl ?_ ?_
  · have : ob (pa S 21 i x) 5 i = some (.inr (8, subO (pa S 21 i x) i)) := if_pos hb
    rw [this]
    simp [subO, pa_1, pa_2, pb_1, pb_2]
  · intro k' i' hk hne
    rcases kO_c hk with rfl | rfl | rfl | rfl | rfl | rfl | rfl | rfl | rfl
    · exact oc1 rfl rfl rfl rfl
    · exact oc2 rfl rfl rfl
    · exact oc3 rfl rfl rfl rfl
    · exact oc4 rfl rfl rfl rfl rfl
    · have hi : i' ≠ i := fun z => hne ⟨rfl, z⟩
      have e : subO (pa S 21 i x) i' = subO S i' := by simp [subO, pa_1, pa_2, pb_1, pb_2, hi]
      show (if i' < nn (S.1 15 0) then (some (.inr (8, subO (pa S 21 i x) i')) : Option aO) else none) = _
      rw [e]
      rfl
    · exact oc6 rfl rfl rfl rfl rfl rfl rfl rfl rfl rfl
    · exact oc7 rfl rfl rfl
    · exact oc8 rfl rfl rfl rfl rfl rfl rfl
    · exact oc11 rfl
theorem P5_7 {i : Nat} {x : Int32} {idx : Nat} (X : Fx Z l0 R0 cc nL own ret Post) (d : decode cc pc = .ok (.putfield idx, 3)) (F : FK own idx 8 7 false .int) (hb : i < nn (S.1 15 0)) (kk : V Z nL (ovc (pa S 21 i x) J) lv st cells slots (pc + 3)) : V Z nL (ovc S J) lv (.int x :: .ref (kd 5 i 0) :: st) cells slots pc :=
  V_put X d F (at_sub hb) (ro_k (by decide)) (Nat.le_of_ble_eq_true rfl) rfl rfl (by rw [hu5_7 hb]; exact kk)
theorem hu5_8 {S : St} {J : aH} {i : Nat} {x : Int32} (hb : i < nn (S.1 15 0)) : hu (ovc S J) (kd 5 i 0) (.inr (8, (subO S i).set 8 (.int x))) = ovc (pa S 22 i x) J := by
  refine hu_ovc rfl ?_ ?_
  · have : ob (pa S 22 i x) 5 i = some (.inr (8, subO (pa S 22 i x) i)) := if_pos hb
    rw [this]
    simp [subO, pa_1, pa_2, pb_1, pb_2]
  · intro k' i' hk hne
    rcases kO_c hk with rfl | rfl | rfl | rfl | rfl | rfl | rfl | rfl | rfl
    · exact oc1 rfl rfl rfl rfl
    · exact oc2 rfl rfl rfl
    · exact oc3 rfl rfl rfl rfl
    · exact oc4 rfl rfl rfl rfl rfl
    · have hi : i' ≠ i := fun z => hne ⟨rfl, z⟩
      have e : subO (pa S 22 i x) i' = subO S i' := by simp [subO, pa_1, pa_2, pb_1, pb_2, hi]
      show (if i' < nn (S.1 15 0) then (some (.inr (8, subO (pa S 22 i x) i')) : Option aO) else none) = _
      rw [e]
      rfl
    · exact oc6 rfl rfl rfl rfl rfl rfl rfl rfl rfl rfl
    · exact oc7 rfl rfl rfl
    · exact oc8 rfl rfl rfl rfl rfl rfl rfl
    · exact oc11 rfl
theorem P5_8 {i : Nat} {x : Int32} {idx : Nat} (X : Fx Z l0 R0 cc nL own ret Post) (d : decode cc pc = .ok (.putfield idx, 3)) (F : FK own idx 8 8 false .int) (hb : i < nn (S.1 15 0)) (kk : V Z nL (ovc (pa S 22 i x) J) lv st cells slots (pc + 3)) : V Z nL (ovc S J) lv (.int x :: .ref (kd 5 i 0) :: st) cells slots pc :=
  V_put X d F (at_sub hb) (ro_k (by decide)) (Nat.le_of_ble_eq_true rfl) rfl rfl (by rw [hu5_8 hb]; exact kk)
theorem hu5_9 {S : St} {J : aH} {i : Nat} {x : Int32} (hb : i < nn (S.1 15 0)) : hu (ovc S J) (kd 5 i 0) (.inr (8, (subO S i).set 9 (.int x))) = ovc (pa S 23 i x) J := by
  refine hu_ovc rfl ?_ ?_
  · have : ob (pa S 23 i x) 5 i = some (.inr (8, subO (pa S 23 i x) i)) := if_pos hb
    rw [this]
    simp [subO, pa_1, pa_2, pb_1, pb_2]
  · intro k' i' hk hne
    rcases kO_c hk with rfl | rfl | rfl | rfl | rfl | rfl | rfl | rfl | rfl
    · exact oc1 rfl rfl rfl rfl
    · exact oc2 rfl rfl rfl
    · exact oc3 rfl rfl rfl rfl
    · exact oc4 rfl rfl rfl rfl rfl
    · have hi : i' ≠ i := fun z => hne ⟨rfl, z⟩
      have e : subO (pa S 23 i x) i' = subO S i' := by simp [subO, pa_1, pa_2, pb_1, pb_2, hi]
      show (if i' < nn (S.1 15 0) then (some (.inr (8, subO (pa S 23 i x) i')) : Option aO) else none) = _
      rw [e]
      rfl
    · exact oc6 rfl rfl rfl rfl rfl rfl rfl rfl rfl rfl
    · exact oc7 rfl rfl rfl
    · exact oc8 rfl rfl rfl rfl rfl rfl rfl
    · exact oc11 rfl
theorem P5_9 {i : Nat} {x : Int32} {idx : Nat} (X : Fx Z l0 R0 cc nL own ret Post) (d : decode cc pc = .ok (.putfield idx, 3)) (F : FK own idx 8 9 false .boolean) (hb : i < nn (S.1 15 0)) (hx : x = 0 ∨ x = 1) (kk : V Z nL (ovc (pa S 23 i x) J) lv st cells slots (pc + 3)) : V Z nL (ovc S J) lv (.int x :: .ref (kd 5 i 0) :: st) cells slots pc :=
  V_put X d F (at_sub hb) (ro_k (by decide)) (Nat.le_of_ble_eq_true rfl) (by rcases hx with rfl | rfl <;> rfl) (by rcases hx with rfl | rfl <;> rfl) (by rw [hu5_9 hb]; exact kk)
theorem hu5_10 {S : St} {J : aH} {i : Nat} {x : Int32} (hb : i < nn (S.1 15 0)) : hu (ovc S J) (kd 5 i 0) (.inr (8, (subO S i).set 10 (.int x))) = ovc (pa S 24 i x) J := by
  refine hu_ovc rfl ?_ ?_
  · have : ob (pa S 24 i x) 5 i = some (.inr (8, subO (pa S 24 i x) i)) := if_pos hb
    rw [this]
    simp [subO, pa_1, pa_2, pb_1, pb_2]
  · intro k' i' hk hne
    rcases kO_c hk with rfl | rfl | rfl | rfl | rfl | rfl | rfl | rfl | rfl
    · exact oc1 rfl rfl rfl rfl
    · exact oc2 rfl rfl rfl
    · exact oc3 rfl rfl rfl rfl
    · exact oc4 rfl rfl rfl rfl rfl
    · have hi : i' ≠ i := fun z => hne ⟨rfl, z⟩
      have e : subO (pa S 24 i x) i' = subO S i' := by simp [subO, pa_1, pa_2, pb_1, pb_2, hi]
      show (if i' < nn (S.1 15 0) then (some (.inr (8, subO (pa S 24 i x) i')) : Option aO) else none) = _
      rw [e]
      rfl
    · exact oc6 rfl rfl rfl rfl rfl rfl rfl rfl rfl rfl
    · exact oc7 rfl rfl rfl
    · exact oc8 rfl rfl rfl rfl rfl rfl rfl
    · exact oc11 rfl
theorem P5_10 {i : Nat} {x : Int32} {idx : Nat} (X : Fx Z l0 R0 cc nL own ret Post) (d : decode cc pc = .ok (.putfield idx, 3)) (F : FK own idx 8 10 false .int) (hb : i < nn (S.1 15 0)) (kk : V Z nL (ovc (pa S 24 i x) J) lv st cells slots (pc + 3)) : V Z nL (ovc S J) lv (.int x :: .ref (kd 5 i 0) :: st) cells slots pc :=
  V_put X d F (at_sub hb) (ro_k (by decide)) (Nat.le_of_ble_eq_true rfl) rfl rfl (by rw [hu5_10 hb]; exact kk)
theorem hu5_11 {S : St} {J : aH} {i : Nat} {x : Int32} (hb : i < nn (S.1 15 0)) : hu (ovc S J) (kd 5 i 0) (.inr (8, (subO S i).set 11 (.int x))) = ovc (pa S 25 i x) J := by
  refine hu_ovc rfl ?_ ?_
  · have : ob (pa S 25 i x) 5 i = some (.inr (8, subO (pa S 25 i x) i)) := if_pos hb
    rw [this]
    simp [subO, pa_1, pa_2, pb_1, pb_2]
  · intro k' i' hk hne
    rcases kO_c hk with rfl | rfl | rfl | rfl | rfl | rfl | rfl | rfl | rfl
    · exact oc1 rfl rfl rfl rfl
    · exact oc2 rfl rfl rfl
    · exact oc3 rfl rfl rfl rfl
    · exact oc4 rfl rfl rfl rfl rfl
    · have hi : i' ≠ i := fun z => hne ⟨rfl, z⟩
      have e : subO (pa S 25 i x) i' = subO S i' := by simp [subO, pa_1, pa_2, pb_1, pb_2, hi]
      show (if i' < nn (S.1 15 0) then (some (.inr (8, subO (pa S 25 i x) i')) : Option aO) else none) = _
      rw [e]
      rfl
    · exact oc6 rfl rfl rfl rfl rfl rfl rfl rfl rfl rfl
    · exact oc7 rfl rfl rfl
    · exact oc8 rfl rfl rfl rfl rfl rfl rfl
    · exact oc11 rfl
theorem P5_11 {i : Nat} {x : Int32} {idx : Nat} (X : Fx Z l0 R0 cc nL own ret Post) (d : decode cc pc = .ok (.putfield idx, 3)) (F : FK own idx 8 11 false .int) (hb : i < nn (S.1 15 0)) (kk : V Z nL (ovc (pa S 25 i x) J) lv st cells slots (pc + 3)) : V Z nL (ovc S J) lv (.int x :: .ref (kd 5 i 0) :: st) cells slots pc :=
  V_put X d F (at_sub hb) (ro_k (by decide)) (Nat.le_of_ble_eq_true rfl) rfl rfl (by rw [hu5_11 hb]; exact kk)
theorem hu5_12 {S : St} {J : aH} {i : Nat} {x : Int32} (hb : i < nn (S.1 15 0)) : hu (ovc S J) (kd 5 i 0) (.inr (8, (subO S i).set 12 (.int x))) = ovc (pa S 26 i x) J := by
  refine hu_ovc rfl ?_ ?_
  · have : ob (pa S 26 i x) 5 i = some (.inr (8, subO (pa S 26 i x) i)) := if_pos hb
    rw [this]
    simp [subO, pa_1, pa_2, pb_1, pb_2]
  · intro k' i' hk hne
    rcases kO_c hk with rfl | rfl | rfl | rfl | rfl | rfl | rfl | rfl | rfl
    · exact oc1 rfl rfl rfl rfl
    · exact oc2 rfl rfl rfl
    · exact oc3 rfl rfl rfl rfl
    · exact oc4 rfl rfl rfl rfl rfl
    · have hi : i' ≠ i := fun z => hne ⟨rfl, z⟩
      have e : subO (pa S 26 i x) i' = subO S i' := by simp [subO, pa_1, pa_2, pb_1, pb_2, hi]
      show (if i' < nn (S.1 15 0) then (some (.inr (8, subO (pa S 26 i x) i')) : Option aO) else none) = _
      rw [e]
      rfl
    · exact oc6 rfl rfl rfl rfl rfl rfl rfl rfl rfl rfl
    · exact oc7 rfl rfl rfl
    · exact oc8 rfl rfl rfl rfl rfl rfl rfl
    · exact oc11 rfl
theorem P5_12 {i : Nat} {x : Int32} {idx : Nat} (X : Fx Z l0 R0 cc nL own ret Post) (d : decode cc pc = .ok (.putfield idx, 3)) (F : FK own idx 8 12 false .int) (hb : i < nn (S.1 15 0)) (kk : V Z nL (ovc (pa S 26 i x) J) lv st cells slots (pc + 3)) : V Z nL (ovc S J) lv (.int x :: .ref (kd 5 i 0) :: st) cells slots pc :=
  V_put X d F (at_sub hb) (ro_k (by decide)) (Nat.le_of_ble_eq_true rfl) rfl rfl (by rw [hu5_12 hb]; exact kk)
theorem hu5_13 {S : St} {J : aH} {i : Nat} {x : Int32} (hb : i < nn (S.1 15 0)) : hu (ovc S J) (kd 5 i 0) (.inr (8, (subO S i).set 13 (.int x))) = ovc (pa S 27 i x) J := by
  refine hu_ovc rfl ?_ ?_
  · have : ob (pa S 27 i x) 5 i = some (.inr (8, subO (pa S 27 i x) i)) := if_pos hb
    rw [this]
    simp [subO, pa_1, pa_2, pb_1, pb_2]
  · intro k' i' hk hne
    rcases kO_c hk with rfl | rfl | rfl | rfl | rfl | rfl | rfl | rfl | rfl
    · exact oc1 rfl rfl rfl rfl
    · exact oc2 rfl rfl rfl
    · exact oc3 rfl rfl rfl rfl
    · exact oc4 rfl rfl rfl rfl rfl
    · have hi : i' ≠ i := fun z => hne ⟨rfl, z⟩
      have e : subO (pa S 27 i x) i' = subO S i' := by simp [subO, pa_1, pa_2, pb_1, pb_2, hi]
      show (if i' < nn (S.1 15 0) then (some (.inr (8, subO (pa S 27 i x) i')) : Option aO) else none) = _
      rw [e]
      rfl
    · exact oc6 rfl rfl rfl rfl rfl rfl rfl rfl rfl rfl
    · exact oc7 rfl rfl rfl
    · exact oc8 rfl rfl rfl rfl rfl rfl rfl
    · exact oc11 rfl
theorem P5_13 {i : Nat} {x : Int32} {idx : Nat} (X : Fx Z l0 R0 cc nL own ret Post) (d : decode cc pc = .ok (.putfield idx, 3)) (F : FK own idx 8 13 false .boolean) (hb : i < nn (S.1 15 0)) (hx : x = 0 ∨ x = 1) (kk : V Z nL (ovc (pa S 27 i x) J) lv st cells slots (pc + 3)) : V Z nL (ovc S J) lv (.int x :: .ref (kd 5 i 0) :: st) cells slots pc :=
  V_put X d F (at_sub hb) (ro_k (by decide)) (Nat.le_of_ble_eq_true rfl) (by rcases hx with rfl | rfl <;> rfl) (by rcases hx with rfl | rfl <;> rfl) (by rw [hu5_13 hb]; exact kk)
theorem hu5_14 {S : St} {J : aH} {i : Nat} {x : Int32} (hb : i < nn (S.1 15 0)) : hu (ovc S J) (kd 5 i 0) (.inr (8, (subO S i).set 14 (.int x))) = ovc (pa S 31 i x) J := by
  refine hu_ovc rfl ?_ ?_
  · have : ob (pa S 31 i x) 5 i = some (.inr (8, subO (pa S 31 i x) i)) := if_pos hb
    rw [this]
    simp [subO, pa_1, pa_2, pb_1, pb_2]
  · intro k' i' hk hne
    rcases kO_c hk with rfl | rfl | rfl | rfl | rfl | rfl | rfl | rfl | rfl
    · exact oc1 rfl rfl rfl rfl
    · exact oc2 rfl rfl rfl
    · exact oc3 rfl rfl rfl rfl
    · exact oc4 rfl rfl rfl rfl rfl
    · have hi : i' ≠ i := fun z => hne ⟨rfl, z⟩
      have e : subO (pa S 31 i x) i' = subO S i' := by simp [subO, pa_1, pa_2, pb_1, pb_2, hi]
      show (if i' < nn (S.1 15 0) then (some (.inr (8, subO (pa S 31 i x) i')) : Option aO) else none) = _
      rw [e]
      rfl
    · exact oc6 rfl rfl rfl rfl rfl rfl rfl rfl rfl rfl
    · exact oc7 rfl rfl rfl
    · exact oc8 rfl rfl rfl rfl rfl rfl rfl
    · exact oc11 rfl
theorem P5_14 {i : Nat} {x : Int32} {idx : Nat} (X : Fx Z l0 R0 cc nL own ret Post) (d : decode cc pc = .ok (.putfield idx, 3)) (F : FK own idx 8 14 false .boolean) (hb : i < nn (S.1 15 0)) (hx : x = 0 ∨ x = 1) (kk : V Z nL (ovc (pa S 31 i x) J) lv st cells slots (pc + 3)) : V Z nL (ovc S J) lv (.int x :: .ref (kd 5 i 0) :: st) cells slots pc :=
  V_put X d F (at_sub hb) (ro_k (by decide)) (Nat.le_of_ble_eq_true rfl) (by rcases hx with rfl | rfl <;> rfl) (by rcases hx with rfl | rfl <;> rfl) (by rw [hu5_14 hb]; exact kk)
theorem hu5_15 {S : St} {J : aH} {i : Nat} {x : Int32} (hb : i < nn (S.1 15 0)) : hu (ovc S J) (kd 5 i 0) (.inr (8, (subO S i).set 15 (.int x))) = ovc (pa S 28 i x) J := by
  refine hu_ovc rfl ?_ ?_
  · have : ob (pa S 28 i x) 5 i = some (.inr (8, subO (pa S 28 i x) i)) := if_pos hb
    rw [this]
    simp [subO, pa_1, pa_2, pb_1, pb_2]
  · intro k' i' hk hne
    rcases kO_c hk with rfl | rfl | rfl | rfl | rfl | rfl | rfl | rfl | rfl
    · exact oc1 rfl rfl rfl rfl
    · exact oc2 rfl rfl rfl
    · exact oc3 rfl rfl rfl rfl
    · exact oc4 rfl rfl rfl rfl rfl
    · have hi : i' ≠ i := fun z => hne ⟨rfl, z⟩
      have e : subO (pa S 28 i x) i' = subO S i' := by simp [subO, pa_1, pa_2, pb_1, pb_2, hi]
      show (if i' < nn (S.1 15 0) then (some (.inr (8, subO (pa S 28 i x) i')) : Option aO) else none) = _
      rw [e]
      rfl
    · exact oc6 rfl rfl rfl rfl rfl rfl rfl rfl rfl rfl
    · exact oc7 rfl rfl rfl
    · exact oc8 rfl rfl rfl rfl rfl rfl rfl
    · exact oc11 rfl
theorem P5_15 {i : Nat} {x : Int32} {idx : Nat} (X : Fx Z l0 R0 cc nL own ret Post) (d : decode cc pc = .ok (.putfield idx, 3)) (F : FK own idx 8 15 false .boolean) (hb : i < nn (S.1 15 0)) (hx : x = 0 ∨ x = 1) (kk : V Z nL (ovc (pa S 28 i x) J) lv st cells slots (pc + 3)) : V Z nL (ovc S J) lv (.int x :: .ref (kd 5 i 0) :: st) cells slots pc :=
  V_put X d F (at_sub hb) (ro_k (by decide)) (Nat.le_of_ble_eq_true rfl) (by rcases hx with rfl | rfl <;> rfl) (by rcases hx with rfl | rfl <;> rfl) (by rw [hu5_15 hb]; exact kk)
theorem hu5_16 {S : St} {J : aH} {i : Nat} {x : Int32} (hb : i < nn (S.1 15 0)) (hx : ¬ x + 1 = 0) : hu (ovc S J) (kd 5 i 0) (.inr (8, (subO S i).set 16 (.int x))) = ovc (pa S 29 i (x + 1)) J := by
  refine hu_ovc rfl ?_ ?_
  · have e : lo (x + 1) = x := by
      unfold lo
      rw [if_neg hx]
      exact Int32.add_sub_cancel x 1
    have : ob (pa S 29 i (x + 1)) 5 i = some (.inr (8, subO (pa S 29 i (x + 1)) i)) := if_pos hb
    rw [this]
    simp [subO, pa_1, e]
  · intro k' i' hk hne
    rcases kO_c hk with rfl | rfl | rfl | rfl | rfl | rfl | rfl | rfl | rfl
    · exact oc1 rfl rfl rfl rfl
    · exact oc2 rfl rfl rfl
    · exact oc3 rfl rfl rfl rfl
    · exact oc4 rfl rfl rfl rfl rfl
    · have hi : i' ≠ i := fun z => hne ⟨rfl, z⟩
      have e : subO (pa S 29 i (x + 1)) i' = subO S i' := by simp [subO, pa_1, pa_2, pb_1, pb_2, hi]
      show (if i' < nn (S.1 15 0) then (some (.inr (8, subO (pa S 29 i (x + 1)) i')) : Option aO) else none) = _
      rw [e]
      rfl
    · exact oc6 rfl rfl rfl rfl rfl rfl rfl rfl rfl rfl
    · exact oc7 rfl rfl rfl
    · exact oc8 rfl rfl rfl rfl rfl rfl rfl
    · exact oc11 rfl
theorem P5_16 {i : Nat} {x : Int32} {idx : Nat} (X : Fx Z l0 R0 cc nL own ret Post) (d : decode cc pc = .ok (.putfield idx, 3)) (F : FK own idx 8 16 false .int) (hb : i < nn (S.1 15 0)) (hx : ¬ x + 1 = 0) (kk : V Z nL (ovc (pa S 29 i (x + 1)) J) lv st cells slots (pc + 3)) : V Z nL (ovc S J) lv (.int x :: .ref (kd 5 i 0) :: st) cells slots pc :=
  V_put X d F (at_sub hb) (ro_k (by decide)) (Nat.le_of_ble_eq_true rfl) rfl rfl (by rw [hu5_16 hb hx]; exact kk)
theorem hu5_17 {S : St} {J : aH} {i : Nat}  (hb : i < nn (S.1 15 0)) : hu (ovc S J) (kd 5 i 0) (.inr (8, (subO S i).set 17 (.int 1))) = ovc (pa S 16 i 0) J := by
  refine hu_ovc rfl ?_ ?_
  · have : ob (pa S 16 i 0) 5 i = some (.inr (8, subO (pa S 16 i 0) i)) := if_pos hb
    rw [this]
    simp [subO, pa_1, pa_2, pb_1, pb_2, gb]
  · intro k' i' hk hne
    rcases kO_c hk with rfl | rfl | rfl | rfl | rfl | rfl | rfl | rfl | rfl
    · exact oc1 rfl rfl rfl rfl
    · exact oc2 rfl rfl rfl
    · exact oc3 rfl rfl rfl rfl
    · exact oc4 rfl rfl rfl rfl rfl
    · have hi : i' ≠ i := fun z => hne ⟨rfl, z⟩
      have e : subO (pa S 16 i 0) i' = subO S i' := by simp [subO, pa_1, pa_2, pb_1, pb_2, hi]
      show (if i' < nn (S.1 15 0) then (some (.inr (8, subO (pa S 16 i 0) i')) : Option aO) else none) = _
      rw [e]
      rfl
    · exact oc6 rfl rfl rfl rfl rfl rfl rfl rfl rfl rfl
    · exact oc7 rfl rfl rfl
    · exact oc8 rfl rfl rfl rfl rfl rfl rfl
    · exact oc11 rfl
theorem P5_17 {i : Nat}  {idx : Nat} (X : Fx Z l0 R0 cc nL own ret Post) (d : decode cc pc = .ok (.putfield idx, 3)) (F : FK own idx 8 17 false .boolean) (hb : i < nn (S.1 15 0)) (kk : V Z nL (ovc (pa S 16 i 0) J) lv st cells slots (pc + 3)) : V Z nL (ovc S J) lv (.int 1 :: .ref (kd 5 i 0) :: st) cells slots pc :=
  V_put X d F (at_sub hb) (ro_k (by decide)) (Nat.le_of_ble_eq_true rfl) rfl rfl (by rw [hu5_17 hb]; exact kk)
theorem hu6_7 {S : St} {J : aH} {i : Nat} {x : Int32} (hb : i < nn (S.1 32 0)) : hu (ovc S J) (kd 6 i 0) (.inr (2, (itO S i).set 7 (.int x))) = ovc (pa S 40 i x) J := by
  refine hu_ovc rfl ?_ ?_
  · have : ob (pa S 40 i x) 6 i = some (.inr (2, itO (pa S 40 i x) i)) := if_pos hb
    rw [this]
    simp [itO, pa_1, pa_2, pb_1, pb_2]
  · intro k' i' hk hne
    rcases kO_c hk with rfl | rfl | rfl | rfl | rfl | rfl | rfl | rfl | rfl
    · exact oc1 rfl rfl rfl rfl
    · exact oc2 rfl rfl rfl
    · exact oc3 rfl rfl rfl rfl
    · exact oc4 rfl rfl rfl rfl rfl
    · exact oc5 rfl rfl rfl rfl rfl rfl rfl rfl rfl rfl rfl rfl rfl rfl rfl rfl
    · have hi : i' ≠ i := fun z => hne ⟨rfl, z⟩
      have e : itO (pa S 40 i x) i' = itO S i' := by simp [itO, pa_1, pa_2, pb_1, pb_2, hi]
      show (if i' < nn (S.1 32 0) then (some (.inr (2, itO (pa S 40 i x) i')) : Option aO) else none) = _
      rw [e]
      rfl
    · exact oc7 rfl rfl rfl
    · exact oc8 rfl rfl rfl rfl rfl rfl rfl
    · exact oc11 rfl
theorem P6_7 {i : Nat} {x : Int32} {idx : Nat} (X : Fx Z l0 R0 cc nL own ret Post) (d : decode cc pc = .ok (.putfield idx, 3)) (F : FK own idx 2 7 false .int) (hb : i < nn (S.1 32 0)) (kk : V Z nL (ovc (pa S 40 i x) J) lv st cells slots (pc + 3)) : V Z nL (ovc S J) lv (.int x :: .ref (kd 6 i 0) :: st) cells slots pc :=
  V_put X d F (at_it hb) (ro_k (by decide)) (Nat.le_of_ble_eq_true rfl) rfl rfl (by rw [hu6_7 hb]; exact kk)
theorem hu6_8 {S : St} {J : aH} {i : Nat} {x : Int32} (hb : i < nn (S.1 32 0)) : hu (ovc S J) (kd 6 i 0) (.inr (2, (itO S i).set 8 (.int x))) = ovc (pa S 42 i x) J := by
  refine hu_ovc rfl ?_ ?_
  · have : ob (pa S 42 i x) 6 i = some (.inr (2, itO (pa S 42 i x) i)) := if_pos hb
    rw [this]
    simp [itO, pa_1, pa_2, pb_1, pb_2]
  · intro k' i' hk hne
    rcases kO_c hk with rfl | rfl | rfl | rfl | rfl | rfl | rfl | rfl | rfl
    · exact oc1 rfl rfl rfl rfl
    · exact oc2 rfl rfl rfl
    · exact oc3 rfl rfl rfl rfl
    · exact oc4 rfl rfl rfl rfl rfl
    · exact oc5 rfl rfl rfl rfl rfl rfl rfl rfl rfl rfl rfl rfl rfl rfl rfl rfl
    · have hi : i' ≠ i := fun z => hne ⟨rfl, z⟩
      have e : itO (pa S 42 i x) i' = itO S i' := by simp [itO, pa_1, pa_2, pb_1, pb_2, hi]
      show (if i' < nn (S.1 32 0) then (some (.inr (2, itO (pa S 42 i x) i')) : Option aO) else none) = _
      rw [e]
      rfl
    · exact oc7 rfl rfl rfl
    · exact oc8 rfl rfl rfl rfl rfl rfl rfl
    · exact oc11 rfl
theorem P6_8 {i : Nat} {x : Int32} {idx : Nat} (X : Fx Z l0 R0 cc nL own ret Post) (d : decode cc pc = .ok (.putfield idx, 3)) (F : FK own idx 2 8 false .boolean) (hb : i < nn (S.1 32 0)) (hx : x = 0 ∨ x = 1) (kk : V Z nL (ovc (pa S 42 i x) J) lv st cells slots (pc + 3)) : V Z nL (ovc S J) lv (.int x :: .ref (kd 6 i 0) :: st) cells slots pc :=
  V_put X d F (at_it hb) (ro_k (by decide)) (Nat.le_of_ble_eq_true rfl) (by rcases hx with rfl | rfl <;> rfl) (by rcases hx with rfl | rfl <;> rfl) (by rw [hu6_8 hb]; exact kk)
theorem hu6_9 {S : St} {J : aH} {i : Nat} {x : Int64} (hb : i < nn (S.1 32 0)) : hu (ovc S J) (kd 6 i 0) (.inr (2, (itO S i).set 9 (.long x))) = ovc (pb S 43 i x) J := by
  refine hu_ovc rfl ?_ ?_
  · have : ob (pb S 43 i x) 6 i = some (.inr (2, itO (pb S 43 i x) i)) := if_pos hb
    rw [this]
    simp [itO, pa_1, pa_2, pb_1, pb_2]
  · intro k' i' hk hne
    rcases kO_c hk with rfl | rfl | rfl | rfl | rfl | rfl | rfl | rfl | rfl
    · exact oc1 rfl rfl rfl rfl
    · exact oc2 rfl rfl rfl
    · exact oc3 rfl rfl rfl rfl
    · exact oc4 rfl rfl rfl rfl rfl
    · exact oc5 rfl rfl rfl rfl rfl rfl rfl rfl rfl rfl rfl rfl rfl rfl rfl rfl
    · have hi : i' ≠ i := fun z => hne ⟨rfl, z⟩
      have e : itO (pb S 43 i x) i' = itO S i' := by simp [itO, pa_1, pa_2, pb_1, pb_2, hi]
      show (if i' < nn (S.1 32 0) then (some (.inr (2, itO (pb S 43 i x) i')) : Option aO) else none) = _
      rw [e]
      rfl
    · exact oc7 rfl rfl rfl
    · exact oc8 rfl rfl rfl rfl rfl rfl rfl
    · exact oc11 rfl
theorem P6_9 {i : Nat} {x : Int64} {idx : Nat} (X : Fx Z l0 R0 cc nL own ret Post) (d : decode cc pc = .ok (.putfield idx, 3)) (F : FK own idx 2 9 false .long) (hb : i < nn (S.1 32 0)) (kk : V Z nL (ovc (pb S 43 i x) J) lv st cells slots (pc + 3)) : V Z nL (ovc S J) lv (.long x :: .ref (kd 6 i 0) :: st) cells slots pc :=
  V_put X d F (at_it hb) (ro_k (by decide)) (Nat.le_of_ble_eq_true rfl) rfl rfl (by rw [hu6_9 hb]; exact kk)
theorem hu6_10 {S : St} {J : aH} {i : Nat}  (hb : i < nn (S.1 32 0)) : hu (ovc S J) (kd 6 i 0) (.inr (2, (itO S i).set 10 (.int 1))) = ovc (pa S 33 i 0) J := by
  refine hu_ovc rfl ?_ ?_
  · have : ob (pa S 33 i 0) 6 i = some (.inr (2, itO (pa S 33 i 0) i)) := if_pos hb
    rw [this]
    simp [itO, pa_1, pa_2, pb_1, pb_2, gb]
  · intro k' i' hk hne
    rcases kO_c hk with rfl | rfl | rfl | rfl | rfl | rfl | rfl | rfl | rfl
    · exact oc1 rfl rfl rfl rfl
    · exact oc2 rfl rfl rfl
    · exact oc3 rfl rfl rfl rfl
    · exact oc4 rfl rfl rfl rfl rfl
    · exact oc5 rfl rfl rfl rfl rfl rfl rfl rfl rfl rfl rfl rfl rfl rfl rfl rfl
    · have hi : i' ≠ i := fun z => hne ⟨rfl, z⟩
      have e : itO (pa S 33 i 0) i' = itO S i' := by simp [itO, pa_1, pa_2, pb_1, pb_2, hi]
      show (if i' < nn (S.1 32 0) then (some (.inr (2, itO (pa S 33 i 0) i')) : Option aO) else none) = _
      rw [e]
      rfl
    · exact oc7 rfl rfl rfl
    · exact oc8 rfl rfl rfl rfl rfl rfl rfl
    · exact oc11 rfl
theorem P6_10 {i : Nat}  {idx : Nat} (X : Fx Z l0 R0 cc nL own ret Post) (d : decode cc pc = .ok (.putfield idx, 3)) (F : FK own idx 2 10 false .boolean) (hb : i < nn (S.1 32 0)) (kk : V Z nL (ovc (pa S 33 i 0) J) lv st cells slots (pc + 3)) : V Z nL (ovc S J) lv (.int 1 :: .ref (kd 6 i 0) :: st) cells slots pc :=
  V_put X d F (at_it hb) (ro_k (by decide)) (Nat.le_of_ble_eq_true rfl) rfl rfl (by rw [hu6_10 hb]; exact kk)
theorem hu8_5 {S : St} {J : aH} {i : Nat} {x : Int32} (hb : i < nn (S.1 48 0)) : hu (ovc S J) (kd 8 i 0) (.inr (3, (msO S i).set 5 (.int x))) = ovc (pa S 52 i x) J := by
  refine hu_ovc rfl ?_ ?_
  · have : ob (pa S 52 i x) 8 i = some (.inr (3, msO (pa S 52 i x) i)) := if_pos hb
    rw [this]
    simp [msO, pa_1, pa_2, pb_1, pb_2]
  · intro k' i' hk hne
    rcases kO_c hk with rfl | rfl | rfl | rfl | rfl | rfl | rfl | rfl | rfl
    · exact oc1 rfl rfl rfl rfl
    · exact oc2 rfl rfl rfl
    · exact oc3 rfl rfl rfl rfl
    · exact oc4 rfl rfl rfl rfl rfl
    · exact oc5 rfl rfl rfl rfl rfl rfl rfl rfl rfl rfl rfl rfl rfl rfl rfl rfl
    · exact oc6 rfl rfl rfl rfl rfl rfl rfl rfl rfl rfl
    · exact oc7 rfl rfl rfl
    · exact oc8 rfl rfl rfl rfl (pa_i S x (fun z => hne ⟨rfl, z⟩)) rfl rfl
    · exact oc11 rfl
theorem P8_5 {i : Nat} {x : Int32} {idx : Nat} (X : Fx Z l0 R0 cc nL own ret Post) (d : decode cc pc = .ok (.putfield idx, 3)) (F : FK own idx 3 5 false .boolean) (hb : i < nn (S.1 48 0)) (hx : x = 0 ∨ x = 1) (kk : V Z nL (ovc (pa S 52 i x) J) lv st cells slots (pc + 3)) : V Z nL (ovc S J) lv (.int x :: .ref (kd 8 i 0) :: st) cells slots pc :=
  V_put X d F (at_ms hb) (ro_k (by decide)) (Nat.le_of_ble_eq_true rfl) (by rcases hx with rfl | rfl <;> rfl) (by rcases hx with rfl | rfl <;> rfl) (by rw [hu8_5 hb]; exact kk)
theorem hu8_6 {S : St} {J : aH} {i : Nat} {x : Int32} (hb : i < nn (S.1 48 0)) : hu (ovc S J) (kd 8 i 0) (.inr (3, (msO S i).set 6 (.int x))) = ovc (pa S 54 i x) J := by
  refine hu_ovc rfl ?_ ?_
  · have : ob (pa S 54 i x) 8 i = some (.inr (3, msO (pa S 54 i x) i)) := if_pos hb
    rw [this]
    simp [msO, pa_1, pa_2, pb_1, pb_2]
  · intro k' i' hk hne
    rcases kO_c hk with rfl | rfl | rfl | rfl | rfl | rfl | rfl | rfl | rfl
    · exact oc1 rfl rfl rfl rfl
    · exact oc2 rfl rfl rfl
    · exact oc3 rfl rfl rfl rfl
    · exact oc4 rfl rfl rfl rfl rfl
    · exact oc5 rfl rfl rfl rfl rfl rfl rfl rfl rfl rfl rfl rfl rfl rfl rfl rfl
    · exact oc6 rfl rfl rfl rfl rfl rfl rfl rfl rfl rfl
    · exact oc7 rfl rfl rfl
    · exact oc8 rfl rfl rfl rfl rfl (pa_i S x (fun z => hne ⟨rfl, z⟩)) rfl
    · exact oc11 rfl
theorem P8_6 {i : Nat} {x : Int32} {idx : Nat} (X : Fx Z l0 R0 cc nL own ret Post) (d : decode cc pc = .ok (.putfield idx, 3)) (F : FK own idx 3 6 false .boolean) (hb : i < nn (S.1 48 0)) (hx : x = 0 ∨ x = 1) (kk : V Z nL (ovc (pa S 54 i x) J) lv st cells slots (pc + 3)) : V Z nL (ovc S J) lv (.int x :: .ref (kd 8 i 0) :: st) cells slots pc :=
  V_put X d F (at_ms hb) (ro_k (by decide)) (Nat.le_of_ble_eq_true rfl) (by rcases hx with rfl | rfl <;> rfl) (by rcases hx with rfl | rfl <;> rfl) (by rw [hu8_6 hb]; exact kk)
end ClsRows
/-! lists, and what a list's change leaves -/
theorem LL.off {I I' : aH} {k i : Nat} {L : List Nat} (h : LL I k i L) (h0 : I' (kd k i 0) = I (kd k i 0)) (h1 : ∀ g, I' (kd (k + 1) i g) = I (kd (k + 1) i g)) (hz : I' zed = I zed) : LL I' k i L := by
  obtain ⟨mc, g, cap, f, a1, a2, a3, a4, a5, a6, a7⟩ := h
  refine ⟨mc, g, cap, f, h0.trans a1, ?_, a3, a4, a5, a6, fun g' hg => (h1 g').trans (a7 g' hg)⟩
  by_cases e : g = 0
  · unfold arA at a2 ⊢
    rw [if_pos e] at a2 ⊢
    exact hz.trans a2
  · rw [arA_s e] at a2 ⊢
    exact (h1 g).trans a2
theorem LL.ov {S : St} {J : aH} {k i : Nat} {L : List Nat} (h : LL J k i L) (hk : kO k = false) (hk1 : kO (k + 1) = false) : LL (ovc S J) k i L := h.off (ovc_k hk) (fun _ => ovc_k hk1) (ovc_k rfl)
theorem LL.hu {I : aH} {k i k' i' g' : Nat} {o : aO} {L : List Nat} (h : LL I k i L) (h1 : k ≠ k') (h2 : k + 1 ≠ k') (h3 : 0 ≠ k') : LL (hu I (kd k' i' g') o) k i L := h.off (hu_n (kd_nk h1)) (fun _ => hu_n (kd_nk h2)) (hu_n (kd_nk h3))
theorem LL.fr {I I' : aH} {k i k' i' : Nat} {L : List Nat} (h : LL I k i L) (F : Fr k' i' I I') (h0 : k' ≠ 0) (h1 : k ≠ k' + 1) (h2 : k + 1 ≠ k') (h3 : k ≠ k' ∨ i ≠ i') : LL I' k i L := by
  refine h.off (F _ ?_ fun _ => kd_nk h1) (fun g => F _ (kd_nk h2) fun _ => ?_) (F _ (kd_nk (Ne.symm h0)) fun _ => kd_nk (by omega))
  · exact kd_ne fun q => h3.elim (fun z => z q.1) (fun z => z q.2.1)
  · exact kd_ne fun q => h3.elim (fun z => z (by omega)) (fun z => z q.2.1)
theorem Fr.k {I I' : aH} {k i k' i' g' : Nat} (F : Fr k i I I') (h1 : k' ≠ k) (h2 : k' ≠ k + 1) : I' (kd k' i' g') = I (kd k' i' g') := F _ (kd_nk h1) fun _ => kd_nk h2
theorem Fr.i {I I' : aH} {k i k' i' g' : Nat} (F : Fr k i I I') (h1 : i' ≠ i) : I' (kd k' i' g') = I (kd k' i' g') := F _ (kd_ni h1) fun _ => kd_ni h1
/-- a list's change over S's objects is a change of J -/
theorem Fr_ov {S : St} {J I' : aH} {k i : Nat} (F : Fr k i (ovc S J) I') (hk : kO k = false) (hk1 : kO (k + 1) = false) : ∃ J', I' = ovc S J' ∧ Fr k i J J' ∧ (∀ g, J' (kd k i g) = I' (kd k i g)) ∧ (∀ g, J' (kd (k + 1) i g) = I' (kd (k + 1) i g)) ∧ J' zed = I' zed := by
  have hd : ∀ α, dc α ≠ none → I' α = ovc S J α := fun α hα => by
    obtain ⟨q, e⟩ := Option.ne_none_iff_exists'.mp hα
    obtain ⟨h1, h2⟩ := dc_of e
    refine F α ?_ ?_
    · rw [h2]
      exact kd_ne fun z => by rw [z.1, hk] at h1; cases h1
    · intro g
      rw [h2]
      exact kd_ne fun z => by rw [z.1, hk1] at h1; cases h1
  refine ⟨fun α => if dc α = none then I' α else J α, ?_, ?_, ?_, ?_, ?_⟩
  · funext α
    unfold ovc
    cases e : dc α with
    | none => exact (if_pos e).symm
    | some q =>
      have := hd α (by rw [e]; simp)
      unfold ovc at this
      rw [e] at this
      exact this
  · intro α h1 h2
    show (if dc α = none then I' α else J α) = J α
    by_cases e : dc α = none
    · rw [if_pos e, F α h1 h2]
      unfold ovc
      rw [e]
    · rw [if_neg e]
  · intro g
    exact if_pos (dc_no fun k' i' h e => by rw [← (kd_eq.mp e).1, hk] at h; cases h)
  · intro g
    exact if_pos (dc_no fun k' i' h e => by rw [← (kd_eq.mp e).1, hk1] at h; cases h)
  · exact if_pos (dc_no fun k' i' h e => by rw [← (kd_eq.mp e).1] at h; cases h)
theorem LL_ov {S : St} {J I' : aH} {k i : Nat} {L : List Nat} (F : Fr k i (ovc S J) I') (h : LL I' k i L) (hk : kO k = false) (hk1 : kO (k + 1) = false) : ∃ J', I' = ovc S J' ∧ LL J' k i L ∧ Fr k i J J' := by
  obtain ⟨J', e, hF, h1, h2, h3⟩ := Fr_ov F hk hk1
  exact ⟨J', e, h.off (h1 0) h2 h3, hF⟩
/-- the objects of a kind, in order -/
def rg (k n : Nat) : List Nat := (List.range n).map (fun i => kd k i 0)
theorem rg_len {k n : Nat} : (rg k n).length = n := by simp [rg]
theorem rg_at {k n j : Nat} (h : j < n) : (rg k n).getD j 0 = kd k j 0 := by
  unfold rg
  rw [List.getD_eq_getElem?_getD, List.getElem?_map, List.getElem?_range h]
  rfl
theorem rg_s {k n : Nat} : rg k (n + 1) = rg k n ++ [kd k n 0] := by
  unfold rg
  rw [List.range_succ, List.map_append]
  rfl
theorem rg_mem {k n a : Nat} (h : a ∈ rg k n) : ∃ i, i < n ∧ a = kd k i 0 := by
  unfold rg at h
  obtain ⟨i, h1, h2⟩ := List.mem_map.mp h
  exact ⟨i, List.mem_range.mp h1, h2.symm⟩
theorem eo_at {I : aH} {α ci : Nat} {fs : List Value} {C : String} {T : u_T} {N : Nat} (h : I α = some (.inr (ci, fs))) (h1 : vwCl[ci]? = some (C, T, N)) (h2 : Cond.castable C sOb ∈ nwL) : EO I α := ⟨ci, fs, C, T, N, h, h1, h2⟩
