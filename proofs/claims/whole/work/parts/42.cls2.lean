/-! THE CLASS'S LISTS, AS S HAS THEM -/
def lk (k : Nat) : Bool := k == 20 || k == 22 || k == 24 || k == 26 || k == 28
theorem lk_c {k : Nat} (h : lk k = true) : k = 20 ∨ k = 22 ∨ k = 24 ∨ k = 26 ∨ k = 28 := by
  unfold lk at h
  rw [Bool.or_eq_true, Bool.or_eq_true, Bool.or_eq_true, Bool.or_eq_true, beq_iff_eq, beq_iff_eq, beq_iff_eq, beq_iff_eq, beq_iff_eq] at h
  omega
def FrL (J : aH) (k i : Nat) : Prop := ∀ g, J (kd k i g) = none ∧ J (kd (k + 1) i g) = none
def LT (J : aH) (k i : Nat) : Option (List Nat) → Prop
  | some L => LL J k i L
  | none => FrL J k i
def LSp (T : Nat → Nat → Option (List Nat)) (J : aH) : Prop := ∀ k i, lk k = true → LT J k i (T k i)
def fl (p : Nat → Bool) (n : Nat) : List Nat := (List.range n).filter p
def mlL (S : St) (s : Nat) : List Nat := (List.range (nn (S.1 13 s))).map (fun j => kd 8 (nn (S.1 14 (1200 * s + j))) 0)
def itI (S : St) (b : Nat) : List Nat := fl (siB S (nI b)) (nn (S.1 32 0))
def itL (S : St) (b : Nat) : List Nat := (itI S b).map (fun i => kd 6 i 0)
def kpB (S : St) (s : Int32) (m : Nat) : Bool := decide (kpP S s m)
theorem kpB_iff {S : St} {s : Int32} {m : Nat} : kpB S s m = true ↔ kpP S s m := decide_eq_true_iff
def kpI (S : St) (b : Nat) : List Nat := fl (kpB S (nI b)) (nn (S.1 48 0))
def kpL (S : St) (b : Nat) : List Nat := (kpI S b).map (fun m => kd 8 m 0)
def quL (Q : Nat → List Nat) (i : Nat) : List Nat := (Q i).map (fun g => kd 9 i g)
def mainL (S : St) (i : Nat) : Option (List Nat) := match i with
  | 0 => some (rg 2 (nn (S.1 1 0)))
  | 1 => some (rg 3 (nn (S.1 4 0)))
  | 2 => some (rg 4 (nn (S.1 8 0)))
  | 3 => some (rg 5 (nn (S.1 15 0)))
  | 4 => some (rg 6 (nn (S.1 32 0)))
  | 5 => some (rg 8 (nn (S.1 48 0)))
  | _ => none
def lsL (S : St) (Q : Nat → List Nat) (k i : Nat) : Option (List Nat) := match k with
  | 20 => mainL S i
  | 22 => if i < nn (S.1 8 0) then some (mlL S i) else none
  | 24 => if i < nn (S.1 15 0) then some (itL S i) else none
  | 26 => if i < nn (S.1 15 0) then some (kpL S i) else none
  | _ => if i < nn (S.1 32 0) then some (quL Q i) else none
def upT (T : Nat → Nat → Option (List Nat)) (k i : Nat) (L : List Nat) : Nat → Nat → Option (List Nat) := fun k' i' => if k' = k ∧ i' = i then some L else T k' i'
theorem LSp.upd {T : Nat → Nat → Option (List Nat)} {J J' : aH} {k i : Nat} {L : List Nat} (h : LSp T J) (hk : lk k = true) (F : Fr k i J J') (hL : LL J' k i L) : LSp (upT T k i L) J' := by
  intro k' i' hk'
  unfold upT
  by_cases e : k' = k ∧ i' = i
  · rw [if_pos e, e.1, e.2]
    exact hL
  · rw [if_neg e]
    have h0 := h k' i' hk'
    have a1 := lk_c hk
    have a2 := lk_c hk'
    have hne : k' ≠ k ∨ i' ≠ i := by
      by_cases q : k' = k
      · exact Or.inr fun z => e ⟨q, z⟩
      · exact Or.inl q
    cases hT : T k' i' with
    | some L' =>
      rw [hT] at h0
      exact LL.fr h0 F (by omega) (by omega) (by omega) hne
    | none =>
      rw [hT] at h0
      intro g
      have := h0 g
      refine ⟨(F _ ?_ ?_).trans this.1, (F _ ?_ ?_).trans this.2⟩
      · exact kd_ne fun q => hne.elim (fun z => z q.1) (fun z => z q.2.1)
      · exact fun _ => kd_nk (by omega)
      · exact kd_nk (by omega)
      · exact fun _ => kd_ne fun q => hne.elim (fun z => z (by omega)) (fun z => z q.2.1)
theorem LSp.to {T T' : Nat → Nat → Option (List Nat)} {J : aH} (h : LSp T J) (e : ∀ k i, lk k = true → T' k i = T k i) : LSp T' J := fun k i hk => by
  rw [e k i hk]
  exact h k i hk
theorem LSp.J {T : Nat → Nat → Option (List Nat)} {J J' : aH} (h : LSp T J) (e : ∀ k i g, k = 0 ∨ 20 ≤ k ∧ k ≤ 29 → J' (kd k i g) = J (kd k i g)) : LSp T J' := by
  intro k i hk
  have a1 := lk_c hk
  have h0 := h k i hk
  cases hT : T k i with
  | some L =>
    rw [hT] at h0
    exact LL.off h0 (e _ _ _ (by omega)) (fun _ => e _ _ _ (by omega)) (e _ _ _ (by omega))
  | none =>
    rw [hT] at h0
    exact fun g => ⟨(e _ _ _ (by omega)).trans (h0 g).1, (e _ _ _ (by omega)).trans (h0 g).2⟩
theorem LSp.get {T : Nat → Nat → Option (List Nat)} {J : aH} {k i : Nat} {L : List Nat} (h : LSp T J) (hk : lk k = true) (e : T k i = some L) : LL J k i L := by
  have := h k i hk
  rw [e] at this
  exact this
theorem LSp.new {T : Nat → Nat → Option (List Nat)} {J : aH} {k i : Nat} (h : LSp T J) (hk : lk k = true) (e : T k i = none) : FrL J k i := by
  have := h k i hk
  rw [e] at this
  exact this
/-! entries and messages' arrays -/
def enJ (J : aH) (i g : Nat) (v : Int64) (t b : Int32) : Prop := J (kd 9 i g) = some (.inr (1, enO v i t b))
def EnQ (S : St) (Q : Nat → List Nat) (J : aH) (i : Nat) : Prop := (Q i).Nodup ∧ (Q i).length = nn (S.1 44 i) ∧ ∀ j, j < nn (S.1 44 i) → enJ J i ((Q i).getD j 0) (S.2 45 (8 * i + j)) (S.1 46 (8 * i + j)) (S.1 47 (8 * i + j))
def MsE (S : St) (Q : Nat → List Nat) (J : aH) (f : Nat → Option Nat) (e j : Nat) : Prop := ∃ g, f j = some (kd 9 (nn (S.1 56 e)) g) ∧ g ∉ Q (nn (S.1 56 e)) ∧ S.1 56 e = nI (nn (S.1 56 e)) ∧ enJ J (nn (S.1 56 e)) g (S.2 55 e) (S.1 57 e) (S.1 58 e)
def MsJ (S : St) (Q : Nat → List Nat) (J : aH) (m : Nat) : Prop := sm (S.1 51 m) 40 ∧ ∃ f, J (kd 10 m 0) = some (.inl (4, aR (nn (S.1 51 m)) f)) ∧ ∀ j, j < nn (S.1 51 m) → MsE S Q J f (40 * m + j) j
def EM (S : St) (Q : Nat → List Nat) (J : aH) : Prop := (∀ i, i < nn (S.1 32 0) → EnQ S Q J i) ∧ (∀ i, nn (S.1 32 0) ≤ i → Q i = []) ∧ (∀ i, ∃ n, (∀ g, n ≤ g → J (kd 9 i g) = none) ∧ ∀ g ∈ Q i, g < n) ∧ (∀ m, m < nn (S.1 48 0) → MsJ S Q J m) ∧ (∀ m, nn (S.1 48 0) ≤ m → J (kd 10 m 0) = none) ∧ J zed = some (.inl (3, aR 0 (fun _ => none)))
theorem EM.J {S : St} {Q : Nat → List Nat} {J J' : aH} (h : EM S Q J) (e : ∀ k i g, k = 0 ∨ k = 9 ∨ k = 10 → J' (kd k i g) = J (kd k i g)) : EM S Q J' := by
  have ej : ∀ i g v t b, enJ J' i g v t b ↔ enJ J i g v t b := fun i g v t b => by
    unfold enJ
    rw [e 9 i g (Or.inr (Or.inl rfl))]
  obtain ⟨h1, h2, h3, h4, h5, h6⟩ := h
  refine ⟨fun i hi => ⟨(h1 i hi).1, (h1 i hi).2.1, fun j hj => (ej _ _ _ _ _).mpr ((h1 i hi).2.2 j hj)⟩, h2, fun i => ?_, fun m hm => ?_, fun m hm => (e 10 m 0 (Or.inr (Or.inr rfl))).trans (h5 m hm), (e 0 0 0 (Or.inl rfl)).trans h6⟩
  · obtain ⟨n, a, b⟩ := h3 i
    exact ⟨n, fun g hg => (e 9 i g (Or.inr (Or.inl rfl))).trans (a g hg), b⟩
  · obtain ⟨a, f, b, c⟩ := h4 m hm
    refine ⟨a, f, (e 10 m 0 (Or.inr (Or.inr rfl))).trans b, fun j hj => ?_⟩
    obtain ⟨g, c1, c2, c3, c4⟩ := c j hj
    exact ⟨g, c1, c2, c3, (ej _ _ _ _ _).mpr c4⟩
theorem EM.fr {S : St} {Q : Nat → List Nat} {J J' : aH} {k i : Nat} (h : EM S Q J) (hk : lk k = true) (F : Fr k i J J') : EM S Q J' := h.J fun k' i' g hk' => by
  have := lk_c hk
  exact F.k (by omega) (by omega)
theorem EM.cg {S S' : St} {Q : Nat → List Nat} {J : aH} (h : EM S Q J) (e1 : S'.1 32 0 = S.1 32 0 := by rfl) (e2 : S'.1 48 0 = S.1 48 0 := by rfl) (e3 : S'.1 44 = S.1 44 := by rfl) (e4 : S'.1 46 = S.1 46 := by rfl) (e5 : S'.1 47 = S.1 47 := by rfl) (e6 : S'.1 51 = S.1 51 := by rfl) (e7 : S'.1 56 = S.1 56 := by rfl) (e8 : S'.1 57 = S.1 57 := by rfl) (e9 : S'.1 58 = S.1 58 := by rfl) (e10 : S'.2 45 = S.2 45 := by rfl) (e11 : S'.2 55 = S.2 55 := by rfl) : EM S' Q J := by
  unfold EM EnQ MsJ MsE at h ⊢
  rw [e1, e2, e3, e4, e5, e6, e7, e8, e9, e10, e11]
  exact h
def RJ (S : St) (Q : Nat → List Nat) (J : aH) : Prop := LSp (lsL S Q) J ∧ EM S Q J
/-- what class and lists leave alone -/
def FJ (J J' : aH) : Prop := ∀ k i g, ¬ (9 ≤ k ∧ k ≤ 29) → J' (kd k i g) = J (kd k i g)
theorem FJ.rf {J : aH} : FJ J J := fun _ _ _ _ => rfl
theorem FJ.tr {J J' J'' : aH} (h : FJ J J') (h' : FJ J' J'') : FJ J J'' := fun k i g hk => (h' k i g hk).trans (h k i g hk)
theorem Fr.fj {J J' : aH} {k i : Nat} (F : Fr k i J J') (hk : lk k = true) : FJ J J' := fun k' i' g hk' => by
  have := lk_c hk
  exact F.k (by omega) (by omega)
theorem lsL_cg {S S' : St} {Q : Nat → List Nat} (a1 : S'.1 1 0 = S.1 1 0 := by rfl) (a2 : S'.1 4 0 = S.1 4 0 := by rfl) (a3 : S'.1 8 0 = S.1 8 0 := by rfl) (a4 : S'.1 15 0 = S.1 15 0 := by rfl) (a5 : S'.1 32 0 = S.1 32 0 := by rfl) (a6 : S'.1 48 0 = S.1 48 0 := by rfl) (a7 : S'.1 13 = S.1 13 := by rfl) (a8 : S'.1 14 = S.1 14 := by rfl) (a9 : S'.1 33 = S.1 33 := by rfl) (b1 : S'.1 34 = S.1 34 := by rfl) (b2 : S'.1 54 = S.1 54 := by rfl) (b3 : S'.1 49 = S.1 49 := by rfl) : lsL S' Q = lsL S Q := by
  have e1 : ∀ b, siB S' b = siB S b := fun b => by
    funext i
    unfold siB siP
    rw [a9, b1]
  have e2 : ∀ b, kpB S' b = kpB S b := fun b => by
    funext i
    unfold kpB kpP
    rw [b2, b3]
  funext k i
  unfold lsL mainL mlL itL itI kpL kpI
  simp only [a1, a2, a3, a4, a5, a6, a7, a8, e1, e2]
theorem RJ.cg {S S' : St} {Q : Nat → List Nat} {J : aH} (h : RJ S Q J) (a1 : S'.1 1 0 = S.1 1 0 := by rfl) (a2 : S'.1 4 0 = S.1 4 0 := by rfl) (a3 : S'.1 8 0 = S.1 8 0 := by rfl) (a4 : S'.1 15 0 = S.1 15 0 := by rfl) (a5 : S'.1 32 0 = S.1 32 0 := by rfl) (a6 : S'.1 48 0 = S.1 48 0 := by rfl) (a7 : S'.1 13 = S.1 13 := by rfl) (a8 : S'.1 14 = S.1 14 := by rfl) (a9 : S'.1 33 = S.1 33 := by rfl) (b1 : S'.1 34 = S.1 34 := by rfl) (b2 : S'.1 54 = S.1 54 := by rfl) (b3 : S'.1 49 = S.1 49 := by rfl) (e3 : S'.1 44 = S.1 44 := by rfl) (e4 : S'.1 46 = S.1 46 := by rfl) (e5 : S'.1 47 = S.1 47 := by rfl) (e6 : S'.1 51 = S.1 51 := by rfl) (e7 : S'.1 56 = S.1 56 := by rfl) (e8 : S'.1 57 = S.1 57 := by rfl) (e9 : S'.1 58 = S.1 58 := by rfl) (e10 : S'.2 45 = S.2 45 := by rfl) (e11 : S'.2 55 = S.2 55 := by rfl) : RJ S' Q J :=
  ⟨by rw [lsL_cg a1 a2 a3 a4 a5 a6 a7 a8 a9 b1 b2 b3]; exact h.1, h.2.cg a5 a6 e3 e4 e5 e6 e7 e8 e9 e10 e11⟩
theorem RJ.ml {S : St} {Q : Nat → List Nat} {J : aH} (R : RJ S Q J) : ML S J := ⟨R.1.get (k := 20) (i := 0) rfl rfl, R.1.get (k := 20) (i := 1) rfl rfl, R.1.get (k := 20) (i := 2) rfl rfl, R.1.get (k := 20) (i := 3) rfl rfl, R.1.get (k := 20) (i := 4) rfl rfl, R.1.get (k := 20) (i := 5) rfl rfl⟩
theorem RJ.mail {S : St} {Q : Nat → List Nat} {J : aH} {s : Nat} (R : RJ S Q J) (h : s < nn (S.1 8 0)) : LL J 22 s (mlL S s) := R.1.get (k := 22) rfl (if_pos h)
theorem RJ.its {S : St} {Q : Nat → List Nat} {J : aH} {s : Nat} (R : RJ S Q J) (h : s < nn (S.1 15 0)) : LL J 24 s (itL S s) := R.1.get (k := 24) rfl (if_pos h)
theorem RJ.kps {S : St} {Q : Nat → List Nat} {J : aH} {s : Nat} (R : RJ S Q J) (h : s < nn (S.1 15 0)) : LL J 26 s (kpL S s) := R.1.get (k := 26) rfl (if_pos h)
theorem RJ.que {S : St} {Q : Nat → List Nat} {J : aH} {s : Nat} (R : RJ S Q J) (h : s < nn (S.1 32 0)) : LL J 28 s (quL Q s) := R.1.get (k := 28) rfl (if_pos h)
theorem mlL_len {S : St} {s : Nat} : (mlL S s).length = nn (S.1 13 s) := by simp [mlL]
theorem quL_len {Q : Nat → List Nat} {i : Nat} : (quL Q i).length = (Q i).length := by simp [quL]
theorem itL_len {S : St} {b : Nat} : (itL S b).length = (itI S b).length := by simp [itL]
theorem kpL_len {S : St} {b : Nat} : (kpL S b).length = (kpI S b).length := by simp [kpL]
theorem map_at {f : Nat → Nat} {L : List Nat} {j : Nat} (h : j < L.length) : (L.map f).getD j 0 = f (L.getD j 0) := by
  rw [List.getD_eq_getElem?_getD, List.getElem?_map, List.getD_eq_getElem?_getD, List.getElem?_eq_getElem h]
  rfl
theorem mlL_at {S : St} {s j : Nat} (h : j < nn (S.1 13 s)) : (mlL S s).getD j 0 = kd 8 (nn (S.1 14 (1200 * s + j))) 0 := by
  unfold mlL
  rw [List.getD_eq_getElem?_getD, List.getElem?_map, List.getElem?_range h]
  rfl
theorem fl_len {p : Nat → Bool} {n : Nat} : (fl p n).length ≤ n := by
  have := List.length_filter_le p (List.range n)
  rw [List.length_range] at this
  exact this
theorem fl_mem {p : Nat → Bool} {n x : Nat} : x ∈ fl p n ↔ x < n ∧ p x = true := by
  unfold fl
  rw [List.mem_filter, List.mem_range]
theorem fl_s {p : Nat → Bool} {n : Nat} : fl p (n + 1) = fl p n ++ (if p n = true then [n] else []) := by
  unfold fl
  rw [List.range_succ, List.filter_append]
  congr 1
  rw [List.filter_cons, List.filter_nil]
theorem fl_cn {p : Nat → Bool} : ∀ {n : Nat}, (fl p n).length = cn p n
  | 0 => rfl
  | n + 1 => by
    rw [fl_s, List.length_append, fl_cn, cn]
    split <;> rfl
theorem fl_cg {p q : Nat → Bool} {n : Nat} (h : ∀ x, x < n → p x = q x) : fl p n = fl q n := List.filter_congr fun x hx => h x (List.mem_range.mp hx)
theorem getD_mem {L : List Nat} {j : Nat} (h : j < L.length) : L.getD j 0 ∈ L := by
  rw [List.getD_eq_getElem?_getD, List.getElem?_eq_getElem h]
  exact List.getElem_mem h
theorem Fr.hu2 {I I2 : aH} {k i k' i' : Nat} {o1 o2 : aO} (F : Fr k i (hu I (kd k' i' 0) o1) I2) (h1 : k' ≠ k) (h2 : k' ≠ k + 1) : Fr k i (hu I (kd k' i' 0) o2) (hu I2 (kd k' i' 0) o2) := fun α ha hb => by
  by_cases e : α = kd k' i' 0
  · rw [e, hu_s, hu_s]
  · rw [hu_n e, hu_n e, F α ha hb, hu_n e]
theorem ct_lt {S : St} {k b : Nat} (h : ct S k b) (hb : b < 2 ^ 31) (x : Int32) (hx : x = nI b) (hn : S.1 k 0 < x) : nn (S.1 k 0) < b ∧ S.1 k 0 = nI (nn (S.1 k 0)) ∧ ¬ S.1 k 0 = x := by
  obtain ⟨h1, h2⟩ := ct_nn h hb
  refine ⟨?_, h2, fun q => ?_⟩
  · rw [hx, h2, fa_lt, nI_toInt (by omega), nI_toInt hb] at hn
    omega
  · rw [q, fa_lt] at hn
    omega
theorem ct_ge {S : St} {k b : Nat} (h : ct S k b) (hb : b < 2 ^ 31) (x : Int32) (hx : x = nI b) (hn : ¬ S.1 k 0 < x) : S.1 k 0 = x := by
  obtain ⟨h1, h2⟩ := ct_nn h hb
  rw [hx, h2, fa_lt, nI_toInt (by omega), nI_toInt hb] at hn
  rw [h2, hx]
  congr 1
  omega
/-- fresh places are all zero -/
def FZ (S : St) : Prop := (∀ i, nn (S.1 1 0) ≤ i → S.2 3 i = 0) ∧ (∀ i, nn (S.1 8 0) ≤ i → S.1 12 i = 0 ∧ S.1 13 i = 0) ∧ (∀ i, nn (S.1 15 0) ≤ i → S.1 27 i = 0 ∧ S.1 28 i = 0 ∧ S.1 29 i = 0 ∧ S.1 31 i = 0) ∧ (∀ i, nn (S.1 32 0) ≤ i → S.1 33 i = 0 ∧ S.1 42 i = 0 ∧ S.1 44 i = 0 ∧ S.2 43 i = 0) ∧ (∀ i, nn (S.1 48 0) ≤ i → S.1 54 i = 0)
/-! who stands in a list -/
theorem eo_node {S : St} {J : aH} {i : Nat} (h : i < nn (S.1 1 0)) : EO (ovc S J) (kd 2 i 0) := eo_at (at_node h) rfl (by decide)
theorem eo_ref {S : St} {J : aH} {i : Nat} (h : i < nn (S.1 4 0)) : EO (ovc S J) (kd 3 i 0) := eo_at (at_ref h) rfl (by decide)
theorem eo_ses {S : St} {J : aH} {i : Nat} (h : i < nn (S.1 8 0)) : EO (ovc S J) (kd 4 i 0) := eo_at (at_ses h) rfl (by decide)
theorem eo_sub {S : St} {J : aH} {i : Nat} (h : i < nn (S.1 15 0)) : EO (ovc S J) (kd 5 i 0) := eo_at (at_sub h) rfl (by decide)
theorem eo_it {S : St} {J : aH} {i : Nat} (h : i < nn (S.1 32 0)) : EO (ovc S J) (kd 6 i 0) := eo_at (at_it h) rfl (by decide)
theorem eo_ms {S : St} {J : aH} {i : Nat} (h : i < nn (S.1 48 0)) : EO (ovc S J) (kd 8 i 0) := eo_at (at_ms h) rfl (by decide)
theorem eo_en {S : St} {J : aH} {i g : Nat} {fs : List Value} (h : J (kd 9 i g) = some (.inr (1, fs))) : EO (ovc S J) (kd 9 i g) := eo_at ((ovc_k rfl).trans h) rfl (by decide)
/-- an op's end -/
def RES (q : St × Int32) (J : aH) : Option Value → aH → Prop := fun r I' => r = some (.int q.2) ∧ ∃ Q' J', I' = ovc q.1 J' ∧ RJ q.1 Q' J' ∧ FJ J J'
theorem RES.of {q : St × Int32} {S' : St} {v : Int32} {Q' : Nat → List Nat} {J J' : aH} (e : q = (S', v)) (R : RJ S' Q' J') (F : FJ J J') : RES q J (some (.int v)) (ovc S' J') := by
  rw [e]
  exact ⟨rfl, Q', J', rfl, R, F⟩
