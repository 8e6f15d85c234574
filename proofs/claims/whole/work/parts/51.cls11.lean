/-! a queue takes a sample in -/
def SF (T : St) (i : Nat) (v : Int64) : St := smF (smB T i) i v (smBit T i)
theorem smF_1 {A : St} {i k j : Nat} {v : Int64} {b : Int32} : (smF A i v b).1 k j = if k = 47 ∧ j = 8 * i + nn (A.1 44 i) then b else if k = 46 ∧ j = 8 * i + nn (A.1 44 i) then A.1 0 0 else if k = 44 ∧ j = i then A.1 44 i + 1 else A.1 k j := rfl
theorem smF_2 {A : St} {i k j : Nat} {v : Int64} {b : Int32} : (smF A i v b).2 k j = if k = 45 ∧ j = 8 * i + nn (A.1 44 i) then v else A.2 k j := rfl
theorem smB_k {T : St} {i k j : Nat} (h : k ≠ 44 ∧ k ≠ 46 ∧ k ≠ 47) : (smB T i).1 k j = T.1 k j := by
  unfold smB
  split
  · split
    · exact pa_n _ _ h.1
    · rw [pa_n _ _ h.2.2]
      exact shiftS_k h
  · rfl
theorem smB_2 {T : St} {i k j : Nat} (h : k ≠ 45) : (smB T i).2 k j = T.2 k j := by
  unfold smB
  split
  · split
    · rfl
    · show (shiftS T i).2 k j = _
      exact if_neg (fun q => h q.1)
  · rfl
theorem SF_k {T : St} {i k j : Nat} {v : Int64} (h : k ≠ 44 ∧ k ≠ 46 ∧ k ≠ 47) : (SF T i v).1 k j = T.1 k j := by
  unfold SF
  rw [smF_1, if_neg (fun q => h.2.2 q.1), if_neg (fun q => h.2.1 q.1), if_neg (fun q => h.1 q.1), smB_k h]
theorem SF_f {T : St} {i k : Nat} {v : Int64} (h : k ≠ 44 ∧ k ≠ 46 ∧ k ≠ 47) : (SF T i v).1 k = T.1 k := by
  funext j
  exact SF_k h
theorem SF_2k {T : St} {i k j : Nat} {v : Int64} (h : k ≠ 45) : (SF T i v).2 k j = T.2 k j := by
  unfold SF
  rw [smF_2, if_neg (fun q => h q.1), smB_2 h]
theorem SF_2f {T : St} {i k : Nat} {v : Int64} (h : k ≠ 45) : (SF T i v).2 k = T.2 k := by
  funext j
  exact SF_2k h
theorem SF_44 {T : St} {i j : Nat} {v : Int64} (h : j ≠ i) : (SF T i v).1 44 j = T.1 44 j := by
  unfold SF
  rw [smF_1, if_neg (fun q => absurd q.1 (by decide)), if_neg (fun q => absurd q.1 (by decide)), if_neg (fun q => h q.2), smB_n h]
/-- what a queue of an item must be like -/
def QK (T : St) (i : Nat) : Prop := sm (T.1 44 i) 8 ∧ sm (T.1 38 i) 8 ∧ nn (T.1 44 i) ≤ nn (T.1 38 i) ∧ 1 ≤ nn (T.1 38 i)
theorem QK.cg {S S' : St} {i : Nat} (q : QK S i) (a : S'.1 44 i = S.1 44 i := by rfl) (b : S'.1 38 i = S.1 38 i := by rfl) : QK S' i := by
  unfold QK at *
  rw [a, b]
  exact q
theorem smB_o {T : St} {i k j : Nat} (q : QK T i) (hk : k ≠ 44) (h : j < 8 * i ∨ 8 * i + 8 ≤ j) : (smB T i).1 k j = T.1 k j := by
  unfold smB
  split
  · rename_i he
    have hn : nn (T.1 44 i) = nn (T.1 38 i) := by rw [he]
    have hd := sm_dec q.1 (by have := q.2.2.2; omega) (by decide)
    split
    · exact pa_n _ _ hk
    · have e1 : (pa (shiftS T i) 47 (8 * i) 1).1 k j = (shiftS T i).1 k j := if_neg (by omega)
      rw [e1]
      unfold shiftS
      dsimp only
      rw [pa_s, hd.2.2]
      have h8 := q.1.2
      show (if (k = 46 ∨ k = 47) ∧ 8 * i ≤ j ∧ j < 8 * i + (nn (T.1 44 i) - 1) then _ else (pa T 44 i _).1 k j) = _
      rw [if_neg (by omega), pa_n _ _ hk]
  · rfl
theorem smB_o2 {T : St} {i k j : Nat} (q : QK T i) (h : j < 8 * i ∨ 8 * i + 8 ≤ j) : (smB T i).2 k j = T.2 k j := by
  unfold smB
  split
  · rename_i he
    have hn : nn (T.1 44 i) = nn (T.1 38 i) := by rw [he]
    have hd := sm_dec q.1 (by have := q.2.2.2; omega) (by decide)
    split
    · rfl
    · show (shiftS T i).2 k j = _
      unfold shiftS
      dsimp only
      rw [pa_s, hd.2.2]
      have h8 := q.1.2
      show (if k = 45 ∧ 8 * i ≤ j ∧ j < 8 * i + (nn (T.1 44 i) - 1) then _ else T.2 k j) = _
      rw [if_neg (by omega)]
  · rfl
theorem SF_o {T : St} {i k j : Nat} {v : Int64} (q : QK T i) (hk : k ≠ 44) (h : j < 8 * i ∨ 8 * i + 8 ≤ j) : (SF T i v).1 k j = T.1 k j := by
  have hq := (smB_q q.1 q.2.1 q.2.2.1 q.2.2.2).1.2
  unfold SF
  rw [smF_1, if_neg (by omega), if_neg (by omega), if_neg (fun z => hk z.1), smB_o q hk h]
theorem SF_o2 {T : St} {i k j : Nat} {v : Int64} (q : QK T i) (h : j < 8 * i ∨ 8 * i + 8 ≤ j) : (SF T i v).2 k j = T.2 k j := by
  have hq := (smB_q q.1 q.2.1 q.2.2.1 q.2.2.2).1.2
  unfold SF
  rw [smF_2, if_neg (by omega), smB_o2 q h]
theorem SF_ovc {T : St} {J : aH} {i : Nat} {v : Int64} : ovc T J = ovc (SF T i v) J := by
  refine ovc_ext fun k j hk => ?_
  symm
  rcases kO_c hk with rfl | rfl | rfl | rfl | rfl | rfl | rfl | rfl | rfl
  · exact oc1 (SF_k (k := 0) (by decide)) (SF_2k (k := 59) (by decide)) (SF_k (k := 60) (by decide)) (SF_k (k := 30) (by decide))
  · exact oc2 (SF_k (k := 1) (by decide)) (SF_k (k := 2) (by decide)) (SF_2k (k := 3) (by decide))
  · exact oc3 (SF_k (k := 4) (by decide)) (SF_k (k := 5) (by decide)) (SF_k (k := 6) (by decide)) (SF_k (k := 7) (by decide))
  · exact oc4 (SF_k (k := 8) (by decide)) (SF_k (k := 9) (by decide)) (SF_k (k := 11) (by decide)) (SF_k (k := 10) (by decide)) (SF_k (k := 12) (by decide))
  · exact oc5 (SF_k (k := 15) (by decide)) (SF_k (k := 17) (by decide)) (SF_k (k := 18) (by decide)) (SF_k (k := 19) (by decide)) (SF_k (k := 20) (by decide)) (SF_k (k := 21) (by decide)) (SF_k (k := 22) (by decide)) (SF_k (k := 23) (by decide)) (SF_k (k := 24) (by decide)) (SF_k (k := 25) (by decide)) (SF_k (k := 26) (by decide)) (SF_k (k := 27) (by decide)) (SF_k (k := 31) (by decide)) (SF_k (k := 28) (by decide)) (SF_k (k := 29) (by decide)) (SF_k (k := 16) (by decide))
  · exact oc6 (SF_k (k := 32) (by decide)) (SF_k (k := 34) (by decide)) (SF_k (k := 35) (by decide)) (SF_k (k := 36) (by decide)) (SF_k (k := 37) (by decide)) (SF_2k (k := 41) (by decide)) (SF_k (k := 40) (by decide)) (SF_k (k := 42) (by decide)) (SF_2k (k := 43) (by decide)) (SF_k (k := 33) (by decide))
  · exact oc7 (SF_k (k := 32) (by decide)) (SF_k (k := 38) (by decide)) (SF_k (k := 39) (by decide))
  · exact oc8 (SF_k (k := 48) (by decide)) (SF_k (k := 49) (by decide)) (SF_k (k := 50) (by decide)) (SF_k (k := 53) (by decide)) (SF_k (k := 52) (by decide)) (SF_k (k := 54) (by decide)) (SF_k (k := 70) (by decide))
  · exact oc11 (SF_f (by decide))
def uQ (Q : Nat → List Nat) (i : Nat) (L : List Nat) : Nat → List Nat := fun j => if j = i then L else Q j
theorem uQ_s {Q : Nat → List Nat} {i : Nat} {L : List Nat} : uQ Q i L i = L := if_pos rfl
theorem uQ_n {Q : Nat → List Nat} {i j : Nat} {L : List Nat} (h : j ≠ i) : uQ Q i L j = Q j := if_neg h
/-- J' is J but for i's list and the entries n and of Qi -/
def Sx (J J' : aH) (i n : Nat) (Qi : List Nat) : Prop := ∀ α, α ≠ kd 28 i 0 → (∀ g, α ≠ kd 29 i g) → (∀ g, (g = n ∨ g ∈ Qi) → α ≠ kd 9 i g) → J' α = J α
theorem Sx.tr {J J' J'' : aH} {i n : Nat} {Qi : List Nat} (h : Sx J J' i n Qi) (h' : Sx J' J'' i n Qi) : Sx J J'' i n Qi := fun α a b c => (h' α a b c).trans (h α a b c)
theorem Sx.fr {J J' : aH} {i n : Nat} {Qi : List Nat} (F : Fr 28 i J J') : Sx J J' i n Qi := fun α a b _ => F α a b
theorem Sx.hu {J : aH} {i n g : Nat} {Qi : List Nat} {o : aO} (h : g = n ∨ g ∈ Qi) : Sx J (hu J (kd 9 i g) o) i n Qi := fun α _ _ c => hu_n (c g h)
theorem Sx.k {J J' : aH} {i n k i' g : Nat} {Qi : List Nat} (h : Sx J J' i n Qi) (hk : k ≠ 9 ∧ ((k ≠ 28 ∧ k ≠ 29) ∨ i' ≠ i)) : J' (kd k i' g) = J (kd k i' g) := by
  refine h _ ?_ (fun g' => ?_) (fun g' _ => kd_nk hk.1)
  · exact kd_ne fun q => hk.2.elim (fun z => z.1 q.1) (fun z => z q.2.1)
  · exact kd_ne fun q => hk.2.elim (fun z => z.2 q.1) (fun z => z q.2.1)
theorem Sx.e {J J' : aH} {i n i' g : Nat} {Qi : List Nat} (h : Sx J J' i n Qi) (hg : ¬ (i' = i ∧ (g = n ∨ g ∈ Qi))) : J' (kd 9 i' g) = J (kd 9 i' g) :=
  h _ (kd_nk (by decide)) (fun _ => kd_nk (by decide)) (fun g' hg' => kd_ne fun q => hg ⟨q.2.1, by rw [q.2.2]; exact hg'⟩)
theorem Sx.fj {J J' : aH} {i n : Nat} {Qi : List Nat} (h : Sx J J' i n Qi) : FJ J J' := fun k i' g hk => h.k (by omega)
theorem RJ.smp {T : St} {Q : Nat → List Nat} {J J' : aH} {i n : Nat} {L : List Nat} {v : Int64} (R : RJ T Q J) (hi : i < nn (T.1 32 0)) (hq8 : ∀ j, j < nn (T.1 32 0) → sm (T.1 44 j) 8) (q : QK T i) (hn : ∀ g, n ≤ g → J (kd 9 i g) = none) (hm : ∀ g ∈ Q i, g < n) (x : Sx J J' i n (Q i)) (hL : LL J' 28 i (L.map (fun g => kd 9 i g))) (hLs : ∀ g ∈ L, g = n ∨ g ∈ Q i) (hE : EnQ (SF T i v) (uQ Q i L) J' i) : RJ (SF T i v) (uQ Q i L) J' := by
  obtain ⟨R1, E1, E2, E3, E4, E5, E6⟩ := R
  refine ⟨?_, ?_, ?_, ?_, ?_, ?_, ?_⟩
  · intro k j hk
    have a2 := lk_c hk
    by_cases e : k = 28 ∧ j = i
    · obtain ⟨rfl, rfl⟩ := e
      show LT J' 28 j (if j < nn ((SF T j v).1 32 0) then some (quL (uQ Q j L) j) else none)
      rw [SF_k (by decide), if_pos hi]
      unfold quL
      rw [uQ_s]
      exact hL
    · have h0 := R1 k j hk
      have et : lsL (SF T i v) (uQ Q i L) k j = lsL T Q k j := by
        rcases a2 with rfl | rfl | rfl | rfl | rfl
        · exact ls20r (SF_k (by decide)) (SF_k (by decide)) (SF_k (by decide)) (SF_k (by decide)) (SF_k (by decide)) (SF_k (by decide))
        · exact ls22 (SF_k (by decide)) (SF_f (by decide)) (SF_f (by decide))
        · exact ls24 (SF_k (by decide)) (SF_k (by decide)) (SF_f (by decide)) (SF_f (by decide))
        · exact ls26 (SF_k (by decide)) (SF_k (by decide)) (SF_f (by decide)) (SF_f (by decide))
        · show (if j < nn ((SF T i v).1 32 0) then some (quL (uQ Q i L) j) else none) = (if j < nn (T.1 32 0) then some (quL Q j) else none)
          rw [SF_k (by decide)]
          unfold quL
          rw [uQ_n (fun z => e ⟨rfl, z⟩)]
      rw [et]
      have e1 : ∀ g, J' (kd k j g) = J (kd k j g) := fun g => x.k (by omega)
      have e2 : ∀ g, J' (kd (k + 1) j g) = J (kd (k + 1) j g) := fun g => x.k (by omega)
      have ez : J' zed = J zed := x.k (by omega)
      cases hT : lsL T Q k j with
      | some L' =>
        rw [hT] at h0
        exact LL.off h0 (e1 _) e2 ez
      | none =>
        rw [hT] at h0
        exact fun g => ⟨(e1 g).trans (h0 g).1, (e2 g).trans (h0 g).2⟩
  · intro j hj
    rw [SF_k (by decide)] at hj
    by_cases e : j = i
    · rw [e]
      exact hE
    · have h8 := (hq8 j hj).2
      obtain ⟨a1, a2, a3⟩ := E1 j hj
      refine ⟨by rw [uQ_n e]; exact a1, by rw [uQ_n e, SF_44 e]; exact a2, fun y hy => ?_⟩
      rw [SF_44 e] at hy
      rw [uQ_n e, SF_o q (by decide) (by omega), SF_o q (by decide) (by omega), SF_o2 q (by omega)]
      exact (x.e (fun z => e z.1)).trans (a3 y hy)
  · intro j hj
    rw [SF_k (by decide)] at hj
    rw [uQ_n (by omega)]
    exact E2 j hj
  · intro j
    by_cases e : j = i
    · subst e
      refine ⟨n + 1, fun g hg => (x.e (fun z => z.2.elim (fun y => by omega) (fun y => by have := hm g y; omega))).trans (hn g (by omega)), fun g hg => ?_⟩
      rw [uQ_s] at hg
      rcases hLs g hg with z | z
      · omega
      · have := hm g z
        omega
    · obtain ⟨N, b1, b2⟩ := E3 j
      exact ⟨N, fun g hg => (x.e (fun z => e z.1)).trans (b1 g hg), by rw [uQ_n e]; exact b2⟩
  · intro m hM
    rw [SF_k (by decide)] at hM
    obtain ⟨a1, f, a2, a3⟩ := E4 m hM
    unfold MsJ
    rw [SF_k (by decide)]
    refine ⟨a1, f, (x.k (by omega)).trans a2, fun y hy => ?_⟩
    obtain ⟨g, c1, c2, c3, c4⟩ := a3 y hy
    unfold MsE
    rw [SF_k (k := 56) (by decide), SF_k (k := 57) (by decide), SF_k (k := 58) (by decide), SF_2k (k := 55) (by decide)]
    have hgn : nn (T.1 56 (40 * m + y)) = i → ¬ (g = n ∨ g ∈ Q i) := fun e z => by
      rw [e] at c2 c4
      rcases z with z | z
      · unfold enJ at c4
        rw [hn g (by omega)] at c4
        cases c4
      · exact c2 z
    refine ⟨g, c1, ?_, c3, (x.e (fun z => hgn z.1 z.2)).trans c4⟩
    by_cases e : nn (T.1 56 (40 * m + y)) = i
    · rw [e, uQ_s]
      exact fun z => hgn e (hLs g z)
    · rw [uQ_n e]
      exact c2
  · intro m hM
    rw [SF_k (by decide)] at hM
    exact (x.k (by omega)).trans (E5 m hM)
  · exact (x.k (by omega)).trans E6
