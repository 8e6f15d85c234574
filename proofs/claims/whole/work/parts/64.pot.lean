/-! room by potential: messages, and items that would sample nothing new -/
def clB (S : St) (i : Nat) : Bool := decide (smC S i)
def CL (S : St) : Nat := cn (clB S) 60
def uc (S : St) : Nat := 5 * nn (S.1 48 0) + 2 * CL S
def us (S : St) : Nat := 1624 * nn (S.1 48 0) + 26 * CL S
theorem CL_le {S : St} : CL S ≤ 60 := cn_le _ _
theorem smC_cg {S S' : St} {i : Nat} (a : S'.1 42 i = S.1 42 i) (b : S'.1 35 i = S.1 35 i) (c : S'.2 3 = S.2 3) (d : S'.2 41 i = S.2 41 i) (e : S'.2 43 i = S.2 43 i) : smC S' i ↔ smC S i := by
  unfold smC apS smV
  rw [a, b, c, d, e]
theorem cn_cg {p q : Nat → Bool} : ∀ {n : Nat}, (∀ i, i < n → p i = q i) → cn p n = cn q n
  | 0, _ => rfl
  | n + 1, h => by
    rw [cn, cn, cn_cg (fun i hi => h i (by omega)), h n (by omega)]
theorem cn_flip {p q : Nat → Bool} {i : Nat} (hp : p i = false) (hq : q i = true) (h : ∀ j, j ≠ i → q j = p j) : ∀ {n : Nat}, i < n → cn q n = cn p n + 1
  | 0, hi => absurd hi (Nat.not_lt_zero _)
  | n + 1, hi => by
    rw [cn, cn]
    by_cases e : i = n
    · subst e
      rw [cn_cg (p := q) (q := p) (fun j hj => h j (by omega)), hp, hq]
      rfl
    · rw [cn_flip hp hq h (n := n) (by omega), h n (fun z => e z.symm)]
      omega
theorem CL_cg {S S' : St} (a : S'.1 42 = S.1 42) (b : S'.1 35 = S.1 35) (c : S'.2 3 = S.2 3) (d : S'.2 41 = S.2 41) (e : S'.2 43 = S.2 43) : CL S' = CL S := cn_cg fun i _ => by
  unfold clB
  exact decide_eq_decide.mpr (smC_cg (congrFun a i) (congrFun b i) c (congrFun d i) (congrFun e i))
theorem u_cg {S S' : St} (a : S'.1 42 = S.1 42) (b : S'.1 35 = S.1 35) (c : S'.2 3 = S.2 3) (d : S'.2 41 = S.2 41) (e : S'.2 43 = S.2 43) (f : S'.1 48 0 = S.1 48 0) : uc S' = uc S ∧ us S' = us S := by
  unfold uc us
  rw [CL_cg a b c d e, f]
  exact ⟨rfl, rfl⟩
theorem CL_sample {S : St} {i : Nat} (hi : i < 60) (hc : ¬ smC S i) (hb : ¬ S.2 41 i < 0) : CL (sampleS S i) = CL S + 1 := by
  have es : sampleS S i = SF (smA S i) i (smV S i) := by rw [sampleS, if_neg hc]; rfl
  rw [es]
  have k35 : ∀ j, (SF (smA S i) i (smV S i)).1 35 j = S.1 35 j := fun j => (SF_k (by decide)).trans (show (pa S 42 i 1).1 35 j = _ from pa_n S _ (by decide))
  have k42 : ∀ j, (SF (smA S i) i (smV S i)).1 42 j = (pa S 42 i 1).1 42 j := fun j => SF_k (by decide)
  have k3 : (SF (smA S i) i (smV S i)).2 3 = S.2 3 := by
    rw [SF_2f (by decide)]
    rfl
  have k41 : ∀ j, (SF (smA S i) i (smV S i)).2 41 j = S.2 41 j := fun j => SF_2k (by decide)
  have k43 : ∀ j, (SF (smA S i) i (smV S i)).2 43 j = if j = i then smV S i else S.2 43 j := fun j => by
    rw [SF_2k (by decide)]
    show (if 43 = 43 ∧ j = i then smV S i else S.2 43 j) = _
    by_cases e : j = i
    · rw [if_pos ⟨rfl, e⟩, if_pos e]
    · rw [if_neg (fun q => e q.2), if_neg e]
  refine cn_flip (i := i) (decide_eq_false hc) (decide_eq_true ?_) (fun j hj => decide_eq_decide.mpr ?_) hi
  · have ev : smV (SF (smA S i) i (smV S i)) i = smV S i := by
      show (SF (smA S i) i (smV S i)).2 3 (nn ((SF (smA S i) i (smV S i)).1 35 i)) = S.2 3 (nn (S.1 35 i))
      rw [k3, k35]
    have ea : apS (SF (smA S i) i (smV S i)) i = 0 := by
      unfold apS
      rw [ev, k43, if_pos rfl, if_pos (Int64.le_refl _), Int64.sub_self]
    refine ⟨?_, ?_, ?_⟩
    · rw [k42, pa_s]
      decide
    · rw [ea]
      decide
    · rw [ea, k41]
      exact hb
  · exact smC_cg (by rw [k42, pa_i _ _ hj]) (k35 j) k3 (k41 j) (by rw [k43, if_neg hj])
theorem u_sample {S : St} {i : Nat} (hi : i < 60) (hb : ¬ S.2 41 i < 0) : (smC S i → sampleS S i = S) ∧ (¬ smC S i → uc (sampleS S i) = uc S + 2 ∧ us (sampleS S i) = us S + 26) := by
  refine ⟨fun h => by rw [sampleS, if_pos h], fun h => ?_⟩
  have e48 : (sampleS S i).1 48 0 = S.1 48 0 := sampleS_k (by decide)
  unfold uc us
  rw [CL_sample hi h hb, e48]
  omega
theorem shr_k {S : St} {s : Int32} {k : Nat} (h : k ≠ 28 ∧ k ≠ 29 ∧ k ≠ 30 ∧ k ≠ 26 ∧ k ≠ 16 ∧ k ≠ 33 ∧ k ≠ 54) : (shortS S s).1 k = S.1 k := by
  have hl : (lateS S s).1 k = S.1 k := by
    funext j
    unfold lateS
    split
    · dsimp only
      rw [pa_n _ _ (by omega), pa_n _ _ (by omega), pa_n _ _ (by omega)]
    · rfl
  rw [← hl]
  unfold shortS
  generalize lateS S s = T
  funext j
  dsimp only
  split
  · exact pa_n _ _ (by omega)
  · rw [remS_k (by omega)]
    exact pa_n _ _ (by omega)
theorem shr_2 {S : St} {s : Int32} : (shortS S s).2 = S.2 := by
  have hl : (lateS S s).2 = S.2 := by
    unfold lateS
    split <;> rfl
  rw [← hl]
  unfold shortS
  generalize lateS S s = T
  dsimp only
  split
  · rfl
  · rw [remS_2]
    rfl
theorem u_short {S : St} {s : Int32} : uc (shortS S s) = uc S ∧ us (shortS S s) = us S := u_cg (shr_k (by decide)) (shr_k (by decide)) (by rw [shr_2]) (by rw [shr_2]) (by rw [shr_2]) (congrFun (shr_k (by decide)) 0)
theorem shut_2 {S : St} {s : Int32} : (shutS S s).1.2 = S.2 := by
  unfold shutS
  dsimp only
  have : ∀ n (q : St × Nat), (lpq (sh1 s) n q).1.2 = q.1.2 := by
    intro n
    induction n with
    | zero => exact fun q => rfl
    | succ n ih =>
      intro q
      rw [lpq, ← ih q]
      generalize lpq (sh1 s) n q = r
      unfold sh1
      split
      · rfl
      · split
        · exact remS_2
        · rfl
  exact this _ _
theorem u_shut {S : St} {s : Int32} : uc (shutS S s).1 = uc S ∧ us (shutS S s).1 = us S := u_cg (by funext j; exact shut_k (by decide)) (by funext j; exact shut_k (by decide)) (by rw [shut_2]) (by rw [shut_2]) (by rw [shut_2]) (shut_k (by decide))
section Cyc
variable {c B b : Nat}
theorem IN.g {S : St} (I : IN c B S) (hb : b < nn (S.1 15 0)) : ∃ G, makeS S b = mkT G b (nn (S.1 48 0)) (nn (S.1 17 b)) ∧ MG S (tkF (gh S) b (nn (S.1 48 0))).1 G b (nn (S.1 48 0)) := by
  have h20 := (ct_nn I.2.1.2.2.2.1 (by decide)).1
  have h60 := (ct_nn I.2.1.2.2.2.2.1 (by decide)).1
  have h512 := (ct_nn I.2.1.2.2.2.2.2 (by decide)).1
  exact make_G rfl (by omega) h60 (fun j hj => (I.1.2.1 j hj).1) (by omega) (I.2.2.2.2.1.2.2.2.2 _ (Nat.le_refl _)) (I.2.2.2.2.2.2.2.2.2.2.1 b (by omega))
theorem IN.make48 {S : St} (I : IN c B S) (hb : b < nn (S.1 15 0)) : nn ((makeS S b).1 48 0) = nn (S.1 48 0) + 1 := by
  obtain ⟨G, eG, g⟩ := I.g hb
  have h512 := (ct_nn I.2.1.2.2.2.2.2 (by decide)).1
  rw [eG, mkT_k (by decide), g.2.2.1]
  exact nnI (by omega)
theorem IN.make13 {S : St} (I : IN c B S) (hb : b < nn (S.1 15 0)) : nn ((makeS S b).1 13 (nn (S.1 17 b))) = nn (S.1 13 (nn (S.1 17 b))) + 1 := by
  obtain ⟨G, eG, g⟩ := I.g hb
  have how := I.2.2.2.1.1 b hb
  have hs := (I.2.2.2.2.2.2.1 _ how.2).1
  rw [eG, mkT_13, if_pos rfl, g.1 13 (by decide), tkF_k (by decide)]
  exact (sm_inc hs (by decide)).2
theorem IN.umake {S : St} (I : IN c B S) (hb : b < nn (S.1 15 0)) : uc (makeS S b) = uc S + 5 ∧ us (makeS S b) = us S + 1624 := by
  have e48 := I.make48 hb
  obtain ⟨G, eG, g⟩ := I.g hb
  have h2 : ∀ k, k ≠ 45 ∧ k ≠ 55 → (makeS S b).2 k = S.2 k := fun k hk => by
    funext j
    rw [eG, mkT_2, g.2.1]
    exact tkF_2 (S := gh S) hk
  have hc : CL (makeS S b) = CL S := CL_cg (by funext j; exact make_k (by decide)) (by funext j; exact make_k (by decide)) (h2 3 (by decide)) (h2 41 (by decide)) (h2 43 (by decide))
  unfold uc us
  rw [e48, hc]
  omega
theorem IN.may {S : St} (I : IN c B S) (hb : b < nn (S.1 15 0)) : mayM S b ↔ 1 ≤ nn (S.1 12 (nn (S.1 17 b))) := by
  have h20 := (ct_nn I.2.1.2.2.2.1 (by decide)).1
  have h12 := (ct_nn I.2.1.2.2.1 (by decide)).1
  have how := I.2.2.2.1.1 b hb
  have hs := (I.1.2.2.2.1 _ (show nn (S.1 17 b) < 12 by omega)).1
  have h48 := ct_nn I.2.1.2.2.2.2.2 (by decide)
  unfold mayM
  constructor
  · intro h
    exact sm_pos hs h.1 (by decide)
  · intro h
    refine ⟨fun z => ?_, fun z => ?_⟩
    · rw [hs.1, nI_pos0 (by have := hs.2; omega)] at z
      exact z h
    · rw [h48.2, show (900 : Int32) = nI 900 from rfl, nI_leI (by decide) (by omega)] at z
      omega
theorem make15 {S : St} : (makeS S b).1 15 0 = S.1 15 0 := make_k (by decide)
theorem IN.cw : ∀ (f : Nat) (S : St), IN c B S → b < nn (S.1 15 0) → B + 1 < 2 ^ 31 → IN c (B + 1) (cycW b f S) ∧ (cycW b f S).1 15 0 = S.1 15 0 ∧ uc S ≤ uc (cycW b f S) ∧ us S ≤ us (cycW b f S)
  | 0, S, h, _, _ => ⟨h.up (Nat.le_succ _), rfl, Nat.le_refl _, Nat.le_refl _⟩
  | f + 1, S, h, hb, hB => by
    rw [cycW]
    split
    · rename_i hm
      have hr := (h.may hb).mp hm
      have h1 := h.make hb hr
      have u := h.umake hb
      split
      · exact ⟨h1.up (Nat.le_succ _), make15, by omega, by omega⟩
      · split
        · exact ⟨h1.up (Nat.le_succ _), make15, by omega, by omega⟩
        · obtain ⟨a1, a2, a3, a4⟩ := IN.cw f (makeS S b) h1 (by rw [make15]; exact hb) hB
          exact ⟨a1, a2.trans make15, by omega, by omega⟩
    · have u := u_short (S := S) (s := nI b)
      exact ⟨h.short hb hB, congrFun (shr_k (by decide)) 0, by omega, by omega⟩
theorem cyc_eq {S : St} (hb : b < 2 ^ 31) : cycS S b = if rdy S (nI b) then cycW b 5 S else if (cycN S b).1 27 b = 0 ∨ (cycN S b).1 25 b ≤ 0 then cycW b 5 (cycN S b) else cycN S b := by
  unfold cycS
  by_cases h : rdy S (nI b)
  · rw [if_pos h, if_pos h]
  · rw [if_neg h, if_neg h]
    have hn : ¬ rdy (cycN S b) (nI b) := fun z => h (by
      unfold rdy at z ⊢
      rw [lft_cg (S := S) (S' := cycN S b) rfl rfl rfl rfl rfl] at z
      exact z)
    dsimp only
    generalize cycN S b = T at hn ⊢
    have e31 : (makeS T b).1 31 b = 0 := by
      unfold makeS
      rw [if_neg hn]
      simp [mkN, mkT, mailN, pa_1]
    have ew : cycW b 5 T = if mayM T b then makeS T b else shortS T (nI b) := by
      rw [cycW, if_pos e31]
    rw [ew]
    by_cases h27 : T.1 27 b = 0
    · rw [if_pos h27, if_pos (Or.inl h27)]
    · rw [if_neg h27]
      by_cases h25 : T.1 25 b ≤ 0
      · rw [if_pos h25, if_pos (Or.inr h25)]
      · rw [if_neg h25, if_neg (fun z => z.elim h27 h25)]
theorem IN.cyc {S : St} (I : IN c B S) (hb : b < nn (S.1 15 0)) (hB : B + 1 < 2 ^ 31) : IN c (B + 1) (cycS S b) ∧ (cycS S b).1 15 0 = S.1 15 0 ∧ uc S ≤ uc (cycS S b) ∧ us S ≤ us (cycS S b) := by
  have h20 := (ct_nn I.2.1.2.2.2.1 (by decide)).1
  rw [cyc_eq (by omega)]
  have In : IN c B (cycN S b) := I.put (k := 25) rfl
  have un : uc (cycN S b) = uc S ∧ us (cycN S b) = us S := u_cg rfl rfl rfl rfl rfl rfl
  split
  · exact IN.cw 5 S I hb hB
  · split
    · obtain ⟨a1, a2, a3, a4⟩ := IN.cw (b := b) 5 (cycN S b) In hb hB
      exact ⟨a1, a2, by omega, by omega⟩
    · exact ⟨In.up (Nat.le_succ _), rfl, by omega, by omega⟩
theorem IN.s2x {S : St} (I : IN c B S) (hb : b < nn (S.1 15 0)) (hB : B + 1 < 2 ^ 31) : IN c (B + 1) (st2 b S) ∧ (st2 b S).1 15 0 = S.1 15 0 ∧ uc S ≤ uc (st2 b S) ∧ us S ≤ us (st2 b S) := by
  unfold st2
  split
  · exact ⟨I.up (Nat.le_succ _), rfl, Nat.le_refl _, Nat.le_refl _⟩
  · split
    · exact I.cyc hb hB
    · exact ⟨I.up (Nat.le_succ _), rfl, Nat.le_refl _, Nat.le_refl _⟩
end Cyc
theorem IN.l2 {c B : Nat} {S : St} (I : IN c B S) (hB : B + 20 < 2 ^ 31) : ∀ y, y ≤ nn (S.1 15 0) → IN c (B + y) (lp st2 y S) ∧ (lp st2 y S).1 15 0 = S.1 15 0
  | 0, _ => ⟨I, rfl⟩
  | y + 1, hy => by
    have h20 := (ct_nn I.2.1.2.2.2.1 (by decide)).1
    obtain ⟨a, b⟩ := I.l2 hB y (by omega)
    obtain ⟨x1, x2, -, -⟩ := a.s2x (b := y) (by rw [b]; omega) (by omega)
    exact ⟨x1, x2.trans b⟩
theorem IN.m2 {c B : Nat} {S : St} (I : IN c B S) (hB : B + 20 < 2 ^ 31) {y : Nat} : ∀ d, y + d ≤ nn (S.1 15 0) → uc (lp st2 y S) ≤ uc (lp st2 (y + d) S) ∧ us (lp st2 y S) ≤ us (lp st2 (y + d) S)
  | 0, _ => ⟨Nat.le_refl _, Nat.le_refl _⟩
  | d + 1, h => by
    have h20 := (ct_nn I.2.1.2.2.2.1 (by decide)).1
    obtain ⟨a, b⟩ := I.l2 hB (y + d) (by omega)
    obtain ⟨-, -, x3, x4⟩ := a.s2x (b := y + d) (by rw [b]; omega) (by omega)
    have ih := I.m2 hB (y := y) d (by omega)
    have e : lp st2 (y + (d + 1)) S = st2 (y + d) (lp st2 (y + d) S) := rfl
    rw [e]
    omega
theorem IN.s1x {c B i : Nat} {S : St} (I : IN c B S) (hi : i < nn (S.1 32 0)) : IN c B (st1 i S) ∧ (st1 i S).1 32 0 = S.1 32 0 ∧ uc S ≤ uc (st1 i S) ∧ us S ≤ us (st1 i S) := by
  have h60 := (ct_nn I.2.1.2.2.2.2.1 (by decide)).1
  have hmo := I.2.2.2.2.2.2.2.2.2.1 i hi
  unfold st1
  split
  · exact ⟨I, rfl, Nat.le_refl _, Nat.le_refl _⟩
  · split
    · exact ⟨I, rfl, Nat.le_refl _, Nat.le_refl _⟩
    · rename_i h40
      split
      · have hu := u_sample (S := S) (i := i) (by omega) hmo.2.2
        refine ⟨I.sample hi (fun z => h40 (by rw [z]; decide)), sampleS_k (by decide), ?_, ?_⟩
        · by_cases z : smC S i
          · rw [hu.1 z]
            exact Nat.le_refl _
          · have := hu.2 z
            omega
        · by_cases z : smC S i
          · rw [hu.1 z]
            exact Nat.le_refl _
          · have := hu.2 z
            omega
      · exact ⟨I, rfl, Nat.le_refl _, Nat.le_refl _⟩
theorem IN.l1 {c B : Nat} {S : St} (I : IN c B S) : ∀ y, y ≤ nn (S.1 32 0) → IN c B (lp st1 y S) ∧ (lp st1 y S).1 32 0 = S.1 32 0
  | 0, _ => ⟨I, rfl⟩
  | y + 1, hy => by
    obtain ⟨a, b⟩ := I.l1 y (by omega)
    obtain ⟨x1, x2, -, -⟩ := a.s1x (i := y) (by rw [b]; omega)
    exact ⟨x1, x2.trans b⟩
theorem IN.m1 {c B : Nat} {S : St} (I : IN c B S) {y : Nat} : ∀ d, y + d ≤ nn (S.1 32 0) → uc (lp st1 y S) ≤ uc (lp st1 (y + d) S) ∧ us (lp st1 y S) ≤ us (lp st1 (y + d) S)
  | 0, _ => ⟨Nat.le_refl _, Nat.le_refl _⟩
  | d + 1, h => by
    obtain ⟨a, b⟩ := I.l1 (y + d) (by omega)
    obtain ⟨-, -, x3, x4⟩ := a.s1x (i := y + d) (by rw [b]; omega)
    have ih := I.m1 (y := y) d (by omega)
    have e : lp st1 (y + (d + 1)) S = st1 (y + d) (lp st1 (y + d) S) := rfl
    rw [e]
    omega
theorem IN.s3x {c B s : Nat} {S : St} (I : IN c B S) (hs : s < nn (S.1 8 0)) : IN c B (st3 s S) ∧ (st3 s S).1 8 0 = S.1 8 0 ∧ uc (st3 s S) = uc S ∧ us (st3 s S) = us S := by
  have h12 := (ct_nn I.2.1.2.2.1 (by decide)).1
  unfold st3
  split
  · exact ⟨I, rfl, rfl, rfl⟩
  · split
    · have hix := lt_ix (x := S.1 8 0) (n := s) (b := 12) ⟨(ct_nn I.2.1.2.2.1 (by decide)).2, h12⟩ (by decide) hs
      exact ⟨I.shut hix, shut_k (by decide), u_shut.1, u_shut.2⟩
    · exact ⟨I, rfl, rfl, rfl⟩
theorem IN.l3 {c B : Nat} {S : St} (I : IN c B S) : ∀ y, y ≤ nn (S.1 8 0) → IN c B (lp st3 y S) ∧ (lp st3 y S).1 8 0 = S.1 8 0 ∧ uc (lp st3 y S) = uc S ∧ us (lp st3 y S) = us S
  | 0, _ => ⟨I, rfl, rfl, rfl⟩
  | y + 1, hy => by
    obtain ⟨a, b, d, e⟩ := I.l3 y (by omega)
    obtain ⟨x1, x2, x3, x4⟩ := a.s3x (s := y) (by rw [b]; omega)
    exact ⟨x1, x2.trans b, x3.trans d, x4.trans e⟩
theorem IN.tA {c B : Nat} {S : St} (I : IN c B S) : IN c B (sA S) ∧ uc (sA S) = uc S ∧ us (sA S) = us S := ⟨I.put (k := 0) rfl, u_cg rfl rfl rfl rfl rfl rfl⟩
theorem IN.tB {c B : Nat} {S : St} (I : IN c B S) : IN c B (sB S) ∧ uc S ≤ uc (sB S) ∧ us S ≤ us (sB S) := by
  obtain ⟨a, b, d⟩ := I.tA
  have h1 := a.l1 (nn (S.1 32 0)) (Nat.le_refl _)
  have h2 := a.m1 (y := 0) (nn (S.1 32 0)) (by show 0 + nn (S.1 32 0) ≤ nn (S.1 32 0); omega)
  rw [Nat.zero_add] at h2
  have e0 : lp st1 0 (sA S) = sA S := rfl
  rw [e0, b, d] at h2
  exact ⟨h1.1, h2⟩
theorem IN.tC {c B : Nat} {S : St} (I : IN c B S) (hB : B + 20 < 2 ^ 31) : IN c (B + 20) (sC S) ∧ uc S ≤ uc (sC S) ∧ us S ≤ us (sC S) := by
  obtain ⟨a, b, d⟩ := I.tB
  have e15 : (sB S).1 15 0 = S.1 15 0 := sB_n (by decide)
  have h20 := (ct_nn I.2.1.2.2.2.1 (by decide)).1
  have h1 := a.l2 hB (nn (S.1 15 0)) (by rw [e15]; exact Nat.le_refl _)
  have h2 := a.m2 hB (y := 0) (nn (S.1 15 0)) (by rw [e15]; omega)
  rw [Nat.zero_add] at h2
  have e0 : lp st2 0 (sB S) = sB S := rfl
  rw [e0] at h2
  exact ⟨h1.1.up (by omega), Nat.le_trans b h2.1, Nat.le_trans d h2.2⟩
theorem IN.step {c B : Nat} {S : St} (I : IN c B S) (hB : B + 20 < 2 ^ 31) : IN c (B + 20) (stepS S) ∧ uc S ≤ uc (stepS S) ∧ us S ≤ us (stepS S) ∧ uc (stepS S) = uc (sC S) ∧ us (stepS S) = us (sC S) := by
  obtain ⟨a, b, d⟩ := I.tC hB
  have e8 : (sC S).1 8 0 = S.1 8 0 := sC_n (by decide)
  obtain ⟨x1, -, x3, x4⟩ := a.l3 (nn (S.1 8 0)) (by rw [e8]; exact Nat.le_refl _)
  exact ⟨x1, by unfold stepS; rw [x3]; exact b, by unfold stepS; rw [x4]; exact d, x3, x4⟩
theorem IN.tk {c B : Nat} {S : St} (I : IN c B S) : ∀ n, B + 20 * n < 2 ^ 31 → IN c (B + 20 * n) (tkS S n)
  | 0, _ => I
  | n + 1, hB => by
    have ih := I.tk n (by omega)
    have := (ih.step (by omega)).1
    exact this
theorem IN.mtk {c B : Nat} {S : St} (I : IN c B S) {n : Nat} : ∀ d, B + 20 * (n + d) < 2 ^ 31 → uc (tkS S n) ≤ uc (tkS S (n + d)) ∧ us (tkS S n) ≤ us (tkS S (n + d))
  | 0, _ => ⟨Nat.le_refl _, Nat.le_refl _⟩
  | d + 1, hB => by
    have ih := I.mtk (n := n) d (by omega)
    have hs := (I.tk (n + d) (by omega)).step (by omega)
    have e : tkS S (n + (d + 1)) = stepS (tkS S (n + d)) := rfl
    rw [e]
    omega
