/-! a subscription's end -/
/-- field f made zero at the places of L -/
def gZ (f : Nat) (L : List Nat) (S : St) : St := (fun k i => if k = f then (if i ∈ L then 0 else S.1 f i) else S.1 k i, S.2)
theorem gZ_k {f k : Nat} {L : List Nat} {S : St} (h : k ≠ f) (i : Nat) : (gZ f L S).1 k i = S.1 k i := if_neg h
theorem gZ_f {f : Nat} {L : List Nat} {S : St} (i : Nat) : (gZ f L S).1 f i = if i ∈ L then 0 else S.1 f i := if_pos rfl
theorem gZ_s {f x : Nat} {L : List Nat} {S : St} : pa (gZ f L S) f x 0 = gZ f (L ++ [x]) S := by
  refine St_ext (fun k i => ?_) rfl
  rw [pa_1]
  by_cases hk : k = f
  · subst hk
    rw [gZ_f, gZ_f]
    by_cases hi : i = x
    · subst hi
      rw [if_pos ⟨rfl, rfl⟩, if_pos (by simp)]
    · rw [if_neg (fun q => hi q.2)]
      by_cases hL : i ∈ L
      · rw [if_pos hL, if_pos (List.mem_append_left _ hL)]
      · rw [if_neg hL, if_neg (by simp [hL, hi])]
  · rw [if_neg (fun q => hk q.1), gZ_k hk, gZ_k hk]
theorem gZ_0 {f : Nat} {S : St} : gZ f [] S = S := by
  refine St_ext (fun k i => ?_) rfl
  by_cases hk : k = f
  · subst hk
    rw [gZ_f, if_neg List.not_mem_nil]
  · exact gZ_k hk i
theorem take_s {L : List Nat} {y : Nat} (h : y < L.length) : L.take (y + 1) = L.take y ++ [L.getD y 0] := by
  rw [List.take_succ, List.getD_eq_getElem?_getD, List.getElem?_eq_getElem h]
  rfl
theorem gZ_t {f y : Nat} {L : List Nat} {S : St} (h : y < L.length) : pa (gZ f (L.take y) S) f (L.getD y 0) 0 = gZ f (L.take (y + 1)) S := by rw [gZ_s, take_s h]
theorem ir_33 {S : St} {s : Int32} : ∀ n i, (lp (ir1 s) n S).1 33 i = if i < n then (if S.1 33 i = 0 then 0 else if S.1 34 i = s then 0 else 1) else S.1 33 i
  | 0, i => (if_neg (Nat.not_lt_zero _)).symm
  | n + 1, i => by
    have h34 : (lp (ir1 s) n S).1 34 n = S.1 34 n := lp_k (fun m T => pa_n T _ (by decide)) n S
    show (pa (lp (ir1 s) n S) 33 n _).1 33 i = _
    by_cases e : i = n
    · subst e
      rw [pa_s, if_pos (Nat.lt_succ_self _), ir_33 i i, if_neg (Nat.lt_irrefl _), h34]
    · rw [pa_i _ _ e, ir_33 n i]
      by_cases q : i < n
      · rw [if_pos q, if_pos (show i < n + 1 by omega)]
      · rw [if_neg q, if_neg (show ¬ i < n + 1 by omega)]
theorem dk1_kk {s num : Int32} {n k : Nat} (S : St) (h : k ≠ 54) (i : Nat) : (dk1 s num n S).1 k i = S.1 k i := by
  unfold dk1
  split
  · rfl
  · split
    · split
      · exact pa_n S _ h
      · split
        · exact pa_n S _ h
        · rfl
    · rfl
theorem dk_54 {S : St} {s : Int32} : ∀ n m, (lp (dk1 s (-1)) n S).1 54 m = if m < n ∧ S.1 49 m = s then 0 else S.1 54 m
  | 0, m => (if_neg (fun q => Nat.not_lt_zero _ q.1)).symm
  | n + 1, m => by
    have h49 : (lp (dk1 s (-1)) n S).1 49 n = S.1 49 n := lp_k (fun j T => dk1_kk T (by decide) n) n S
    have ih := dk_54 (S := S) (s := s) n
    have key : ∀ T : St, T.1 49 n = S.1 49 n → (dk1 s (-1) n T).1 54 m = if m = n ∧ S.1 49 n = s then 0 else T.1 54 m := fun T e49 => by
      unfold dk1
      rw [e49]
      by_cases q0 : T.1 54 n = 0
      · rw [if_pos q0]
        by_cases e : m = n ∧ S.1 49 n = s
        · rw [if_pos e, e.1, q0]
        · rw [if_neg e]
      · rw [if_neg q0]
        by_cases q1 : S.1 49 n = s
        · rw [if_pos q1, if_pos (by decide), pa_1]
          by_cases e : m = n
          · rw [if_pos ⟨rfl, e⟩, if_pos ⟨e, q1⟩]
          · rw [if_neg (fun q => e q.2), if_neg (fun q => e q.1)]
        · rw [if_neg q1, if_neg (fun q => q1 q.2)]
    show (dk1 s (-1) n (lp (dk1 s (-1)) n S)).1 54 m = _
    rw [key _ h49, ih m]
    by_cases e : m = n
    · subst e
      by_cases q : S.1 49 m = s
      · rw [if_pos ⟨rfl, q⟩, if_pos ⟨Nat.lt_succ_self _, q⟩]
      · rw [if_neg (fun z => q z.2), if_neg (fun z => q z.2), if_neg (fun z => q z.2)]
    · rw [if_neg (fun z => e z.1)]
      by_cases q : m < n ∧ S.1 49 m = s
      · rw [if_pos q, if_pos ⟨by omega, q.2⟩]
      · rw [if_neg q, if_neg (fun z => q ⟨by omega, z.2⟩)]
theorem rem_16 {S : St} {s : Int32} (i : Nat) : (remS S s).1 16 i = if i = nn s then 0 else S.1 16 i := by
  show (lp (dk1 s (-1)) _ (lp (ir1 s) _ (pa S 16 (nn s) 0))).1 16 i = _
  rw [lp_k (fun n T => dk1_kk T (by decide) i), lp_k (f := ir1 s) (k := 16) (i := i) (fun n T => pa_n T _ (by decide)), pa_1]
  by_cases e : i = nn s
  · rw [if_pos ⟨rfl, e⟩, if_pos e]
  · rw [if_neg (fun q => e q.2), if_neg e]
theorem rem_33 {S : St} {s : Int32} (i : Nat) : (remS S s).1 33 i = if i < nn (S.1 32 0) then (if S.1 33 i = 0 then 0 else if S.1 34 i = s then 0 else 1) else S.1 33 i := by
  show (lp (dk1 s (-1)) _ (lp (ir1 s) (nn (S.1 32 0)) (pa S 16 (nn s) 0))).1 33 i = _
  rw [lp_k (fun n T => dk1_kk T (by decide) i), ir_33]
  rfl
theorem rem_54 {S : St} {s : Int32} (m : Nat) : (remS S s).1 54 m = if m < nn (S.1 48 0) ∧ S.1 49 m = s then 0 else S.1 54 m := by
  have h48 : (lp (ir1 s) (nn (S.1 32 0)) (pa S 16 (nn s) 0)).1 48 0 = S.1 48 0 := lp_k (fun n T => pa_n T _ (by decide)) _ _
  have h49 : (lp (ir1 s) (nn (S.1 32 0)) (pa S 16 (nn s) 0)).1 49 m = S.1 49 m := lp_k (fun n T => pa_n T _ (by decide)) _ _
  have h54 : (lp (ir1 s) (nn (S.1 32 0)) (pa S 16 (nn s) 0)).1 54 m = S.1 54 m := lp_k (fun n T => pa_n T _ (by decide)) _ _
  show (lp (dk1 s (-1)) (nn ((lp (ir1 s) (nn (S.1 32 0)) (pa S 16 (nn s) 0)).1 48 0)) (lp (ir1 s) (nn (S.1 32 0)) (pa S 16 (nn s) 0))).1 54 m = _
  rw [dk_54, h48, h49, h54]
theorem remS_f {S : St} {s : Int32} {k : Nat} (h : k ≠ 16 ∧ k ≠ 33 ∧ k ≠ 54) : (remS S s).1 k = S.1 k := by
  funext i
  exact remS_k h i
theorem rem_siP {S : St} {s t : Int32} {i : Nat} (h : i < nn (S.1 32 0)) : siP (remS S s) t i ↔ siP S t i ∧ ¬ t = s := by
  unfold siP
  rw [rem_33, if_pos h, remS_k (by decide)]
  by_cases q : S.1 33 i = 0
  · rw [if_pos q]
    exact ⟨fun z => absurd rfl z.1, fun z => absurd q z.1.1⟩
  · rw [if_neg q]
    by_cases q2 : S.1 34 i = s
    · rw [if_pos q2]
      exact ⟨fun z => absurd rfl z.1, fun z => absurd (z.1.2.symm.trans q2) z.2⟩
    · rw [if_neg q2]
      exact ⟨fun z => ⟨⟨q, z.2⟩, fun e => q2 (z.2.trans e)⟩, fun z => ⟨by decide, z.1.2⟩⟩
theorem rem_kpP {S : St} {s t : Int32} {m : Nat} (h : m < nn (S.1 48 0)) : kpP (remS S s) t m ↔ kpP S t m ∧ ¬ t = s := by
  unfold kpP
  rw [rem_54, remS_k (by decide)]
  by_cases q2 : S.1 49 m = s
  · rw [if_pos ⟨h, q2⟩]
    exact ⟨fun z => absurd rfl z.1, fun z => absurd (z.1.2.symm.trans q2) z.2⟩
  · rw [if_neg (fun z => q2 z.2)]
    exact ⟨fun z => ⟨z, fun e => q2 (z.2.trans e)⟩, fun z => z.1⟩
theorem itI_rem {S : St} {b b' : Nat} (h : ¬ nI b' = nI b) : itI (remS S (nI b)) b' = itI S b' := by
  unfold itI
  rw [remS_k (by decide)]
  refine fl_cg fun x hx => Bool.eq_iff_iff.mpr ?_
  rw [siB_iff, siB_iff, rem_siP hx]
  exact ⟨fun z => z.1, fun z => ⟨z, h⟩⟩
theorem itI_rem0 {S : St} {b : Nat} : itI (remS S (nI b)) b = [] := by
  unfold itI
  rw [remS_k (by decide)]
  exact fl_nil fun x hx q => ((rem_siP hx).mp (siB_iff.mp q)).2 rfl
theorem kpI_rem {S : St} {b b' : Nat} (h : ¬ nI b' = nI b) : kpI (remS S (nI b)) b' = kpI S b' := by
  unfold kpI
  rw [remS_k (by decide)]
  refine fl_cg fun x hx => Bool.eq_iff_iff.mpr ?_
  rw [kpB_iff, kpB_iff, rem_kpP hx]
  exact ⟨fun z => z.1, fun z => ⟨z, h⟩⟩
theorem kpI_rem0 {S : St} {b : Nat} : kpI (remS S (nI b)) b = [] := by
  unfold kpI
  rw [remS_k (by decide)]
  exact fl_nil fun x hx q => ((rem_kpP hx).mp (kpB_iff.mp q)).2 rfl
theorem EM.rem {S : St} {Q : Nat → List Nat} {J : aH} {s : Int32} (h : EM S Q J) : EM (remS S s) Q J :=
  h.cg (remS_k (by decide) 0) (remS_k (by decide) 0) (remS_f (by decide)) (remS_f (by decide)) (remS_f (by decide)) (remS_f (by decide)) (remS_f (by decide)) (remS_f (by decide)) (remS_f (by decide)) (by rw [remS_2]) (by rw [remS_2])
theorem nI_inj {a b : Nat} (h : nI a = nI b) (ha : a < 2 ^ 31) (hb : b < 2 ^ 31) : a = b := by rw [← nnI ha, h, nnI hb]
theorem ls20a {S S' : St} {Q Q' : Nat → List Nat} {i : Nat} (a1 : S'.1 1 0 = S.1 1 0 ∨ False) (a2 : S'.1 4 0 = S.1 4 0 ∨ False) (a3 : S'.1 8 0 = S.1 8 0 ∨ False) (a4 : S'.1 15 0 = S.1 15 0 ∨ False) (a5 : S'.1 32 0 = S.1 32 0 ∨ False) (a6 : S'.1 48 0 = S.1 48 0 ∨ False) : lsL S' Q' 20 i = lsL S Q 20 i := by
  show mainL S' i = mainL S i
  unfold mainL
  rw [a1.resolve_right id, a2.resolve_right id, a3.resolve_right id, a4.resolve_right id, a5.resolve_right id, a6.resolve_right id]
theorem RJ.rem {S : St} {Q : Nat → List Nat} {J J1 J2 : aH} {b : Nat} (R : RJ S Q J) (hb : b < nn (S.1 15 0)) (h20 : nn (S.1 15 0) ≤ 20) (F1 : Fr 24 b J J1) (L1 : LL J1 24 b []) (F2 : Fr 26 b J1 J2) (L2 : LL J2 26 b []) : RJ (remS S (nI b)) Q J2 := by
  refine ⟨((R.1.upd (k := 24) rfl F1 L1).upd (k := 26) rfl F2 L2).to (lsT2 ?_ ?_ ?_), ((R.2.fr (k := 24) rfl F1).fr (k := 26) rfl F2).rem⟩
  · show (if b < nn ((remS S (nI b)).1 15 0) then some (kpL (remS S (nI b)) b) else none) = _
    rw [remS_k (by decide), if_pos hb]
    unfold kpL
    rw [kpI_rem0]
    rfl
  · show (if b < nn ((remS S (nI b)).1 15 0) then some (itL (remS S (nI b)) b) else none) = _
    rw [remS_k (by decide), if_pos hb]
    unfold itL
    rw [itI_rem0]
    rfl
  · intro k i hk hne hne2
    rcases lk_c hk with rfl | rfl | rfl | rfl | rfl
    · exact ls20a (Or.inl (remS_k (by decide) 0)) (Or.inl (remS_k (by decide) 0)) (Or.inl (remS_k (by decide) 0)) (Or.inl (remS_k (by decide) 0)) (Or.inl (remS_k (by decide) 0)) (Or.inl (remS_k (by decide) 0))
    · exact ls22 (remS_k (by decide) 0) (remS_f (by decide)) (remS_f (by decide))
    · show (if i < nn ((remS S (nI b)).1 15 0) then some (itL (remS S (nI b)) i) else none) = (if i < nn (S.1 15 0) then some (itL S i) else none)
      rw [remS_k (by decide)]
      by_cases hi : i < nn (S.1 15 0)
      · rw [if_pos hi, if_pos hi]
        unfold itL
        rw [itI_rem (fun q => hne ⟨rfl, nI_inj q (by omega) (by omega)⟩)]
      · rw [if_neg hi, if_neg hi]
    · show (if i < nn ((remS S (nI b)).1 15 0) then some (kpL (remS S (nI b)) i) else none) = (if i < nn (S.1 15 0) then some (kpL S i) else none)
      rw [remS_k (by decide)]
      by_cases hi : i < nn (S.1 15 0)
      · rw [if_pos hi, if_pos hi]
        unfold kpL
        rw [kpI_rem (fun q => hne2 ⟨rfl, nI_inj q (by omega) (by omega)⟩)]
      · rw [if_neg hi, if_neg hi]
    · exact ls28 (remS_k (by decide) 0)
theorem en_k {S : St} {b k : Nat} (h : k ≠ 16 ∧ k ≠ 33 ∧ k ≠ 54) (i : Nat) : (gZ 54 (kpI S b) (gZ 33 (itI S b) (pa S 16 b 0))).1 k i = (remS S (nI b)).1 k i := by
  rw [remS_k h, gZ_k h.2.2, gZ_k h.2.1, pa_n S _ h.1]
theorem end_ovc {S : St} {J : aH} {b : Nat} (hb : b < 2 ^ 31) : ovc (gZ 54 (kpI S b) (gZ 33 (itI S b) (pa S 16 b 0))) J = ovc (remS S (nI b)) J := by
  refine ovc_ext fun k i hk => ?_
  rcases kO_c hk with rfl | rfl | rfl | rfl | rfl | rfl | rfl | rfl | rfl
  · exact oc1 (en_k (k := 0) (by decide) 0) (by rw [remS_2]; rfl) (en_k (k := 60) (by decide) 0) (en_k (k := 30) (by decide) 0)
  · exact oc2 (en_k (k := 1) (by decide) 0) (en_k (k := 2) (by decide) i) (by rw [remS_2]; rfl)
  · exact oc3 (en_k (k := 4) (by decide) 0) (en_k (k := 5) (by decide) i) (en_k (k := 6) (by decide) i) (en_k (k := 7) (by decide) i)
  · exact oc4 (en_k (k := 8) (by decide) 0) (en_k (k := 9) (by decide) i) (en_k (k := 11) (by decide) i) (en_k (k := 10) (by decide) i) (en_k (k := 12) (by decide) i)
  · refine oc5 (en_k (k := 15) (by decide) 0) (en_k (k := 17) (by decide) i) (en_k (k := 18) (by decide) i) (en_k (k := 19) (by decide) i) (en_k (k := 20) (by decide) i) (en_k (k := 21) (by decide) i) (en_k (k := 22) (by decide) i) (en_k (k := 23) (by decide) i) (en_k (k := 24) (by decide) i) (en_k (k := 25) (by decide) i) (en_k (k := 26) (by decide) i) (en_k (k := 27) (by decide) i) (en_k (k := 31) (by decide) i) (en_k (k := 28) (by decide) i) (en_k (k := 29) (by decide) i) ?_
    rw [rem_16, nnI hb]
    show (pa S 16 b 0).1 16 i = _
    rw [pa_1]
    by_cases e : i = b
    · rw [if_pos ⟨rfl, e⟩, if_pos e]
    · rw [if_neg (fun q => e q.2), if_neg e]
  · show (if i < nn (S.1 32 0) then (some (.inr (2, itO (gZ 54 (kpI S b) (gZ 33 (itI S b) (pa S 16 b 0))) i)) : Option aO) else none) = (if i < nn ((remS S (nI b)).1 32 0) then (some (.inr (2, itO (remS S (nI b)) i)) : Option aO) else none)
    rw [remS_k (by decide)]
    by_cases hi : i < nn (S.1 32 0)
    · rw [if_pos hi, if_pos hi]
      have e : gb ((gZ 54 (kpI S b) (gZ 33 (itI S b) (pa S 16 b 0))).1 33 i) = gb ((remS S (nI b)).1 33 i) := by
        show gb ((gZ 33 (itI S b) (pa S 16 b 0)).1 33 i) = _
        rw [rem_33, if_pos hi, gZ_f, pa_n S _ (by decide)]
        by_cases q0 : S.1 33 i = 0
        · rw [q0, if_pos rfl]
          split <;> rfl
        · rw [if_neg q0]
          by_cases q1 : S.1 34 i = nI b
          · rw [if_pos q1, if_pos (show i ∈ itI S b from fl_mem.mpr ⟨hi, siB_iff.mpr ⟨q0, q1⟩⟩)]
          · rw [if_neg q1, if_neg (show ¬ i ∈ itI S b from fun z => q1 (siB_iff.mp (fl_mem.mp z).2).2)]
            unfold gb
            rw [if_neg q0, if_neg (by decide)]
      unfold itO
      rw [e, remS_2]
      rw [remS_k (k := 34) (by decide), remS_k (k := 35) (by decide), remS_k (k := 36) (by decide), remS_k (k := 37) (by decide), remS_k (k := 40) (by decide), remS_k (k := 42) (by decide)]
      rfl
    · rw [if_neg hi, if_neg hi]
  · exact oc7 (en_k (k := 32) (by decide) 0) (en_k (k := 38) (by decide) i) (en_k (k := 39) (by decide) i)
  · refine oc8 (en_k (k := 48) (by decide) 0) (en_k (k := 49) (by decide) i) (en_k (k := 50) (by decide) i) (en_k (k := 53) (by decide) i) (en_k (k := 52) (by decide) i) ?_ (en_k (k := 70) (by decide) 0)
    rw [rem_54, gZ_f]
    show (if i ∈ kpI S b then (0 : Int32) else S.1 54 i) = _
    by_cases q : i ∈ kpI S b
    · obtain ⟨q1, q2⟩ := fl_mem.mp q
      rw [if_pos q, if_pos ⟨q1, (kpB_iff.mp q2).2⟩]
    · rw [if_neg q]
      by_cases z : i < nn (S.1 48 0) ∧ S.1 49 i = nI b
      · rw [if_pos z]
        by_cases z0 : S.1 54 i = 0
        · exact z0
        · exact absurd (fl_mem.mpr ⟨z.1, kpB_iff.mpr ⟨z0, z.2⟩⟩) q
      · rw [if_neg z]
  · exact oc11 (by funext i; exact en_k (k := 61) (by decide) i)
/-- a void method's end -/
def VR (S' : St) (Q : Nat → List Nat) (J : aH) : Option Value → aH → Prop := fun r I' => r = none ∧ ∃ J', I' = ovc S' J' ∧ RJ S' Q J' ∧ FJ J J'
theorem kpI_lt {S : St} {b j : Nat} (h : j < (kpI S b).length) : (kpI S b).getD j 0 < nn (S.1 48 0) := (fl_mem.mp (getD_mem h)).1
theorem kpI_len {S : St} {b : Nat} : (kpI S b).length ≤ nn (S.1 48 0) := fl_len
set_option maxRecDepth 100000 in
set_option maxHeartbeats 4000000 in
theorem end2_loop {l : Launch} {Z : Zt} {S : St} {Q : Nat → List Nat} {J J1 : aH} {b : Nat} (hb : b < nn (S.1 15 0)) (h20 : nn (S.1 15 0) ≤ 20) (h512 : nn (S.1 48 0) ≤ 512) (R : RJ S Q J) (F1 : Fr 24 b J J1) (L1 : LL J1 24 b []) (h26 : LL J1 26 b (kpL S b)) (X : Fx Z l (rmm 3 0 0 64) cX7_end 2 RX7 none (VR (remS S (nI b)) Q J)) : ∀ (m y : Nat), (kpI S b).length - y < m → y ≤ (kpI S b).length → V Z 2 (ovc (gZ 54 ((kpI S b).take y) (gZ 33 (itI S b) (pa S 16 b 0))) J1) [some (.ref (kd 5 b 0)), some (.int (nI y))] [] 0 0 48
  | 0, _, _, _ => absurd (by assumption) (Nat.not_lt_zero _)
  | m + 1, y, hm, hy => by
    refine V_iload_n X dX7_end_48 rfl ?_
    refine V_aload_n X dX7_end_49 rfl rfl ?_
    apply V_get X dX7_end_50 fk_X7_16
    · exact at_sub (by assumption)
    · exact rfl
    have hle := kpI_len (S := S) (b := b)
    apply V_callV0 X dX7_end_53 mk_X7_84 iv_Jx4a65c_size_8abf5 (k_size l (x := nI (kpI S b).length) (h26.ov rfl rfl) (by rw [kpL_len]))
    · exact ll_o (h26.ov rfl rfl)
    · exact rfl
    · exact Nat.le_of_ble_eq_true rfl
    · exact ⟨Nat.le_of_ble_eq_true rfl, Nat.le_of_ble_eq_true rfl⟩
    · exact ⟨by dsimp only [rmm]; omega, by dsimp only [rmm]; omega⟩
    rintro r I1 ⟨rfl, rfl⟩
    refine V_icmp_ge X dX7_end_56 80 (by decide) (fun c_56 => ?_) (fun c_56 => ?_)
    · have hx2 : y = (kpI S b).length := by
        rcases Nat.lt_or_ge y ((kpI S b).length) with z | z
        · exact absurd c_56 (nI_ge z (by omega))
        · omega
      refine V_aload_n X dX7_end_80 rfl rfl ?_
      apply V_get X dX7_end_81 fk_X7_16
      · exact at_sub (by assumption)
      · exact rfl
      apply V_callV0 X dX7_end_84 mk_X7_126 iv_Jx4a65c_clear_da8c8 (c_clear l (by decide) (h26.ov rfl rfl) (by rw [kpL_len]; omega))
      · exact ll_o (h26.ov rfl rfl)
      · exact rfl
      · exact Nat.le_of_ble_eq_true rfl
      · exact ⟨Nat.le_of_ble_eq_true rfl, Nat.le_of_ble_eq_true rfl⟩
      · exact ⟨by dsimp only [rmm]; omega, by dsimp only [rmm]; omega⟩
      rintro r I1 ⟨rfl, hL, hF⟩
      obtain ⟨J2, rfl, hL1, hF1⟩ := LL_ov hF hL rfl rfl
      refine V_vret X dX7_end_87 ?_ ?_ ?_
      · dsimp only [rmm]; omega
      · dsimp only [rmm]; omega
      refine ⟨rfl, J2, ?_, R.rem hb h20 F1 L1 hF1 hL1, (F1.fj (k := 24) rfl).tr (hF1.fj (k := 26) rfl)⟩
      rw [hx2, List.take_length]
      exact end_ovc (by omega)
    have hlt : y < (kpI S b).length := by
      rcases Nat.lt_or_ge y ((kpI S b).length) with z | z
      · exact z
      · exact absurd (nI_le z (by omega)) c_56
    refine V_aload_n X dX7_end_59 rfl rfl ?_
    apply V_get X dX7_end_60 fk_X7_16
    · exact at_sub (by assumption)
    · exact rfl
    refine V_iload_n X dX7_end_63 rfl ?_
    apply V_callV1 X dX7_end_64 mk_X7_87 iv_Jx4a65c_get_915e3 (k_gtm l h26 (by omega) rfl rfl hlt)
    · exact ll_o (h26.ov rfl rfl)
    · exact rfl
    · exact Nat.le_of_ble_eq_true rfl
    · exact ⟨Nat.le_of_ble_eq_true rfl, Nat.le_of_ble_eq_true rfl⟩
    · exact ⟨by dsimp only [rmm]; omega, by dsimp only [rmm]; omega⟩
    rintro r I1 ⟨rfl, rfl⟩
    have hi := kpI_lt hlt
    apply V_cast (ci := 3) X dX7_end_67 cl_X7_116
    · exact rfl
    · exact at_ms hi
    refine V_iconst (v := 0) X dX7_end_70 (by decide) ?_
    refine P8_6 X dX7_end_71 fk_X7_118 (hi) (Or.inl rfl) ?_
    rw [gZ_t hlt]
    refine V_iinc X dX7_end_74 rfl (by decide) rfl (nI (y + 1)) (nI_1 y) ?_
    refine V_goto X dX7_end_77 48 (by decide) ?_
    exact end2_loop hb h20 h512 R F1 L1 h26 X m (y + 1) (by omega) (by omega)
set_option maxRecDepth 100000 in
set_option maxHeartbeats 4000000 in
theorem end1_loop {l : Launch} {Z : Zt} {S : St} {Q : Nat → List Nat} {J : aH} {b : Nat} (hb : b < nn (S.1 15 0)) (h20 : nn (S.1 15 0) ≤ 20) (h60 : nn (S.1 32 0) ≤ 60) (h512 : nn (S.1 48 0) ≤ 512) (R : RJ S Q J) (X : Fx Z l (rmm 3 0 0 64) cX7_end 2 RX7 none (VR (remS S (nI b)) Q J)) : ∀ (m y : Nat), (itI S b).length - y < m → y ≤ (itI S b).length → V Z 2 (ovc (gZ 33 ((itI S b).take y) (pa S 16 b 0)) J) [some (.ref (kd 5 b 0)), some (.int (nI y))] [] 0 0 7
  | 0, _, _, _ => absurd (by assumption) (Nat.not_lt_zero _)
  | m + 1, y, hm, hy => by
    refine V_iload_n X dX7_end_7 rfl ?_
    refine V_aload_n X dX7_end_8 rfl rfl ?_
    apply V_get X dX7_end_9 fk_X7_10
    · exact at_sub (by assumption)
    · exact rfl
    have hle := itI_len (S := S) (b := b)
    have h24 := R.its hb
    apply V_callV0 X dX7_end_12 mk_X7_84 iv_Jx4a65c_size_8abf5 (k_size l (x := nI (itI S b).length) (h24.ov rfl rfl) (by rw [itL_len]))
    · exact ll_o (h24.ov rfl rfl)
    · exact rfl
    · exact Nat.le_of_ble_eq_true rfl
    · exact ⟨Nat.le_of_ble_eq_true rfl, Nat.le_of_ble_eq_true rfl⟩
    · exact ⟨by dsimp only [rmm]; omega, by dsimp only [rmm]; omega⟩
    rintro r I1 ⟨rfl, rfl⟩
    refine V_icmp_ge X dX7_end_15 39 (by decide) (fun c_15 => ?_) (fun c_15 => ?_)
    · have hx2 : y = (itI S b).length := by
        rcases Nat.lt_or_ge y ((itI S b).length) with z | z
        · exact absurd c_15 (nI_ge z (by omega))
        · omega
      refine V_aload_n X dX7_end_39 rfl rfl ?_
      apply V_get X dX7_end_40 fk_X7_10
      · exact at_sub (by assumption)
      · exact rfl
      apply V_callV0 X dX7_end_43 mk_X7_126 iv_Jx4a65c_clear_da8c8 (c_clear l (by decide) (h24.ov rfl rfl) (by rw [itL_len]; omega))
      · exact ll_o (h24.ov rfl rfl)
      · exact rfl
      · exact Nat.le_of_ble_eq_true rfl
      · exact ⟨Nat.le_of_ble_eq_true rfl, Nat.le_of_ble_eq_true rfl⟩
      · exact ⟨by dsimp only [rmm]; omega, by dsimp only [rmm]; omega⟩
      rintro r I1 ⟨rfl, hL, hF⟩
      obtain ⟨J2, rfl, hL1, hF1⟩ := LL_ov hF hL rfl rfl
      refine V_iconst (v := 0) X dX7_end_46 (by decide) ?_
      refine V_istore_n X dX7_end_47 (by decide) rfl ?_
      rw [hx2, List.take_length]
      have h26 := (R.kps hb).fr hF1 (by decide) (by decide) (by decide) (Or.inl (by decide))
      have e0 : gZ 54 ((kpI S b).take 0) (gZ 33 (itI S b) (pa S 16 b 0)) = gZ 33 (itI S b) (pa S 16 b 0) := gZ_0
      rw [← e0]
      exact end2_loop hb h20 h512 R hF1 hL1 h26 X ((kpI S b).length + 1) 0 (by omega) (Nat.zero_le _)
    have hlt : y < (itI S b).length := by
      rcases Nat.lt_or_ge y ((itI S b).length) with z | z
      · exact z
      · exact absurd (nI_le z (by omega)) c_15
    refine V_aload_n X dX7_end_18 rfl rfl ?_
    apply V_get X dX7_end_19 fk_X7_10
    · exact at_sub (by assumption)
    · exact rfl
    refine V_iload_n X dX7_end_22 rfl ?_
    apply V_callV1 X dX7_end_23 mk_X7_87 iv_Jx4a65c_get_915e3 (k_gtm l h24 (by omega) rfl rfl hlt)
    · exact ll_o (h24.ov rfl rfl)
    · exact rfl
    · exact Nat.le_of_ble_eq_true rfl
    · exact ⟨Nat.le_of_ble_eq_true rfl, Nat.le_of_ble_eq_true rfl⟩
    · exact ⟨by dsimp only [rmm]; omega, by dsimp only [rmm]; omega⟩
    rintro r I1 ⟨rfl, rfl⟩
    have hi := itI_lt hlt
    apply V_cast (ci := 2) X dX7_end_26 cl_X7_91
    · exact rfl
    · exact at_it hi
    refine V_iconst (v := 1) X dX7_end_29 (by decide) ?_
    refine P6_10 X dX7_end_30 fk_X7_125 (hi) ?_
    rw [gZ_t hlt]
    refine V_iinc X dX7_end_33 rfl (by decide) rfl (nI (y + 1)) (nI_1 y) ?_
    refine V_goto X dX7_end_36 7 (by decide) ?_
    exact end1_loop hb h20 h60 h512 R X m (y + 1) (by omega) (by omega)
set_option maxRecDepth 100000 in
set_option maxHeartbeats 4000000 in
theorem k_end (l : Launch) {S : St} {Q : Nat → List Nat} {J : aH} {b : Nat} (hb : b < nn (S.1 15 0)) (c : CT S) (R : RJ S Q J) : AM l yX7_end cX7_end 2 none (rmm 3 0 0 64) [.ref (kd 5 b 0)] (ovc S J) (VR (remS S (nI b)) Q J) := by
  refine AM_of RX7 (by decide) rfl [some (.ref (kd 5 b 0)), none] rfl (Nat.le_of_ble_eq_true rfl) (fun Z X hNm => ?_)
  refine V_aload_n X dX7_end_0 rfl rfl ?_
  refine V_iconst (v := 1) X dX7_end_1 (by decide) ?_
  refine P5_17 X dX7_end_2 fk_X7_39 (hb) ?_
  refine V_iconst (v := 0) X dX7_end_5 (by decide) ?_
  refine V_istore_n X dX7_end_6 (by decide) rfl ?_
  have e0 : gZ 33 ((itI S b).take 0) (pa S 16 b 0) = pa S 16 b 0 := gZ_0
  rw [← e0]
  exact end1_loop hb (ct_nn c.2.2.2.1 (by decide)).1 (ct_nn c.2.2.2.2.1 (by decide)).1 (ct_nn c.2.2.2.2.2 (by decide)).1 R X ((itI S b).length + 1) 0 (by omega) (Nat.zero_le _)
