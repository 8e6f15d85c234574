theorem fa_lt (a b : Int32) : a < b ↔ a.toInt < b.toInt := Int32.lt_iff_toInt_lt
theorem fa_le (a b : Int32) : a ≤ b ↔ a.toInt ≤ b.toInt := Int32.le_iff_toInt_le
theorem fa_eq (a b : Int32) : a = b ↔ a.toInt = b.toInt := Int32.toInt_inj.symm
theorem fa_lt64 (a b : Int64) : a < b ↔ a.toInt < b.toInt := Int64.lt_iff_toInt_lt
theorem fa_le64 (a b : Int64) : a ≤ b ↔ a.toInt ≤ b.toInt := Int64.le_iff_toInt_le
theorem fa_wide_le (a b : Int32) : a.toInt64 ≤ b.toInt64 ↔ a ≤ b := by rw [fa_le64, fa_le, Int32.toInt_toInt64, Int32.toInt_toInt64]
theorem bz_t {c : Prop} [Decidable c] (h : ¬ (if c then (1 : Int32) else 0) = 0) : c := by
  by_cases q : c
  · exact q
  · rw [if_neg q] at h; exact absurd rfl h
theorem bz_f {c : Prop} [Decidable c] (h : (if c then (1 : Int32) else 0) = 0) : ¬ c := by
  intro q
  rw [if_pos q] at h
  exact absurd h (by decide)
theorem i0 : (0 : Int32).toInt = 0 := rfl
theorem ix_iff {n : Int32} {N : Nat} (hN : N < 2 ^ 30) : (0 ≤ n ∧ n ≤ nI N - 1) ↔ (¬ n < 0 ∧ n < nI N) := by
  have e : (nI N - 1).toInt = (N : Int) - 1 := pk_sub_toInt (a := N) (b := 1) hN (by decide)
  have e2 := nI_toInt (n := N) (by omega)
  rw [fa_le, fa_le, fa_lt, fa_lt, e, e2, i0]
  omega
theorem in_lt {n : Int32} {N b : Nat} (h0 : ¬ n < 0) (h : n < nI N) (hb : N ≤ b) (hb2 : b < 2 ^ 31) : vp_in n b := by
  have e2 := nI_toInt (n := N) (by omega)
  rw [fa_lt, i0] at h0
  rw [fa_lt, e2] at h
  exact vp_in_iff.mpr ⟨by omega, by omega⟩
/-- a count: a small number -/
def ct (S : St) (k b : Nat) : Prop := ∃ N, N ≤ b ∧ S.1 k 0 = nI N
section ModelN
variable {Z : Zt} {l0 : Launch} {R0 : Room} {cc : ByteArray} {nL : Nat} {own : String} {ret : Option FieldType} {Post : Option Value → aH → Prop} {S : St} {J : aH} {lv : List (Option Value)} {st : List Value} {cells slots pc : Nat}
theorem M_ialdN {k n j : Nat} (X : Fx Z l0 R0 cc nL own ret Post) (d : decode cc pc = .ok (.iaload, 1)) (hk : k < 62) (ht : tbM k = .inr (false, 0, n)) (hj : j < n) (hn : n < 2 ^ 31) (kk : V Z nL (ovl S J) lv (.int (S.1 k j) :: st) cells slots (pc + 1)) : V Z nL (ovl S J) lv (.int (nI j) :: .ref (kd 41 k 0) :: st) cells slots pc :=
  M_iald X d hk ht (vp_in_nI2 hj (by omega)) (by rw [nI_clamp (by omega)]; exact kk)
theorem M_zaldN {k n j : Nat} (X : Fx Z l0 R0 cc nL own ret Post) (d : decode cc pc = .ok (.baload, 1)) (hk : k < 62) (ht : tbM k = .inr (false, 2, n)) (hj : j < n) (hn : n < 2 ^ 31) (kk : V Z nL (ovl S J) lv (.int (S.1 k j) :: st) cells slots (pc + 1)) : V Z nL (ovl S J) lv (.int (nI j) :: .ref (kd 41 k 0) :: st) cells slots pc :=
  M_zald X d hk ht (vp_in_nI2 hj (by omega)) (by rw [nI_clamp (by omega)]; exact kk)
theorem M_laldN {k n j : Nat} (X : Fx Z l0 R0 cc nL own ret Post) (d : decode cc pc = .ok (.laload, 1)) (hk : k < 62) (ht : tbM k = .inr (true, 1, n)) (hj : j < n) (hn : n < 2 ^ 31) (kk : V Z nL (ovl S J) lv (.long (S.2 k j) :: st) cells slots (pc + 1)) : V Z nL (ovl S J) lv (.int (nI j) :: .ref (kd 41 k 0) :: st) cells slots pc :=
  M_lald X d hk ht (vp_in_nI2 hj (by omega)) (by rw [nI_clamp (by omega)]; exact kk)
theorem M_iastN {k n j : Nat} {x : Int32} (X : Fx Z l0 R0 cc nL own ret Post) (d : decode cc pc = .ok (.iastore, 1)) (hk : k < 62) (ht : tbM k = .inr (false, 0, n)) (hj : j < n) (hn : n < 2 ^ 31) (kk : V Z nL (ovl (pa S k j x) J) lv st cells slots (pc + 1)) : V Z nL (ovl S J) lv (.int x :: .int (nI j) :: .ref (kd 41 k 0) :: st) cells slots pc :=
  M_iast X d hk ht (vp_in_nI2 hj (by omega)) (by rw [nI_clamp (by omega)]; exact kk)
theorem M_zastN {k n j : Nat} {x : Int32} (X : Fx Z l0 R0 cc nL own ret Post) (d : decode cc pc = .ok (.bastore, 1)) (hk : k < 62) (ht : tbM k = .inr (false, 2, n)) (hj : j < n) (hn : n < 2 ^ 31) (hx : vp_nar .boolean x = x) (kk : V Z nL (ovl (pa S k j x) J) lv st cells slots (pc + 1)) : V Z nL (ovl S J) lv (.int x :: .int (nI j) :: .ref (kd 41 k 0) :: st) cells slots pc :=
  M_zast X d hk ht (vp_in_nI2 hj (by omega)) hx (by rw [nI_clamp (by omega)]; exact kk)
theorem M_lastN {k n j : Nat} {x : Int64} (X : Fx Z l0 R0 cc nL own ret Post) (d : decode cc pc = .ok (.lastore, 1)) (hk : k < 62) (ht : tbM k = .inr (true, 1, n)) (hj : j < n) (hn : n < 2 ^ 31) (kk : V Z nL (ovl (pb S k j x) J) lv st cells slots (pc + 1)) : V Z nL (ovl S J) lv (.long x :: .int (nI j) :: .ref (kd 41 k 0) :: st) cells slots pc :=
  M_last X d hk ht (vp_in_nI2 hj (by omega)) (by rw [nI_clamp (by omega)]; exact kk)
theorem M_ialdE {k n j : Nat} (x : Int32) (X : Fx Z l0 R0 cc nL own ret Post) (d : decode cc pc = .ok (.iaload, 1)) (hk : k < 62) (ht : tbM k = .inr (false, 0, n)) (hj : j < n) (hn : n < 2 ^ 31) (hx : S.1 k j = x) (kk : V Z nL (ovl S J) lv (.int x :: st) cells slots (pc + 1)) : V Z nL (ovl S J) lv (.int (nI j) :: .ref (kd 41 k 0) :: st) cells slots pc :=
  M_ialdN X d hk ht hj hn (by rw [hx]; exact kk)
theorem M_zaldE {k n j : Nat} (x : Int32) (X : Fx Z l0 R0 cc nL own ret Post) (d : decode cc pc = .ok (.baload, 1)) (hk : k < 62) (ht : tbM k = .inr (false, 2, n)) (hj : j < n) (hn : n < 2 ^ 31) (hx : S.1 k j = x) (kk : V Z nL (ovl S J) lv (.int x :: st) cells slots (pc + 1)) : V Z nL (ovl S J) lv (.int (nI j) :: .ref (kd 41 k 0) :: st) cells slots pc :=
  M_zaldN X d hk ht hj hn (by rw [hx]; exact kk)
theorem M_laldE {k n j : Nat} (x : Int64) (X : Fx Z l0 R0 cc nL own ret Post) (d : decode cc pc = .ok (.laload, 1)) (hk : k < 62) (ht : tbM k = .inr (true, 1, n)) (hj : j < n) (hn : n < 2 ^ 31) (hx : S.2 k j = x) (kk : V Z nL (ovl S J) lv (.long x :: st) cells slots (pc + 1)) : V Z nL (ovl S J) lv (.int (nI j) :: .ref (kd 41 k 0) :: st) cells slots pc :=
  M_laldN X d hk ht hj hn (by rw [hx]; exact kk)
theorem M_getiE {idx k : Nat} {fin : Bool} {fty : FieldType} (x : Int32) (X : Fx Z l0 R0 cc nL own ret Post) (d : decode cc pc = .ok (.getfield idx, 3)) (F : FK own idx 10 k fin fty) (hk : k < 62) (ht : tbM k = .inl 0) (hx : S.1 k 0 = x) (kk : V Z nL (ovl S J) lv (.int x :: st) cells slots (pc + 3)) : V Z nL (ovl S J) lv (.ref mO :: st) cells slots pc :=
  M_get X d F hk (by unfold fldM; rw [ht]; rw [← hx]; rfl) kk
theorem M_geti {idx k : Nat} {fin : Bool} {fty : FieldType} (X : Fx Z l0 R0 cc nL own ret Post) (d : decode cc pc = .ok (.getfield idx, 3)) (F : FK own idx 10 k fin fty) (hk : k < 62) (ht : tbM k = .inl 0) (kk : V Z nL (ovl S J) lv (.int (S.1 k 0) :: st) cells slots (pc + 3)) : V Z nL (ovl S J) lv (.ref mO :: st) cells slots pc :=
  M_get X d F hk (by unfold fldM; rw [ht]; rfl) kk
theorem M_getl {idx k : Nat} {fin : Bool} {fty : FieldType} (X : Fx Z l0 R0 cc nL own ret Post) (d : decode cc pc = .ok (.getfield idx, 3)) (F : FK own idx 10 k fin fty) (hk : k < 62) (ht : tbM k = .inl 1) (kk : V Z nL (ovl S J) lv (.long (S.2 k 0) :: st) cells slots (pc + 3)) : V Z nL (ovl S J) lv (.ref mO :: st) cells slots pc :=
  M_get X d F hk (by unfold fldM; rw [ht]; rfl) kk
theorem M_geta {idx k : Nat} {fin : Bool} {fty : FieldType} {q : Bool × Nat × Nat} (X : Fx Z l0 R0 cc nL own ret Post) (d : decode cc pc = .ok (.getfield idx, 3)) (F : FK own idx 10 k fin fty) (hk : k < 62) (ht : tbM k = .inr q) (kk : V Z nL (ovl S J) lv (.ref (kd 41 k 0) :: st) cells slots (pc + 3)) : V Z nL (ovl S J) lv (.ref mO :: st) cells slots pc :=
  M_get X d F hk (by unfold fldM; rw [ht]) kk
end ModelN
set_option maxRecDepth 100000 in
set_option maxHeartbeats 4000000 in
theorem c_in (l : Launch) {I : aH} (a b c : Int64) : AM l yX9_in cX9_in 6 (some .boolean) (rmm 0 0 0 0) [.long a, .long b, .long c] I (fun r I' => r = some (.int (if b ≤ a ∧ a ≤ c then 1 else 0)) ∧ I' = I) := by
  refine AM_of RX9 (by decide) rfl [some (.long a), none, some (.long b), none, some (.long c), none] rfl (Nat.le_of_ble_eq_true rfl) (fun Z X hNm => ?_)
  refine V_lload_n X dX9_in_0 rfl ?_
  refine V_lload_n X dX9_in_1 rfl ?_
  refine V_lcmp X dX9_in_2 ?_
  refine V_if_lt X dX9_in_3 17 (by decide) (fun c_3 => ?_) (fun c_3 => ?_)
  · rw [lg_cmp_lt] at c_3
    have hz : ¬ (b ≤ a ∧ a ≤ c) := fun q => Int64.not_le.mpr c_3 q.1
    refine V_iconst (v := 0) X dX9_in_17 (by decide) ?_
    refine V_iret X dX9_in_18 ?_ ?_ ?_ ?_
    · exact rfl
    · dsimp only [rmm]; omega
    · dsimp only [rmm]; omega
    first | exact ⟨by rw [if_neg hz], rfl⟩ | exact ⟨by rw [if_pos hz], rfl⟩
  rw [lg_cmp_lt] at c_3
  refine V_lload_n X dX9_in_6 rfl ?_
  refine V_lload X dX9_in_7 rfl ?_
  refine V_lcmp X dX9_in_9 ?_
  refine V_if_gt X dX9_in_10 17 (by decide) (fun c_10 => ?_) (fun c_10 => ?_)
  · rw [lg_cmp_gt] at c_10
    have hz : ¬ (b ≤ a ∧ a ≤ c) := fun q => Int64.not_le.mpr c_10 q.2
    refine V_iconst (v := 0) X dX9_in_17 (by decide) ?_
    refine V_iret X dX9_in_18 ?_ ?_ ?_ ?_
    · exact rfl
    · dsimp only [rmm]; omega
    · dsimp only [rmm]; omega
    first | exact ⟨by rw [if_neg hz], rfl⟩ | exact ⟨by rw [if_pos hz], rfl⟩
  rw [lg_cmp_gt] at c_10
  have hz : b ≤ a ∧ a ≤ c := ⟨Int64.not_lt.mp c_3, Int64.not_lt.mp c_10⟩
  refine V_iconst (v := 1) X dX9_in_13 (by decide) ?_
  refine V_goto X dX9_in_14 18 (by decide) ?_
  refine V_iret X dX9_in_18 ?_ ?_ ?_ ?_
  · exact rfl
  · dsimp only [rmm]; omega
  · dsimp only [rmm]; omega
  first | exact ⟨by rw [if_neg hz], rfl⟩ | exact ⟨by rw [if_pos hz], rfl⟩
theorem c_inI (l : Launch) {I : aH} {x lo hi : Int32} {L H : Int64} (hL : L = lo.toInt64) (hH : H = hi.toInt64) : AM l yX9_in cX9_in 6 (some .boolean) (rmm 0 0 0 0) [.long x.toInt64, .long L, .long H] I (fun r I' => r = some (.int (if lo ≤ x ∧ x ≤ hi then 1 else 0)) ∧ I' = I) := by
  subst hL hH
  have h := c_in l (I := I) x.toInt64 lo.toInt64 hi.toInt64
  simp only [fa_wide_le] at h
  exact h
theorem c_inX (l : Launch) {I : aH} {x c : Int32} {N : Nat} (hN : N < 2 ^ 30) (hc : c = nI N) : AM l yX9_in cX9_in 6 (some .boolean) (rmm 0 0 0 0) [.long x.toInt64, .long 0, .long (c - 1).toInt64] I (fun r I' => r = some (.int (if ¬ x < 0 ∧ x < c then 1 else 0)) ∧ I' = I) := by
  have h := c_inI l (I := I) (x := x) (lo := 0) (hi := c - 1) (L := 0) rfl rfl
  subst hc
  simp only [ix_iff hN] at h
  exact h
def rfw (S : St) (x : Int32) : St := pa S 61 (-x).toNatClampNeg (S.1 61 (-x).toNatClampNeg + 1)
set_option maxRecDepth 100000 in
set_option maxHeartbeats 4000000 in
theorem c_refuse9 (l : Launch) {S : St} {J : aH} {x : Int32} (hx : vp_in (-x) 10) : AM l yX9_refuse cX9_refuse 2 (some .int) (rmm 0 0 0 0) [.ref mO, .int x] (ovl S J) (fun r I' => r = some (.int x) ∧ I' = ovl (rfw S x) J) := by
  refine AM_of RX9 (by decide) rfl [some (.ref mO), some (.int x)] rfl (Nat.le_of_ble_eq_true rfl) (fun Z X hNm => ?_)
  refine V_aload_n X dX9_refuse_0 rfl rfl ?_
  refine M_geta X dX9_refuse_1 fk_X9_166 (by decide) rfl ?_
  refine V_iload_n X dX9_refuse_4 rfl ?_
  refine V_ineg X dX9_refuse_5 ?_
  refine V_dup2 X dX9_refuse_6 rfl rfl ?_
  refine M_iald X dX9_refuse_7 (by decide) rfl (hx) ?_
  refine V_iconst (v := 1) X dX9_refuse_8 (by decide) ?_
  refine V_iadd X dX9_refuse_9 ?_
  refine M_iast X dX9_refuse_10 (by decide) rfl (hx) ?_
  refine V_iload_n X dX9_refuse_11 rfl ?_
  refine V_iret X dX9_refuse_12 ?_ ?_ ?_ ?_
  · exact rfl
  · dsimp only [rmm]; omega
  · dsimp only [rmm]; omega
  exact ⟨rfl, rfl⟩
set_option maxRecDepth 100000 in
set_option maxHeartbeats 4000000 in
theorem c_isNode9 (l : Launch) {S : St} {J : aH} {n : Int32} (h1 : ct S 1 40) : AM l yX9_isNode cX9_isNode 2 (some .boolean) (rmm 1 0 0 25) [.ref mO, .int n] (ovl S J) (fun r I' => r = some (.int (if ¬ n < 0 ∧ n < S.1 1 0 then 1 else 0)) ∧ I' = ovl S J) := by
  obtain ⟨N, hN, e1⟩ := h1
  refine AM_of RX9 (by decide) rfl [some (.ref mO), some (.int n)] rfl (Nat.le_of_ble_eq_true rfl) (fun Z X hNm => ?_)
  refine V_iload_n X dX9_isNode_0 rfl ?_
  refine V_i2l X dX9_isNode_1 ?_
  refine V_lconst (v := 0) X dX9_isNode_2 (by decide) ?_
  refine V_aload_n X dX9_isNode_3 rfl rfl ?_
  refine M_geti X dX9_isNode_4 fk_X9_179 (by decide) rfl ?_
  refine V_iconst (v := 1) X dX9_isNode_7 (by decide) ?_
  refine V_isub X dX9_isNode_8 ?_
  refine V_i2l X dX9_isNode_9 ?_
  refine V_callS3 X dX9_isNode_10 mk_X9_171 st_X9_in (c_inX l (N := N) (by omega) e1) (Nat.le_of_ble_eq_true rfl) ⟨Nat.le_of_ble_eq_true rfl, Nat.le_of_ble_eq_true rfl⟩ ?_ ?_
  · exact ⟨by dsimp only [rmm]; omega, by dsimp only [rmm]; omega⟩
  rintro r I1 ⟨rfl, rfl⟩
  refine V_iret X dX9_isNode_13 ?_ ?_ ?_ ?_
  · split <;> rfl
  · dsimp only [rmm]; omega
  · dsimp only [rmm]; omega
  exact ⟨rfl, rfl⟩
set_option maxRecDepth 100000 in
set_option maxHeartbeats 4000000 in
theorem c_isVar9 (l : Launch) {S : St} {J : aH} {n : Int32} (h1 : ct S 1 40) : AM l yX9_isVariable cX9_isVariable 2 (some .boolean) (rmm 2 0 0 46) [.ref mO, .int n] (ovl S J) (fun r I' => r = some (.int (if (¬ n < 0 ∧ n < S.1 1 0) ∧ 0 < S.1 2 n.toNatClampNeg then 1 else 0)) ∧ I' = ovl S J) := by
  obtain ⟨N, hN, e1⟩ := id h1
  refine AM_of RX9 (by decide) rfl [some (.ref mO), some (.int n)] rfl (Nat.le_of_ble_eq_true rfl) (fun Z X hNm => ?_)
  refine V_aload_n X dX9_isVariable_0 rfl rfl ?_
  refine V_iload_n X dX9_isVariable_1 rfl ?_
  apply V_callV1 X dX9_isVariable_2 mk_X9_183 iv_X9_isNode (c_isNode9 l h1)
  · first | assumption | exact hu_s | exact (hu_n (by first | exact kd_nk (by decide) | exact kd_ni (by omega) | exact kd_ng (by omega) | assumption | exact Ne.symm (by assumption))).trans (by first | assumption | exact hu_s | exact (hu_n (by first | exact kd_nk (by decide) | exact kd_ni (by omega) | exact kd_ng (by omega) | assumption | exact Ne.symm (by assumption))).trans (by first | assumption | exact hu_s | exact (hu_n (by first | exact kd_nk (by decide) | exact kd_ni (by omega) | exact kd_ng (by omega) | assumption | exact Ne.symm (by assumption))).trans (by first | assumption | exact hu_s)))
  · exact rfl
  · exact Nat.le_of_ble_eq_true rfl
  · exact ⟨Nat.le_of_ble_eq_true rfl, Nat.le_of_ble_eq_true rfl⟩
  · exact ⟨by dsimp only [rmm]; omega, by dsimp only [rmm]; omega⟩
  rintro r I1 ⟨rfl, rfl⟩
  refine V_if_eq X dX9_isVariable_5 21 (by decide) (fun c_5 => ?_) (fun c_5 => ?_)
  · have h_5 := bz_f c_5
    have hz : ¬ ((¬ n < 0 ∧ n < S.1 1 0) ∧ 0 < S.1 2 n.toNatClampNeg) := fun q => h_5 q.1
    refine V_iconst (v := 0) X dX9_isVariable_21 (by decide) ?_
    refine V_iret X dX9_isVariable_22 ?_ ?_ ?_ ?_
    · exact rfl
    · dsimp only [rmm]; omega
    · dsimp only [rmm]; omega
    first | exact ⟨by rw [if_neg hz], rfl⟩ | exact ⟨by rw [if_pos hz], rfl⟩
  have h_5 := bz_t c_5
  refine V_aload_n X dX9_isVariable_8 rfl rfl ?_
  refine M_geta X dX9_isVariable_9 fk_X9_7 (by decide) rfl ?_
  refine V_iload_n X dX9_isVariable_12 rfl ?_
  refine M_iald X dX9_isVariable_13 (by decide) rfl (in_lt h_5.1 (e1 ▸ h_5.2) hN (by decide)) ?_
  refine V_if_le X dX9_isVariable_14 21 (by decide) (fun c_14 => ?_) (fun c_14 => ?_)
  · have hz : ¬ ((¬ n < 0 ∧ n < S.1 1 0) ∧ 0 < S.1 2 n.toNatClampNeg) := fun q => Int32.not_le.mpr q.2 c_14
    refine V_iconst (v := 0) X dX9_isVariable_21 (by decide) ?_
    refine V_iret X dX9_isVariable_22 ?_ ?_ ?_ ?_
    · exact rfl
    · dsimp only [rmm]; omega
    · dsimp only [rmm]; omega
    first | exact ⟨by rw [if_neg hz], rfl⟩ | exact ⟨by rw [if_pos hz], rfl⟩
  have hz : (¬ n < 0 ∧ n < S.1 1 0) ∧ 0 < S.1 2 n.toNatClampNeg := ⟨h_5, Int32.not_le.mp c_14⟩
  refine V_iconst (v := 1) X dX9_isVariable_17 (by decide) ?_
  refine V_goto X dX9_isVariable_18 22 (by decide) ?_
  refine V_iret X dX9_isVariable_22 ?_ ?_ ?_ ?_
  · exact rfl
  · dsimp only [rmm]; omega
  · dsimp only [rmm]; omega
  first | exact ⟨by rw [if_neg hz], rfl⟩ | exact ⟨by rw [if_pos hz], rfl⟩
