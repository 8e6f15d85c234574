theorem hu_hu {I : aH} {α : Nat} {o o' : aO} : hu (hu I α o) α o' = hu I α o' := by
  funext β
  unfold hu
  split <;> rfl
theorem vp_in_nI2 {n N : Nat} (h : n < N) (hn : n < 2 ^ 31) : vp_in (nI n) N := by
  intro q
  rw [nI_clamp hn] at q
  rcases q with q | q
  · exact nI_pos hn q
  · omega
/-! ArrayList: the list at kd k i 0, its arrays at kd (k + 1) i g (the first one is the JDK's shared empty one) -/
def arA (k i g : Nat) : Nat := if g = 0 then zed else kd (k + 1) i g
theorem arA_s {k i g : Nat} (h : g ≠ 0) : arA k i g = kd (k + 1) i g := if_neg h
def LL (I : aH) (k i : Nat) (L : List Nat) : Prop := ∃ (mc : Int32) (g cap : Nat) (f : Nat → Option Nat), I (kd k i 0) = some (.inr (0, [.int mc, .ref (arA k i g), .int (nI L.length)])) ∧ I (arA k i g) = some (.inl (3, aR cap f)) ∧ L.length ≤ cap ∧ cap < 2 ^ 28 ∧ (g = 0 ↔ cap = 0) ∧ (∀ j, j < L.length → f j = some (L.getD j 0)) ∧ (∀ g', g < g' → I (kd (k + 1) i g') = none)
def Fr (k i : Nat) (I I' : aH) : Prop := ∀ α, α ≠ kd k i 0 → (∀ g, α ≠ kd (k + 1) i g) → I' α = I α
theorem arA_ne {k i g : Nat} (hk : k ≠ 0) : arA k i g ≠ kd k i 0 := by
  unfold arA
  split
  · exact kd_nk (fun e => hk e.symm)
  · exact kd_nk (by omega)
set_option maxRecDepth 100000 in
set_option maxHeartbeats 4000000 in
theorem c_ci3 (l : Launch) {I : aH} {j n : Nat} (hj : j < n) (hn : n < 2 ^ 31) : AM l yJ3_checkIndex_8e157 cJ3_checkIndex_8e157 3 (some .int) (rmm 0 0 0 0) [.int (nI j), .int (nI n), .null] I (fun r I' => r = some (.int (nI j)) ∧ I' = I) := by
  refine AM_of RJ3 (by decide) rfl [some (.int (nI j)), some (.int (nI n)), some .null] rfl (Nat.le_of_ble_eq_true rfl) (fun Z X hNm => ?_)
  refine V_iload_n X dJ3_checkIndex_8e157_0 rfl ?_
  refine V_if_lt X dJ3_checkIndex_8e157_1 9 (by decide) (fun c_1 => ?_) (fun c_1 => ?_)
  · exact absurd c_1 (nI_pos (by omega))
  refine V_iload_n X dJ3_checkIndex_8e157_4 rfl ?_
  refine V_iload_n X dJ3_checkIndex_8e157_5 rfl ?_
  refine V_icmp_lt X dJ3_checkIndex_8e157_6 16 (by decide) (fun c_6 => ?_) (fun c_6 => ?_)
  · refine V_iload_n X dJ3_checkIndex_8e157_16 rfl ?_
    refine V_iret X dJ3_checkIndex_8e157_17 ?_ ?_ ?_ ?_
    · exact rfl
    · dsimp only [rmm]; omega
    · dsimp only [rmm]; omega
    exact ⟨rfl, rfl⟩
  · exact absurd (nI_lt hj (by omega)) c_6
set_option maxRecDepth 100000 in
set_option maxHeartbeats 4000000 in
theorem c_ci (l : Launch) {I : aH} {j n : Nat} (hj : j < n) (hn : n < 2 ^ 31) : AM l yJ15_checkIndex_7cf53 cJ15_checkIndex_7cf53 2 (some .int) (rmm 1 0 0 22) [.int (nI j), .int (nI n)] I (fun r I' => r = some (.int (nI j)) ∧ I' = I) := by
  refine AM_of RJ15 (by decide) rfl [some (.int (nI j)), some (.int (nI n))] rfl (Nat.le_of_ble_eq_true rfl) (fun Z X hNm => ?_)
  refine V_iload_n X dJ15_checkIndex_7cf53_0 rfl ?_
  refine V_iload_n X dJ15_checkIndex_7cf53_1 rfl ?_
  refine V_null X dJ15_checkIndex_7cf53_2 ?_
  refine V_callS3 X dJ15_checkIndex_7cf53_3 mk_J15_105 st_J3_checkIndex_8e157 (c_ci3 l hj hn) (Nat.le_of_ble_eq_true rfl) ⟨Nat.le_of_ble_eq_true rfl, Nat.le_of_ble_eq_true rfl⟩ ?_ ?_
  · exact ⟨by dsimp only [rmm]; omega, by dsimp only [rmm]; omega⟩
  rintro r I1 ⟨rfl, rfl⟩
  refine V_iret X dJ15_checkIndex_7cf53_6 ?_ ?_ ?_ ?_
  · exact rfl
  · dsimp only [rmm]; omega
  · dsimp only [rmm]; omega
  exact ⟨rfl, rfl⟩
set_option maxRecDepth 100000 in
set_option maxHeartbeats 4000000 in
theorem c_size (l : Launch) {I : aH} {k i : Nat} {L : List Nat} (hL : LL I k i L) : AM l yJx4a65c_size_8abf5 cJx4a65c_size_8abf5 1 (some .int) (rmm 0 0 0 0) [.ref (kd k i 0)] I (fun r I' => r = some (.int (nI L.length)) ∧ I' = I) := by
  obtain ⟨mc, g, cap, f, h1, h2, h3, hcp, h4, h5, h6⟩ := hL
  refine AM_of RJx4a65c (by decide) rfl [some (.ref (kd k i 0))] rfl (Nat.le_of_ble_eq_true rfl) (fun Z X hNm => ?_)
  refine V_aload_n X dJx4a65c_size_8abf5_0 rfl rfl ?_
  apply V_get X dJx4a65c_size_8abf5_1 fk_Jx4a65c_48
  · first | assumption | exact hu_s | exact (hu_n (by first | exact kd_nk (by decide) | exact kd_ni (by omega) | exact kd_ng (by omega) | assumption | exact Ne.symm (by assumption))).trans (by first | assumption | exact hu_s | exact (hu_n (by first | exact kd_nk (by decide) | exact kd_ni (by omega) | exact kd_ng (by omega) | assumption | exact Ne.symm (by assumption))).trans (by first | assumption | exact hu_s | exact (hu_n (by first | exact kd_nk (by decide) | exact kd_ni (by omega) | exact kd_ng (by omega) | assumption | exact Ne.symm (by assumption))).trans (by first | assumption | exact hu_s)))
  · exact rfl
  refine V_iret X dJx4a65c_size_8abf5_4 ?_ ?_ ?_ ?_
  · exact rfl
  · dsimp only [rmm]; omega
  · dsimp only [rmm]; omega
  exact ⟨rfl, rfl⟩
set_option maxRecDepth 100000 in
set_option maxHeartbeats 4000000 in
theorem c_isEmpty (l : Launch) {I : aH} {k i : Nat} {L : List Nat} (hL : LL I k i L) (hn : L.length < 2 ^ 30) : AM l yJx4a65c_isEmpty_aae02 cJx4a65c_isEmpty_aae02 1 (some .boolean) (rmm 0 0 0 0) [.ref (kd k i 0)] I (fun r I' => r = some (.int (if L.length = 0 then 1 else 0)) ∧ I' = I) := by
  obtain ⟨mc, g, cap, f, h1, h2, h3, hcp, h4, h5, h6⟩ := hL
  refine AM_of RJx4a65c (by decide) rfl [some (.ref (kd k i 0))] rfl (Nat.le_of_ble_eq_true rfl) (fun Z X hNm => ?_)
  refine V_aload_n X dJx4a65c_isEmpty_aae02_0 rfl rfl ?_
  apply V_get X dJx4a65c_isEmpty_aae02_1 fk_Jx4a65c_48
  · first | assumption | exact hu_s | exact (hu_n (by first | exact kd_nk (by decide) | exact kd_ni (by omega) | exact kd_ng (by omega) | assumption | exact Ne.symm (by assumption))).trans (by first | assumption | exact hu_s | exact (hu_n (by first | exact kd_nk (by decide) | exact kd_ni (by omega) | exact kd_ng (by omega) | assumption | exact Ne.symm (by assumption))).trans (by first | assumption | exact hu_s | exact (hu_n (by first | exact kd_nk (by decide) | exact kd_ni (by omega) | exact kd_ng (by omega) | assumption | exact Ne.symm (by assumption))).trans (by first | assumption | exact hu_s)))
  · exact rfl
  refine V_if_ne X dJx4a65c_isEmpty_aae02_4 11 (by decide) (fun c_4 => ?_) (fun c_4 => ?_)
  · have hz : ¬ L.length = 0 := fun q => c_4 (by rw [q]; rfl)
    refine V_iconst (v := 0) X dJx4a65c_isEmpty_aae02_11 (by decide) ?_
    refine V_iret X dJx4a65c_isEmpty_aae02_12 ?_ ?_ ?_ ?_
    · exact rfl
    · dsimp only [rmm]; omega
    · dsimp only [rmm]; omega
    first | exact ⟨by rw [if_neg hz], rfl⟩ | exact ⟨by rw [if_pos hz], rfl⟩
  have hz : L.length = 0 := (nI_eq (by omega) (by decide)).mp c_4
  refine V_iconst (v := 1) X dJx4a65c_isEmpty_aae02_7 (by decide) ?_
  refine V_goto X dJx4a65c_isEmpty_aae02_8 12 (by decide) ?_
  refine V_iret X dJx4a65c_isEmpty_aae02_12 ?_ ?_ ?_ ?_
  · exact rfl
  · dsimp only [rmm]; omega
  · dsimp only [rmm]; omega
  first | exact ⟨by rw [if_neg hz], rfl⟩ | exact ⟨by rw [if_pos hz], rfl⟩
set_option maxRecDepth 100000 in
set_option maxHeartbeats 4000000 in
theorem c_elementData (l : Launch) {I : aH} {k i j : Nat} {L : List Nat} (hL : LL I k i L) (hn : L.length < 2 ^ 30) (hj : j < L.length) : AM l yJx4a65c_elementData_915e3 cJx4a65c_elementData_915e3 2 (some (.object "java/lang/Object")) (rmm 0 0 0 0) [.ref (kd k i 0), .int (nI j)] I (fun r I' => r = some (.ref (L.getD j 0)) ∧ I' = I) := by
  obtain ⟨mc, g, cap, f, h1, h2, h3, hcp, h4, h5, h6⟩ := hL
  refine AM_of RJx4a65c (by decide) rfl [some (.ref (kd k i 0)), some (.int (nI j))] rfl (Nat.le_of_ble_eq_true rfl) (fun Z X hNm => ?_)
  refine V_aload_n X dJx4a65c_elementData_915e3_0 rfl rfl ?_
  apply V_get X dJx4a65c_elementData_915e3_1 fk_Jx4a65c_9
  · first | assumption | exact hu_s | exact (hu_n (by first | exact kd_nk (by decide) | exact kd_ni (by omega) | exact kd_ng (by omega) | assumption | exact Ne.symm (by assumption))).trans (by first | assumption | exact hu_s | exact (hu_n (by first | exact kd_nk (by decide) | exact kd_ni (by omega) | exact kd_ng (by omega) | assumption | exact Ne.symm (by assumption))).trans (by first | assumption | exact hu_s | exact (hu_n (by first | exact kd_nk (by decide) | exact kd_ni (by omega) | exact kd_ng (by omega) | assumption | exact Ne.symm (by assumption))).trans (by first | assumption | exact hu_s)))
  · exact rfl
  refine V_iload_n X dJx4a65c_elementData_915e3_4 rfl ?_
  apply V_aaload (t := 3) X dJx4a65c_elementData_915e3_5 (fun _ => rfl)
  · first | assumption | exact hu_s | exact (hu_n (by first | exact kd_nk (by decide) | exact kd_ni (by omega) | exact kd_ng (by omega) | assumption | exact Ne.symm (by assumption))).trans (by first | assumption | exact hu_s | exact (hu_n (by first | exact kd_nk (by decide) | exact kd_ni (by omega) | exact kd_ng (by omega) | assumption | exact Ne.symm (by assumption))).trans (by first | assumption | exact hu_s | exact (hu_n (by first | exact kd_nk (by decide) | exact kd_ni (by omega) | exact kd_ng (by omega) | assumption | exact Ne.symm (by assumption))).trans (by first | assumption | exact hu_s)))
  · exact vp_in_nI2 (by omega) (by omega)
  rw [nI_clamp (by omega), h5 j hj]
  refine V_aret X dJx4a65c_elementData_915e3_6 (Or.inl ⟨_, rfl⟩) rfl ?_ ?_ ?_
  · dsimp only [rmm]; omega
  · dsimp only [rmm]; omega
  exact ⟨rfl, rfl⟩
set_option maxRecDepth 100000 in
set_option maxHeartbeats 4000000 in
theorem c_get (l : Launch) {I : aH} {k i j : Nat} {L : List Nat} (hL : LL I k i L) (hn : L.length < 2 ^ 30) (hj : j < L.length) : AM l yJx4a65c_get_915e3 cJx4a65c_get_915e3 2 (some (.object "java/lang/Object")) (rmm 2 0 0 43) [.ref (kd k i 0), .int (nI j)] I (fun r I' => r = some (.ref (L.getD j 0)) ∧ I' = I) := by
  have hL0 := hL
  obtain ⟨mc, g, cap, f, h1, h2, h3, hcp, h4, h5, h6⟩ := hL0
  refine AM_of RJx4a65c (by decide) rfl [some (.ref (kd k i 0)), some (.int (nI j))] rfl (Nat.le_of_ble_eq_true rfl) (fun Z X hNm => ?_)
  refine V_iload_n X dJx4a65c_get_915e3_0 rfl ?_
  refine V_aload_n X dJx4a65c_get_915e3_1 rfl rfl ?_
  apply V_get X dJx4a65c_get_915e3_2 fk_Jx4a65c_48
  · first | assumption | exact hu_s | exact (hu_n (by first | exact kd_nk (by decide) | exact kd_ni (by omega) | exact kd_ng (by omega) | assumption | exact Ne.symm (by assumption))).trans (by first | assumption | exact hu_s | exact (hu_n (by first | exact kd_nk (by decide) | exact kd_ni (by omega) | exact kd_ng (by omega) | assumption | exact Ne.symm (by assumption))).trans (by first | assumption | exact hu_s | exact (hu_n (by first | exact kd_nk (by decide) | exact kd_ni (by omega) | exact kd_ng (by omega) | assumption | exact Ne.symm (by assumption))).trans (by first | assumption | exact hu_s)))
  · exact rfl
  refine V_callS2 X dJx4a65c_get_915e3_5 mk_Jx4a65c_118 st_J15_checkIndex_7cf53 (c_ci l hj (by omega)) (Nat.le_of_ble_eq_true rfl) ⟨Nat.le_of_ble_eq_true rfl, Nat.le_of_ble_eq_true rfl⟩ ?_ ?_
  · exact ⟨by dsimp only [rmm]; omega, by dsimp only [rmm]; omega⟩
  rintro r I1 ⟨rfl, rfl⟩
  refine V_pop X dJx4a65c_get_915e3_8 rfl ?_
  refine V_aload_n X dJx4a65c_get_915e3_9 rfl rfl ?_
  refine V_iload_n X dJx4a65c_get_915e3_10 rfl ?_
  apply V_callV1 X dJx4a65c_get_915e3_11 mk_Jx4a65c_123 iv_Jx4a65c_elementData_915e3 (c_elementData l hL hn hj)
  · first | assumption | exact hu_s | exact (hu_n (by first | exact kd_nk (by decide) | exact kd_ni (by omega) | exact kd_ng (by omega) | assumption | exact Ne.symm (by assumption))).trans (by first | assumption | exact hu_s | exact (hu_n (by first | exact kd_nk (by decide) | exact kd_ni (by omega) | exact kd_ng (by omega) | assumption | exact Ne.symm (by assumption))).trans (by first | assumption | exact hu_s | exact (hu_n (by first | exact kd_nk (by decide) | exact kd_ni (by omega) | exact kd_ng (by omega) | assumption | exact Ne.symm (by assumption))).trans (by first | assumption | exact hu_s)))
  · exact rfl
  · exact Nat.le_of_ble_eq_true rfl
  · exact ⟨Nat.le_of_ble_eq_true rfl, Nat.le_of_ble_eq_true rfl⟩
  · exact ⟨by dsimp only [rmm]; omega, by dsimp only [rmm]; omega⟩
  rintro r I1 ⟨rfl, rfl⟩
  refine V_aret X dJx4a65c_get_915e3_14 (Or.inl ⟨_, rfl⟩) rfl ?_ ?_ ?_
  · dsimp only [rmm]; omega
  · dsimp only [rmm]; omega
  exact ⟨rfl, rfl⟩
set_option maxRecDepth 100000 in
set_option maxHeartbeats 4000000 in
theorem c_copyOf3 (l : Launch) {I : aH} {k i g cap N : Nat} {f : Nat → Option Nat} (hk : k ≠ 0) (h2 : I (arA k i g) = some (.inl (3, aR cap f))) (hz : ¬ ro (arA k i g)) (hf : I (kd (k + 1) i (g + 1)) = none) (hcap : cap ≤ N) (hN : N < 2 ^ 27) (hel : ∀ j, j < cap → ∀ y, f j = some y → EO I y) : AM l yJ7_copyOf_6403c cJ7_copyOf_6403c 4 (some (.array (.object "java/lang/Object"))) (rmm 1 1 N 60) [.ref (arA k i g), .int (nI N), .ref mirr] I (fun r I' => r = some (.ref (kd (k + 1) i (g + 1))) ∧ ∃ f', I' = hu I (kd (k + 1) i (g + 1)) (.inl (3, aR N f')) ∧ ∀ j, j < cap → f' j = f j) := by
  refine AM_of RJ7 (by decide) rfl [some (.ref (arA k i g)), some (.int (nI N)), some (.ref mirr), none] rfl (Nat.le_of_ble_eq_true rfl) (fun Z X hNm => ?_)
  refine V_aload_n X dJ7_copyOf_6403c_0 rfl rfl ?_
  refine V_ldcM X dJ7_copyOf_6403c_1 cl_J7_110 ?_
  refine V_acmp_ne X dJ7_copyOf_6403c_3 13 (by decide) (Or.inr rfl) (Or.inr rfl) (fun c => absurd rfl c) (fun c => ?_)
  refine V_iload_n X dJ7_copyOf_6403c_6 rfl ?_
  refine V_anewarray X dJ7_copyOf_6403c_7 N cl_J7_2 (t := 3) (fun _ => rfl) (Or.inl rfl) (nI_pos (by omega)) (nI_clamp (by omega)) (by omega) (kd (k + 1) i (g + 1)) hf (kd_nk (by omega)) (ro_k (by omega)) (by dsimp only [rmm]; omega) (by dsimp only [rmm]; omega) ?_
  refine V_goto X dJ7_copyOf_6403c_10 24 (by decide) ?_
  have hne : arA k i g ≠ kd (k + 1) i (g + 1) := by
    unfold arA
    split
    · exact kd_nk (by omega)
    · exact kd_ng (by omega)
  have h2b : hu I (kd (k + 1) i (g + 1)) (.inl (3, aR N (fun _ => none))) (arA k i g) = some (.inl (3, aR cap f)) := (hu_n hne).trans h2
  refine V_astore_n X dJ7_copyOf_6403c_24 (by decide) rfl rfl ?_
  refine V_aload_n X dJ7_copyOf_6403c_25 rfl rfl ?_
  refine V_iconst (v := 0) X dJ7_copyOf_6403c_26 (by decide) ?_
  refine V_aload_n X dJ7_copyOf_6403c_27 rfl rfl ?_
  refine V_iconst (v := 0) X dJ7_copyOf_6403c_28 (by decide) ?_
  refine V_aload_n X dJ7_copyOf_6403c_29 rfl rfl ?_
  apply V_alen (t := 3) X dJ7_copyOf_6403c_30 (fun _ => rfl)
  · first | assumption | exact hu_s | exact (hu_n (by first | exact kd_nk (by decide) | exact kd_ni (by omega) | exact kd_ng (by omega) | assumption | exact Ne.symm (by assumption))).trans (by first | assumption | exact hu_s | exact (hu_n (by first | exact kd_nk (by decide) | exact kd_ni (by omega) | exact kd_ng (by omega) | assumption | exact Ne.symm (by assumption))).trans (by first | assumption | exact hu_s | exact (hu_n (by first | exact kd_nk (by decide) | exact kd_ni (by omega) | exact kd_ng (by omega) | assumption | exact Ne.symm (by assumption))).trans (by first | assumption | exact hu_s)))
  refine V_iload_n X dJ7_copyOf_6403c_31 rfl ?_
  refine V_mmin X dJ7_copyOf_6403c_32 mk_J7_304.1 (Nat.le_of_ble_eq_true rfl) (Nat.le_of_ble_eq_true rfl) ?_ ?_ ?_
  · dsimp only [rmm]; omega
  · dsimp only [rmm]; omega
  rw [show (if nI N < nI cap then nI N else nI cap) = nI cap from if_neg (nI_nlt hcap (by omega))]
  refine V_copy X dJ7_copyOf_6403c_35 (inA1 177 rfl rfl) h2b hz hu_s (ro_k (by omega)) (by decide) (by decide) (nI_pos (by omega)) (by rw [nI_clamp (by omega), show ((0 : Int32).toNatClampNeg) = 0 from rfl]; omega) (by rw [nI_clamp (by omega), show ((0 : Int32).toNatClampNeg) = 0 from rfl]; omega) ?_ (Nat.le_of_ble_eq_true rfl) (Nat.le_of_ble_eq_true rfl) ?_
  · intro j hj y hy
    rw [nI_clamp (by omega)] at hj
    rw [show ((0 : Int32).toNatClampNeg) = 0 from rfl, Nat.zero_add] at hy
    obtain ⟨ci, fs, C, T, N2, q1, q2, q3⟩ := hel j hj y hy
    exact ⟨ci, fs, C, T, N2, (hu_n (fun e => by rw [e, hf] at q1; cases q1)).trans q1, q2, q3⟩
  refine V_aload_n X dJ7_copyOf_6403c_38 rfl rfl ?_
  refine V_aret X dJ7_copyOf_6403c_39 (Or.inr ⟨_, rfl⟩) rfl ?_ ?_ ?_
  · dsimp only [rmm]; omega
  · dsimp only [rmm]; omega
  refine ⟨rfl, _, hu_hu, fun j hj => ?_⟩
  rw [pk_cpy_in (by simp) (by rw [nI_clamp (by omega)]; simpa using hj)]
  simp
set_option maxRecDepth 100000 in
set_option maxHeartbeats 4000000 in
theorem c_copyOf2 (l : Launch) {I : aH} {k i g cap N : Nat} {f : Nat → Option Nat} (hk : k ≠ 0) (h2 : I (arA k i g) = some (.inl (3, aR cap f))) (hz : ¬ ro (arA k i g)) (hf : I (kd (k + 1) i (g + 1)) = none) (hcap : cap ≤ N) (hN : N < 2 ^ 27) (hel : ∀ j, j < cap → ∀ y, f j = some y → EO I y) : AM l yJ7_copyOf_1904c cJ7_copyOf_1904c 2 (some (.array (.object "java/lang/Object"))) (rmm 2 1 N 83) [.ref (arA k i g), .int (nI N)] I (fun r I' => r = some (.ref (kd (k + 1) i (g + 1))) ∧ ∃ f', I' = hu I (kd (k + 1) i (g + 1)) (.inl (3, aR N f')) ∧ ∀ j, j < cap → f' j = f j) := by
  refine AM_of RJ7 (by decide) rfl [some (.ref (arA k i g)), some (.int (nI N))] rfl (Nat.le_of_ble_eq_true rfl) (fun Z X hNm => ?_)
  refine V_aload_n X dJ7_copyOf_1904c_0 rfl rfl ?_
  refine V_iload_n X dJ7_copyOf_1904c_1 rfl ?_
  refine V_aload_n X dJ7_copyOf_1904c_2 rfl rfl ?_
  refine V_getC X dJ7_copyOf_1904c_3 (inA1 153 rfl rfl) h2 hz (Nat.le_of_ble_eq_true rfl) (Nat.le_of_ble_eq_true rfl) ?_
  refine V_callS3 X dJ7_copyOf_1904c_6 mk_J7_300 st_J7_copyOf_6403c (c_copyOf3 l hk h2 hz hf hcap hN hel) (Nat.le_of_ble_eq_true rfl) ⟨Nat.le_of_ble_eq_true rfl, Nat.le_of_ble_eq_true rfl⟩ ?_ ?_
  · exact ⟨by dsimp only [rmm]; omega, by dsimp only [rmm]; omega⟩
  rintro r I1 ⟨rfl, f1, rfl, hf1⟩
  refine V_aret X dJ7_copyOf_1904c_9 (Or.inr ⟨_, rfl⟩) rfl ?_ ?_ ?_
  · dsimp only [rmm]; omega
  · dsimp only [rmm]; omega
  exact ⟨rfl, f1, rfl, hf1⟩
set_option maxRecDepth 100000 in
set_option maxHeartbeats 4000000 in
theorem c_newLength (l : Launch) {I : aH} {a c : Nat} (ha : a < 2 ^ 29) (hc : c < 2 ^ 29) : AM l yJ8_newLength_cabcc cJ8_newLength_cabcc 4 (some .int) (rmm 1 0 0 24) [.int (nI a), .int 1, .int (nI c)] I (fun r I' => r = some (.int (nI (a + max 1 c))) ∧ I' = I) := by
  refine AM_of RJ8 (by decide) rfl [some (.int (nI a)), some (.int 1), some (.int (nI c)), none] rfl (Nat.le_of_ble_eq_true rfl) (fun Z X hNm => ?_)
  refine V_iload_n X dJ8_newLength_cabcc_0 rfl ?_
  refine V_iload_n X dJ8_newLength_cabcc_1 rfl ?_
  refine V_iload_n X dJ8_newLength_cabcc_2 rfl ?_
  refine V_mmax X dJ8_newLength_cabcc_3 mk_J8_194.1 (Nat.le_of_ble_eq_true rfl) (Nat.le_of_ble_eq_true rfl) ?_ ?_ ?_
  · dsimp only [rmm]; omega
  · dsimp only [rmm]; omega
  rw [show (if (1 : Int32) < nI c then nI c else 1) = nI (max 1 c) from by
      by_cases q : 1 < c
      · rw [if_pos (show (1 : Int32) < nI c from nI_lt (a := 1) q (by omega))]; congr 1; omega
      · rw [if_neg (show ¬ (1 : Int32) < nI c from nI_nlt (b := c) (a := 1) (by omega) (by omega))]; rw [show max 1 c = 1 by omega]; rfl]
  refine V_iadd X dJ8_newLength_cabcc_6 ?_
  rw [nI_add]
  refine V_istore_n X dJ8_newLength_cabcc_7 (by decide) rfl ?_
  refine V_iconst (v := 0) X dJ8_newLength_cabcc_8 (by decide) ?_
  refine V_iload_n X dJ8_newLength_cabcc_9 rfl ?_
  refine V_icmp_ge X dJ8_newLength_cabcc_10 21 (by decide) (fun c_10 => ?_) (fun c_10 => ?_)
  · exact absurd c_10 (nI_ge (a := 0) (by omega) (by omega))
  refine V_iload_n X dJ8_newLength_cabcc_13 rfl ?_
  refine V_ldc X dJ8_newLength_cabcc_14 kc_J8_200 ?_
  refine V_icmp_gt X dJ8_newLength_cabcc_16 21 (by decide) (fun c_16 => ?_) (fun c_16 => ?_)
  · exact absurd c_16 (Int32.not_lt.mpr (nI_le (b := 2147483639) (by omega) (by decide)))
  refine V_iload_n X dJ8_newLength_cabcc_19 rfl ?_
  refine V_iret X dJ8_newLength_cabcc_20 ?_ ?_ ?_ ?_
  · exact rfl
  · dsimp only [rmm]; omega
  · dsimp only [rmm]; omega
  exact ⟨rfl, rfl⟩
set_option maxRecDepth 100000 in
set_option maxHeartbeats 4000000 in
theorem c_grow1 (l : Launch) {I : aH} {k i g cap n : Nat} {mc : Int32} {f : Nat → Option Nat} (hk : k ≠ 0) (h1 : I (kd k i 0) = some (.inr (0, [.int mc, .ref (arA k i g), .int (nI n)]))) (h2 : I (arA k i g) = some (.inl (3, aR cap f))) (h3 : n = cap) (h4 : g = 0 ↔ cap = 0) (h6 : ∀ g', g < g' → I (kd (k + 1) i g') = none) (hn : n < 2 ^ 26) (hel : ∀ j, j < cap → ∀ y, f j = some y → EO I y) : AM l yJx4a65c_grow_92f84 cJx4a65c_grow_92f84 4 (some (.array (.object "java/lang/Object"))) (rmm 3 1 (n + n / 2 + 10) 104) [.ref (kd k i 0), .int (nI (n + 1))] I (fun r I' => r = some (.ref (kd (k + 1) i (g + 1))) ∧ ∃ f' N, I' = hu (hu I (kd (k + 1) i (g + 1)) (.inl (3, aR N f'))) (kd k i 0) (.inr (0, [.int mc, .ref (kd (k + 1) i (g + 1)), .int (nI n)])) ∧ n < N ∧ N < 2 ^ 28 ∧ ∀ j, j < cap → f' j = f j) := by
  refine AM_of RJx4a65c (by decide) rfl [some (.ref (kd k i 0)), some (.int (nI (n + 1))), none, none] rfl (Nat.le_of_ble_eq_true rfl) (fun Z X hNm => ?_)
  refine V_aload_n X dJx4a65c_grow_92f84_0 rfl rfl ?_
  apply V_get X dJx4a65c_grow_92f84_1 fk_Jx4a65c_9
  · first | assumption | exact hu_s | exact (hu_n (by first | exact kd_nk (by decide) | exact kd_ni (by omega) | exact kd_ng (by omega) | assumption | exact Ne.symm (by assumption))).trans (by first | assumption | exact hu_s | exact (hu_n (by first | exact kd_nk (by decide) | exact kd_ni (by omega) | exact kd_ng (by omega) | assumption | exact Ne.symm (by assumption))).trans (by first | assumption | exact hu_s | exact (hu_n (by first | exact kd_nk (by decide) | exact kd_ni (by omega) | exact kd_ng (by omega) | assumption | exact Ne.symm (by assumption))).trans (by first | assumption | exact hu_s)))
  · exact rfl
  apply V_alen (t := 3) X dJx4a65c_grow_92f84_4 (fun _ => rfl)
  · first | assumption | exact hu_s | exact (hu_n (by first | exact kd_nk (by decide) | exact kd_ni (by omega) | exact kd_ng (by omega) | assumption | exact Ne.symm (by assumption))).trans (by first | assumption | exact hu_s | exact (hu_n (by first | exact kd_nk (by decide) | exact kd_ni (by omega) | exact kd_ng (by omega) | assumption | exact Ne.symm (by assumption))).trans (by first | assumption | exact hu_s | exact (hu_n (by first | exact kd_nk (by decide) | exact kd_ni (by omega) | exact kd_ng (by omega) | assumption | exact Ne.symm (by assumption))).trans (by first | assumption | exact hu_s)))
  refine V_istore_n X dJx4a65c_grow_92f84_5 (by decide) rfl ?_
  refine V_iload_n X dJx4a65c_grow_92f84_6 rfl ?_
  refine V_if_gt X dJx4a65c_grow_92f84_7 20 (by decide) (fun c_7 => ?_) (fun c_7 => ?_)
  · have hc0 : 0 < cap := by
      rcases Nat.eq_zero_or_pos cap with q | q
      · rw [q] at c_7; exact absurd (show (0 : Int32) < nI 0 from c_7) (by decide)
      · exact q
    refine V_iload_n X dJx4a65c_grow_92f84_20 rfl ?_
    refine V_iload_n X dJx4a65c_grow_92f84_21 rfl ?_
    refine V_iload_n X dJx4a65c_grow_92f84_22 rfl ?_
    refine V_isub X dJx4a65c_grow_92f84_23 ?_
    rw [show nI (n + 1) - nI cap = 1 from by rw [← h3, pk_sub (by omega), show n + 1 - n = 1 by omega]; rfl]
    refine V_iload_n X dJx4a65c_grow_92f84_24 rfl ?_
    refine V_iconst (v := 1) X dJx4a65c_grow_92f84_25 (by decide) ?_
    refine V_ishr X dJx4a65c_grow_92f84_26 ?_
    rw [pk_shrN (n := cap) (by omega) ((1 : Int32) &&& 31) 1 (by decide), Nat.pow_one]
    refine V_callS3 X dJx4a65c_grow_92f84_27 mk_Jx4a65c_73 st_J8_newLength_cabcc (c_newLength l (a := cap) (c := cap / 2) (by omega) (by omega)) (Nat.le_of_ble_eq_true rfl) ⟨Nat.le_of_ble_eq_true rfl, Nat.le_of_ble_eq_true rfl⟩ ?_ ?_
    · exact ⟨by dsimp only [rmm]; omega, by dsimp only [rmm]; omega⟩
    rintro r I1 ⟨rfl, rfl⟩
    refine V_istore_n X dJx4a65c_grow_92f84_30 (by decide) rfl ?_
    refine V_aload_n X dJx4a65c_grow_92f84_31 rfl rfl ?_
    refine V_aload_n X dJx4a65c_grow_92f84_32 rfl rfl ?_
    apply V_get X dJx4a65c_grow_92f84_33 fk_Jx4a65c_9
    · first | assumption | exact hu_s | exact (hu_n (by first | exact kd_nk (by decide) | exact kd_ni (by omega) | exact kd_ng (by omega) | assumption | exact Ne.symm (by assumption))).trans (by first | assumption | exact hu_s | exact (hu_n (by first | exact kd_nk (by decide) | exact kd_ni (by omega) | exact kd_ng (by omega) | assumption | exact Ne.symm (by assumption))).trans (by first | assumption | exact hu_s | exact (hu_n (by first | exact kd_nk (by decide) | exact kd_ni (by omega) | exact kd_ng (by omega) | assumption | exact Ne.symm (by assumption))).trans (by first | assumption | exact hu_s)))
    · exact rfl
    refine V_iload_n X dJx4a65c_grow_92f84_36 rfl ?_
    refine V_callS2 X dJx4a65c_grow_92f84_37 mk_Jx4a65c_66 st_J7_copyOf_1904c (c_copyOf2 l (N := cap + max 1 (cap / 2)) hk h2 (by rw [show arA k i g = kd (k + 1) i g from if_neg (fun q => by have := h4.mp q; omega)]; exact ro_k (by omega)) (h6 _ (by omega)) (by omega) (by omega) hel) (Nat.le_of_ble_eq_true rfl) ⟨Nat.le_of_ble_eq_true rfl, Nat.le_of_ble_eq_true rfl⟩ ?_ ?_
    · exact ⟨by dsimp only [rmm]; omega, by dsimp only [rmm]; omega⟩
    rintro r I1 ⟨rfl, f1, rfl, hf1⟩
    refine V_dup_x1 X dJx4a65c_grow_92f84_40 rfl rfl ?_
    apply V_put X dJx4a65c_grow_92f84_41 fk_Jx4a65c_9
    · exact (hu_n (kd_nk (by omega))).trans h1
    · exact ro_k hk
    · exact Nat.le_of_ble_eq_true rfl
    · exact rfl
    · exact rfl
    refine V_aret X dJx4a65c_grow_92f84_44 (Or.inr ⟨_, rfl⟩) rfl ?_ ?_ ?_
    · dsimp only [rmm]; omega
    · dsimp only [rmm]; omega
    exact ⟨rfl, f1, _, rfl, by omega, by omega, hf1⟩
  have hc0 : cap = 0 := by
    rcases Nat.eq_zero_or_pos cap with q | q
    · exact q
    · exact absurd (nI_lt (a := 0) q (by omega)) c_7
  have hg0 : g = 0 := h4.mpr hc0
  have ea : arA k i g = zed := if_pos hg0
  refine V_aload_n X dJx4a65c_grow_92f84_10 rfl rfl ?_
  apply V_get X dJx4a65c_grow_92f84_11 fk_Jx4a65c_9
  · first | assumption | exact hu_s | exact (hu_n (by first | exact kd_nk (by decide) | exact kd_ni (by omega) | exact kd_ng (by omega) | assumption | exact Ne.symm (by assumption))).trans (by first | assumption | exact hu_s | exact (hu_n (by first | exact kd_nk (by decide) | exact kd_ni (by omega) | exact kd_ng (by omega) | assumption | exact Ne.symm (by assumption))).trans (by first | assumption | exact hu_s | exact (hu_n (by first | exact kd_nk (by decide) | exact kd_ni (by omega) | exact kd_ng (by omega) | assumption | exact Ne.symm (by assumption))).trans (by first | assumption | exact hu_s)))
  · exact rfl
  refine V_gets X dJx4a65c_grow_92f84_14 gs_Jx4a65c_39 ?_
  rw [ea]
  refine V_acmp_eq X dJx4a65c_grow_92f84_17 45 (by decide) (Or.inr rfl) (Or.inr rfl) (fun c_17 => ?_) (fun c_17 => ?_)
  · refine V_aload_n X dJx4a65c_grow_92f84_45 rfl rfl ?_
    refine V_bipush (v := 10) X dJx4a65c_grow_92f84_46 (by decide) ?_
    refine V_iload_n X dJx4a65c_grow_92f84_48 rfl ?_
    refine V_mmax X dJx4a65c_grow_92f84_49 mk_Jx4a65c_79.1 (Nat.le_of_ble_eq_true rfl) (Nat.le_of_ble_eq_true rfl) ?_ ?_ ?_
    · dsimp only [rmm]; omega
    · dsimp only [rmm]; omega
    rw [show (if (10 : Int32) < nI (n + 1) then nI (n + 1) else 10) = nI 10 from by
        rw [show n = 0 by omega]
        decide]
    refine V_anewarray X dJx4a65c_grow_92f84_52 10 cl_Jx4a65c_7 (t := 3) (fun _ => rfl) (Or.inl rfl) (by decide) (by decide) (by decide) (kd (k + 1) i (g + 1)) (h6 _ (by omega)) (kd_nk (by omega)) (ro_k (by omega)) (by dsimp only [rmm]; omega) (by dsimp only [rmm]; omega) ?_
    refine V_dup_x1 X dJx4a65c_grow_92f84_55 rfl rfl ?_
    apply V_put X dJx4a65c_grow_92f84_56 fk_Jx4a65c_9
    · exact (hu_n (kd_nk (by omega))).trans h1
    · exact ro_k hk
    · exact Nat.le_of_ble_eq_true rfl
    · exact rfl
    · exact rfl
    refine V_aret X dJx4a65c_grow_92f84_59 (Or.inr ⟨_, rfl⟩) rfl ?_ ?_ ?_
    · dsimp only [rmm]; omega
    · dsimp only [rmm]; omega
    exact ⟨rfl, _, 10, rfl, by omega, by omega, fun j hj => by omega⟩
  · exact absurd rfl c_17
set_option maxRecDepth 100000 in
set_option maxHeartbeats 4000000 in
theorem c_grow0 (l : Launch) {I : aH} {k i g cap n : Nat} {mc : Int32} {f : Nat → Option Nat} (hk : k ≠ 0) (h1 : I (kd k i 0) = some (.inr (0, [.int mc, .ref (arA k i g), .int (nI n)]))) (h2 : I (arA k i g) = some (.inl (3, aR cap f))) (h3 : n = cap) (h4 : g = 0 ↔ cap = 0) (h6 : ∀ g', g < g' → I (kd (k + 1) i g') = none) (hn : n < 2 ^ 26) (hel : ∀ j, j < cap → ∀ y, f j = some y → EO I y) : AM l yJx4a65c_grow_d5877 cJx4a65c_grow_d5877 1 (some (.array (.object "java/lang/Object"))) (rmm 4 1 (n + n / 2 + 10) 127) [.ref (kd k i 0)] I (fun r I' => r = some (.ref (kd (k + 1) i (g + 1))) ∧ ∃ f' N, I' = hu (hu I (kd (k + 1) i (g + 1)) (.inl (3, aR N f'))) (kd k i 0) (.inr (0, [.int mc, .ref (kd (k + 1) i (g + 1)), .int (nI n)])) ∧ n < N ∧ N < 2 ^ 28 ∧ ∀ j, j < cap → f' j = f j) := by
  refine AM_of RJx4a65c (by decide) rfl [some (.ref (kd k i 0))] rfl (Nat.le_of_ble_eq_true rfl) (fun Z X hNm => ?_)
  refine V_aload_n X dJx4a65c_grow_d5877_0 rfl rfl ?_
  refine V_aload_n X dJx4a65c_grow_d5877_1 rfl rfl ?_
  apply V_get X dJx4a65c_grow_d5877_2 fk_Jx4a65c_48
  · first | assumption | exact hu_s | exact (hu_n (by first | exact kd_nk (by decide) | exact kd_ni (by omega) | exact kd_ng (by omega) | assumption | exact Ne.symm (by assumption))).trans (by first | assumption | exact hu_s | exact (hu_n (by first | exact kd_nk (by decide) | exact kd_ni (by omega) | exact kd_ng (by omega) | assumption | exact Ne.symm (by assumption))).trans (by first | assumption | exact hu_s | exact (hu_n (by first | exact kd_nk (by decide) | exact kd_ni (by omega) | exact kd_ng (by omega) | assumption | exact Ne.symm (by assumption))).trans (by first | assumption | exact hu_s)))
  · exact rfl
  refine V_iconst (v := 1) X dJx4a65c_grow_d5877_5 (by decide) ?_
  refine V_iadd X dJx4a65c_grow_d5877_6 ?_
  rw [nI_1]
  apply V_callV1 X dJx4a65c_grow_d5877_7 mk_Jx4a65c_69 iv_Jx4a65c_grow_92f84 (c_grow1 l hk h1 h2 h3 h4 h6 hn hel)
  · first | assumption | exact hu_s | exact (hu_n (by first | exact kd_nk (by decide) | exact kd_ni (by omega) | exact kd_ng (by omega) | assumption | exact Ne.symm (by assumption))).trans (by first | assumption | exact hu_s | exact (hu_n (by first | exact kd_nk (by decide) | exact kd_ni (by omega) | exact kd_ng (by omega) | assumption | exact Ne.symm (by assumption))).trans (by first | assumption | exact hu_s | exact (hu_n (by first | exact kd_nk (by decide) | exact kd_ni (by omega) | exact kd_ng (by omega) | assumption | exact Ne.symm (by assumption))).trans (by first | assumption | exact hu_s)))
  · exact rfl
  · exact Nat.le_of_ble_eq_true rfl
  · exact ⟨Nat.le_of_ble_eq_true rfl, Nat.le_of_ble_eq_true rfl⟩
  · exact ⟨by dsimp only [rmm]; omega, by dsimp only [rmm]; omega⟩
  intro r I1 hp
  obtain ⟨rfl, hp⟩ := hp
  refine V_aret X dJx4a65c_grow_d5877_10 (Or.inr ⟨_, rfl⟩) rfl ?_ ?_ ?_
  · dsimp only [rmm]; omega
  · dsimp only [rmm]; omega
  exact ⟨rfl, hp⟩
theorem getD_app {L : List Nat} {β j : Nat} (hj : j < L.length) : (L ++ [β]).getD j 0 = L.getD j 0 := by
  rw [List.getD_eq_getElem?_getD, List.getD_eq_getElem?_getD, List.getElem?_append_left hj]
theorem getD_last {L : List Nat} {β : Nat} : (L ++ [β]).getD L.length 0 = β := by
  rw [List.getD_eq_getElem?_getD, List.getElem?_append_right (Nat.le_refl _)]
  simp
theorem up_app {L : List Nat} {β n : Nat} {f : Nat → Option Nat} (hn : L.length = n) (h5 : ∀ j, j < L.length → f j = some (L.getD j 0)) : ∀ j, j < (L ++ [β]).length → va_up f n (some β) j = some ((L ++ [β]).getD j 0) := by
  intro j hj
  rw [List.length_append] at hj
  unfold va_up
  split
  · rename_i e
    rw [e, ← hn, getD_last]
  · rename_i e
    have hj2 : j < L.length := by simp at hj; omega
    rw [getD_app hj2]
    exact h5 j hj2
theorem EO.kept {I I' : aH} {β : Nat} (h : EO I β) (e : I' β = I β) : EO I' β := by
  obtain ⟨ci, fs, C, T, N, q1, q2, q3⟩ := h
  exact ⟨ci, fs, C, T, N, e.trans q1, q2, q3⟩
theorem EO.nl {I : aH} {β α : Nat} {fs : List Value} (h : EO I β) (e : I α = some (.inr (0, fs))) : β ≠ α := by
  rintro rfl
  obtain ⟨ci, fs', C, T, N, q1, q2, q3⟩ := h
  have := q1.symm.trans e
  cases this
  have hC : (RJx4a65c, TJx4a65c, 3) = (C, T, N) := Option.some.inj q2
  cases hC
  exact absurd q3 (by decide)
theorem EO.na {I : aH} {β α t : Nat} {x : vp_A} (h : EO I β) (e : I α = some (.inl (t, x))) : β ≠ α := by
  rintro rfl
  obtain ⟨ci, fs', C, T, N, q1, q2, q3⟩ := h
  have := q1.symm.trans e
  cases this
theorem EO.nn {I : aH} {β α : Nat} (h : EO I β) (e : I α = none) : β ≠ α := by
  rintro rfl
  exact h.ne e
theorem Fr.tr {k i : Nat} {I J K : aH} (h : Fr k i I J) (h' : Fr k i J K) : Fr k i I K := fun α a b => (h' α a b).trans (h α a b)
theorem Fr.o {k i : Nat} {I : aH} {o : aO} : Fr k i I (hu I (kd k i 0) o) := fun α a _ => hu_n a
theorem Fr.a {k i g : Nat} {I : aH} {o : aO} : Fr k i I (hu I (kd (k + 1) i g) o) := fun α _ b => hu_n (b g)
theorem Fr.rf {k i : Nat} {I : aH} : Fr k i I I := fun _ _ _ => rfl
set_option maxRecDepth 100000 in
set_option maxHeartbeats 4000000 in
theorem c_add3 (l : Launch) {I : aH} {k i g cap n β : Nat} {mc : Int32} {f : Nat → Option Nat} {L : List Nat} (hk : k ≠ 0) (h1 : I (kd k i 0) = some (.inr (0, [.int mc, .ref (arA k i g), .int (nI n)]))) (h2 : I (arA k i g) = some (.inl (3, aR cap f))) (hl : L.length = n) (h3 : n ≤ cap) (hcp : cap < 2 ^ 28) (h4 : g = 0 ↔ cap = 0) (h5 : ∀ j, j < L.length → f j = some (L.getD j 0)) (h6 : ∀ g', g < g' → I (kd (k + 1) i g') = none) (hn : n < 2 ^ 26) (hel : ∀ a ∈ L, EO I a) (hβ : EO I β) : AM l yJx4a65c_add_72be8 cJx4a65c_add_72be8 4 none (rmm 5 1 (n + n / 2 + 10) 147) [.ref (kd k i 0), .ref β, .ref (arA k i g), .int (nI n)] I (fun r I' => r = none ∧ LL I' k i (L ++ [β]) ∧ Fr k i I I') := by
  refine AM_of RJx4a65c (by decide) rfl [some (.ref (kd k i 0)), some (.ref β), some (.ref (arA k i g)), some (.int (nI n))] rfl (Nat.le_of_ble_eq_true rfl) (fun Z X hNm => ?_)
  refine V_iload_n X dJx4a65c_add_72be8_0 rfl ?_
  refine V_aload_n X dJx4a65c_add_72be8_1 rfl rfl ?_
  apply V_alen (t := 3) X dJx4a65c_add_72be8_2 (fun _ => rfl)
  · first | assumption | exact hu_s | exact (hu_n (by first | exact kd_nk (by decide) | exact kd_ni (by omega) | exact kd_ng (by omega) | assumption | exact Ne.symm (by assumption))).trans (by first | assumption | exact hu_s | exact (hu_n (by first | exact kd_nk (by decide) | exact kd_ni (by omega) | exact kd_ng (by omega) | assumption | exact Ne.symm (by assumption))).trans (by first | assumption | exact hu_s | exact (hu_n (by first | exact kd_nk (by decide) | exact kd_ni (by omega) | exact kd_ng (by omega) | assumption | exact Ne.symm (by assumption))).trans (by first | assumption | exact hu_s)))
  obtain ⟨ci, fs, C, T, N0, b1, b2, b3⟩ := id hβ
  refine V_icmp_ne X dJx4a65c_add_72be8_3 11 (by decide) (fun c_3 => ?_) (fun c_3 => ?_)
  · have hlt : n < cap := by
      rcases Nat.lt_or_ge n cap with q | q
      · exact q
      · exact absurd (show nI n = nI cap by rw [show n = cap by omega]) c_3
    have hg : g ≠ 0 := fun q => by have := h4.mp q; omega
    rw [arA_s hg] at h1 h2 ⊢
    refine V_aload_n X dJx4a65c_add_72be8_11 rfl rfl ?_
    refine V_iload_n X dJx4a65c_add_72be8_12 rfl ?_
    refine V_aload_n X dJx4a65c_add_72be8_13 rfl rfl ?_
    apply V_aastore (t := 3) X dJx4a65c_add_72be8_14 (fun _ => rfl)
    · exact h2
    · exact ro_k (by omega)
    · exact vp_in_nI2 (by omega) (by omega)
    · exact b1
    · exact b2
    · exact Or.inr b3
    rw [nI_clamp (by omega)]
    refine V_aload_n X dJx4a65c_add_72be8_15 rfl rfl ?_
    refine V_iload_n X dJx4a65c_add_72be8_16 rfl ?_
    refine V_iconst (v := 1) X dJx4a65c_add_72be8_17 (by decide) ?_
    refine V_iadd X dJx4a65c_add_72be8_18 ?_
    rw [nI_1]
    apply V_put X dJx4a65c_add_72be8_19 fk_Jx4a65c_48
    · exact (hu_n (kd_nk (by omega))).trans h1
    · exact ro_k hk
    · exact Nat.le_of_ble_eq_true rfl
    · exact rfl
    · exact rfl
    refine V_vret X dJx4a65c_add_72be8_22 ?_ ?_ ?_
    · dsimp only [rmm]; omega
    · dsimp only [rmm]; omega
    refine ⟨rfl, ⟨mc, g, cap, va_up f n (some β), ?_, ?_, ?_, hcp, h4, up_app hl h5, ?_⟩, Fr.a.tr Fr.o⟩
    · rw [hu_s, arA_s hg, List.length_append, hl]; rfl
    · rw [arA_s hg]; exact (hu_n (kd_nk (by omega))).trans hu_s
    · rw [List.length_append, hl]; exact hlt
    · intro g1 hg1
      rw [hu_n (kd_nk (by omega)), hu_n (kd_ng (by omega))]
      exact h6 g1 hg1
  have hec : n = cap := (nI_eq (by omega) (by omega)).mp c_3
  have helF : ∀ j, j < cap → ∀ y, f j = some y → EO I y := by
    intro j hj y hy
    rw [h5 j (by omega)] at hy
    cases hy
    refine hel _ ?_
    rw [List.getD_eq_getElem?_getD, List.getElem?_eq_getElem (by omega)]
    exact List.getElem_mem _
  refine V_aload_n X dJx4a65c_add_72be8_6 rfl rfl ?_
  apply V_callV0 X dJx4a65c_add_72be8_7 mk_Jx4a65c_129 iv_Jx4a65c_grow_d5877 (c_grow0 l hk h1 h2 hec h4 h6 hn helF)
  · first | assumption | exact hu_s | exact (hu_n (by first | exact kd_nk (by decide) | exact kd_ni (by omega) | exact kd_ng (by omega) | assumption | exact Ne.symm (by assumption))).trans (by first | assumption | exact hu_s | exact (hu_n (by first | exact kd_nk (by decide) | exact kd_ni (by omega) | exact kd_ng (by omega) | assumption | exact Ne.symm (by assumption))).trans (by first | assumption | exact hu_s | exact (hu_n (by first | exact kd_nk (by decide) | exact kd_ni (by omega) | exact kd_ng (by omega) | assumption | exact Ne.symm (by assumption))).trans (by first | assumption | exact hu_s)))
  · exact rfl
  · exact Nat.le_of_ble_eq_true rfl
  · exact ⟨Nat.le_of_ble_eq_true rfl, Nat.le_of_ble_eq_true rfl⟩
  · exact ⟨by dsimp only [rmm]; omega, by dsimp only [rmm]; omega⟩
  rintro r I1 ⟨rfl, f1, N1, rfl, hN1, hN2, hf1⟩
  have hbn : β ≠ kd (k + 1) i (g + 1) := hβ.nn (h6 _ (by omega))
  have hbo : β ≠ kd k i 0 := hβ.nl h1
  refine V_astore_n X dJx4a65c_add_72be8_10 (by decide) rfl rfl ?_
  refine V_aload_n X dJx4a65c_add_72be8_11 rfl rfl ?_
  refine V_iload_n X dJx4a65c_add_72be8_12 rfl ?_
  refine V_aload_n X dJx4a65c_add_72be8_13 rfl rfl ?_
  apply V_aastore (t := 3) X dJx4a65c_add_72be8_14 (fun _ => rfl)
  · exact (hu_n (kd_nk (by omega))).trans hu_s
  · exact ro_k (by omega)
  · exact vp_in_nI2 (by omega) (by omega)
  · exact (hu_n hbo).trans ((hu_n hbn).trans b1)
  · exact b2
  · exact Or.inr b3
  rw [nI_clamp (by omega)]
  refine V_aload_n X dJx4a65c_add_72be8_15 rfl rfl ?_
  refine V_iload_n X dJx4a65c_add_72be8_16 rfl ?_
  refine V_iconst (v := 1) X dJx4a65c_add_72be8_17 (by decide) ?_
  refine V_iadd X dJx4a65c_add_72be8_18 ?_
  rw [nI_1]
  apply V_put X dJx4a65c_add_72be8_19 fk_Jx4a65c_48
  · exact (hu_n (kd_nk (by omega))).trans hu_s
  · exact ro_k hk
  · exact Nat.le_of_ble_eq_true rfl
  · exact rfl
  · exact rfl
  refine V_vret X dJx4a65c_add_72be8_22 ?_ ?_ ?_
  · dsimp only [rmm]; omega
  · dsimp only [rmm]; omega
  refine ⟨rfl, ⟨mc, g + 1, N1, va_up f1 n (some β), ?_, ?_, ?_, hN2, ⟨fun q => by omega, fun q => by omega⟩, up_app hl (fun j hj => (hf1 j (by omega)).trans (h5 j hj)), ?_⟩, ((Fr.a.tr Fr.o).tr Fr.a).tr Fr.o⟩
  · rw [hu_s, arA_s (by omega), List.length_append, hl]; rfl
  · rw [arA_s (by omega)]; exact (hu_n (kd_nk (by omega))).trans hu_s
  · rw [List.length_append, hl]; exact hN1
  · intro g1 hg1
    rw [hu_n (kd_nk (by omega)), hu_n (kd_ng (by omega)), hu_n (kd_nk (by omega)), hu_n (kd_ng (by omega))]
    exact h6 g1 (by omega)
set_option maxRecDepth 100000 in
set_option maxHeartbeats 4000000 in
theorem c_add (l : Launch) {I : aH} {k i β : Nat} {L : List Nat} (hk : k ≠ 0) (hL : LL I k i L) (hn : L.length < 2 ^ 26) (hel : ∀ a ∈ L, EO I a) (hβ : EO I β) : AM l yJx4a65c_add_9ea2d cJx4a65c_add_9ea2d 2 (some .boolean) (rmm 6 1 (L.length + L.length / 2 + 10) 170) [.ref (kd k i 0), .ref β] I (fun r I' => r = some (.int 1) ∧ LL I' k i (L ++ [β]) ∧ Fr k i I I') := by
  obtain ⟨mc, g, cap, f, h1, h2, h3, hcp, h4, h5, h6⟩ := hL
  refine AM_of RJx4a65c (by decide) rfl [some (.ref (kd k i 0)), some (.ref β)] rfl (Nat.le_of_ble_eq_true rfl) (fun Z X hNm => ?_)
  refine V_aload_n X dJx4a65c_add_9ea2d_0 rfl rfl ?_
  refine V_dup X dJx4a65c_add_9ea2d_1 rfl ?_
  apply V_get X dJx4a65c_add_9ea2d_2 fk_Jx4a65c_63
  · first | assumption | exact hu_s | exact (hu_n (by first | exact kd_nk (by decide) | exact kd_ni (by omega) | exact kd_ng (by omega) | assumption | exact Ne.symm (by assumption))).trans (by first | assumption | exact hu_s | exact (hu_n (by first | exact kd_nk (by decide) | exact kd_ni (by omega) | exact kd_ng (by omega) | assumption | exact Ne.symm (by assumption))).trans (by first | assumption | exact hu_s | exact (hu_n (by first | exact kd_nk (by decide) | exact kd_ni (by omega) | exact kd_ng (by omega) | assumption | exact Ne.symm (by assumption))).trans (by first | assumption | exact hu_s)))
  · exact rfl
  refine V_iconst (v := 1) X dJx4a65c_add_9ea2d_5 (by decide) ?_
  refine V_iadd X dJx4a65c_add_9ea2d_6 ?_
  apply V_put X dJx4a65c_add_9ea2d_7 fk_Jx4a65c_63
  · first | assumption | exact hu_s | exact (hu_n (by first | exact kd_nk (by decide) | exact kd_ni (by omega) | exact kd_ng (by omega) | assumption | exact Ne.symm (by assumption))).trans (by first | assumption | exact hu_s | exact (hu_n (by first | exact kd_nk (by decide) | exact kd_ni (by omega) | exact kd_ng (by omega) | assumption | exact Ne.symm (by assumption))).trans (by first | assumption | exact hu_s | exact (hu_n (by first | exact kd_nk (by decide) | exact kd_ni (by omega) | exact kd_ng (by omega) | assumption | exact Ne.symm (by assumption))).trans (by first | assumption | exact hu_s)))
  · exact ro_k hk
  · exact Nat.le_of_ble_eq_true rfl
  · exact rfl
  · exact rfl
  refine V_aload_n X dJx4a65c_add_9ea2d_10 rfl rfl ?_
  refine V_aload_n X dJx4a65c_add_9ea2d_11 rfl rfl ?_
  refine V_aload_n X dJx4a65c_add_9ea2d_12 rfl rfl ?_
  apply V_get X dJx4a65c_add_9ea2d_13 fk_Jx4a65c_9
  · exact hu_s
  · exact rfl
  refine V_aload_n X dJx4a65c_add_9ea2d_16 rfl rfl ?_
  apply V_get X dJx4a65c_add_9ea2d_17 fk_Jx4a65c_48
  · exact hu_s
  · exact rfl
  apply V_callV3 X dJx4a65c_add_9ea2d_20 mk_Jx4a65c_131 iv_Jx4a65c_add_72be8 (c_add3 l (f := f) hk hu_s ((hu_n (arA_ne hk)).trans h2) rfl h3 hcp h4 h5 (fun g1 hg1 => (hu_n (kd_nk (by omega))).trans (h6 g1 hg1)) hn (fun a ha => (hel a ha).kept (hu_n ((hel a ha).nl h1))) (hβ.kept (hu_n (hβ.nl h1))))
  · exact hu_s
  · exact rfl
  · exact Nat.le_of_ble_eq_true rfl
  · exact ⟨Nat.le_of_ble_eq_true rfl, Nat.le_of_ble_eq_true rfl⟩
  · exact ⟨by dsimp only [rmm]; omega, by dsimp only [rmm]; omega⟩
  rintro r I1 ⟨rfl, hp1, hp2⟩
  refine V_iconst (v := 1) X dJx4a65c_add_9ea2d_23 (by decide) ?_
  refine V_iret X dJx4a65c_add_9ea2d_24 ?_ ?_ ?_ ?_
  · exact rfl
  · dsimp only [rmm]; omega
  · dsimp only [rmm]; omega
  exact ⟨rfl, hp1, Fr.o.tr hp2⟩
