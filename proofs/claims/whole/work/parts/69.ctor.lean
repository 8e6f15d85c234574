/-! THE CONSTRUCTORS -/
def S0 : St := (fun _ _ => 0, fun _ _ => 0)
/-- the reference's fields, the arrays below n made -/
def fldN (n k : Nat) : Value := match tbM k with
  | .inl 0 => .int 0
  | .inl _ => .long 0
  | .inr _ => if k < n then .ref (kd 41 k 0) else .null
def objN (n : Nat) : List Value := (List.range 62).map (fldN n)
def aro (k : Nat) : Bool := match tbM k with
  | .inl _ => false
  | .inr _ => true
def MN (n : Nat) (J I : aH) : Prop := I mO = some (.inr (10, objN n)) ∧ (∀ k, k < n → k < 62 → ∀ o, arrM S0 k = some o → I (kd 41 k 0) = some o) ∧ (∀ k, n ≤ k → I (kd 41 k 0) = none) ∧ ∀ k i g, k ≠ 40 → k ≠ 41 → I (kd k i g) = J (kd k i g)
theorem ne_mO {k i g : Nat} (h : k ≠ 40) : kd k i g ≠ mO := kd_nk h
theorem ne_rO {k i g : Nat} (h : k ≠ 1) : kd k i g ≠ rO := kd_nk h
theorem objN_len (n : Nat) : (objN n).length = 62 := by simp [objN]
theorem fldN_in {n k j : Nat} (h : tbM j = .inl k) (m : Nat) : fldN n j = fldN m j := by
  unfold fldN
  rw [h]
  cases k <;> rfl
theorem fldN_ar {n j : Nat} {x} (h : tbM j = .inr x) : fldN n j = if j < n then .ref (kd 41 j 0) else .null := by
  unfold fldN
  rw [h]
theorem objN_set {n k : Nat} {x} (h1 : n ≤ k) (h2 : ∀ j, n ≤ j → j < k → aro j = false) (h3 : tbM k = .inr x) : (objN n).set k (.ref (kd 41 k 0)) = objN (k + 1) := by
  refine List.ext_getElem (by simp [objN]) (fun j hj hj2 => ?_)
  rw [List.getElem_set]
  have hj3 : j < 62 := by simpa [objN] using hj2
  have e1 : (objN (k + 1))[j]'hj2 = fldN (k + 1) j := by simp [objN]
  have e2 : (objN n)[j]'(by rw [objN_len]; exact hj3) = fldN n j := by simp [objN]
  rw [e1]
  by_cases e : k = j
  · subst e
    rw [if_pos rfl, fldN_ar h3, if_pos (Nat.lt_succ_self _)]
  · rw [if_neg e, e2]
    cases ht : tbM j with
    | inl q => exact fldN_in ht _
    | inr q =>
      rw [fldN_ar ht, fldN_ar ht]
      by_cases hn : j < n
      · rw [if_pos hn, if_pos (by omega)]
      · rw [if_neg hn]
        by_cases hk : j < k
        · have := h2 j (by omega) hk
          unfold aro at this
          rw [ht] at this
          cases this
        · rw [if_neg (by omega)]
theorem MN.step {n k : Nat} {J I : aH} {o : aO} {x} (h : MN n J I) (h1 : n ≤ k) (h2 : ∀ j, n ≤ j → j < k → aro j = false) (h3 : tbM k = .inr x) (ho : arrM S0 k = some o) : MN (k + 1) J (hu (hu I (kd 41 k 0) o) mO (.inr (10, (objN n).set k (.ref (kd 41 k 0))))) := by
  obtain ⟨a1, a2, a3, a4⟩ := h
  refine ⟨?_, fun j hj hj2 o' ho' => ?_, fun j hj => ?_, fun k' i g q1 q2 => ?_⟩
  · rw [hu_s, objN_set h1 h2 h3]
  · rw [hu_n (ne_mO (k := 41) (by decide))]
    by_cases e : j = k
    · subst e
      rw [hu_s, ← ho, ho']
    · rw [hu_n (kd_ni e)]
      by_cases hn : j < n
      · exact a2 j hn hj2 o' ho'
      · have := h2 j (by omega) (by omega)
        unfold aro at this
        unfold arrM at ho'
        cases ht : tbM j with
        | inl q => rw [ht] at ho'; cases ho'
        | inr q => rw [ht] at this; cases this
  · rw [hu_n (ne_mO (k := 41) (by decide)), hu_n (kd_ni (by omega))]
    exact a3 j (by omega)
  · rw [hu_n (ne_mO q1), hu_n (kd_nk q2)]
    exact a4 k' i g q1 q2
section Ctor
variable {Z : Zt} {l0 : Launch} {R0 : Room} {cc : ByteArray} {nL : Nat} {own : String} {ret : Option FieldType} {Post : Option Value → aH → Prop} {I : aH} {lv : List (Option Value)} {st : List Value} {cells slots pc : Nat}
theorem M_new_int {idx n k N : Nat} {J : aH} {v : Int32} (X : Fx Z l0 R0 cc nL own ret Post) (hNm : Nm Z "<init>") (d1 : decode cc pc = .ok (.newarray .int, 2)) (d2 : decode cc (pc + 2) = .ok (.putfield idx, 3)) (F : FP own idx 10 k (.array .int)) (hI : MN n J I) (h1 : n ≤ k) (hk : k < 62) (h2 : ∀ j, n ≤ j → j < k → aro j = false) (h3 : tbM k = .inr (false, 0, N)) (hv : ¬ v < 0) (hN : v.toNatClampNeg = N) (hN2 : N ≤ 36000) (hce : cells + 1 ≤ R0.cells) (hsl : slots + N ≤ R0.slots) (kk : ∀ I', MN (k + 1) J I' → V Z nL I' lv st (cells + 1) (slots + N) (pc + 5)) : V Z nL I lv (.int v :: .ref mO :: st) cells slots pc := by
  have ho : arrM S0 k = some (.inl (0, aI N (fun _ => 0))) := by
    unfold arrM
    rw [h3]
    rfl
  refine V_newarray (a0 := aI N (fun _ => 0)) (t := 0) (ty := .int) X d1 N ar_int rfl (fun _ => rfl) (fun _ q => by cases q) (fun _ => rfl) (fun _ => rfl) (fun _ => clO_i) hv hN (by rw [show componentBytes .int = 4 from rfl]; omega) (kd 41 k 0) (hI.2.2.1 k h1) (kd_nk (by decide)) (ro_k (by decide)) hce hsl ?_
  refine V_putF X hNm d2 F ((hu_n (kd_nk (by decide))).trans hI.1) (ro_k (by decide)) (by rw [objN_len]; exact hk) rfl rfl ?_
  exact kk _ (hI.step h1 h2 h3 ho)
theorem M_new_long {idx n k N : Nat} {J : aH} {v : Int32} (X : Fx Z l0 R0 cc nL own ret Post) (hNm : Nm Z "<init>") (d1 : decode cc pc = .ok (.newarray .long, 2)) (d2 : decode cc (pc + 2) = .ok (.putfield idx, 3)) (F : FP own idx 10 k (.array .long)) (hI : MN n J I) (h1 : n ≤ k) (hk : k < 62) (h2 : ∀ j, n ≤ j → j < k → aro j = false) (h3 : tbM k = .inr (true, 1, N)) (hv : ¬ v < 0) (hN : v.toNatClampNeg = N) (hN2 : N ≤ 36000) (hce : cells + 1 ≤ R0.cells) (hsl : slots + N ≤ R0.slots) (kk : ∀ I', MN (k + 1) J I' → V Z nL I' lv st (cells + 1) (slots + N) (pc + 5)) : V Z nL I lv (.int v :: .ref mO :: st) cells slots pc := by
  have ho : arrM S0 k = some (.inl (1, aL N (fun _ => 0))) := by
    unfold arrM
    rw [h3]
    rfl
  refine V_newarray (a0 := aL N (fun _ => 0)) (t := 1) (ty := .long) X d1 N ar_long rfl (fun _ => rfl) (fun _ q => by cases q) (fun _ => rfl) (fun _ => rfl) (fun _ => clO_l) hv hN (by rw [show componentBytes .long = 8 from rfl]; omega) (kd 41 k 0) (hI.2.2.1 k h1) (kd_nk (by decide)) (ro_k (by decide)) hce hsl ?_
  refine V_putF X hNm d2 F ((hu_n (kd_nk (by decide))).trans hI.1) (ro_k (by decide)) (by rw [objN_len]; exact hk) rfl rfl ?_
  exact kk _ (hI.step h1 h2 h3 ho)
theorem M_new_boolean {idx n k N : Nat} {J : aH} {v : Int32} (X : Fx Z l0 R0 cc nL own ret Post) (hNm : Nm Z "<init>") (d1 : decode cc pc = .ok (.newarray .boolean, 2)) (d2 : decode cc (pc + 2) = .ok (.putfield idx, 3)) (F : FP own idx 10 k (.array .boolean)) (hI : MN n J I) (h1 : n ≤ k) (hk : k < 62) (h2 : ∀ j, n ≤ j → j < k → aro j = false) (h3 : tbM k = .inr (false, 2, N)) (hv : ¬ v < 0) (hN : v.toNatClampNeg = N) (hN2 : N ≤ 36000) (hce : cells + 1 ≤ R0.cells) (hsl : slots + N ≤ R0.slots) (kk : ∀ I', MN (k + 1) J I' → V Z nL I' lv st (cells + 1) (slots + N) (pc + 5)) : V Z nL I lv (.int v :: .ref mO :: st) cells slots pc := by
  have ho : arrM S0 k = some (.inl (2, aI N (fun _ => 0))) := by
    unfold arrM
    rw [h3]
    rfl
  refine V_newarray (a0 := aI N (fun _ => 0)) (t := 2) (ty := .boolean) X d1 N ar_boolean rfl (fun _ => rfl) (fun _ q => by cases q) (fun _ => rfl) (fun _ => rfl) (fun _ => clO_i) hv hN (by rw [show componentBytes .boolean = 1 from rfl]; omega) (kd 41 k 0) (hI.2.2.1 k h1) (kd_nk (by decide)) (ro_k (by decide)) hce hsl ?_
  refine V_putF X hNm d2 F ((hu_n (kd_nk (by decide))).trans hI.1) (ro_k (by decide)) (by rw [objN_len]; exact hk) rfl rfl ?_
  exact kk _ (hI.step h1 h2 h3 ho)
end Ctor
def MH (S : St) (I : aH) : Prop := I mO = some (.inr (10, objM S)) ∧ ∀ k, k < 62 → ∀ o, arrM S k = some o → I (kd 41 k 0) = some o
theorem MH.ov {S : St} {I : aH} (h : MH S I) : I = ovl S I := by
  funext α
  unfold ovl
  split
  · rename_i e
    rw [e]
    exact h.1
  · cases hd : dkM α with
    | none => rfl
    | some k =>
      obtain ⟨e, hk⟩ := dkM_of hd
      cases ha : arrM S k with
      | none => show _ = (arrM S k).or (I α); rw [ha]; rfl
      | some o => show _ = (arrM S k).or (I α); rw [ha, e]; exact h.2 k hk o ha
theorem MH.of (S : St) (J : aH) : MH S (ovl S J) := ⟨ovl_o, fun k hk o ho => ovl_a hk ho⟩
theorem MN.mh {J I : aH} (h : MN 62 J I) : MH S0 I := by
  refine ⟨?_, fun k hk o ho => h.2.1 k hk hk o ho⟩
  rw [h.1]
  have e : objN 62 = objM S0 := by
    unfold objN objM
    refine List.map_congr_left (fun k hk => ?_)
    have hk2 := List.mem_range.mp hk
    unfold fldN fldM
    cases ht : tbM k with
    | inl q => cases q <;> rfl
    | inr q => simp only [if_pos hk2]
  rw [e]
set_option maxRecDepth 100000 in
set_option maxHeartbeats 4000000 in
theorem c_X9_init (l : Launch) {I : aH} (h0 : MN 0 I I) : AM l yX9_init cX9_init 1 none (rmm 1 52 166710 40) [.ref mO] I (fun r I' => r = none ∧ MN 62 I I') := by
  refine AM_of RX9 (by decide) rfl [some (.ref mO)] rfl (Nat.le_of_ble_eq_true rfl) (fun Z X hNm => ?_)
  refine V_aload_n X dX9_init_0 rfl rfl ?_
  refine V_objInit X dX9_init_1 ol_X9_1 ob_i ob_c (Nat.le_of_ble_eq_true rfl) (Nat.le_of_ble_eq_true rfl) ?_
  refine V_aload_n X dX9_init_4 rfl rfl ?_
  refine V_bipush (v := 40) X dX9_init_5 (by decide) ?_
  refine M_new_int X hNm dX9_init_7 dX9_init_9 fp_X9_7 h0 (by decide) (by decide) (fun j q1 q2 => by rcases (show j = 0 ∨ j = 1 by omega) with rfl | rfl <;> rfl) rfl (by decide) (by decide) (by decide) ?_ ?_ (fun I3 h3 => ?_)
  · dsimp only [rmm]; omega
  · dsimp only [rmm]; omega
  refine V_aload_n X dX9_init_12 rfl rfl ?_
  refine V_bipush (v := 40) X dX9_init_13 (by decide) ?_
  refine M_new_long X hNm dX9_init_15 dX9_init_17 fp_X9_13 h3 (by decide) (by decide) (fun j q1 q2 => absurd q1 (by omega)) rfl (by decide) (by decide) (by decide) ?_ ?_ (fun I4 h4 => ?_)
  · dsimp only [rmm]; omega
  · dsimp only [rmm]; omega
  refine V_aload_n X dX9_init_20 rfl rfl ?_
  refine V_bipush (v := 100) X dX9_init_21 (by decide) ?_
  refine M_new_int X hNm dX9_init_23 dX9_init_25 fp_X9_17 h4 (by decide) (by decide) (fun j q1 q2 => by rcases (show j = 4 by omega) with rfl <;> rfl) rfl (by decide) (by decide) (by decide) ?_ ?_ (fun I6 h6 => ?_)
  · dsimp only [rmm]; omega
  · dsimp only [rmm]; omega
  refine V_aload_n X dX9_init_28 rfl rfl ?_
  refine V_bipush (v := 100) X dX9_init_29 (by decide) ?_
  refine M_new_int X hNm dX9_init_31 dX9_init_33 fp_X9_20 h6 (by decide) (by decide) (fun j q1 q2 => absurd q1 (by omega)) rfl (by decide) (by decide) (by decide) ?_ ?_ (fun I7 h7 => ?_)
  · dsimp only [rmm]; omega
  · dsimp only [rmm]; omega
  refine V_aload_n X dX9_init_36 rfl rfl ?_
  refine V_bipush (v := 100) X dX9_init_37 (by decide) ?_
  refine M_new_int X hNm dX9_init_39 dX9_init_41 fp_X9_23 h7 (by decide) (by decide) (fun j q1 q2 => absurd q1 (by omega)) rfl (by decide) (by decide) (by decide) ?_ ?_ (fun I8 h8 => ?_)
  · dsimp only [rmm]; omega
  · dsimp only [rmm]; omega
  refine V_aload_n X dX9_init_44 rfl rfl ?_
  refine V_bipush (v := 12) X dX9_init_45 (by decide) ?_
  refine M_new_int X hNm dX9_init_47 dX9_init_49 fp_X9_26 h8 (by decide) (by decide) (fun j q1 q2 => by rcases (show j = 8 by omega) with rfl <;> rfl) rfl (by decide) (by decide) (by decide) ?_ ?_ (fun I10 h10 => ?_)
  · dsimp only [rmm]; omega
  · dsimp only [rmm]; omega
  refine V_aload_n X dX9_init_52 rfl rfl ?_
  refine V_bipush (v := 12) X dX9_init_53 (by decide) ?_
  refine M_new_int X hNm dX9_init_55 dX9_init_57 fp_X9_29 h10 (by decide) (by decide) (fun j q1 q2 => absurd q1 (by omega)) rfl (by decide) (by decide) (by decide) ?_ ?_ (fun I11 h11 => ?_)
  · dsimp only [rmm]; omega
  · dsimp only [rmm]; omega
  refine V_aload_n X dX9_init_60 rfl rfl ?_
  refine V_bipush (v := 12) X dX9_init_61 (by decide) ?_
  refine M_new_int X hNm dX9_init_63 dX9_init_65 fp_X9_32 h11 (by decide) (by decide) (fun j q1 q2 => absurd q1 (by omega)) rfl (by decide) (by decide) (by decide) ?_ ?_ (fun I12 h12 => ?_)
  · dsimp only [rmm]; omega
  · dsimp only [rmm]; omega
  refine V_aload_n X dX9_init_68 rfl rfl ?_
  refine V_bipush (v := 12) X dX9_init_69 (by decide) ?_
  refine M_new_int X hNm dX9_init_71 dX9_init_73 fp_X9_35 h12 (by decide) (by decide) (fun j q1 q2 => absurd q1 (by omega)) rfl (by decide) (by decide) (by decide) ?_ ?_ (fun I13 h13 => ?_)
  · dsimp only [rmm]; omega
  · dsimp only [rmm]; omega
  refine V_aload_n X dX9_init_76 rfl rfl ?_
  refine V_bipush (v := 12) X dX9_init_77 (by decide) ?_
  refine M_new_int X hNm dX9_init_79 dX9_init_81 fp_X9_38 h13 (by decide) (by decide) (fun j q1 q2 => absurd q1 (by omega)) rfl (by decide) (by decide) (by decide) ?_ ?_ (fun I14 h14 => ?_)
  · dsimp only [rmm]; omega
  · dsimp only [rmm]; omega
  refine V_aload_n X dX9_init_84 rfl rfl ?_
  refine V_sipush (v := 14400) X dX9_init_85 (by decide) ?_
  refine M_new_int X hNm dX9_init_88 dX9_init_90 fp_X9_41 h14 (by decide) (by decide) (fun j q1 q2 => absurd q1 (by omega)) rfl (by decide) (by decide) (by decide) ?_ ?_ (fun I15 h15 => ?_)
  · dsimp only [rmm]; omega
  · dsimp only [rmm]; omega
  refine V_aload_n X dX9_init_93 rfl rfl ?_
  refine V_bipush (v := 20) X dX9_init_94 (by decide) ?_
  refine M_new_boolean X hNm dX9_init_96 dX9_init_98 fp_X9_44 h15 (by decide) (by decide) (fun j q1 q2 => by rcases (show j = 15 by omega) with rfl <;> rfl) rfl (by decide) (by decide) (by decide) ?_ ?_ (fun I17 h17 => ?_)
  · dsimp only [rmm]; omega
  · dsimp only [rmm]; omega
  refine V_aload_n X dX9_init_101 rfl rfl ?_
  refine V_bipush (v := 20) X dX9_init_102 (by decide) ?_
  refine M_new_int X hNm dX9_init_104 dX9_init_106 fp_X9_48 h17 (by decide) (by decide) (fun j q1 q2 => absurd q1 (by omega)) rfl (by decide) (by decide) (by decide) ?_ ?_ (fun I18 h18 => ?_)
  · dsimp only [rmm]; omega
  · dsimp only [rmm]; omega
  refine V_aload_n X dX9_init_109 rfl rfl ?_
  refine V_bipush (v := 20) X dX9_init_110 (by decide) ?_
  refine M_new_int X hNm dX9_init_112 dX9_init_114 fp_X9_51 h18 (by decide) (by decide) (fun j q1 q2 => absurd q1 (by omega)) rfl (by decide) (by decide) (by decide) ?_ ?_ (fun I19 h19 => ?_)
  · dsimp only [rmm]; omega
  · dsimp only [rmm]; omega
  refine V_aload_n X dX9_init_117 rfl rfl ?_
  refine V_bipush (v := 20) X dX9_init_118 (by decide) ?_
  refine M_new_int X hNm dX9_init_120 dX9_init_122 fp_X9_54 h19 (by decide) (by decide) (fun j q1 q2 => absurd q1 (by omega)) rfl (by decide) (by decide) (by decide) ?_ ?_ (fun I20 h20 => ?_)
  · dsimp only [rmm]; omega
  · dsimp only [rmm]; omega
  refine V_aload_n X dX9_init_125 rfl rfl ?_
  refine V_bipush (v := 20) X dX9_init_126 (by decide) ?_
  refine M_new_int X hNm dX9_init_128 dX9_init_130 fp_X9_57 h20 (by decide) (by decide) (fun j q1 q2 => absurd q1 (by omega)) rfl (by decide) (by decide) (by decide) ?_ ?_ (fun I21 h21 => ?_)
  · dsimp only [rmm]; omega
  · dsimp only [rmm]; omega
  refine V_aload_n X dX9_init_133 rfl rfl ?_
  refine V_bipush (v := 20) X dX9_init_134 (by decide) ?_
  refine M_new_int X hNm dX9_init_136 dX9_init_138 fp_X9_60 h21 (by decide) (by decide) (fun j q1 q2 => absurd q1 (by omega)) rfl (by decide) (by decide) (by decide) ?_ ?_ (fun I22 h22 => ?_)
  · dsimp only [rmm]; omega
  · dsimp only [rmm]; omega
  refine V_aload_n X dX9_init_141 rfl rfl ?_
  refine V_bipush (v := 20) X dX9_init_142 (by decide) ?_
  refine M_new_int X hNm dX9_init_144 dX9_init_146 fp_X9_63 h22 (by decide) (by decide) (fun j q1 q2 => absurd q1 (by omega)) rfl (by decide) (by decide) (by decide) ?_ ?_ (fun I23 h23 => ?_)
  · dsimp only [rmm]; omega
  · dsimp only [rmm]; omega
  refine V_aload_n X dX9_init_149 rfl rfl ?_
  refine V_bipush (v := 20) X dX9_init_150 (by decide) ?_
  refine M_new_boolean X hNm dX9_init_152 dX9_init_154 fp_X9_66 h23 (by decide) (by decide) (fun j q1 q2 => absurd q1 (by omega)) rfl (by decide) (by decide) (by decide) ?_ ?_ (fun I24 h24 => ?_)
  · dsimp only [rmm]; omega
  · dsimp only [rmm]; omega
  refine V_aload_n X dX9_init_157 rfl rfl ?_
  refine V_bipush (v := 20) X dX9_init_158 (by decide) ?_
  refine M_new_int X hNm dX9_init_160 dX9_init_162 fp_X9_69 h24 (by decide) (by decide) (fun j q1 q2 => absurd q1 (by omega)) rfl (by decide) (by decide) (by decide) ?_ ?_ (fun I25 h25 => ?_)
  · dsimp only [rmm]; omega
  · dsimp only [rmm]; omega
  refine V_aload_n X dX9_init_165 rfl rfl ?_
  refine V_bipush (v := 20) X dX9_init_166 (by decide) ?_
  refine M_new_int X hNm dX9_init_168 dX9_init_170 fp_X9_72 h25 (by decide) (by decide) (fun j q1 q2 => absurd q1 (by omega)) rfl (by decide) (by decide) (by decide) ?_ ?_ (fun I26 h26 => ?_)
  · dsimp only [rmm]; omega
  · dsimp only [rmm]; omega
  refine V_aload_n X dX9_init_173 rfl rfl ?_
  refine V_bipush (v := 20) X dX9_init_174 (by decide) ?_
  refine M_new_int X hNm dX9_init_176 dX9_init_178 fp_X9_75 h26 (by decide) (by decide) (fun j q1 q2 => absurd q1 (by omega)) rfl (by decide) (by decide) (by decide) ?_ ?_ (fun I27 h27 => ?_)
  · dsimp only [rmm]; omega
  · dsimp only [rmm]; omega
  refine V_aload_n X dX9_init_181 rfl rfl ?_
  refine V_bipush (v := 20) X dX9_init_182 (by decide) ?_
  refine M_new_boolean X hNm dX9_init_184 dX9_init_186 fp_X9_78 h27 (by decide) (by decide) (fun j q1 q2 => absurd q1 (by omega)) rfl (by decide) (by decide) (by decide) ?_ ?_ (fun I28 h28 => ?_)
  · dsimp only [rmm]; omega
  · dsimp only [rmm]; omega
  refine V_aload_n X dX9_init_189 rfl rfl ?_
  refine V_bipush (v := 20) X dX9_init_190 (by decide) ?_
  refine M_new_boolean X hNm dX9_init_192 dX9_init_194 fp_X9_81 h28 (by decide) (by decide) (fun j q1 q2 => absurd q1 (by omega)) rfl (by decide) (by decide) (by decide) ?_ ?_ (fun I29 h29 => ?_)
  · dsimp only [rmm]; omega
  · dsimp only [rmm]; omega
  refine V_aload_n X dX9_init_197 rfl rfl ?_
  refine V_bipush (v := 20) X dX9_init_198 (by decide) ?_
  refine M_new_int X hNm dX9_init_200 dX9_init_202 fp_X9_84 h29 (by decide) (by decide) (fun j q1 q2 => absurd q1 (by omega)) rfl (by decide) (by decide) (by decide) ?_ ?_ (fun I30 h30 => ?_)
  · dsimp only [rmm]; omega
  · dsimp only [rmm]; omega
  refine V_aload_n X dX9_init_205 rfl rfl ?_
  refine V_bipush (v := 20) X dX9_init_206 (by decide) ?_
  refine M_new_boolean X hNm dX9_init_208 dX9_init_210 fp_X9_87 h30 (by decide) (by decide) (fun j q1 q2 => by rcases (show j = 30 by omega) with rfl <;> rfl) rfl (by decide) (by decide) (by decide) ?_ ?_ (fun I32 h32 => ?_)
  · dsimp only [rmm]; omega
  · dsimp only [rmm]; omega
  refine V_aload_n X dX9_init_213 rfl rfl ?_
  refine V_bipush (v := 60) X dX9_init_214 (by decide) ?_
  refine M_new_boolean X hNm dX9_init_216 dX9_init_218 fp_X9_90 h32 (by decide) (by decide) (fun j q1 q2 => by rcases (show j = 32 by omega) with rfl <;> rfl) rfl (by decide) (by decide) (by decide) ?_ ?_ (fun I34 h34 => ?_)
  · dsimp only [rmm]; omega
  · dsimp only [rmm]; omega
  refine V_aload_n X dX9_init_221 rfl rfl ?_
  refine V_bipush (v := 60) X dX9_init_222 (by decide) ?_
  refine M_new_int X hNm dX9_init_224 dX9_init_226 fp_X9_93 h34 (by decide) (by decide) (fun j q1 q2 => absurd q1 (by omega)) rfl (by decide) (by decide) (by decide) ?_ ?_ (fun I35 h35 => ?_)
  · dsimp only [rmm]; omega
  · dsimp only [rmm]; omega
  refine V_aload_n X dX9_init_229 rfl rfl ?_
  refine V_bipush (v := 60) X dX9_init_230 (by decide) ?_
  refine M_new_int X hNm dX9_init_232 dX9_init_234 fp_X9_96 h35 (by decide) (by decide) (fun j q1 q2 => absurd q1 (by omega)) rfl (by decide) (by decide) (by decide) ?_ ?_ (fun I36 h36 => ?_)
  · dsimp only [rmm]; omega
  · dsimp only [rmm]; omega
  refine V_aload_n X dX9_init_237 rfl rfl ?_
  refine V_bipush (v := 60) X dX9_init_238 (by decide) ?_
  refine M_new_int X hNm dX9_init_240 dX9_init_242 fp_X9_99 h36 (by decide) (by decide) (fun j q1 q2 => absurd q1 (by omega)) rfl (by decide) (by decide) (by decide) ?_ ?_ (fun I37 h37 => ?_)
  · dsimp only [rmm]; omega
  · dsimp only [rmm]; omega
  refine V_aload_n X dX9_init_245 rfl rfl ?_
  refine V_bipush (v := 60) X dX9_init_246 (by decide) ?_
  refine M_new_int X hNm dX9_init_248 dX9_init_250 fp_X9_102 h37 (by decide) (by decide) (fun j q1 q2 => absurd q1 (by omega)) rfl (by decide) (by decide) (by decide) ?_ ?_ (fun I38 h38 => ?_)
  · dsimp only [rmm]; omega
  · dsimp only [rmm]; omega
  refine V_aload_n X dX9_init_253 rfl rfl ?_
  refine V_bipush (v := 60) X dX9_init_254 (by decide) ?_
  refine M_new_int X hNm dX9_init_256 dX9_init_258 fp_X9_105 h38 (by decide) (by decide) (fun j q1 q2 => absurd q1 (by omega)) rfl (by decide) (by decide) (by decide) ?_ ?_ (fun I39 h39 => ?_)
  · dsimp only [rmm]; omega
  · dsimp only [rmm]; omega
  refine V_aload_n X dX9_init_261 rfl rfl ?_
  refine V_bipush (v := 60) X dX9_init_262 (by decide) ?_
  refine M_new_boolean X hNm dX9_init_264 dX9_init_266 fp_X9_108 h39 (by decide) (by decide) (fun j q1 q2 => absurd q1 (by omega)) rfl (by decide) (by decide) (by decide) ?_ ?_ (fun I40 h40 => ?_)
  · dsimp only [rmm]; omega
  · dsimp only [rmm]; omega
  refine V_aload_n X dX9_init_269 rfl rfl ?_
  refine V_bipush (v := 60) X dX9_init_270 (by decide) ?_
  refine M_new_int X hNm dX9_init_272 dX9_init_274 fp_X9_111 h40 (by decide) (by decide) (fun j q1 q2 => absurd q1 (by omega)) rfl (by decide) (by decide) (by decide) ?_ ?_ (fun I41 h41 => ?_)
  · dsimp only [rmm]; omega
  · dsimp only [rmm]; omega
  refine V_aload_n X dX9_init_277 rfl rfl ?_
  refine V_bipush (v := 60) X dX9_init_278 (by decide) ?_
  refine M_new_long X hNm dX9_init_280 dX9_init_282 fp_X9_114 h41 (by decide) (by decide) (fun j q1 q2 => absurd q1 (by omega)) rfl (by decide) (by decide) (by decide) ?_ ?_ (fun I42 h42 => ?_)
  · dsimp only [rmm]; omega
  · dsimp only [rmm]; omega
  refine V_aload_n X dX9_init_285 rfl rfl ?_
  refine V_bipush (v := 60) X dX9_init_286 (by decide) ?_
  refine M_new_boolean X hNm dX9_init_288 dX9_init_290 fp_X9_117 h42 (by decide) (by decide) (fun j q1 q2 => absurd q1 (by omega)) rfl (by decide) (by decide) (by decide) ?_ ?_ (fun I43 h43 => ?_)
  · dsimp only [rmm]; omega
  · dsimp only [rmm]; omega
  refine V_aload_n X dX9_init_293 rfl rfl ?_
  refine V_bipush (v := 60) X dX9_init_294 (by decide) ?_
  refine M_new_long X hNm dX9_init_296 dX9_init_298 fp_X9_120 h43 (by decide) (by decide) (fun j q1 q2 => absurd q1 (by omega)) rfl (by decide) (by decide) (by decide) ?_ ?_ (fun I44 h44 => ?_)
  · dsimp only [rmm]; omega
  · dsimp only [rmm]; omega
  refine V_aload_n X dX9_init_301 rfl rfl ?_
  refine V_bipush (v := 60) X dX9_init_302 (by decide) ?_
  refine M_new_int X hNm dX9_init_304 dX9_init_306 fp_X9_123 h44 (by decide) (by decide) (fun j q1 q2 => absurd q1 (by omega)) rfl (by decide) (by decide) (by decide) ?_ ?_ (fun I45 h45 => ?_)
  · dsimp only [rmm]; omega
  · dsimp only [rmm]; omega
  refine V_aload_n X dX9_init_309 rfl rfl ?_
  refine V_sipush (v := 480) X dX9_init_310 (by decide) ?_
  refine M_new_long X hNm dX9_init_313 dX9_init_315 fp_X9_126 h45 (by decide) (by decide) (fun j q1 q2 => absurd q1 (by omega)) rfl (by decide) (by decide) (by decide) ?_ ?_ (fun I46 h46 => ?_)
  · dsimp only [rmm]; omega
  · dsimp only [rmm]; omega
  refine V_aload_n X dX9_init_318 rfl rfl ?_
  refine V_sipush (v := 480) X dX9_init_319 (by decide) ?_
  refine M_new_int X hNm dX9_init_322 dX9_init_324 fp_X9_129 h46 (by decide) (by decide) (fun j q1 q2 => absurd q1 (by omega)) rfl (by decide) (by decide) (by decide) ?_ ?_ (fun I47 h47 => ?_)
  · dsimp only [rmm]; omega
  · dsimp only [rmm]; omega
  refine V_aload_n X dX9_init_327 rfl rfl ?_
  refine V_sipush (v := 480) X dX9_init_328 (by decide) ?_
  refine M_new_int X hNm dX9_init_331 dX9_init_333 fp_X9_132 h47 (by decide) (by decide) (fun j q1 q2 => absurd q1 (by omega)) rfl (by decide) (by decide) (by decide) ?_ ?_ (fun I48 h48 => ?_)
  · dsimp only [rmm]; omega
  · dsimp only [rmm]; omega
  refine V_aload_n X dX9_init_336 rfl rfl ?_
  refine V_sipush (v := 900) X dX9_init_337 (by decide) ?_
  refine M_new_int X hNm dX9_init_340 dX9_init_342 fp_X9_135 h48 (by decide) (by decide) (fun j q1 q2 => by rcases (show j = 48 by omega) with rfl <;> rfl) rfl (by decide) (by decide) (by decide) ?_ ?_ (fun I50 h50 => ?_)
  · dsimp only [rmm]; omega
  · dsimp only [rmm]; omega
  refine V_aload_n X dX9_init_345 rfl rfl ?_
  refine V_sipush (v := 900) X dX9_init_346 (by decide) ?_
  refine M_new_int X hNm dX9_init_349 dX9_init_351 fp_X9_138 h50 (by decide) (by decide) (fun j q1 q2 => absurd q1 (by omega)) rfl (by decide) (by decide) (by decide) ?_ ?_ (fun I51 h51 => ?_)
  · dsimp only [rmm]; omega
  · dsimp only [rmm]; omega
  refine V_aload_n X dX9_init_354 rfl rfl ?_
  refine V_sipush (v := 900) X dX9_init_355 (by decide) ?_
  refine M_new_int X hNm dX9_init_358 dX9_init_360 fp_X9_141 h51 (by decide) (by decide) (fun j q1 q2 => absurd q1 (by omega)) rfl (by decide) (by decide) (by decide) ?_ ?_ (fun I52 h52 => ?_)
  · dsimp only [rmm]; omega
  · dsimp only [rmm]; omega
  refine V_aload_n X dX9_init_363 rfl rfl ?_
  refine V_sipush (v := 900) X dX9_init_364 (by decide) ?_
  refine M_new_boolean X hNm dX9_init_367 dX9_init_369 fp_X9_144 h52 (by decide) (by decide) (fun j q1 q2 => absurd q1 (by omega)) rfl (by decide) (by decide) (by decide) ?_ ?_ (fun I53 h53 => ?_)
  · dsimp only [rmm]; omega
  · dsimp only [rmm]; omega
  refine V_aload_n X dX9_init_372 rfl rfl ?_
  refine V_sipush (v := 900) X dX9_init_373 (by decide) ?_
  refine M_new_int X hNm dX9_init_376 dX9_init_378 fp_X9_147 h53 (by decide) (by decide) (fun j q1 q2 => absurd q1 (by omega)) rfl (by decide) (by decide) (by decide) ?_ ?_ (fun I54 h54 => ?_)
  · dsimp only [rmm]; omega
  · dsimp only [rmm]; omega
  refine V_aload_n X dX9_init_381 rfl rfl ?_
  refine V_sipush (v := 900) X dX9_init_382 (by decide) ?_
  refine M_new_boolean X hNm dX9_init_385 dX9_init_387 fp_X9_150 h54 (by decide) (by decide) (fun j q1 q2 => absurd q1 (by omega)) rfl (by decide) (by decide) (by decide) ?_ ?_ (fun I55 h55 => ?_)
  · dsimp only [rmm]; omega
  · dsimp only [rmm]; omega
  refine V_aload_n X dX9_init_390 rfl rfl ?_
  refine V_ldc X dX9_init_391 kc_X9_153 ?_
  refine M_new_long X hNm dX9_init_393 dX9_init_395 fp_X9_154 h55 (by decide) (by decide) (fun j q1 q2 => absurd q1 (by omega)) rfl (by decide) (by decide) (by decide) ?_ ?_ (fun I56 h56 => ?_)
  · dsimp only [rmm]; omega
  · dsimp only [rmm]; omega
  refine V_aload_n X dX9_init_398 rfl rfl ?_
  refine V_ldc X dX9_init_399 kc_X9_153 ?_
  refine M_new_int X hNm dX9_init_401 dX9_init_403 fp_X9_157 h56 (by decide) (by decide) (fun j q1 q2 => absurd q1 (by omega)) rfl (by decide) (by decide) (by decide) ?_ ?_ (fun I57 h57 => ?_)
  · dsimp only [rmm]; omega
  · dsimp only [rmm]; omega
  refine V_aload_n X dX9_init_406 rfl rfl ?_
  refine V_ldc X dX9_init_407 kc_X9_153 ?_
  refine M_new_int X hNm dX9_init_409 dX9_init_411 fp_X9_160 h57 (by decide) (by decide) (fun j q1 q2 => absurd q1 (by omega)) rfl (by decide) (by decide) (by decide) ?_ ?_ (fun I58 h58 => ?_)
  · dsimp only [rmm]; omega
  · dsimp only [rmm]; omega
  refine V_aload_n X dX9_init_414 rfl rfl ?_
  refine V_ldc X dX9_init_415 kc_X9_153 ?_
  refine M_new_int X hNm dX9_init_417 dX9_init_419 fp_X9_163 h58 (by decide) (by decide) (fun j q1 q2 => absurd q1 (by omega)) rfl (by decide) (by decide) (by decide) ?_ ?_ (fun I59 h59 => ?_)
  · dsimp only [rmm]; omega
  · dsimp only [rmm]; omega
  refine V_aload_n X dX9_init_422 rfl rfl ?_
  refine V_bipush (v := 10) X dX9_init_423 (by decide) ?_
  refine M_new_int X hNm dX9_init_425 dX9_init_427 fp_X9_166 h59 (by decide) (by decide) (fun j q1 q2 => by rcases (show j = 59 ∨ j = 60 by omega) with rfl | rfl <;> rfl) rfl (by decide) (by decide) (by decide) ?_ ?_ (fun I62 h62 => ?_)
  · dsimp only [rmm]; omega
  · dsimp only [rmm]; omega
  refine V_vret X dX9_init_430 ?_ ?_ ?_
  · dsimp only [rmm]; omega
  · dsimp only [rmm]; omega
  exact ⟨rfl, h62⟩
/-- the class's constructor after j lists -/
def rtN (j : Nat) : List Value := (List.range 6).map (fun k => if k < j then Value.ref (kd 20 k 0) else .null) ++ [.null, .int 0, .long 0, .int 0, .int 0]
def IS (J I : aH) (j : Nat) : Prop := I rO = some (.inr (9, rtN j)) ∧ (∀ k, k < j → LL I 20 k []) ∧ (∀ k g, j ≤ k → I (kd 20 k g) = none ∧ I (kd 21 k g) = none) ∧ (∀ k i g, k ≠ 1 → k ≠ 20 → k ≠ 21 → I (kd k i g) = J (kd k i g)) ∧ (∀ i g, ¬ (i = 0 ∧ g = 0) → I (kd 1 i g) = none) ∧ I zed = some (.inl (3, aR 0 (fun _ => none)))
theorem IS.step {J I I' : aH} {j : Nat} {o : aO} (h : IS J I j) (L : LL I' 20 j []) (F : Fr 20 j (hu I (kd 20 j 0) o) I') (e : (rtN j).set j (.ref (kd 20 j 0)) = rtN (j + 1)) : IS J (hu I' rO (.inr (9, (rtN j).set j (.ref (kd 20 j 0))))) (j + 1) := by
  obtain ⟨a1, a2, a3, a4, a5, a6⟩ := h
  have hk : ∀ k i g, k ≠ 20 → k ≠ 21 → I' (kd k i g) = I (kd k i g) := fun k i g q1 q2 => (F _ (kd_nk q1) (fun _ => kd_nk q2)).trans (hu_n (kd_nk q1))
  have hi : ∀ k g, k ≠ j → I' (kd 20 k g) = I (kd 20 k g) ∧ I' (kd 21 k g) = I (kd 21 k g) := fun k g q => ⟨(F _ (kd_ni q) (fun _ => kd_nk (by decide))).trans (hu_n (kd_ni q)), (F _ (kd_nk (by decide)) (fun _ => kd_ni q)).trans (hu_n (kd_nk (by decide)))⟩
  refine ⟨by rw [hu_s, e], fun k q => ?_, fun k g q => ?_, fun k i g q1 q2 q3 => ?_, fun i g q => ?_, ?_⟩
  · have h2 : LL I' 20 k [] := by
      by_cases ek : k = j
      · rw [ek]; exact L
      · exact LL.off (a2 k (by omega)) (hi k 0 ek).1 (fun g => (hi k g ek).2) (hk 0 0 0 (by decide) (by decide))
    exact LL.off h2 (hu_n (ne_rO (by decide))) (fun g => hu_n (ne_rO (by decide))) (hu_n (ne_rO (by decide)))
  · rw [hu_n (ne_rO (k := 20) (by decide)), hu_n (ne_rO (k := 21) (by decide)), (hi k g (by omega)).1, (hi k g (by omega)).2]
    exact a3 k g (by omega)
  · rw [hu_n (ne_rO q1), hk k i g q2 q3]
    exact a4 k i g q1 q2 q3
  · rw [hu_n (show kd 1 i g ≠ rO from kd_ne (fun z => q z.2)), hk 1 i g (by decide) (by decide)]
    exact a5 i g q
  · show hu _ _ _ (kd 0 0 0) = _
    rw [hu_n (ne_rO (k := 0) (by decide)), hk 0 0 0 (by decide) (by decide)]
    exact a6
/-- the class in state S lies in the heap -/
def BH (S : St) (I : aH) : Prop := ∃ Q J, I = ovc S J ∧ RJ S Q J
def KE (I I' : aH) : Prop := ∀ k i g, (k = 0 ∨ 30 ≤ k) → I' (kd k i g) = I (kd k i g)
theorem ob0_2 (i : Nat) : ob S0 2 i = none := by
  show (if i < nn (S0.1 1 0) then some (.inr (4, nodeO S0 i)) else none) = none
  exact if_neg (Nat.not_lt_zero i)
theorem ob0_3 (i : Nat) : ob S0 3 i = none := by
  show (if i < nn (S0.1 4 0) then some (.inr (6, refO S0 i)) else none) = none
  exact if_neg (Nat.not_lt_zero i)
theorem ob0_4 (i : Nat) : ob S0 4 i = none := by
  show (if i < nn (S0.1 8 0) then some (.inr (7, sesO S0 i)) else none) = none
  exact if_neg (Nat.not_lt_zero i)
theorem ob0_5 (i : Nat) : ob S0 5 i = none := by
  show (if i < nn (S0.1 15 0) then some (.inr (8, subO S0 i)) else none) = none
  exact if_neg (Nat.not_lt_zero i)
theorem ob0_6 (i : Nat) : ob S0 6 i = none := by
  show (if i < nn (S0.1 32 0) then some (.inr (2, itO S0 i)) else none) = none
  exact if_neg (Nat.not_lt_zero i)
theorem ob0_7 (i : Nat) : ob S0 7 i = none := by
  show (if i < nn (S0.1 32 0) then some (.inr (5, quO S0 i)) else none) = none
  exact if_neg (Nat.not_lt_zero i)
theorem ob0_8 (i : Nat) : ob S0 8 i = none := by
  show (if i < nn (S0.1 48 0) then some (.inr (3, msO S0 i)) else if i = nn (S0.1 48 0) ∧ ¬ S0.1 70 0 = 0 then some (.inr (3, msZ)) else none : Option aO) = none
  rw [if_neg (show ¬ i < nn (S0.1 48 0) from Nat.not_lt_zero i), if_neg (fun q => q.2 rfl)]
theorem ls0_22 (i : Nat) : lsL S0 (fun _ => []) 22 i = none := by
  show (if i < nn (S0.1 8 0) then some (mlL S0 i) else none) = none
  exact if_neg (Nat.not_lt_zero i)
theorem ls0_24 (i : Nat) : lsL S0 (fun _ => []) 24 i = none := by
  show (if i < nn (S0.1 15 0) then some (itL S0 i) else none) = none
  exact if_neg (Nat.not_lt_zero i)
theorem ls0_26 (i : Nat) : lsL S0 (fun _ => []) 26 i = none := by
  show (if i < nn (S0.1 15 0) then some (kpL S0 i) else none) = none
  exact if_neg (Nat.not_lt_zero i)
theorem ls0_28 (i : Nat) : lsL S0 (fun _ => []) 28 i = none := by
  show (if i < nn (S0.1 32 0) then some (quL (fun _ => []) i) else none) = none
  exact if_neg (Nat.not_lt_zero i)
theorem IS.bh {J I I' : aH} (h : IS J I 6) (hJ : ∀ k i g, 1 ≤ k → k ≤ 29 → ¬ (k = 1 ∧ i = 0 ∧ g = 0) → J (kd k i g) = none) (e : ∀ k i g, k ≠ 1 → k ≠ 11 → I' (kd k i g) = I (kd k i g)) (e1 : ∀ i g, ¬ (i = 0 ∧ g = 0) → I' (kd 1 i g) = none) (e2 : I' rO = some (.inr (9, rootO S0))) (e3 : ∀ i g, I' (kd 11 i g) = if i = 0 ∧ g = 0 then some (.inl (0, aI 10 (fun _ => 0))) else none) : BH S0 I' := by
  obtain ⟨a1, a2, a3, a4, a5, a6⟩ := h
  have z0 : nn 0 = 0 := rfl
  have hn : ∀ k i g, k ≠ 1 → k ≠ 11 → k ≠ 20 → k ≠ 21 → 1 ≤ k → k ≤ 29 → I' (kd k i g) = none := fun k i g q1 q2 q3 q4 q5 q6 => by
    rw [e k i g q1 q2, a4 k i g q1 q3 q4]
    exact hJ k i g q5 q6 (fun z => q1 z.1)
  have hl : ∀ k, k < 6 → LL I' 20 k [] := fun k hk => LL.off (a2 k hk) (e _ _ _ (by decide) (by decide)) (fun g => e _ _ _ (by decide) (by decide)) (e 0 0 0 (by decide) (by decide))
  refine ⟨fun _ => [], I', ovc_self (fun k i hk => ?_), ⟨fun k i hk => ?_, ?_⟩⟩
  · rcases kO_c hk with rfl | rfl | rfl | rfl | rfl | rfl | rfl | rfl | rfl
    · show _ = if i = 0 then _ else none
      by_cases hi : i = 0
      · rw [if_pos hi, hi]
        exact e2
      · rw [if_neg hi]
        exact e1 i 0 (fun q => hi q.1)
    · exact (hn _ _ _ (by decide) (by decide) (by decide) (by decide) (by decide) (by decide)).trans (ob0_2 i).symm
    · exact (hn _ _ _ (by decide) (by decide) (by decide) (by decide) (by decide) (by decide)).trans (ob0_3 i).symm
    · exact (hn _ _ _ (by decide) (by decide) (by decide) (by decide) (by decide) (by decide)).trans (ob0_4 i).symm
    · exact (hn _ _ _ (by decide) (by decide) (by decide) (by decide) (by decide) (by decide)).trans (ob0_5 i).symm
    · exact (hn _ _ _ (by decide) (by decide) (by decide) (by decide) (by decide) (by decide)).trans (ob0_6 i).symm
    · exact (hn _ _ _ (by decide) (by decide) (by decide) (by decide) (by decide) (by decide)).trans (ob0_7 i).symm
    · exact (hn _ _ _ (by decide) (by decide) (by decide) (by decide) (by decide) (by decide)).trans (ob0_8 i).symm
    · rw [e3]
      show _ = if i = 0 then _ else none
      by_cases hi : i = 0
      · rw [if_pos hi, if_pos ⟨hi, rfl⟩]
        rfl
      · rw [if_neg hi, if_neg (fun q => hi q.1)]
  · have a := lk_c hk
    rcases a with rfl | rfl | rfl | rfl | rfl
    · match i with
      | 0 => exact hl 0 (by decide)
      | 1 => exact hl 1 (by decide)
      | 2 => exact hl 2 (by decide)
      | 3 => exact hl 3 (by decide)
      | 4 => exact hl 4 (by decide)
      | 5 => exact hl 5 (by decide)
      | i + 6 =>
        intro g
        rw [e 20 _ _ (by decide) (by decide), e 21 _ _ (by decide) (by decide)]
        exact a3 _ g (by omega)
    · rw [ls0_22 i]
      exact fun g => ⟨hn _ _ _ (by decide) (by decide) (by decide) (by decide) (by decide) (by decide), hn _ _ _ (by decide) (by decide) (by decide) (by decide) (by decide) (by decide)⟩
    · rw [ls0_24 i]
      exact fun g => ⟨hn _ _ _ (by decide) (by decide) (by decide) (by decide) (by decide) (by decide), hn _ _ _ (by decide) (by decide) (by decide) (by decide) (by decide) (by decide)⟩
    · rw [ls0_26 i]
      exact fun g => ⟨hn _ _ _ (by decide) (by decide) (by decide) (by decide) (by decide) (by decide), hn _ _ _ (by decide) (by decide) (by decide) (by decide) (by decide) (by decide)⟩
    · rw [ls0_28 i]
      exact fun g => ⟨hn _ _ _ (by decide) (by decide) (by decide) (by decide) (by decide) (by decide), hn _ _ _ (by decide) (by decide) (by decide) (by decide) (by decide) (by decide)⟩
  · refine ⟨fun i hi => absurd hi (by rw [show S0.1 32 0 = (0 : Int32) from rfl, z0]; omega), fun _ _ => rfl, fun i => ⟨0, fun g _ => hn _ _ _ (by decide) (by decide) (by decide) (by decide) (by decide) (by decide), fun g hg => by cases hg⟩, fun m hm => absurd hm (by rw [show S0.1 48 0 = (0 : Int32) from rfl, z0]; omega), fun m _ => hn _ _ _ (by decide) (by decide) (by decide) (by decide) (by decide) (by decide), ?_⟩
    exact (e 0 0 0 (by decide) (by decide)).trans a6
theorem IS.bh2 {J I : aH} {o1 o2 o3 o4 : aO} (h6 : IS J I 6) (hJ : ∀ k i g, 1 ≤ k → k ≤ 29 → ¬ (k = 1 ∧ i = 0 ∧ g = 0) → J (kd k i g) = none) : BH S0 (hu (hu (hu (hu (hu (hu I (kd 11 0 0) (.inl (0, aI 10 fun _ => 0))) rO o1) rO o2) rO o3) rO o4) rO (.inr (9, rootO S0))) ∧ KE J (hu (hu (hu (hu (hu (hu I (kd 11 0 0) (.inl (0, aI 10 fun _ => 0))) rO o1) rO o2) rO o3) rO o4) rO (.inr (9, rootO S0))) := by
  have e0 : ∀ α, α ≠ rO → hu (hu (hu (hu (hu (hu I (kd 11 0 0) (.inl (0, aI 10 fun _ => 0))) rO o1) rO o2) rO o3) rO o4) rO (.inr (9, rootO S0)) α = hu I (kd 11 0 0) (.inl (0, aI 10 fun _ => 0)) α := fun α q => by
    rw [hu_n q, hu_n q, hu_n q, hu_n q, hu_n q]
  have e : ∀ k i g, k ≠ 1 → k ≠ 11 → hu (hu (hu (hu (hu (hu I (kd 11 0 0) (.inl (0, aI 10 fun _ => 0))) rO o1) rO o2) rO o3) rO o4) rO (.inr (9, rootO S0)) (kd k i g) = I (kd k i g) := fun k i g q1 q2 => (e0 _ (ne_rO q1)).trans (hu_n (kd_nk q2))
  refine ⟨h6.bh hJ e (fun i g q => ?_) hu_s (fun i g => ?_), fun k i g q => ?_⟩
  · exact (e0 _ (kd_ne fun w => q w.2)).trans ((hu_n (kd_nk (by decide))).trans (h6.2.2.2.2.1 i g q))
  · rw [e0 _ (ne_rO (by decide))]
    by_cases hz : i = 0 ∧ g = 0
    · rw [if_pos hz, hz.1, hz.2, hu_s]
    · rw [if_neg hz, hu_n (kd_ne fun w => hz w.2)]
      exact (h6.2.2.2.1 11 i g (by decide) (by decide) (by decide)).trans (hJ _ _ _ (by decide) (by decide) (fun w => absurd w.1 (by decide)))
  · exact (e k i g (by omega) (by omega)).trans (h6.2.2.2.1 k i g (by omega) (by omega) (by omega))
set_option maxRecDepth 100000 in
set_option maxHeartbeats 4000000 in
theorem c_X8_init (l : Launch) {I : aH} (h0 : IS I I 0) (hJ : ∀ k i g, 1 ≤ k → k ≤ 29 → ¬ (k = 1 ∧ i = 0 ∧ g = 0) → I (kd k i g) = none) : AM l yX8_init cX8_init 1 none (rmm 4 7 28 80) [.ref rO] I (fun r I' => r = none ∧ BH S0 I' ∧ KE I I') := by
  refine AM_of RX8 (by decide) rfl [some (.ref rO)] rfl (Nat.le_of_ble_eq_true rfl) (fun Z X hNm => ?_)
  refine V_aload_n X dX8_init_0 rfl rfl ?_
  refine V_objInit X dX8_init_1 ol_X8_1 ob_i ob_c (Nat.le_of_ble_eq_true rfl) (Nat.le_of_ble_eq_true rfl) ?_
  refine V_aload_n X dX8_init_4 rfl rfl ?_
  refine V_new X dX8_init_5 nk_X8_7 (kd 20 0 0) (h0.2.2.1 0 0 (Nat.le_refl _)).1 (kd_nk (by decide)) (ro_k (by decide)) ?_ ?_ ?_
  · dsimp only [rmm]; omega
  · dsimp only [rmm]; omega
  refine V_dup X dX8_init_8 rfl ?_
  refine V_callI0 X dX8_init_9 mk_X8_9 ii_Jx4a65c_init_da8c8 (c_lInit l (by decide) hu_s ((hu_n (kd_nk (by decide))).trans h0.2.2.2.2.2) (fun g => (hu_n (kd_nk (by decide))).trans (h0.2.2.1 0 g (Nat.le_refl _)).2)) (Nat.le_of_ble_eq_true rfl) ⟨Nat.le_of_ble_eq_true rfl, Nat.le_of_ble_eq_true rfl⟩ ?_ ?_
  · exact ⟨by dsimp only [rmm]; omega, by dsimp only [rmm]; omega⟩
  rintro r I1 ⟨rfl, L0, F0⟩
  refine V_putF X hNm dX8_init_12 fp_X8_10 ((F0 _ (kd_nk (by decide)) (fun _ => kd_nk (by decide))).trans ((hu_n (kd_nk (by decide))).trans h0.1)) (ro_k (by decide)) (Nat.le_of_ble_eq_true rfl) rfl rfl ?_
  have h1 := h0.step L0 F0 rfl
  generalize hu I1 rO _ = I1x at h1 ⊢
  refine V_aload_n X dX8_init_15 rfl rfl ?_
  refine V_new X dX8_init_16 nk_X8_7 (kd 20 1 0) (h1.2.2.1 1 0 (Nat.le_refl _)).1 (kd_nk (by decide)) (ro_k (by decide)) ?_ ?_ ?_
  · dsimp only [rmm]; omega
  · dsimp only [rmm]; omega
  refine V_dup X dX8_init_19 rfl ?_
  refine V_callI0 X dX8_init_20 mk_X8_9 ii_Jx4a65c_init_da8c8 (c_lInit l (by decide) hu_s ((hu_n (kd_nk (by decide))).trans h1.2.2.2.2.2) (fun g => (hu_n (kd_nk (by decide))).trans (h1.2.2.1 1 g (Nat.le_refl _)).2)) (Nat.le_of_ble_eq_true rfl) ⟨Nat.le_of_ble_eq_true rfl, Nat.le_of_ble_eq_true rfl⟩ ?_ ?_
  · exact ⟨by dsimp only [rmm]; omega, by dsimp only [rmm]; omega⟩
  rintro r I2 ⟨rfl, L1, F1⟩
  refine V_putF X hNm dX8_init_23 fp_X8_16 ((F1 _ (kd_nk (by decide)) (fun _ => kd_nk (by decide))).trans ((hu_n (kd_nk (by decide))).trans h1.1)) (ro_k (by decide)) (Nat.le_of_ble_eq_true rfl) rfl rfl ?_
  have h2 := h1.step L1 F1 rfl
  generalize hu I2 rO _ = I2x at h2 ⊢
  refine V_aload_n X dX8_init_26 rfl rfl ?_
  refine V_new X dX8_init_27 nk_X8_7 (kd 20 2 0) (h2.2.2.1 2 0 (Nat.le_refl _)).1 (kd_nk (by decide)) (ro_k (by decide)) ?_ ?_ ?_
  · dsimp only [rmm]; omega
  · dsimp only [rmm]; omega
  refine V_dup X dX8_init_30 rfl ?_
  refine V_callI0 X dX8_init_31 mk_X8_9 ii_Jx4a65c_init_da8c8 (c_lInit l (by decide) hu_s ((hu_n (kd_nk (by decide))).trans h2.2.2.2.2.2) (fun g => (hu_n (kd_nk (by decide))).trans (h2.2.2.1 2 g (Nat.le_refl _)).2)) (Nat.le_of_ble_eq_true rfl) ⟨Nat.le_of_ble_eq_true rfl, Nat.le_of_ble_eq_true rfl⟩ ?_ ?_
  · exact ⟨by dsimp only [rmm]; omega, by dsimp only [rmm]; omega⟩
  rintro r I3 ⟨rfl, L2, F2⟩
  refine V_putF X hNm dX8_init_34 fp_X8_19 ((F2 _ (kd_nk (by decide)) (fun _ => kd_nk (by decide))).trans ((hu_n (kd_nk (by decide))).trans h2.1)) (ro_k (by decide)) (Nat.le_of_ble_eq_true rfl) rfl rfl ?_
  have h3 := h2.step L2 F2 rfl
  generalize hu I3 rO _ = I3x at h3 ⊢
  refine V_aload_n X dX8_init_37 rfl rfl ?_
  refine V_new X dX8_init_38 nk_X8_7 (kd 20 3 0) (h3.2.2.1 3 0 (Nat.le_refl _)).1 (kd_nk (by decide)) (ro_k (by decide)) ?_ ?_ ?_
  · dsimp only [rmm]; omega
  · dsimp only [rmm]; omega
  refine V_dup X dX8_init_41 rfl ?_
  refine V_callI0 X dX8_init_42 mk_X8_9 ii_Jx4a65c_init_da8c8 (c_lInit l (by decide) hu_s ((hu_n (kd_nk (by decide))).trans h3.2.2.2.2.2) (fun g => (hu_n (kd_nk (by decide))).trans (h3.2.2.1 3 g (Nat.le_refl _)).2)) (Nat.le_of_ble_eq_true rfl) ⟨Nat.le_of_ble_eq_true rfl, Nat.le_of_ble_eq_true rfl⟩ ?_ ?_
  · exact ⟨by dsimp only [rmm]; omega, by dsimp only [rmm]; omega⟩
  rintro r I4 ⟨rfl, L3, F3⟩
  refine V_putF X hNm dX8_init_45 fp_X8_22 ((F3 _ (kd_nk (by decide)) (fun _ => kd_nk (by decide))).trans ((hu_n (kd_nk (by decide))).trans h3.1)) (ro_k (by decide)) (Nat.le_of_ble_eq_true rfl) rfl rfl ?_
  have h4 := h3.step L3 F3 rfl
  generalize hu I4 rO _ = I4x at h4 ⊢
  refine V_aload_n X dX8_init_48 rfl rfl ?_
  refine V_new X dX8_init_49 nk_X8_7 (kd 20 4 0) (h4.2.2.1 4 0 (Nat.le_refl _)).1 (kd_nk (by decide)) (ro_k (by decide)) ?_ ?_ ?_
  · dsimp only [rmm]; omega
  · dsimp only [rmm]; omega
  refine V_dup X dX8_init_52 rfl ?_
  refine V_callI0 X dX8_init_53 mk_X8_9 ii_Jx4a65c_init_da8c8 (c_lInit l (by decide) hu_s ((hu_n (kd_nk (by decide))).trans h4.2.2.2.2.2) (fun g => (hu_n (kd_nk (by decide))).trans (h4.2.2.1 4 g (Nat.le_refl _)).2)) (Nat.le_of_ble_eq_true rfl) ⟨Nat.le_of_ble_eq_true rfl, Nat.le_of_ble_eq_true rfl⟩ ?_ ?_
  · exact ⟨by dsimp only [rmm]; omega, by dsimp only [rmm]; omega⟩
  rintro r I5 ⟨rfl, L4, F4⟩
  refine V_putF X hNm dX8_init_56 fp_X8_25 ((F4 _ (kd_nk (by decide)) (fun _ => kd_nk (by decide))).trans ((hu_n (kd_nk (by decide))).trans h4.1)) (ro_k (by decide)) (Nat.le_of_ble_eq_true rfl) rfl rfl ?_
  have h5 := h4.step L4 F4 rfl
  generalize hu I5 rO _ = I5x at h5 ⊢
  refine V_aload_n X dX8_init_59 rfl rfl ?_
  refine V_new X dX8_init_60 nk_X8_7 (kd 20 5 0) (h5.2.2.1 5 0 (Nat.le_refl _)).1 (kd_nk (by decide)) (ro_k (by decide)) ?_ ?_ ?_
  · dsimp only [rmm]; omega
  · dsimp only [rmm]; omega
  refine V_dup X dX8_init_63 rfl ?_
  refine V_callI0 X dX8_init_64 mk_X8_9 ii_Jx4a65c_init_da8c8 (c_lInit l (by decide) hu_s ((hu_n (kd_nk (by decide))).trans h5.2.2.2.2.2) (fun g => (hu_n (kd_nk (by decide))).trans (h5.2.2.1 5 g (Nat.le_refl _)).2)) (Nat.le_of_ble_eq_true rfl) ⟨Nat.le_of_ble_eq_true rfl, Nat.le_of_ble_eq_true rfl⟩ ?_ ?_
  · exact ⟨by dsimp only [rmm]; omega, by dsimp only [rmm]; omega⟩
  rintro r I6 ⟨rfl, L5, F5⟩
  refine V_putF X hNm dX8_init_67 fp_X8_28 ((F5 _ (kd_nk (by decide)) (fun _ => kd_nk (by decide))).trans ((hu_n (kd_nk (by decide))).trans h5.1)) (ro_k (by decide)) (Nat.le_of_ble_eq_true rfl) rfl rfl ?_
  have h6 := h5.step L5 F5 rfl
  generalize hu I6 rO _ = I6x at h6 ⊢
  refine V_aload_n X dX8_init_70 rfl rfl ?_
  refine V_bipush (v := 10) X dX8_init_71 (by decide) ?_
  refine V_newarray (a0 := aI 10 (fun _ => 0)) (t := 0) (ty := .int) X dX8_init_73 10 ar_int rfl (fun _ => rfl) (fun _ q => by cases q) (fun _ => rfl) (fun _ => rfl) (fun _ => clO_i) (by decide) (by decide) (by decide) (kd 11 0 0) ((h6.2.2.2.1 11 0 0 (by decide) (by decide) (by decide)).trans (hJ _ _ _ (by decide) (by decide) (by decide))) (kd_nk (by decide)) (ro_k (by decide)) ?_ ?_ ?_
  · dsimp only [rmm]; omega
  · dsimp only [rmm]; omega
  refine V_putF X hNm dX8_init_75 fp_X8_31 ((hu_n (kd_nk (by decide))).trans h6.1) (ro_k (by decide)) (Nat.le_of_ble_eq_true rfl) rfl rfl ?_
  refine V_aload_n X dX8_init_78 rfl rfl ?_
  refine V_iconst (v := 0) X dX8_init_79 (by decide) ?_
  refine V_put X dX8_init_80 fk_X8_35 hu_s (ro_k (by decide)) (Nat.le_of_ble_eq_true rfl) rfl rfl ?_
  refine V_aload_n X dX8_init_83 rfl rfl ?_
  refine V_lconst (v := 0) X dX8_init_84 (by decide) ?_
  refine V_put X dX8_init_85 fk_X8_39 hu_s (ro_k (by decide)) (Nat.le_of_ble_eq_true rfl) rfl rfl ?_
  refine V_aload_n X dX8_init_88 rfl rfl ?_
  refine V_iconst (v := 0) X dX8_init_89 (by decide) ?_
  refine V_put X dX8_init_90 fk_X8_43 hu_s (ro_k (by decide)) (Nat.le_of_ble_eq_true rfl) rfl rfl ?_
  refine V_aload_n X dX8_init_93 rfl rfl ?_
  refine V_iconst (v := 0) X dX8_init_94 (by decide) ?_
  refine V_put X dX8_init_95 fk_X8_46 hu_s (ro_k (by decide)) (Nat.le_of_ble_eq_true rfl) rfl rfl ?_
  refine V_vret X dX8_init_98 ?_ ?_ ?_
  · dsimp only [rmm]; omega
  · dsimp only [rmm]; omega
  exact ⟨rfl, h6.bh2 hJ⟩
