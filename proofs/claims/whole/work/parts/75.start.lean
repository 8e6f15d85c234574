/-! FROM THE LAW'S ENTRY TO THE CLAIM -/
theorem tA {w : Cond} (h : w ∈ tables_1) : w ∈ lw_tbl := List.mem_append_right _ h
theorem tA1 {w : Cond} (i : Nat) (h : tables_1_1[i]? = some w) : w ∈ lw_tbl := tA (List.mem_append_left _ (List.mem_of_getElem? h))
theorem tA2 {w : Cond} (i : Nat) (h : tables_1_2[i]? = some w) : w ∈ lw_tbl := tA (List.mem_append_right _ (List.mem_append_left _ (List.mem_of_getElem? h)))
theorem tA3 {w : Cond} (i : Nat) (h : tables_1_3[i]? = some w) : w ∈ lw_tbl := tA (List.mem_append_right _ (List.mem_append_right _ (List.mem_append_left _ (List.mem_of_getElem? h))))
theorem tA4 {w : Cond} (i : Nat) (h : tables_1_4[i]? = some w) : w ∈ lw_tbl := tA (List.mem_append_right _ (List.mem_append_right _ (List.mem_append_right _ (List.mem_append_left _ (List.mem_of_getElem? h)))))
theorem tA5 {w : Cond} (i : Nat) (h : tables_1_5[i]? = some w) : w ∈ lw_tbl := tA (List.mem_append_right _ (List.mem_append_right _ (List.mem_append_right _ (List.mem_append_right _ (List.mem_append_left _ (List.mem_of_getElem? h))))))
theorem tA6 {w : Cond} (i : Nat) (h : tables_1_6[i]? = some w) : w ∈ lw_tbl := tA (List.mem_append_right _ (List.mem_append_right _ (List.mem_append_right _ (List.mem_append_right _ (List.mem_append_right _ (List.mem_of_getElem? h))))))
theorem W_of {p : Program} {l : Launch} {e : Env} {R : Room} {s : State} {m : MethodId} {args : Array Value} {below : List Frame} {meth : Method} {c : Code} {Q : State → Prop} {D : va_G} {tC : Nat → ClassId} {A : Nat → Prop} {ρ0 : Nat → Nat} {I0 : aH} {maxL : Nat} {av : List Value} (lvl : List (Option Value)) (hlv : lv0 av maxL = lvl) (hlen : (lvA av).length ≤ maxL) (hcl : clS I0 av) (hH : okH D tC A ρ0 I0 s s.heap) (v : V (p, l, e, R, s, m, args, below, meth, c, Q, D, tC, A, ρ0, I0) maxL I0 lvl [] 0 0 0) : W p l e R s m args below meth c s.heap [] 0 0 Q (entryFrame m (av.map (cv ρ0)).toArray maxL) := by
  rw [lg_entry_eq]
  have hl := lv_entry (av.map (cv ρ0)) (n := maxL) (by rw [lvA_len]; exact hlen)
  subst hlv
  exact v ρ0 s.heap [] _ hH ext.rf (fun _ h => by cases h) ⟨hl.1, hl.2.1, fun k v hk => hl.2.2 (k, cv ρ0 v) (by have := lvA_in ρ0 av 0 k v (lv0_at hk); rwa [Nat.zero_add] at this)⟩ (fun v hv => hcl v (lv0_mem hv)) (fun _ h => by cases h)
theorem W_mono {p : Program} {l : Launch} {e : Env} {R : Room} {s : State} {m : MethodId} {args : Array Value} {below : List Frame} {meth : Method} {c : Code} {H : Heap} {locs : List Loc} {cells slots : Nat} {Q Q' : State → Prop} {g : JFrame} (h : ∀ t, Q t → Q' t) (w : W p l e R s m args below meth c H locs cells slots Q g) : W p l e R s m args below meth c H locs cells slots Q' g := fun T hT X => by
  obtain ⟨t, a, b⟩ := w T hT X
  exact ⟨t, a, h t b⟩
/-- what was written was all new -/
theorem framed_new {s t : State} {o : Outcome} {L : List Loc} {k n : Nat} (h : FrameEnd s o t L k n) (hL : ∀ q ∈ L, s.heap.size ≤ q.base) : Framed s o t [] k n := by
  obtain ⟨h1, h2, e1, e2, e3, e4, e5, e6⟩ := h
  refine ⟨h1, h2, e1, e2, e3, e4, e5, fun a c hc => ?_⟩
  obtain ⟨c', g1, g2, g3, g4⟩ := e6 a c hc
  have hlt : a < s.heap.size := (Array.getElem?_eq_some_iff.mp hc).1
  exact ⟨c', g1, g2, g3, fun i _ => g4 i (fun q => absurd (hL _ q) (Nat.not_le.mpr hlt))⟩
theorem arr_prim {s : State} {args : Array Value} {ty : FieldType} (h : (Cond.arrayClass ty).before args s = true) (ho : ∀ C, ty ≠ .object C) : ∃ cA, ArrOfT s cA ty ∧ va_RA s cA ty := by
  obtain ⟨cA, kA, comp, h1, h2, h3⟩ := Cond.arrayClass_spec h
  refine ⟨cA, fun n z => ⟨fun k h => (by cases h), kA, h2, comp, h3⟩, ?_⟩
  cases ty with
  | object C => exact absurd rfl (ho C)
  | _ => exact h1
theorem arr_obj {s : State} {args : Array Value} {C : String} (h : (Cond.arrayOver (.object C)).before args s = true) : ∃ cA, ArrOfT s cA (.object C) ∧ va_RA s cA (.object C) := by
  obtain ⟨comp, c, k, h1, h2, h3, h4, h5⟩ := Cond.arrayOver_spec h
  exact ⟨c, fun n z => ⟨fun k h => (by cases h), k, h3, comp, h4⟩, k, comp, h3, h4, h1, h5⟩
/-- the empty list's array, out of what the Statement gives -/
theorem zed_at {s : State} {args : Array Value} {t : Term} {C : String} (h1 : (Cond.arrayOf t (.object C)).before args s = true) (h2 : (Cond.eq (.length t) (.int 0)).before args s = true) : ∃ a cell, t.eval args s none [] s = some (.ref a) ∧ s.heap[a]? = some cell ∧ s.isArrayOf cell (.object C) ∧ cell.slots.size = 0 := by
  cases hv : (Term.length t).eval args s none [] s with
  | none => simp [Cond.before, Cond.holds, Cond.value, hv] at h2
  | some v =>
    obtain ⟨a, cell, e1, e2, rfl⟩ := Term.length_spec hv
    have e4 : cell.slots.size < 2 ^ 31 := by
      by_cases hn : cell.slots.size < 2147483648
      · exact hn
      · simp [Term.eval, e1, e2, hn] at hv
    have hc := (State.arrayAt?_spec e2).1
    have hq := Cond.eq_ints hv (show (Term.int 0).eval args s none [] s = some (.int 0) from rfl)
    have h0 : cell.slots.size.toInt32 = 0 := by
      simpa [Cond.before, Cond.holds, hq] using h2
    refine ⟨a, cell, e1, hc, (Cond.arrayOf_spec h1 e1 hc).1, ?_⟩
    have e5 : nI cell.slots.size = 0 := h0
    rw [← nnI e4, e5]
    rfl
theorem vwK {s : State} {args : Array Value} (hts : ∀ w ∈ wsA, w.before args s = true) : ∃ D : va_G, ∀ (c : Nat) (q : vw_C), vwCl[c]? = some q → u_Kn s q.1 q.2.1 q.2.2 (D.1 c) (D.2 c) := by
  obtain ⟨c0, i0, h0⟩ := u_known (C := RJx4a65c) (T := TJx4a65c) (N := 3) (n := 3) hts ci_Jx4a65c.2.1 (hts _ (inA1 29 rfl rfl))
  obtain ⟨c1, i1, h1⟩ := u_known (C := RX0) (T := TX0) (N := 4) (n := 4) hts ci_X0.2.1 (hts _ (inA2 16 rfl rfl))
  obtain ⟨c2, i2, h2⟩ := u_known (C := RX1) (T := TX1) (N := 11) (n := 11) hts ci_X1.2.1 (hts _ (inA3 134 rfl rfl))
  obtain ⟨c3, i3, h3⟩ := u_known (C := RX2) (T := TX2) (N := 7) (n := 7) hts ci_X2.2.1 (hts _ (inA2 103 rfl rfl))
  obtain ⟨c4, i4, h4⟩ := u_known (C := RX3) (T := TX3) (N := 3) (n := 3) hts ci_X3.2.1 (hts _ (inA1 105 rfl rfl))
  obtain ⟨c5, i5, h5⟩ := u_known (C := RX4) (T := TX4) (N := 3) (n := 3) hts ci_X4.2.1 (hts _ (inA3 136 rfl rfl))
  obtain ⟨c6, i6, h6⟩ := u_known (C := RX5) (T := TX5) (N := 3) (n := 3) hts ci_X5.2.1 (hts _ (inA1 205 rfl rfl))
  obtain ⟨c7, i7, h7⟩ := u_known (C := RX6) (T := TX6) (N := 6) (n := 6) hts ci_X6.2.1 (hts _ (inA2 165 rfl rfl))
  obtain ⟨c8, i8, h8⟩ := u_known (C := RX7) (T := TX7) (N := 18) (n := 18) hts ci_X7.2.1 (hts _ (inA3 16 rfl rfl))
  obtain ⟨c9, i9, h9⟩ := u_known (C := RX8) (T := TX8) (N := 11) (n := 11) hts ci_X8.2.1 (hts _ (inA1 21 rfl rfl))
  obtain ⟨c10, i10, h10⟩ := u_known (C := RX9) (T := TX9) (N := 62) (n := 62) hts ci_X9.2.1 (hts _ (inA4 77 rfl rfl))
  refine ⟨(fun k => match k with | 0 => c0 | 1 => c1 | 2 => c2 | 3 => c3 | 4 => c4 | 5 => c5 | 6 => c6 | 7 => c7 | 8 => c8 | 9 => c9 | _ => c10, fun k => match k with | 0 => i0 | 1 => i1 | 2 => i2 | 3 => i3 | 4 => i4 | 5 => i5 | 6 => i6 | 7 => i7 | 8 => i8 | 9 => i9 | _ => i10), ?_⟩
  intro k q hq
  match k, hq with
  | 0, hq => cases hq; exact h0
  | 1, hq => cases hq; exact h1
  | 2, hq => cases hq; exact h2
  | 3, hq => cases hq; exact h3
  | 4, hq => cases hq; exact h4
  | 5, hq => cases hq; exact h5
  | 6, hq => cases hq; exact h6
  | 7, hq => cases hq; exact h7
  | 8, hq => cases hq; exact h8
  | 9, hq => cases hq; exact h9
  | 10, hq => cases hq; exact h10
  | k + 11, hq => simp [vwCl] at hq
theorem okU_of {s : State} {args : Array Value} {D : va_G} {tC : Nat → ClassId} {mi : Nat} (hts : ∀ w ∈ lw_tbl, w.before args s = true) (hD : ∀ (c : Nat) (q : vw_C), vwCl[c]? = some q → u_Kn s q.1 q.2.1 q.2.2 (D.1 c) (D.2 c)) (hT : ∀ (k : Nat) (q : ClassId × FieldType), (tyL tC)[k]? = some q → ArrOfT s q.1 q.2 ∧ va_RA s q.1 q.2) (hM : va_Mi "[Ljava/lang/Object;" mi s) : okU D tC mi s := by
  refine ⟨⟨hD, hT⟩, ?_, va_AO.of (hts _ (tA1 172 rfl)), va_AO.of (hts _ (tA2 110 rfl)), hM⟩
  intro w hw
  simp only [nwL, List.mem_cons, List.not_mem_nil, or_false] at hw
  rcases hw with rfl | rfl | rfl | rfl | rfl | rfl | rfl | rfl | rfl | rfl
  · exact va_Nw.of rfl (hts _ (tA6 19 rfl))
  · exact va_Nw.of rfl (hts _ (tA6 28 rfl))
  · exact va_Nw.of rfl (hts _ (tA6 25 rfl))
  · exact va_Nw.of rfl (hts _ (tA6 23 rfl))
  · exact va_Nw.of rfl (hts _ (tA6 24 rfl))
  · exact va_Nw.of rfl (hts _ (tA6 26 rfl))
  · exact va_Nw.of rfl (hts _ (tA6 27 rfl))
  · exact va_Nw.of rfl (hts _ (tA3 15 rfl))
  · exact va_Nw.of rfl (hts _ (tA3 133 rfl))
  · exact va_Nw.of rfl (hts _ (tA6 32 rfl))
/-! THE CLAIM OUT OF ONE WALK OF THE LAW'S BODY. Your part is whole_start (and what it stands on); all else here is the same for every law, but numbers. -/
def R_law : String := "WatchServerLaw"
def lw_P (b : Addr) (xs : List Int32) (args : Array Value) (s : State) : Prop := args = #[.ref b] ∧ s.IntsAt b xs ∧ xs.length ≤ 5120 ∧ (Jvm.Cond.and given_1 narrow_1).before args s = true
def lw_Q (_ : Array Value) (s : State) (o : Outcome) (t : State) : Prop := o = .returned (some (.int 1)) ∧ Framed s o t [] 600000 7302249
def lw_Z (below : List Frame) (a : Array Value) (s : State) : State → Prop := fun t => ∃ o, t.status = .running ∧ Ended t below o ∧ lw_Q a s o t
/-- the law's own end, with 1 on the stack, nothing written that was there before, its room as the claim has it -/
theorem lw_ret {p : Program} {l : Launch} {e : Env} {s : State} {m : MethodId} {below : List Frame} {meth : Method} {c : Code} {b : Nat} (hx : p.tables.exec = Jvm.exec) (hb : c.code = code) (hr : meth.sig.returnType = ret) (hlocks : meth.locks = false) {pc : Nat} {H : Heap} {ls : Array Slot} (hdg : decode code pc = .ok (.ireturn, 1)) : W p l e room_1 s m #[Value.ref b] below meth c H [] 600000 7302249 (lw_Z below #[Value.ref b] s) (F0 m pc ls [.int 1]) := by
  intro T hT X
  obtain ⟨fs, hret, hrun, hended, hW, hframe⟩ := X.leave (v := some (.int 1)) (hlocks := hlocks) (fun h => by rw [hr] at h; cases h)
  have hmeth' : T.vm.method? m = some meth := X.method'
  refine ⟨T.setFrames fs, ?_, .returned (some (.int 1)), hrun, hended, rfl, ⟨_, rfl⟩, hW, hframe⟩
  jvm_step X.here [X.here.top, hx, hb, hdg, hmeth', hr, ret, narrow_b1]
  (try refine ⟨rfl, ?_⟩); (try refine ⟨rfl, ?_⟩)
  first | (intro acts; rw [hret _ acts rfl rfl rfl]) | rw [hret _ _ rfl rfl rfl]
  exact Steps.refl _
/-- what holds at the law's entry: the machine, the code, the tables' words (any of lw_tbl by 'hts w (by decide +kernel)'), the script of L ints xs at the cell b, what the Statement gives of the start (any of its parts by flat_of_before) -/
def lw_At (p : Program) (s : State) (m : MethodId) (meth : Method) (c : Code) (b L : Nat) (xs : Nat → Int32) : Prop :=
  p.tables.exec = Jvm.exec ∧ c.code = code ∧ meth.sig.returnType = ret ∧ c.maxLocals = 4 ∧ s.vm.findClass R_law = some m.cls ∧ (∀ w ∈ lw_tbl, w.before #[Value.ref b] s = true) ∧ va_X b L xs s s.heap ∧ b < s.heap.size ∧ meth.locks = false ∧ (Jvm.Cond.and given_1 narrow_1).before #[Value.ref b] s = true
theorem whole_start {p : Program} {e : Env} {s : State} {m : MethodId} {below : List Frame} {meth : Method} {c : Code} (l : Launch) {b L : Nat} {xs : Nat → Int32} (hL : L ≤ 5120) (C0 : lw_At p s m meth c b L xs) : W p l e room_1 s m #[Value.ref b] below meth c s.heap [] 0 0 (lw_Z below #[Value.ref b] s) (entryFrame m ([Value.ref b] : List Value).toArray 4) := by
  obtain ⟨hx, hb, hr, hml, hown, hts, hX, hbl, hlocks, hgv⟩ := C0
  have hs := flat_of_before _ hgv
  have htw : ∀ w ∈ wsA, w.before #[Value.ref b] s = true := fun w hw => hts w (List.mem_filter.mp hw).1
  obtain ⟨D, hD⟩ := vwK htw
  obtain ⟨cI, hI⟩ := arr_prim (ty := .int) (hts _ (tA1 88 rfl)) (fun _ q => by cases q)
  obtain ⟨cJ, hJ⟩ := arr_prim (ty := .long) (hts _ (tA5 30 rfl)) (fun _ q => by cases q)
  obtain ⟨cB, hB⟩ := arr_prim (ty := .boolean) (hts _ (tA5 31 rfl)) (fun _ q => by cases q)
  obtain ⟨cO, hO⟩ := arr_obj (C := sOb) (hts _ (tA1 172 rfl))
  obtain ⟨cE, hE⟩ := arr_obj (C := RX0) (hts _ (tA2 110 rfl))
  obtain ⟨mi, hmi⟩ := va_Mi.of (hs (Cond.isRef (Term.mirror "[Ljava/lang/Object;")) (by decide +kernel))
  obtain ⟨z, zc, z1, z2, z3, z4⟩ := zed_at (t := Term.static "java/util/ArrayList" "DEFAULTCAPACITY_EMPTY_ELEMENTDATA" "[Ljava/lang/Object;") (C := "java/lang/Object") (hs _ (by decide +kernel)) (hs _ (by decide +kernel))
  have hzl : z < s.heap.size := (Array.getElem?_eq_some_iff.mp z2).1
  have hZ := va_Zof (A := fun q => s.heap.size ≤ q) (hts _ (tA1 41 rfl)) (hts _ (tA1 4 rfl)) z1 (fun a ha => Nat.not_le.mpr ha)
  have hzb : z ≠ b := by
    rintro rfl
    obtain ⟨sc, q1, ⟨-, k1, e1, c1, e2⟩, -⟩ := hX
    obtain ⟨-, k2, e3, c2, e4⟩ := z3
    rw [z2] at q1
    cases q1
    rw [e1] at e3
    cases e3
    rw [e2] at e4
    cases e4
  have rz : (fun α => if α = zed then z else if α = mirr then mi else b : Nat → Nat) zed = z := if_pos rfl
  have rm : (fun α => if α = zed then z else if α = mirr then mi else b : Nat → Nat) mirr = mi := (if_neg (kd_ni (by decide))).trans (if_pos rfl)
  have rs : (fun α => if α = zed then z else if α = mirr then mi else b : Nat → Nat) scr = b := (if_neg (kd_ni (by decide))).trans (if_neg (kd_ni (by decide)))
  generalize (fun α => if α = zed then z else if α = mirr then mi else b : Nat → Nat) = ρ0 at rz rm rs
  have hro : ∀ α, aI0 L xs α ≠ none → α = zed ∨ α = scr := fun α hα => by
    by_cases q1 : α = zed
    · exact Or.inl q1
    · by_cases q2 : α = scr
      · exact Or.inr q2
      · exact absurd ((hu_n q1).trans (hu_n q2)) hα
  have hH : okH D (fun k => match k with | 0 => cI | 1 => cJ | 2 => cB | 3 => cO | _ => cE) (fun q => s.heap.size ≤ q) ρ0 (aI0 L xs) s s.heap := by
    refine ⟨fun α o h hr => absurd (hro α (by rw [h]; exact fun q => by cases q)) hr, ?_, ?_, fun α h => Or.inl (hro α h), fun q hq => hq, ?_, aI0_z, (hu_n (kd_ni (by decide))).trans (hu_n (kd_ni (by decide))), ?_, ?_⟩
    · intro α β h1 h2 e
      rcases hro α h1 with rfl | rfl <;> rcases hro β h2 with rfl | rfl
      · rfl
      · rw [rz, rs] at e; exact absurd e hzb
      · rw [rz, rs] at e; exact absurd e.symm hzb
      · rfl
    · intro α o h
      rcases hro α (by rw [h]; exact fun q => by cases q) with rfl | rfl
      · rw [aI0_z] at h
        cases h
        exact ⟨fun t n f e j α q => (by cases e; cases q), fun c' fs' e => (by cases e)⟩
      · rw [aI0_s] at h
        cases h
        exact clO_i
    · unfold vaZ
      rw [rz]
      exact hZ
    · rw [rz]
      exact ⟨zc, z2, z3, z4⟩
    · intro o ho
      rw [aI0_s] at ho
      cases ho
      exact ⟨L, xs, rfl, by rw [rs]; exact hX⟩
  have hU : okU D (fun k => match k with | 0 => cI | 1 => cJ | 2 => cB | 3 => cO | _ => cE) (ρ0 mirr) s := by
    rw [rm]
    refine okU_of hts hD ?_ hmi
    intro k q hq
    match k, hq with
    | 0, hq => cases hq; exact hI
    | 1, hq => cases hq; exact hJ
    | 2, hq => cases hq; exact hB
    | 3, hq => cases hq; exact hO
    | 4, hq => cases hq; exact hE
    | k + 5, hq => simp [tyL] at hq
  have hw := W_of (p := p) (l := l) (e := e) (R := room_1) (s := s) (m := m) (args := #[Value.ref b]) (below := below) (meth := meth) (c := c) (Q := MQ below (QcV D (fun k => match k with | 0 => cI | 1 => cJ | 2 => cB | 3 => cO | _ => cE) (fun q => s.heap.size ≤ q) ρ0 (aI0 L xs) LQ) #[Value.ref b] s room_1.cells room_1.slots (fun q => s.heap.size ≤ q)) (maxL := 4) (av := [.ref scr]) [some (.ref scr), none, none, none] rfl (Nat.le_of_ble_eq_true rfl) (fun v hv => by rw [List.mem_singleton.mp hv]; exact clV_r (by rw [aI0_s]; exact fun q => by cases q)) hH
    (law_entry hL ⟨⟨hx, hb, hml, hown, htw⟩, hU, hlocks, hr, rfl, rfl, rfl⟩)
  have ea : ([Value.ref scr].map (cv ρ0)).toArray = ([Value.ref b] : List Value).toArray := by
    show #[Value.ref (ρ0 scr)] = #[Value.ref b]
    rw [rs]
  rw [ea] at hw
  refine W_mono (fun t ht => ?_) hw
  obtain ⟨o, h1, h2, ⟨r, I, ρ, e1, e2, -⟩, L', h3, h4⟩ := ht
  refine ⟨o, h1, h2, ?_, framed_new h3 h4⟩
  rw [e1, show r = some (.int 1) from e2]
  rfl
set_option maxHeartbeats 4000000 in
theorem lw_walk (l : Launch) (b : Addr) (xs : List Int32) : MetFree l x (headSpec (Jvm.Cond.code x code maxLocals ret :: tables_1) room_1) (lw_P b xs) (fun _ _ _ _ _ => True) lw_Q := by
  refine MetFree.of_bodyS (code := code) (maxLocals := maxLocals) (ret := ret) (by decide) ?_ ?_
  · intro args s m h hn
    obtain ⟨meth, c, h1, h2, h3, h4, h5, h6, -, -⟩ := Cond.code_spec hn (atoms_spec (ws := Jvm.Cond.code x code maxLocals ret :: tables_1) h _ List.mem_cons_self)
    exact ⟨meth, c, h1, h2, h3, h4, h5, h6⟩
  · intro p e s m args below meth c s₁ B hml0 hP _
    obtain ⟨rfl, hx, hbd, hgv⟩ := hP
    obtain ⟨scr, harrAt, hlist, hof, hsmall⟩ := hx
    obtain ⟨hcb, hkn, -, -⟩ := State.arrayAt?_spec harrAt
    have hown : s.vm.findClass R_law = some m.cls := findClass_of_methodNamed B.named
    have hts0 : ∀ c ∈ (Jvm.Cond.code x code maxLocals ret :: tables_1), c.before #[Value.ref b] s = true := atoms_spec (ws := Jvm.Cond.code x code maxLocals ret :: tables_1) B.pre
    have hts : ∀ w ∈ lw_tbl, w.before #[Value.ref b] s = true := k2_hts_sels lw_privs (fun w hw => hts0 w (List.mem_cons_of_mem _ hw)) lw_privs_ok
    have hml : c.maxLocals = 4 := B.maxLocals_eq (hts0 _ List.mem_cons_self)
    have X₀ : Stand p l e room_1 s m #[Value.ref b] below meth c s₁ [] 0 0 := Stand.of_body B
    have hh0 : s₁.heap = s.heap := by rw [B.state]; rfl
    have hsz : scr.slots.size = xs.length := by rw [← Array.length_toList, hlist, List.length_map]
    have hval : ∀ j : Nat, j < xs.length → scr.slots[j]? = some (.int (xs.getD j 0)) := fun j hj => by
      rw [← Array.getElem?_toList, hlist]
      simp [hj]
    have hbl : b < s.heap.size := (Array.getElem?_eq_some_iff.mp hcb).1
    have hX : va_X b xs.length (fun j => xs.getD j 0) s s.heap := ⟨scr, hcb, hof, hkn, hsz, hval⟩
    have K : W p l e room_1 s m #[Value.ref b] below meth c s₁.heap [] 0 0 (lw_Z below #[Value.ref b] s) (entryFrame m ([Value.ref b] : List Value).toArray 4) := by
      rw [hh0]
      exact whole_start l hbd ⟨B.exec, B.bytes, B.returns, hml, hown, hts, hX, hbl, B.notSynchronized, hgv⟩
    obtain ⟨t, a1, o, b1, b2, b3⟩ := K s₁ rfl X₀
    exact ⟨t, o, a1, b1, b2, b3⟩
theorem lw_pre_spec {args : Array Value} {s : State} (h : (Jvm.Cond.and given_1 narrow_1).before args s = true) (hr : rest_1_c.before args s = true) : ∃ (b : Addr) (xs : List Int32), lw_P b xs args s := by
  have hs := flat_of_before _ h
  have hq := flat_of_before _ hr
  have hc : (Cond.count 1).before args s = true := hs _ (by decide +kernel)
  have harr : (Cond.arrayOf (.arg 0) .int).before args s = true := hs _ (by decide +kernel)
  have hle : (Cond.le (.length (.arg 0)) (.int 5120)).before args s = true := hs _ (by decide +kernel)
  have hlen : (Cond.isInt (.length (.arg 0))).before args s = true := hq _ (by decide +kernel)
  have hall : (Cond.all (.arg 0) (.isInt (.elem (.arg 0) (.index 0)))).before args s = true := hq _ (by decide +kernel)
  obtain ⟨b, xs, hb, hx⟩ := State.ints_of_pre rfl harr hlen hall
  have hsm : xs.length < 2 ^ 31 := hx.choose_spec.2.2.2
  have hev : (Term.length (.arg 0)).eval args s none [] s = some (.int xs.length.toInt32) := hx.length_eval hb
  have hv := Cond.le_ints hev (show (Term.int 5120).eval args s none [] s = some (.int 5120) from rfl)
  have hd : xs.length.toInt32 ≤ 5120 := by
    simpa [Cond.before, Cond.holds, hv] using hle
  have hN : xs.length ≤ 5120 := (Int32.ofNat_le_ofNat hsm (by decide)).mp (show Int32.ofNat xs.length ≤ Int32.ofNat 5120 from hd)
  exact ⟨b, xs, Cond.one_arg hc (show args[0]? = some (.ref b) from hb), hx, hN, h⟩
theorem lw_comes (l : Launch) : Comes l x (Jvm.Cond.code x code maxLocals ret :: tables_1) room_1 (fun tb e args s => Calls_1 tb e args s ∧ rest_1 tb e args s ∧ Pre_1 tb e args s)
    (fun _ _ args s o t => lw_Q args s o t) := by
  intro p e ha hc hk s m args below hf hfit hheap happ hpre
  obtain ⟨b, xs, hP⟩ := lw_pre_spec hpre.2.2 hpre.2.1
  obtain ⟨k, o, h1, h2, h3, hQ⟩ := lw_walk l b xs p e ha hc hk s m args below hf ((Spec.applies_iff_loose hf).mp happ).1 hP trivial
  exact ⟨k, o, h1, h2, h3, hQ⟩
theorem lw_frame {s t : State} {o : Outcome} {args : Array Value} (h : Framed s o t [] 600000 7302249) :
    Framed s o t (fieldLocs frame_1_writes args s ++ arrayLocs frame_1_arrays args s ++ staticLocs frame_1_statics s) 600000 7302249 := h
theorem lw_limb (L : Cond) (hL : ∀ (args : Array Value) (s t : State), L.after args s (.returned (some (.int 1))) t = true) :
    ArmFor flags0 classFile x code maxLocals ret World_1 tables_1 room_1 Calls_1 rest_1 Pre_1
      (fun tb e a s o t => postC L tb e a s o t ∧ Framed s o t (fieldLocs frame_1_writes a s ++ arrayLocs frame_1_arrays a s ++ staticLocs frame_1_statics s) 600000 7302249) := by
  intro l _ _ _ p e ha hc hk s m args below hf hfit hheap happ hpre
  obtain ⟨k, o, h1, h2, h3, rfl, hF⟩ := lw_comes l p e ha hc hk s m args below hf hfit hheap happ hpre
  exact ⟨k, _, h1, h2, h3, hL args s _, lw_frame hF⟩
theorem i_vc : Claimed_1_1 ∧ Claimed_1_2 := ⟨lw_limb limb_1_1 (fun args s t => by simp [limb_1_1, Cond.after, Cond.holds, Cond.value]), lw_limb limb_1_2 (fun args s t => Cond.after_iff.mpr (by
  first | (rw [show limb_1_2 = Cond.eq .result (.int 1) from rfl, Cond.eq_ints (x := 1) (y := 1) rfl rfl]; simp; done) | (simp [limb_1_2, Cond.value, Term.eval]; done)))⟩
