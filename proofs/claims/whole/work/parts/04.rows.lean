def isR : Value → Bool
  | .ref _ => true
  | .null => true
  | _ => false
theorem isR_or {v : Value} (h : isR v = true) : v = .null ∨ ∃ a, v = .ref a := by
  cases v <;> first | exact Or.inl rfl | exact Or.inr ⟨_, rfl⟩ | cases h
section Rows
variable {Z : Zt} {l0 : Launch} {R0 : Room} {cc : ByteArray} {nL : Nat} {own : String} {ret : Option FieldType} {Post : Option Value → aH → Prop} {I : aH} {lv : List (Option Value)} {st : List Value} {cells slots pc : Nat}
theorem V_iconst {n : Int} {v : Int32} (X : Fx Z l0 R0 cc nL own ret Post) (d : decode cc pc = .ok (.iconst n, 1)) (hv : Int32.ofInt n = v) (k : V Z nL I lv (.int v :: st) cells slots (pc + 1)) : V Z nL I lv st cells slots pc := by
  obtain ⟨p, l, e, R, s, m, args, below, meth, c, Q, D, tC, A, ρ0, I0⟩ := Z
  obtain ⟨⟨hx, hb, hml, hown, hts⟩, hU, hlk, hret, rfl, rfl, rfl⟩ := X
  intro ρ H locs ls hH hE hlo hL hcL hcS
  exact lv_iconst hx hb d hv (k ρ H locs ls hH hE hlo hL hcL (clS_cons clV_i hcS))
theorem V_bipush {n : Int} {v : Int32} (X : Fx Z l0 R0 cc nL own ret Post) (d : decode cc pc = .ok (.bipush n, 2)) (hv : (Int8.ofInt n).toInt32 = v) (k : V Z nL I lv (.int v :: st) cells slots (pc + 2)) : V Z nL I lv st cells slots pc := by
  obtain ⟨p, l, e, R, s, m, args, below, meth, c, Q, D, tC, A, ρ0, I0⟩ := Z
  obtain ⟨⟨hx, hb, hml, hown, hts⟩, hU, hlk, hret, rfl, rfl, rfl⟩ := X
  intro ρ H locs ls hH hE hlo hL hcL hcS
  exact lv_bipush hx hb d hv (k ρ H locs ls hH hE hlo hL hcL (clS_cons clV_i hcS))
theorem V_sipush {n : Int} {v : Int32} (X : Fx Z l0 R0 cc nL own ret Post) (d : decode cc pc = .ok (.sipush n, 3)) (hv : (Int16.ofInt n).toInt32 = v) (k : V Z nL I lv (.int v :: st) cells slots (pc + 3)) : V Z nL I lv st cells slots pc := by
  obtain ⟨p, l, e, R, s, m, args, below, meth, c, Q, D, tC, A, ρ0, I0⟩ := Z
  obtain ⟨⟨hx, hb, hml, hown, hts⟩, hU, hlk, hret, rfl, rfl, rfl⟩ := X
  intro ρ H locs ls hH hE hlo hL hcL hcS
  exact lv_sipush hx hb d hv (k ρ H locs ls hH hE hlo hL hcL (clS_cons clV_i hcS))
theorem V_lconst {n : Fin 2} {v : Int64} (X : Fx Z l0 R0 cc nL own ret Post) (d : decode cc pc = .ok (.lconst n, 1)) (hv : Int64.ofNat (n : Nat) = v) (k : V Z nL I lv (.long v :: st) cells slots (pc + 1)) : V Z nL I lv st cells slots pc := by
  obtain ⟨p, l, e, R, s, m, args, below, meth, c, Q, D, tC, A, ρ0, I0⟩ := Z
  obtain ⟨⟨hx, hb, hml, hown, hts⟩, hU, hlk, hret, rfl, rfl, rfl⟩ := X
  intro ρ H locs ls hH hE hlo hL hcL hcS
  exact lv_lconst hx hb d hv (k ρ H locs ls hH hE hlo hL hcL (clS_cons clV_l hcS))
theorem V_ldc {i : Nat} {v : Int32} (X : Fx Z l0 R0 cc nL own ret Post) (d : decode cc pc = .ok (.ldc i, 2)) (hc : Cond.constant own i v ∈ wsA) (k : V Z nL I lv (.int v :: st) cells slots (pc + 2)) : V Z nL I lv st cells slots pc := by
  obtain ⟨p, l, e, R, s, m, args, below, meth, c, Q, D, tC, A, ρ0, I0⟩ := Z
  obtain ⟨⟨hx, hb, hml, hown, hts⟩, hU, hlk, hret, rfl, rfl, rfl⟩ := X
  intro ρ H locs ls hH hE hlo hL hcL hcS
  exact lv_ldc hx hb hown (hts _ hc) d (k ρ H locs ls hH hE hlo hL hcL (clS_cons clV_i hcS))
theorem V_ldcw {i : Nat} {v : Int32} (X : Fx Z l0 R0 cc nL own ret Post) (d : decode cc pc = .ok (.ldc_w i, 3)) (hc : Cond.constant own i v ∈ wsA) (k : V Z nL I lv (.int v :: st) cells slots (pc + 3)) : V Z nL I lv st cells slots pc := by
  obtain ⟨p, l, e, R, s, m, args, below, meth, c, Q, D, tC, A, ρ0, I0⟩ := Z
  obtain ⟨⟨hx, hb, hml, hown, hts⟩, hU, hlk, hret, rfl, rfl, rfl⟩ := X
  intro ρ H locs ls hH hE hlo hL hcL hcS
  exact lv_ldcw hx hb hown (hts _ hc) d (k ρ H locs ls hH hE hlo hL hcL (clS_cons clV_i hcS))
theorem V_ldc2 {i : Nat} {v : Int64} (X : Fx Z l0 R0 cc nL own ret Post) (d : decode cc pc = .ok (.ldc2_w i, 3)) (hc : Cond.constantLong own i v ∈ wsA) (k : V Z nL I lv (.long v :: st) cells slots (pc + 3)) : V Z nL I lv st cells slots pc := by
  obtain ⟨p, l, e, R, s, m, args, below, meth, c, Q, D, tC, A, ρ0, I0⟩ := Z
  obtain ⟨⟨hx, hb, hml, hown, hts⟩, hU, hlk, hret, rfl, rfl, rfl⟩ := X
  intro ρ H locs ls hH hE hlo hL hcL hcS
  exact lv_ldc2 hx hb hown (hts _ hc) d (k ρ H locs ls hH hE hlo hL hcL (clS_cons clV_l hcS))
theorem V_null  (X : Fx Z l0 R0 cc nL own ret Post) (d : decode cc pc = .ok (.aconst_null, 1))  (k : V Z nL I lv (.null :: st) cells slots (pc + 1)) : V Z nL I lv st cells slots pc := by
  obtain ⟨p, l, e, R, s, m, args, below, meth, c, Q, D, tC, A, ρ0, I0⟩ := Z
  obtain ⟨⟨hx, hb, hml, hown, hts⟩, hU, hlk, hret, rfl, rfl, rfl⟩ := X
  intro ρ H locs ls hH hE hlo hL hcL hcS
  exact lv_null hx hb d (k ρ H locs ls hH hE hlo hL hcL (clS_cons clV_n hcS))
theorem V_iload_n {j : Fin 4} {x : Int32} (X : Fx Z l0 R0 cc nL own ret Post) (d : decode cc pc = .ok (.iload_n j, 1)) (h : lv[(j : Nat)]? = some (some (.int x))) (k : V Z nL I lv (.int x :: st) cells slots (pc + 1)) : V Z nL I lv st cells slots pc := by
  obtain ⟨p, l, e, R, s, m, args, below, meth, c, Q, D, tC, A, ρ0, I0⟩ := Z
  obtain ⟨⟨hx, hb, hml, hown, hts⟩, hU, hlk, hret, rfl, rfl, rfl⟩ := X
  intro ρ H locs ls hH hE hlo hL hcL hcS
  exact lv_iload_n hx hb d rfl (hL.2.2 _ _ h) (k ρ H locs ls hH hE hlo hL hcL (clS_cons clV_i hcS))
theorem V_iload {i : Nat} {x : Int32} (X : Fx Z l0 R0 cc nL own ret Post) (d : decode cc pc = .ok (.iload i, 2)) (h : lv[i]? = some (some (.int x))) (k : V Z nL I lv (.int x :: st) cells slots (pc + 2)) : V Z nL I lv st cells slots pc := by
  obtain ⟨p, l, e, R, s, m, args, below, meth, c, Q, D, tC, A, ρ0, I0⟩ := Z
  obtain ⟨⟨hx, hb, hml, hown, hts⟩, hU, hlk, hret, rfl, rfl, rfl⟩ := X
  intro ρ H locs ls hH hE hlo hL hcL hcS
  exact lv_iload hx hb d (hL.2.2 _ _ h) (k ρ H locs ls hH hE hlo hL hcL (clS_cons clV_i hcS))
theorem V_lload_n {j : Fin 4} {x : Int64} (X : Fx Z l0 R0 cc nL own ret Post) (d : decode cc pc = .ok (.lload_n j, 1)) (h : lv[(j : Nat)]? = some (some (.long x))) (k : V Z nL I lv (.long x :: st) cells slots (pc + 1)) : V Z nL I lv st cells slots pc := by
  obtain ⟨p, l, e, R, s, m, args, below, meth, c, Q, D, tC, A, ρ0, I0⟩ := Z
  obtain ⟨⟨hx, hb, hml, hown, hts⟩, hU, hlk, hret, rfl, rfl, rfl⟩ := X
  intro ρ H locs ls hH hE hlo hL hcL hcS
  exact lv_lload_n hx hb d rfl (hL.2.2 _ _ h) (k ρ H locs ls hH hE hlo hL hcL (clS_cons clV_l hcS))
theorem V_lload {i : Nat} {x : Int64} (X : Fx Z l0 R0 cc nL own ret Post) (d : decode cc pc = .ok (.lload i, 2)) (h : lv[i]? = some (some (.long x))) (k : V Z nL I lv (.long x :: st) cells slots (pc + 2)) : V Z nL I lv st cells slots pc := by
  obtain ⟨p, l, e, R, s, m, args, below, meth, c, Q, D, tC, A, ρ0, I0⟩ := Z
  obtain ⟨⟨hx, hb, hml, hown, hts⟩, hU, hlk, hret, rfl, rfl, rfl⟩ := X
  intro ρ H locs ls hH hE hlo hL hcL hcS
  exact lv_lload hx hb d (hL.2.2 _ _ h) (k ρ H locs ls hH hE hlo hL hcL (clS_cons clV_l hcS))
theorem V_aload_n {j : Fin 4} {v : Value} (X : Fx Z l0 R0 cc nL own ret Post) (d : decode cc pc = .ok (.aload_n j, 1)) (h : lv[(j : Nat)]? = some (some v)) (hr : isR v = true) (k : V Z nL I lv (v :: st) cells slots (pc + 1)) : V Z nL I lv st cells slots pc := by
  obtain ⟨p, l, e, R, s, m, args, below, meth, c, Q, D, tC, A, ρ0, I0⟩ := Z
  obtain ⟨⟨hx, hb, hml, hown, hts⟩, hU, hlk, hret, rfl, rfl, rfl⟩ := X
  intro ρ H locs ls hH hE hlo hL hcL hcS
  have h1 := hL.2.2 _ _ h
  have k1 := k ρ H locs ls hH hE hlo hL hcL (clS_cons (clL_at hcL h) hcS)
  rcases isR_or hr with rfl | ⟨a, rfl⟩
  · exact lv_aload_nN hx hb d rfl h1 k1
  · exact lv_aload_n hx hb d rfl h1 k1
theorem V_aload {i : Nat} {v : Value} (X : Fx Z l0 R0 cc nL own ret Post) (d : decode cc pc = .ok (.aload i, 2)) (h : lv[i]? = some (some v)) (hr : isR v = true) (k : V Z nL I lv (v :: st) cells slots (pc + 2)) : V Z nL I lv st cells slots pc := by
  obtain ⟨p, l, e, R, s, m, args, below, meth, c, Q, D, tC, A, ρ0, I0⟩ := Z
  obtain ⟨⟨hx, hb, hml, hown, hts⟩, hU, hlk, hret, rfl, rfl, rfl⟩ := X
  intro ρ H locs ls hH hE hlo hL hcL hcS
  have h1 := hL.2.2 _ _ h
  have k1 := k ρ H locs ls hH hE hlo hL hcL (clS_cons (clL_at hcL h) hcS)
  rcases isR_or hr with rfl | ⟨a, rfl⟩
  · exact lv_aloadN hx hb d h1 k1
  · exact lv_aload hx hb d h1 k1
theorem V_iadd {x y : Int32} (X : Fx Z l0 R0 cc nL own ret Post) (d : decode cc pc = .ok (.iadd, 1))  (k : V Z nL I lv (.int (x + y) :: st) cells slots (pc + 1)) : V Z nL I lv (.int y :: .int x :: st) cells slots pc := by
  obtain ⟨p, l, e, R, s, m, args, below, meth, c, Q, D, tC, A, ρ0, I0⟩ := Z
  obtain ⟨⟨hx, hb, hml, hown, hts⟩, hU, hlk, hret, rfl, rfl, rfl⟩ := X
  intro ρ H locs ls hH hE hlo hL hcL hcS
  exact lv_iadd hx hb d (k ρ H locs ls hH hE hlo hL hcL (clS_cons clV_i (clS_tl (clS_tl hcS))))
theorem V_isub {x y : Int32} (X : Fx Z l0 R0 cc nL own ret Post) (d : decode cc pc = .ok (.isub, 1))  (k : V Z nL I lv (.int (x - y) :: st) cells slots (pc + 1)) : V Z nL I lv (.int y :: .int x :: st) cells slots pc := by
  obtain ⟨p, l, e, R, s, m, args, below, meth, c, Q, D, tC, A, ρ0, I0⟩ := Z
  obtain ⟨⟨hx, hb, hml, hown, hts⟩, hU, hlk, hret, rfl, rfl, rfl⟩ := X
  intro ρ H locs ls hH hE hlo hL hcL hcS
  exact lv_isub hx hb d (k ρ H locs ls hH hE hlo hL hcL (clS_cons clV_i (clS_tl (clS_tl hcS))))
theorem V_imul {x y : Int32} (X : Fx Z l0 R0 cc nL own ret Post) (d : decode cc pc = .ok (.imul, 1))  (k : V Z nL I lv (.int (x * y) :: st) cells slots (pc + 1)) : V Z nL I lv (.int y :: .int x :: st) cells slots pc := by
  obtain ⟨p, l, e, R, s, m, args, below, meth, c, Q, D, tC, A, ρ0, I0⟩ := Z
  obtain ⟨⟨hx, hb, hml, hown, hts⟩, hU, hlk, hret, rfl, rfl, rfl⟩ := X
  intro ρ H locs ls hH hE hlo hL hcL hcS
  exact lv_imul hx hb d (k ρ H locs ls hH hE hlo hL hcL (clS_cons clV_i (clS_tl (clS_tl hcS))))
theorem V_iand {x y : Int32} (X : Fx Z l0 R0 cc nL own ret Post) (d : decode cc pc = .ok (.iand, 1))  (k : V Z nL I lv (.int (x &&& y) :: st) cells slots (pc + 1)) : V Z nL I lv (.int y :: .int x :: st) cells slots pc := by
  obtain ⟨p, l, e, R, s, m, args, below, meth, c, Q, D, tC, A, ρ0, I0⟩ := Z
  obtain ⟨⟨hx, hb, hml, hown, hts⟩, hU, hlk, hret, rfl, rfl, rfl⟩ := X
  intro ρ H locs ls hH hE hlo hL hcL hcS
  exact lv_iand hx hb d (k ρ H locs ls hH hE hlo hL hcL (clS_cons clV_i (clS_tl (clS_tl hcS))))
theorem V_ishr {x y : Int32} (X : Fx Z l0 R0 cc nL own ret Post) (d : decode cc pc = .ok (.ishr, 1))  (k : V Z nL I lv (.int (x >>> (y &&& 31)) :: st) cells slots (pc + 1)) : V Z nL I lv (.int y :: .int x :: st) cells slots pc := by
  obtain ⟨p, l, e, R, s, m, args, below, meth, c, Q, D, tC, A, ρ0, I0⟩ := Z
  obtain ⟨⟨hx, hb, hml, hown, hts⟩, hU, hlk, hret, rfl, rfl, rfl⟩ := X
  intro ρ H locs ls hH hE hlo hL hcL hcS
  exact lv_ishr hx hb d (k ρ H locs ls hH hE hlo hL hcL (clS_cons clV_i (clS_tl (clS_tl hcS))))
theorem V_irem {x y : Int32} (X : Fx Z l0 R0 cc nL own ret Post) (d : decode cc pc = .ok (.irem, 1)) (hne : ¬ y = 0) (k : V Z nL I lv (.int (x - x / y * y) :: st) cells slots (pc + 1)) : V Z nL I lv (.int y :: .int x :: st) cells slots pc := by
  obtain ⟨p, l, e, R, s, m, args, below, meth, c, Q, D, tC, A, ρ0, I0⟩ := Z
  obtain ⟨⟨hx, hb, hml, hown, hts⟩, hU, hlk, hret, rfl, rfl, rfl⟩ := X
  intro ρ H locs ls hH hE hlo hL hcL hcS
  exact lv_irem hx hb d hne (k ρ H locs ls hH hE hlo hL hcL (clS_cons clV_i (clS_tl (clS_tl hcS))))
theorem V_iushr {x y : Int32} (X : Fx Z l0 R0 cc nL own ret Post) (d : decode cc pc = .ok (.iushr, 1))  (k : V Z nL I lv (.int ((x.toUInt32 >>> (y.toUInt32 &&& Int32.toUInt32 31)).toInt32) :: st) cells slots (pc + 1)) : V Z nL I lv (.int y :: .int x :: st) cells slots pc := by
  obtain ⟨p, l, e, R, s, m, args, below, meth, c, Q, D, tC, A, ρ0, I0⟩ := Z
  obtain ⟨⟨hx, hb, hml, hown, hts⟩, hU, hlk, hret, rfl, rfl, rfl⟩ := X
  intro ρ H locs ls hH hE hlo hL hcL hcS
  exact lv_iushr hx hb d rfl (k ρ H locs ls hH hE hlo hL hcL (clS_cons clV_i (clS_tl (clS_tl hcS))))
theorem V_ineg {x : Int32} (X : Fx Z l0 R0 cc nL own ret Post) (d : decode cc pc = .ok (.ineg, 1))  (k : V Z nL I lv (.int (-x) :: st) cells slots (pc + 1)) : V Z nL I lv (.int x :: st) cells slots pc := by
  obtain ⟨p, l, e, R, s, m, args, below, meth, c, Q, D, tC, A, ρ0, I0⟩ := Z
  obtain ⟨⟨hx, hb, hml, hown, hts⟩, hU, hlk, hret, rfl, rfl, rfl⟩ := X
  intro ρ H locs ls hH hE hlo hL hcL hcS
  exact lv_ineg hx hb d (k ρ H locs ls hH hE hlo hL hcL (clS_cons clV_i (clS_tl hcS)))
theorem V_lsub {x y : Int64} (X : Fx Z l0 R0 cc nL own ret Post) (d : decode cc pc = .ok (.lsub, 1))  (k : V Z nL I lv (.long (x - y) :: st) cells slots (pc + 1)) : V Z nL I lv (.long y :: .long x :: st) cells slots pc := by
  obtain ⟨p, l, e, R, s, m, args, below, meth, c, Q, D, tC, A, ρ0, I0⟩ := Z
  obtain ⟨⟨hx, hb, hml, hown, hts⟩, hU, hlk, hret, rfl, rfl, rfl⟩ := X
  intro ρ H locs ls hH hE hlo hL hcL hcS
  exact lv_lsub hx hb d (k ρ H locs ls hH hE hlo hL hcL (clS_cons clV_l (clS_tl (clS_tl hcS))))
theorem V_ladd {x y : Int64} (X : Fx Z l0 R0 cc nL own ret Post) (d : decode cc pc = .ok (.ladd, 1))  (k : V Z nL I lv (.long (x + y) :: st) cells slots (pc + 1)) : V Z nL I lv (.long y :: .long x :: st) cells slots pc := by
  obtain ⟨p, l, e, R, s, m, args, below, meth, c, Q, D, tC, A, ρ0, I0⟩ := Z
  obtain ⟨⟨hx, hb, hml, hown, hts⟩, hU, hlk, hret, rfl, rfl, rfl⟩ := X
  intro ρ H locs ls hH hE hlo hL hcL hcS
  exact lv_ladd hx hb d (k ρ H locs ls hH hE hlo hL hcL (clS_cons clV_l (clS_tl (clS_tl hcS))))
theorem V_land {x y : Int64} (X : Fx Z l0 R0 cc nL own ret Post) (d : decode cc pc = .ok (.land, 1))  (k : V Z nL I lv (.long (x &&& y) :: st) cells slots (pc + 1)) : V Z nL I lv (.long y :: .long x :: st) cells slots pc := by
  obtain ⟨p, l, e, R, s, m, args, below, meth, c, Q, D, tC, A, ρ0, I0⟩ := Z
  obtain ⟨⟨hx, hb, hml, hown, hts⟩, hU, hlk, hret, rfl, rfl, rfl⟩ := X
  intro ρ H locs ls hH hE hlo hL hcL hcS
  exact lv_land hx hb d (k ρ H locs ls hH hE hlo hL hcL (clS_cons clV_l (clS_tl (clS_tl hcS))))
theorem V_lor {x y : Int64} (X : Fx Z l0 R0 cc nL own ret Post) (d : decode cc pc = .ok (.lor, 1))  (k : V Z nL I lv (.long (x ||| y) :: st) cells slots (pc + 1)) : V Z nL I lv (.long y :: .long x :: st) cells slots pc := by
  obtain ⟨p, l, e, R, s, m, args, below, meth, c, Q, D, tC, A, ρ0, I0⟩ := Z
  obtain ⟨⟨hx, hb, hml, hown, hts⟩, hU, hlk, hret, rfl, rfl, rfl⟩ := X
  intro ρ H locs ls hH hE hlo hL hcL hcS
  exact lv_lor hx hb d (k ρ H locs ls hH hE hlo hL hcL (clS_cons clV_l (clS_tl (clS_tl hcS))))
theorem V_lshl {x : Int64} {y : Int32} (X : Fx Z l0 R0 cc nL own ret Post) (d : decode cc pc = .ok (.lshl, 1))  (k : V Z nL I lv (.long (x <<< (y.toInt64 &&& 63)) :: st) cells slots (pc + 1)) : V Z nL I lv (.int y :: .long x :: st) cells slots pc := by
  obtain ⟨p, l, e, R, s, m, args, below, meth, c, Q, D, tC, A, ρ0, I0⟩ := Z
  obtain ⟨⟨hx, hb, hml, hown, hts⟩, hU, hlk, hret, rfl, rfl, rfl⟩ := X
  intro ρ H locs ls hH hE hlo hL hcL hcS
  exact lv_lshl hx hb d rfl (k ρ H locs ls hH hE hlo hL hcL (clS_cons clV_l (clS_tl (clS_tl hcS))))
theorem V_i2l {x : Int32} (X : Fx Z l0 R0 cc nL own ret Post) (d : decode cc pc = .ok (.i2l, 1))  (k : V Z nL I lv (.long x.toInt64 :: st) cells slots (pc + 1)) : V Z nL I lv (.int x :: st) cells slots pc := by
  obtain ⟨p, l, e, R, s, m, args, below, meth, c, Q, D, tC, A, ρ0, I0⟩ := Z
  obtain ⟨⟨hx, hb, hml, hown, hts⟩, hU, hlk, hret, rfl, rfl, rfl⟩ := X
  intro ρ H locs ls hH hE hlo hL hcL hcS
  exact lv_i2l hx hb d rfl (k ρ H locs ls hH hE hlo hL hcL (clS_cons clV_l (clS_tl hcS)))
theorem V_dup {v : Value} (X : Fx Z l0 R0 cc nL own ret Post) (d : decode cc pc = .ok (.dup, 1)) (h1 : v.category = 1) (k : V Z nL I lv (v :: v :: st) cells slots (pc + 1)) : V Z nL I lv (v :: st) cells slots pc := by
  obtain ⟨p, l, e, R, s, m, args, below, meth, c, Q, D, tC, A, ρ0, I0⟩ := Z
  obtain ⟨⟨hx, hb, hml, hown, hts⟩, hU, hlk, hret, rfl, rfl, rfl⟩ := X
  intro ρ H locs ls hH hE hlo hL hcL hcS
  exact lv_dup hx hb d ((cv_cat ρ _).trans h1) (k ρ H locs ls hH hE hlo hL hcL (clS_cons (clS_hd hcS) hcS))
theorem V_pop {v : Value} (X : Fx Z l0 R0 cc nL own ret Post) (d : decode cc pc = .ok (.pop, 1)) (h1 : v.category = 1) (k : V Z nL I lv st cells slots (pc + 1)) : V Z nL I lv (v :: st) cells slots pc := by
  obtain ⟨p, l, e, R, s, m, args, below, meth, c, Q, D, tC, A, ρ0, I0⟩ := Z
  obtain ⟨⟨hx, hb, hml, hown, hts⟩, hU, hlk, hret, rfl, rfl, rfl⟩ := X
  intro ρ H locs ls hH hE hlo hL hcL hcS
  exact lv_pop hx hb d ((cv_cat ρ _).trans h1) (k ρ H locs ls hH hE hlo hL hcL (clS_tl hcS))
theorem V_dup_x1 {v u : Value} (X : Fx Z l0 R0 cc nL own ret Post) (d : decode cc pc = .ok (.dup_x1, 1)) (h1 : v.category = 1) (h2 : u.category = 1) (k : V Z nL I lv (v :: u :: v :: st) cells slots (pc + 1)) : V Z nL I lv (v :: u :: st) cells slots pc := by
  obtain ⟨p, l, e, R, s, m, args, below, meth, c, Q, D, tC, A, ρ0, I0⟩ := Z
  obtain ⟨⟨hx, hb, hml, hown, hts⟩, hU, hlk, hret, rfl, rfl, rfl⟩ := X
  intro ρ H locs ls hH hE hlo hL hcL hcS
  exact lv_dup_x1 hx hb d ((cv_cat ρ _).trans h1) ((cv_cat ρ _).trans h2) (k ρ H locs ls hH hE hlo hL hcL (clS_cons (clS_hd hcS) (clS_cons (clS_hd (clS_tl hcS)) (clS_cons (clS_hd hcS) (clS_tl (clS_tl hcS))))))
theorem V_dup2 {v u : Value} (X : Fx Z l0 R0 cc nL own ret Post) (d : decode cc pc = .ok (.dup2, 1)) (h1 : v.category = 1) (h2 : u.category = 1) (k : V Z nL I lv (v :: u :: v :: u :: st) cells slots (pc + 1)) : V Z nL I lv (v :: u :: st) cells slots pc := by
  obtain ⟨p, l, e, R, s, m, args, below, meth, c, Q, D, tC, A, ρ0, I0⟩ := Z
  obtain ⟨⟨hx, hb, hml, hown, hts⟩, hU, hlk, hret, rfl, rfl, rfl⟩ := X
  intro ρ H locs ls hH hE hlo hL hcL hcS
  exact lv_dup2_11 hx hb d ((cv_cat ρ _).trans h1) ((cv_cat ρ _).trans h2) (k ρ H locs ls hH hE hlo hL hcL (clS_cons (clS_hd hcS) (clS_cons (clS_hd (clS_tl hcS)) hcS)))
theorem V_dup2l {v : Value} (X : Fx Z l0 R0 cc nL own ret Post) (d : decode cc pc = .ok (.dup2, 1)) (h1 : v.category = 2) (k : V Z nL I lv (v :: v :: st) cells slots (pc + 1)) : V Z nL I lv (v :: st) cells slots pc := by
  obtain ⟨p, l, e, R, s, m, args, below, meth, c, Q, D, tC, A, ρ0, I0⟩ := Z
  obtain ⟨⟨hx, hb, hml, hown, hts⟩, hU, hlk, hret, rfl, rfl, rfl⟩ := X
  intro ρ H locs ls hH hE hlo hL hcL hcS
  exact lv_dup2_2 hx hb d ((cv_cat ρ _).trans h1) (k ρ H locs ls hH hE hlo hL hcL (clS_cons (clS_hd hcS) hcS))
theorem V_if_eq {x : Int32} {off : Int} (X : Fx Z l0 R0 cc nL own ret Post) (d : decode cc pc = .ok (.ifCond .eq off, 3)) (tgt : Nat) (ht : (pc : Int) + off = (tgt : Int)) (kt : x = 0 → V Z nL I lv st cells slots tgt) (kf : ¬ x = 0 → V Z nL I lv st cells slots (pc + 3)) : V Z nL I lv (.int x :: st) cells slots pc := by
  obtain ⟨p, l, e, R, s, m, args, below, meth, c, Q, D, tC, A, ρ0, I0⟩ := Z
  obtain ⟨⟨hx, hb, hml, hown, hts⟩, hU, hlk, hret, rfl, rfl, rfl⟩ := X
  intro ρ H locs ls hH hE hlo hL hcL hcS
  exact lv_if_eq hx hb d ht (fun q => kt q ρ H locs ls hH hE hlo hL hcL (clS_tl hcS)) (fun q => kf q ρ H locs ls hH hE hlo hL hcL (clS_tl hcS))
theorem V_icmp_eq {x y : Int32} {off : Int} (X : Fx Z l0 R0 cc nL own ret Post) (d : decode cc pc = .ok (.if_icmp .eq off, 3)) (tgt : Nat) (ht : (pc : Int) + off = (tgt : Int)) (kt : x = y → V Z nL I lv st cells slots tgt) (kf : ¬ x = y → V Z nL I lv st cells slots (pc + 3)) : V Z nL I lv (.int y :: .int x :: st) cells slots pc := by
  obtain ⟨p, l, e, R, s, m, args, below, meth, c, Q, D, tC, A, ρ0, I0⟩ := Z
  obtain ⟨⟨hx, hb, hml, hown, hts⟩, hU, hlk, hret, rfl, rfl, rfl⟩ := X
  intro ρ H locs ls hH hE hlo hL hcL hcS
  exact lv_icmp_eq hx hb d ht (fun q => kt q ρ H locs ls hH hE hlo hL hcL (clS_tl (clS_tl hcS))) (fun q => kf q ρ H locs ls hH hE hlo hL hcL (clS_tl (clS_tl hcS)))
theorem V_if_ne {x : Int32} {off : Int} (X : Fx Z l0 R0 cc nL own ret Post) (d : decode cc pc = .ok (.ifCond .ne off, 3)) (tgt : Nat) (ht : (pc : Int) + off = (tgt : Int)) (kt : ¬ x = 0 → V Z nL I lv st cells slots tgt) (kf : x = 0 → V Z nL I lv st cells slots (pc + 3)) : V Z nL I lv (.int x :: st) cells slots pc := by
  obtain ⟨p, l, e, R, s, m, args, below, meth, c, Q, D, tC, A, ρ0, I0⟩ := Z
  obtain ⟨⟨hx, hb, hml, hown, hts⟩, hU, hlk, hret, rfl, rfl, rfl⟩ := X
  intro ρ H locs ls hH hE hlo hL hcL hcS
  exact lv_if_ne hx hb d ht (fun q => kt q ρ H locs ls hH hE hlo hL hcL (clS_tl hcS)) (fun q => kf q ρ H locs ls hH hE hlo hL hcL (clS_tl hcS))
theorem V_icmp_ne {x y : Int32} {off : Int} (X : Fx Z l0 R0 cc nL own ret Post) (d : decode cc pc = .ok (.if_icmp .ne off, 3)) (tgt : Nat) (ht : (pc : Int) + off = (tgt : Int)) (kt : ¬ x = y → V Z nL I lv st cells slots tgt) (kf : x = y → V Z nL I lv st cells slots (pc + 3)) : V Z nL I lv (.int y :: .int x :: st) cells slots pc := by
  obtain ⟨p, l, e, R, s, m, args, below, meth, c, Q, D, tC, A, ρ0, I0⟩ := Z
  obtain ⟨⟨hx, hb, hml, hown, hts⟩, hU, hlk, hret, rfl, rfl, rfl⟩ := X
  intro ρ H locs ls hH hE hlo hL hcL hcS
  exact lv_icmp_ne hx hb d ht (fun q => kt q ρ H locs ls hH hE hlo hL hcL (clS_tl (clS_tl hcS))) (fun q => kf q ρ H locs ls hH hE hlo hL hcL (clS_tl (clS_tl hcS)))
theorem V_if_lt {x : Int32} {off : Int} (X : Fx Z l0 R0 cc nL own ret Post) (d : decode cc pc = .ok (.ifCond .lt off, 3)) (tgt : Nat) (ht : (pc : Int) + off = (tgt : Int)) (kt : x < 0 → V Z nL I lv st cells slots tgt) (kf : ¬ x < 0 → V Z nL I lv st cells slots (pc + 3)) : V Z nL I lv (.int x :: st) cells slots pc := by
  obtain ⟨p, l, e, R, s, m, args, below, meth, c, Q, D, tC, A, ρ0, I0⟩ := Z
  obtain ⟨⟨hx, hb, hml, hown, hts⟩, hU, hlk, hret, rfl, rfl, rfl⟩ := X
  intro ρ H locs ls hH hE hlo hL hcL hcS
  exact lv_if_lt hx hb d ht (fun q => kt q ρ H locs ls hH hE hlo hL hcL (clS_tl hcS)) (fun q => kf q ρ H locs ls hH hE hlo hL hcL (clS_tl hcS))
theorem V_icmp_lt {x y : Int32} {off : Int} (X : Fx Z l0 R0 cc nL own ret Post) (d : decode cc pc = .ok (.if_icmp .lt off, 3)) (tgt : Nat) (ht : (pc : Int) + off = (tgt : Int)) (kt : x < y → V Z nL I lv st cells slots tgt) (kf : ¬ x < y → V Z nL I lv st cells slots (pc + 3)) : V Z nL I lv (.int y :: .int x :: st) cells slots pc := by
  obtain ⟨p, l, e, R, s, m, args, below, meth, c, Q, D, tC, A, ρ0, I0⟩ := Z
  obtain ⟨⟨hx, hb, hml, hown, hts⟩, hU, hlk, hret, rfl, rfl, rfl⟩ := X
  intro ρ H locs ls hH hE hlo hL hcL hcS
  exact lv_icmp_lt hx hb d ht (fun q => kt q ρ H locs ls hH hE hlo hL hcL (clS_tl (clS_tl hcS))) (fun q => kf q ρ H locs ls hH hE hlo hL hcL (clS_tl (clS_tl hcS)))
theorem V_if_ge {x : Int32} {off : Int} (X : Fx Z l0 R0 cc nL own ret Post) (d : decode cc pc = .ok (.ifCond .ge off, 3)) (tgt : Nat) (ht : (pc : Int) + off = (tgt : Int)) (kt : 0 ≤ x → V Z nL I lv st cells slots tgt) (kf : ¬ 0 ≤ x → V Z nL I lv st cells slots (pc + 3)) : V Z nL I lv (.int x :: st) cells slots pc := by
  obtain ⟨p, l, e, R, s, m, args, below, meth, c, Q, D, tC, A, ρ0, I0⟩ := Z
  obtain ⟨⟨hx, hb, hml, hown, hts⟩, hU, hlk, hret, rfl, rfl, rfl⟩ := X
  intro ρ H locs ls hH hE hlo hL hcL hcS
  exact lv_if_ge hx hb d ht (fun q => kt q ρ H locs ls hH hE hlo hL hcL (clS_tl hcS)) (fun q => kf q ρ H locs ls hH hE hlo hL hcL (clS_tl hcS))
theorem V_icmp_ge {x y : Int32} {off : Int} (X : Fx Z l0 R0 cc nL own ret Post) (d : decode cc pc = .ok (.if_icmp .ge off, 3)) (tgt : Nat) (ht : (pc : Int) + off = (tgt : Int)) (kt : y ≤ x → V Z nL I lv st cells slots tgt) (kf : ¬ y ≤ x → V Z nL I lv st cells slots (pc + 3)) : V Z nL I lv (.int y :: .int x :: st) cells slots pc := by
  obtain ⟨p, l, e, R, s, m, args, below, meth, c, Q, D, tC, A, ρ0, I0⟩ := Z
  obtain ⟨⟨hx, hb, hml, hown, hts⟩, hU, hlk, hret, rfl, rfl, rfl⟩ := X
  intro ρ H locs ls hH hE hlo hL hcL hcS
  exact lv_icmp_ge hx hb d ht (fun q => kt q ρ H locs ls hH hE hlo hL hcL (clS_tl (clS_tl hcS))) (fun q => kf q ρ H locs ls hH hE hlo hL hcL (clS_tl (clS_tl hcS)))
theorem V_if_gt {x : Int32} {off : Int} (X : Fx Z l0 R0 cc nL own ret Post) (d : decode cc pc = .ok (.ifCond .gt off, 3)) (tgt : Nat) (ht : (pc : Int) + off = (tgt : Int)) (kt : 0 < x → V Z nL I lv st cells slots tgt) (kf : ¬ 0 < x → V Z nL I lv st cells slots (pc + 3)) : V Z nL I lv (.int x :: st) cells slots pc := by
  obtain ⟨p, l, e, R, s, m, args, below, meth, c, Q, D, tC, A, ρ0, I0⟩ := Z
  obtain ⟨⟨hx, hb, hml, hown, hts⟩, hU, hlk, hret, rfl, rfl, rfl⟩ := X
  intro ρ H locs ls hH hE hlo hL hcL hcS
  exact lv_if_gt hx hb d ht (fun q => kt q ρ H locs ls hH hE hlo hL hcL (clS_tl hcS)) (fun q => kf q ρ H locs ls hH hE hlo hL hcL (clS_tl hcS))
theorem V_icmp_gt {x y : Int32} {off : Int} (X : Fx Z l0 R0 cc nL own ret Post) (d : decode cc pc = .ok (.if_icmp .gt off, 3)) (tgt : Nat) (ht : (pc : Int) + off = (tgt : Int)) (kt : y < x → V Z nL I lv st cells slots tgt) (kf : ¬ y < x → V Z nL I lv st cells slots (pc + 3)) : V Z nL I lv (.int y :: .int x :: st) cells slots pc := by
  obtain ⟨p, l, e, R, s, m, args, below, meth, c, Q, D, tC, A, ρ0, I0⟩ := Z
  obtain ⟨⟨hx, hb, hml, hown, hts⟩, hU, hlk, hret, rfl, rfl, rfl⟩ := X
  intro ρ H locs ls hH hE hlo hL hcL hcS
  exact lv_icmp_gt hx hb d ht (fun q => kt q ρ H locs ls hH hE hlo hL hcL (clS_tl (clS_tl hcS))) (fun q => kf q ρ H locs ls hH hE hlo hL hcL (clS_tl (clS_tl hcS)))
theorem V_if_le {x : Int32} {off : Int} (X : Fx Z l0 R0 cc nL own ret Post) (d : decode cc pc = .ok (.ifCond .le off, 3)) (tgt : Nat) (ht : (pc : Int) + off = (tgt : Int)) (kt : x ≤ 0 → V Z nL I lv st cells slots tgt) (kf : ¬ x ≤ 0 → V Z nL I lv st cells slots (pc + 3)) : V Z nL I lv (.int x :: st) cells slots pc := by
  obtain ⟨p, l, e, R, s, m, args, below, meth, c, Q, D, tC, A, ρ0, I0⟩ := Z
  obtain ⟨⟨hx, hb, hml, hown, hts⟩, hU, hlk, hret, rfl, rfl, rfl⟩ := X
  intro ρ H locs ls hH hE hlo hL hcL hcS
  exact lv_if_le hx hb d ht (fun q => kt q ρ H locs ls hH hE hlo hL hcL (clS_tl hcS)) (fun q => kf q ρ H locs ls hH hE hlo hL hcL (clS_tl hcS))
theorem V_icmp_le {x y : Int32} {off : Int} (X : Fx Z l0 R0 cc nL own ret Post) (d : decode cc pc = .ok (.if_icmp .le off, 3)) (tgt : Nat) (ht : (pc : Int) + off = (tgt : Int)) (kt : x ≤ y → V Z nL I lv st cells slots tgt) (kf : ¬ x ≤ y → V Z nL I lv st cells slots (pc + 3)) : V Z nL I lv (.int y :: .int x :: st) cells slots pc := by
  obtain ⟨p, l, e, R, s, m, args, below, meth, c, Q, D, tC, A, ρ0, I0⟩ := Z
  obtain ⟨⟨hx, hb, hml, hown, hts⟩, hU, hlk, hret, rfl, rfl, rfl⟩ := X
  intro ρ H locs ls hH hE hlo hL hcL hcS
  exact lv_icmp_le hx hb d ht (fun q => kt q ρ H locs ls hH hE hlo hL hcL (clS_tl (clS_tl hcS))) (fun q => kf q ρ H locs ls hH hE hlo hL hcL (clS_tl (clS_tl hcS)))
theorem V_goto {off : Int} (X : Fx Z l0 R0 cc nL own ret Post) (d : decode cc pc = .ok (.goto off, 3)) (tgt : Nat) (ht : (pc : Int) + off = (tgt : Int)) (k : V Z nL I lv st cells slots tgt) : V Z nL I lv st cells slots pc := by
  obtain ⟨p, l, e, R, s, m, args, below, meth, c, Q, D, tC, A, ρ0, I0⟩ := Z
  obtain ⟨⟨hx, hb, hml, hown, hts⟩, hU, hlk, hret, rfl, rfl, rfl⟩ := X
  intro ρ H locs ls hH hE hlo hL hcL hcS
  exact lv_goto hx hb d ht (k ρ H locs ls hH hE hlo hL hcL hcS)
theorem V_ifnull {α : Nat} {off : Int} (X : Fx Z l0 R0 cc nL own ret Post) (d : decode cc pc = .ok (.ifnull off, 3))  (k : V Z nL I lv st cells slots (pc + 3)) : V Z nL I lv (.ref α :: st) cells slots pc := by
  obtain ⟨p, l, e, R, s, m, args, below, meth, c, Q, D, tC, A, ρ0, I0⟩ := Z
  obtain ⟨⟨hx, hb, hml, hown, hts⟩, hU, hlk, hret, rfl, rfl, rfl⟩ := X
  intro ρ H locs ls hH hE hlo hL hcL hcS
  exact lv_ifnull hx hb d (k ρ H locs ls hH hE hlo hL hcL (clS_tl hcS))
theorem V_ifnonnull {α : Nat} {off : Int} (X : Fx Z l0 R0 cc nL own ret Post) (d : decode cc pc = .ok (.ifnonnull off, 3)) (tgt : Nat) (ht : (pc : Int) + off = (tgt : Int)) (k : V Z nL I lv st cells slots tgt) : V Z nL I lv (.ref α :: st) cells slots pc := by
  obtain ⟨p, l, e, R, s, m, args, below, meth, c, Q, D, tC, A, ρ0, I0⟩ := Z
  obtain ⟨⟨hx, hb, hml, hown, hts⟩, hU, hlk, hret, rfl, rfl, rfl⟩ := X
  intro ρ H locs ls hH hE hlo hL hcL hcS
  exact lv_ifnonnull hx hb d ht (k ρ H locs ls hH hE hlo hL hcL (clS_tl hcS))
theorem V_ifnullN {off : Int} (X : Fx Z l0 R0 cc nL own ret Post) (d : decode cc pc = .ok (.ifnull off, 3)) (tgt : Nat) (ht : (pc : Int) + off = (tgt : Int)) (k : V Z nL I lv st cells slots tgt) : V Z nL I lv (.null :: st) cells slots pc := by
  obtain ⟨p, l, e, R, s, m, args, below, meth, c, Q, D, tC, A, ρ0, I0⟩ := Z
  obtain ⟨⟨hx, hb, hml, hown, hts⟩, hU, hlk, hret, rfl, rfl, rfl⟩ := X
  intro ρ H locs ls hH hE hlo hL hcL hcS
  exact lv_ifnullN hx hb d ht (k ρ H locs ls hH hE hlo hL hcL (clS_tl hcS))
theorem V_ifnonnullN {off : Int} (X : Fx Z l0 R0 cc nL own ret Post) (d : decode cc pc = .ok (.ifnonnull off, 3))  (k : V Z nL I lv st cells slots (pc + 3)) : V Z nL I lv (.null :: st) cells slots pc := by
  obtain ⟨p, l, e, R, s, m, args, below, meth, c, Q, D, tC, A, ρ0, I0⟩ := Z
  obtain ⟨⟨hx, hb, hml, hown, hts⟩, hU, hlk, hret, rfl, rfl, rfl⟩ := X
  intro ρ H locs ls hH hE hlo hL hcL hcS
  exact lv_ifnonnullN hx hb d (k ρ H locs ls hH hE hlo hL hcL (clS_tl hcS))
theorem V_acmp_eq {α β : Nat} {off : Int} (X : Fx Z l0 R0 cc nL own ret Post) (d : decode cc pc = .ok (.if_acmp .eq off, 3)) (tgt : Nat) (ht : (pc : Int) + off = (tgt : Int)) (hα : I α ≠ none ∨ α = β) (hβ : I β ≠ none ∨ α = β) (kt : α = β → V Z nL I lv st cells slots tgt) (kf : ¬ α = β → V Z nL I lv st cells slots (pc + 3)) : V Z nL I lv (.ref β :: .ref α :: st) cells slots pc := by
  obtain ⟨p, l, e, R, s, m, args, below, meth, c, Q, D, tC, A, ρ0, I0⟩ := Z
  obtain ⟨⟨hx, hb, hml, hown, hts⟩, hU, hlk, hret, rfl, rfl, rfl⟩ := X
  intro ρ H locs ls hH hE hlo hL hcL hcS
  have hi : (some (ρ α) = some (ρ β)) ↔ α = β := by
    constructor
    · intro q
      rcases hα with h1 | h1
      · rcases hβ with h2 | h2
        · exact hH.2.1 α β h1 h2 (Option.some.inj q)
        · exact h2
      · exact h1
    · rintro rfl
      rfl
  exact lv_acmp_eq (rx := some (ρ α)) (ry := some (ρ β)) hx hb d ht (fun q => kt (hi.mp q) ρ H locs ls hH hE hlo hL hcL (clS_tl (clS_tl hcS))) (fun q => kf (fun z => q (hi.mpr z)) ρ H locs ls hH hE hlo hL hcL (clS_tl (clS_tl hcS)))
theorem V_acmp_ne {α β : Nat} {off : Int} (X : Fx Z l0 R0 cc nL own ret Post) (d : decode cc pc = .ok (.if_acmp .ne off, 3)) (tgt : Nat) (ht : (pc : Int) + off = (tgt : Int)) (hα : I α ≠ none ∨ α = β) (hβ : I β ≠ none ∨ α = β) (kt : ¬ α = β → V Z nL I lv st cells slots tgt) (kf : α = β → V Z nL I lv st cells slots (pc + 3)) : V Z nL I lv (.ref β :: .ref α :: st) cells slots pc := by
  obtain ⟨p, l, e, R, s, m, args, below, meth, c, Q, D, tC, A, ρ0, I0⟩ := Z
  obtain ⟨⟨hx, hb, hml, hown, hts⟩, hU, hlk, hret, rfl, rfl, rfl⟩ := X
  intro ρ H locs ls hH hE hlo hL hcL hcS
  have hi : (some (ρ α) = some (ρ β)) ↔ α = β := by
    constructor
    · intro q
      rcases hα with h1 | h1
      · rcases hβ with h2 | h2
        · exact hH.2.1 α β h1 h2 (Option.some.inj q)
        · exact h2
      · exact h1
    · rintro rfl
      rfl
  exact lv_acmp_ne (rx := some (ρ α)) (ry := some (ρ β)) hx hb d ht (fun q => kt (fun z => q (hi.mpr z)) ρ H locs ls hH hE hlo hL hcL (clS_tl (clS_tl hcS))) (fun q => kf (hi.mp q) ρ H locs ls hH hE hlo hL hcL (clS_tl (clS_tl hcS)))
theorem V_tableOut {dflt lo hi : Int} {offs : Array Int} {len : Nat} {x : Int32} (X : Fx Z l0 R0 cc nL own ret Post) (d : decode cc pc = .ok (.tableswitch dflt lo hi offs, len)) (h : x.toInt < lo ∨ hi < x.toInt) (tgt : Nat) (ht : (pc : Int) + dflt = (tgt : Int)) (k : V Z nL I lv st cells slots tgt) : V Z nL I lv (.int x :: st) cells slots pc := by
  obtain ⟨p, l, e, R, s, m, args, below, meth, c, Q, D, tC, A, ρ0, I0⟩ := Z
  obtain ⟨⟨hx, hb, hml, hown, hts⟩, hU, hlk, hret, rfl, rfl, rfl⟩ := X
  intro ρ H locs ls hH hE hlo hL hcL hcS
  exact lv_tableOut hx hb d h ht (k ρ H locs ls hH hE hlo hL hcL (clS_tl hcS))
theorem V_tableIn {dflt lo hi : Int} {offs : Array Int} {len : Nat} {x : Int32} {off : Int} (X : Fx Z l0 R0 cc nL own ret Post) (d : decode cc pc = .ok (.tableswitch dflt lo hi offs, len)) (h1 : ¬ x.toInt < lo) (h2 : ¬ hi < x.toInt) (ho : offs[(x.toInt - lo).toNat]? = some off) (tgt : Nat) (ht : (pc : Int) + off = (tgt : Int)) (k : V Z nL I lv st cells slots tgt) : V Z nL I lv (.int x :: st) cells slots pc := by
  obtain ⟨p, l, e, R, s, m, args, below, meth, c, Q, D, tC, A, ρ0, I0⟩ := Z
  obtain ⟨⟨hx, hb, hml, hown, hts⟩, hU, hlk, hret, rfl, rfl, rfl⟩ := X
  intro ρ H locs ls hH hE hlo hL hcL hcS
  exact lv_tableIn hx hb d h1 h2 ho ht (k ρ H locs ls hH hE hlo hL hcL (clS_tl hcS))
theorem V_lcmp {x y : Int64} (X : Fx Z l0 R0 cc nL own ret Post) (d : decode cc pc = .ok (.lcmp, 1)) (k : V Z nL I lv (.int (lg_cmp x y) :: st) cells slots (pc + 1)) : V Z nL I lv (.long y :: .long x :: st) cells slots pc := by
  obtain ⟨p, l, e, R, s, m, args, below, meth, c, Q, D, tC, A, ρ0, I0⟩ := Z
  obtain ⟨⟨hx, hb, hml, hown, hts⟩, hU, hlk, hret, rfl, rfl, rfl⟩ := X
  intro ρ H locs ls hH hE hlo hL hcL hcS
  exact W.lcmp hx hb d (k ρ H locs ls hH hE hlo hL hcL (clS_cons clV_i (clS_tl (clS_tl hcS))))
end Rows
