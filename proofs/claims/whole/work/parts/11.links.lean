def nrf : Value → Bool
  | .ref _ => false
  | _ => true
theorem nrf_of {fs : List Value} (h : fs.all nrf = true) : ∀ v ∈ fs, ∀ a, v ≠ .ref a := by
  intro v hv a e
  have := List.all_eq_true.mp h v hv
  rw [e] at this
  cases this
/-! the class tables -/
theorem ly_Jx4a65c_0 : u_lay RJx4a65c TJx4a65c 0 ∈ wsA := (inA1 51 rfl rfl)
theorem ly_Jx4a65c_1 : u_lay RJx4a65c TJx4a65c 1 ∈ wsA := (inA1 47 rfl rfl)
theorem ly_Jx4a65c_2 : u_lay RJx4a65c TJx4a65c 2 ∈ wsA := (inA1 49 rfl rfl)
theorem ci_Jx4a65c : CI 0 RJx4a65c TJx4a65c 3 tyJx4a65c := ⟨rfl, ws_of (fun k hk => match k, hk with | 0, _ => ly_Jx4a65c_0 | 1, _ => ly_Jx4a65c_1 | 2, _ => ly_Jx4a65c_2 | k + 3, h => absurd h (Nat.not_lt.mpr (Nat.le_add_left _ _))), tyJx4a65c_ok, nmJx4a65c⟩
theorem ly_X0_0 : u_lay RX0 TX0 0 ∈ wsA := (inA2 30 rfl rfl)
theorem ly_X0_1 : u_lay RX0 TX0 1 ∈ wsA := (inA2 32 rfl rfl)
theorem ly_X0_2 : u_lay RX0 TX0 2 ∈ wsA := (inA2 34 rfl rfl)
theorem ly_X0_3 : u_lay RX0 TX0 3 ∈ wsA := (inA2 36 rfl rfl)
theorem ci_X0 : CI 1 RX0 TX0 4 tyX0 := ⟨rfl, ws_of (fun k hk => match k, hk with | 0, _ => ly_X0_0 | 1, _ => ly_X0_1 | 2, _ => ly_X0_2 | 3, _ => ly_X0_3 | k + 4, h => absurd h (Nat.not_lt.mpr (Nat.le_add_left _ _))), tyX0_ok, nmX0⟩
theorem ly_X1_0 : u_lay RX1 TX1 0 ∈ wsA := (inA3 182 rfl rfl)
theorem ly_X1_1 : u_lay RX1 TX1 1 ∈ wsA := (inA3 184 rfl rfl)
theorem ly_X1_2 : u_lay RX1 TX1 2 ∈ wsA := (inA3 186 rfl rfl)
theorem ly_X1_3 : u_lay RX1 TX1 3 ∈ wsA := (inA3 188 rfl rfl)
theorem ly_X1_4 : u_lay RX1 TX1 4 ∈ wsA := (inA3 190 rfl rfl)
theorem ly_X1_5 : u_lay RX1 TX1 5 ∈ wsA := (inA3 192 rfl rfl)
theorem ly_X1_6 : u_lay RX1 TX1 6 ∈ wsA := (inA3 194 rfl rfl)
theorem ly_X1_7 : u_lay RX1 TX1 7 ∈ wsA := (inA3 196 rfl rfl)
theorem ly_X1_8 : u_lay RX1 TX1 8 ∈ wsA := (inA3 198 rfl rfl)
theorem ly_X1_9 : u_lay RX1 TX1 9 ∈ wsA := (inA3 200 rfl rfl)
theorem ly_X1_10 : u_lay RX1 TX1 10 ∈ wsA := (inA3 202 rfl rfl)
theorem ci_X1 : CI 2 RX1 TX1 11 tyX1 := ⟨rfl, ws_of (fun k hk => match k, hk with | 0, _ => ly_X1_0 | 1, _ => ly_X1_1 | 2, _ => ly_X1_2 | 3, _ => ly_X1_3 | 4, _ => ly_X1_4 | 5, _ => ly_X1_5 | 6, _ => ly_X1_6 | 7, _ => ly_X1_7 | 8, _ => ly_X1_8 | 9, _ => ly_X1_9 | 10, _ => ly_X1_10 | k + 11, h => absurd h (Nat.not_lt.mpr (Nat.le_add_left _ _))), tyX1_ok, nmX1⟩
theorem ly_X2_0 : u_lay RX2 TX2 0 ∈ wsA := (inA2 132 rfl rfl)
theorem ly_X2_1 : u_lay RX2 TX2 1 ∈ wsA := (inA2 134 rfl rfl)
theorem ly_X2_2 : u_lay RX2 TX2 2 ∈ wsA := (inA2 136 rfl rfl)
theorem ly_X2_3 : u_lay RX2 TX2 3 ∈ wsA := (inA2 138 rfl rfl)
theorem ly_X2_4 : u_lay RX2 TX2 4 ∈ wsA := (inA2 140 rfl rfl)
theorem ly_X2_5 : u_lay RX2 TX2 5 ∈ wsA := (inA2 142 rfl rfl)
theorem ly_X2_6 : u_lay RX2 TX2 6 ∈ wsA := (inA2 144 rfl rfl)
theorem ci_X2 : CI 3 RX2 TX2 7 tyX2 := ⟨rfl, ws_of (fun k hk => match k, hk with | 0, _ => ly_X2_0 | 1, _ => ly_X2_1 | 2, _ => ly_X2_2 | 3, _ => ly_X2_3 | 4, _ => ly_X2_4 | 5, _ => ly_X2_5 | 6, _ => ly_X2_6 | k + 7, h => absurd h (Nat.not_lt.mpr (Nat.le_add_left _ _))), tyX2_ok, nmX2⟩
theorem ly_X3_0 : u_lay RX3 TX3 0 ∈ wsA := (inA1 117 rfl rfl)
theorem ly_X3_1 : u_lay RX3 TX3 1 ∈ wsA := (inA1 119 rfl rfl)
theorem ly_X3_2 : u_lay RX3 TX3 2 ∈ wsA := (inA1 121 rfl rfl)
theorem ci_X3 : CI 4 RX3 TX3 3 tyX3 := ⟨rfl, ws_of (fun k hk => match k, hk with | 0, _ => ly_X3_0 | 1, _ => ly_X3_1 | 2, _ => ly_X3_2 | k + 3, h => absurd h (Nat.not_lt.mpr (Nat.le_add_left _ _))), tyX3_ok, nmX3⟩
theorem ly_X4_0 : u_lay RX4 TX4 0 ∈ wsA := (inA3 149 rfl rfl)
theorem ly_X4_1 : u_lay RX4 TX4 1 ∈ wsA := (inA3 151 rfl rfl)
theorem ly_X4_2 : u_lay RX4 TX4 2 ∈ wsA := (inA3 153 rfl rfl)
theorem ci_X4 : CI 5 RX4 TX4 3 tyX4 := ⟨rfl, ws_of (fun k hk => match k, hk with | 0, _ => ly_X4_0 | 1, _ => ly_X4_1 | 2, _ => ly_X4_2 | k + 3, h => absurd h (Nat.not_lt.mpr (Nat.le_add_left _ _))), tyX4_ok, nmX4⟩
theorem ly_X5_0 : u_lay RX5 TX5 0 ∈ wsA := (inA1 213 rfl rfl)
theorem ly_X5_1 : u_lay RX5 TX5 1 ∈ wsA := (inA1 215 rfl rfl)
theorem ly_X5_2 : u_lay RX5 TX5 2 ∈ wsA := (inA1 217 rfl rfl)
theorem ci_X5 : CI 6 RX5 TX5 3 tyX5 := ⟨rfl, ws_of (fun k hk => match k, hk with | 0, _ => ly_X5_0 | 1, _ => ly_X5_1 | 2, _ => ly_X5_2 | k + 3, h => absurd h (Nat.not_lt.mpr (Nat.le_add_left _ _))), tyX5_ok, nmX5⟩
theorem ly_X6_0 : u_lay RX6 TX6 0 ∈ wsA := (inA2 183 rfl rfl)
theorem ly_X6_1 : u_lay RX6 TX6 1 ∈ wsA := (inA2 185 rfl rfl)
theorem ly_X6_2 : u_lay RX6 TX6 2 ∈ wsA := (inA2 187 rfl rfl)
theorem ly_X6_3 : u_lay RX6 TX6 3 ∈ wsA := (inA2 189 rfl rfl)
theorem ly_X6_4 : u_lay RX6 TX6 4 ∈ wsA := (inA2 191 rfl rfl)
theorem ly_X6_5 : u_lay RX6 TX6 5 ∈ wsA := (inA2 193 rfl rfl)
theorem ci_X6 : CI 7 RX6 TX6 6 tyX6 := ⟨rfl, ws_of (fun k hk => match k, hk with | 0, _ => ly_X6_0 | 1, _ => ly_X6_1 | 2, _ => ly_X6_2 | 3, _ => ly_X6_3 | 4, _ => ly_X6_4 | 5, _ => ly_X6_5 | k + 6, h => absurd h (Nat.not_lt.mpr (Nat.le_add_left _ _))), tyX6_ok, nmX6⟩
theorem ly_X7_0 : u_lay RX7 TX7 0 ∈ wsA := (inA3 58 rfl rfl)
theorem ly_X7_1 : u_lay RX7 TX7 1 ∈ wsA := (inA3 60 rfl rfl)
theorem ly_X7_2 : u_lay RX7 TX7 2 ∈ wsA := (inA3 62 rfl rfl)
theorem ly_X7_3 : u_lay RX7 TX7 3 ∈ wsA := (inA3 64 rfl rfl)
theorem ly_X7_4 : u_lay RX7 TX7 4 ∈ wsA := (inA3 66 rfl rfl)
theorem ly_X7_5 : u_lay RX7 TX7 5 ∈ wsA := (inA3 68 rfl rfl)
theorem ly_X7_6 : u_lay RX7 TX7 6 ∈ wsA := (inA3 70 rfl rfl)
theorem ly_X7_7 : u_lay RX7 TX7 7 ∈ wsA := (inA3 72 rfl rfl)
theorem ly_X7_8 : u_lay RX7 TX7 8 ∈ wsA := (inA3 74 rfl rfl)
theorem ly_X7_9 : u_lay RX7 TX7 9 ∈ wsA := (inA3 76 rfl rfl)
theorem ly_X7_10 : u_lay RX7 TX7 10 ∈ wsA := (inA3 78 rfl rfl)
theorem ly_X7_11 : u_lay RX7 TX7 11 ∈ wsA := (inA3 80 rfl rfl)
theorem ly_X7_12 : u_lay RX7 TX7 12 ∈ wsA := (inA3 82 rfl rfl)
theorem ly_X7_13 : u_lay RX7 TX7 13 ∈ wsA := (inA3 84 rfl rfl)
theorem ly_X7_14 : u_lay RX7 TX7 14 ∈ wsA := (inA3 86 rfl rfl)
theorem ly_X7_15 : u_lay RX7 TX7 15 ∈ wsA := (inA3 88 rfl rfl)
theorem ly_X7_16 : u_lay RX7 TX7 16 ∈ wsA := (inA3 90 rfl rfl)
theorem ly_X7_17 : u_lay RX7 TX7 17 ∈ wsA := (inA3 92 rfl rfl)
theorem ci_X7 : CI 8 RX7 TX7 18 tyX7 := ⟨rfl, ws_of (fun k hk => match k, hk with | 0, _ => ly_X7_0 | 1, _ => ly_X7_1 | 2, _ => ly_X7_2 | 3, _ => ly_X7_3 | 4, _ => ly_X7_4 | 5, _ => ly_X7_5 | 6, _ => ly_X7_6 | 7, _ => ly_X7_7 | 8, _ => ly_X7_8 | 9, _ => ly_X7_9 | 10, _ => ly_X7_10 | 11, _ => ly_X7_11 | 12, _ => ly_X7_12 | 13, _ => ly_X7_13 | 14, _ => ly_X7_14 | 15, _ => ly_X7_15 | 16, _ => ly_X7_16 | 17, _ => ly_X7_17 | k + 18, h => absurd h (Nat.not_lt.mpr (Nat.le_add_left _ _))), tyX7_ok, nmX7⟩
theorem ly_X8_0 : u_lay RX8 TX8 0 ∈ wsA := (inA1 65 rfl rfl)
theorem ly_X8_1 : u_lay RX8 TX8 1 ∈ wsA := (inA1 67 rfl rfl)
theorem ly_X8_2 : u_lay RX8 TX8 2 ∈ wsA := (inA1 69 rfl rfl)
theorem ly_X8_3 : u_lay RX8 TX8 3 ∈ wsA := (inA1 71 rfl rfl)
theorem ly_X8_4 : u_lay RX8 TX8 4 ∈ wsA := (inA1 73 rfl rfl)
theorem ly_X8_5 : u_lay RX8 TX8 5 ∈ wsA := (inA1 75 rfl rfl)
theorem ly_X8_6 : u_lay RX8 TX8 6 ∈ wsA := (inA1 77 rfl rfl)
theorem ly_X8_7 : u_lay RX8 TX8 7 ∈ wsA := (inA1 79 rfl rfl)
theorem ly_X8_8 : u_lay RX8 TX8 8 ∈ wsA := (inA1 81 rfl rfl)
theorem ly_X8_9 : u_lay RX8 TX8 9 ∈ wsA := (inA1 83 rfl rfl)
theorem ly_X8_10 : u_lay RX8 TX8 10 ∈ wsA := (inA1 85 rfl rfl)
theorem ci_X8 : CI 9 RX8 TX8 11 tyX8 := ⟨rfl, ws_of (fun k hk => match k, hk with | 0, _ => ly_X8_0 | 1, _ => ly_X8_1 | 2, _ => ly_X8_2 | 3, _ => ly_X8_3 | 4, _ => ly_X8_4 | 5, _ => ly_X8_5 | 6, _ => ly_X8_6 | 7, _ => ly_X8_7 | 8, _ => ly_X8_8 | 9, _ => ly_X8_9 | 10, _ => ly_X8_10 | k + 11, h => absurd h (Nat.not_lt.mpr (Nat.le_add_left _ _))), tyX8_ok, nmX8⟩
theorem ly_X9_0 : u_lay RX9 TX9 0 ∈ wsA := (inA4 145 rfl rfl)
theorem ly_X9_1 : u_lay RX9 TX9 1 ∈ wsA := (inA4 147 rfl rfl)
theorem ly_X9_2 : u_lay RX9 TX9 2 ∈ wsA := (inA4 149 rfl rfl)
theorem ly_X9_3 : u_lay RX9 TX9 3 ∈ wsA := (inA4 151 rfl rfl)
theorem ly_X9_4 : u_lay RX9 TX9 4 ∈ wsA := (inA4 153 rfl rfl)
theorem ly_X9_5 : u_lay RX9 TX9 5 ∈ wsA := (inA4 155 rfl rfl)
theorem ly_X9_6 : u_lay RX9 TX9 6 ∈ wsA := (inA4 157 rfl rfl)
theorem ly_X9_7 : u_lay RX9 TX9 7 ∈ wsA := (inA4 159 rfl rfl)
theorem ly_X9_8 : u_lay RX9 TX9 8 ∈ wsA := (inA4 161 rfl rfl)
theorem ly_X9_9 : u_lay RX9 TX9 9 ∈ wsA := (inA4 163 rfl rfl)
theorem ly_X9_10 : u_lay RX9 TX9 10 ∈ wsA := (inA4 165 rfl rfl)
theorem ly_X9_11 : u_lay RX9 TX9 11 ∈ wsA := (inA4 167 rfl rfl)
theorem ly_X9_12 : u_lay RX9 TX9 12 ∈ wsA := (inA4 169 rfl rfl)
theorem ly_X9_13 : u_lay RX9 TX9 13 ∈ wsA := (inA4 171 rfl rfl)
theorem ly_X9_14 : u_lay RX9 TX9 14 ∈ wsA := (inA4 173 rfl rfl)
theorem ly_X9_15 : u_lay RX9 TX9 15 ∈ wsA := (inA4 175 rfl rfl)
theorem ly_X9_16 : u_lay RX9 TX9 16 ∈ wsA := (inA4 177 rfl rfl)
theorem ly_X9_17 : u_lay RX9 TX9 17 ∈ wsA := (inA4 179 rfl rfl)
theorem ly_X9_18 : u_lay RX9 TX9 18 ∈ wsA := (inA4 181 rfl rfl)
theorem ly_X9_19 : u_lay RX9 TX9 19 ∈ wsA := (inA4 183 rfl rfl)
theorem ly_X9_20 : u_lay RX9 TX9 20 ∈ wsA := (inA4 185 rfl rfl)
theorem ly_X9_21 : u_lay RX9 TX9 21 ∈ wsA := (inA4 187 rfl rfl)
theorem ly_X9_22 : u_lay RX9 TX9 22 ∈ wsA := (inA4 189 rfl rfl)
theorem ly_X9_23 : u_lay RX9 TX9 23 ∈ wsA := (inA4 191 rfl rfl)
theorem ly_X9_24 : u_lay RX9 TX9 24 ∈ wsA := (inA4 193 rfl rfl)
theorem ly_X9_25 : u_lay RX9 TX9 25 ∈ wsA := (inA4 195 rfl rfl)
theorem ly_X9_26 : u_lay RX9 TX9 26 ∈ wsA := (inA4 197 rfl rfl)
theorem ly_X9_27 : u_lay RX9 TX9 27 ∈ wsA := (inA4 199 rfl rfl)
theorem ly_X9_28 : u_lay RX9 TX9 28 ∈ wsA := (inA4 201 rfl rfl)
theorem ly_X9_29 : u_lay RX9 TX9 29 ∈ wsA := (inA4 203 rfl rfl)
theorem ly_X9_30 : u_lay RX9 TX9 30 ∈ wsA := (inA4 205 rfl rfl)
theorem ly_X9_31 : u_lay RX9 TX9 31 ∈ wsA := (inA4 207 rfl rfl)
theorem ly_X9_32 : u_lay RX9 TX9 32 ∈ wsA := (inA4 209 rfl rfl)
theorem ly_X9_33 : u_lay RX9 TX9 33 ∈ wsA := (inA4 211 rfl rfl)
theorem ly_X9_34 : u_lay RX9 TX9 34 ∈ wsA := (inA4 213 rfl rfl)
theorem ly_X9_35 : u_lay RX9 TX9 35 ∈ wsA := (inA4 215 rfl rfl)
theorem ly_X9_36 : u_lay RX9 TX9 36 ∈ wsA := (inA4 217 rfl rfl)
theorem ly_X9_37 : u_lay RX9 TX9 37 ∈ wsA := (inA4 219 rfl rfl)
theorem ly_X9_38 : u_lay RX9 TX9 38 ∈ wsA := (inA4 221 rfl rfl)
theorem ly_X9_39 : u_lay RX9 TX9 39 ∈ wsA := (inA4 223 rfl rfl)
theorem ly_X9_40 : u_lay RX9 TX9 40 ∈ wsA := (inA4 225 rfl rfl)
theorem ly_X9_41 : u_lay RX9 TX9 41 ∈ wsA := (inA4 227 rfl rfl)
theorem ly_X9_42 : u_lay RX9 TX9 42 ∈ wsA := (inA4 229 rfl rfl)
theorem ly_X9_43 : u_lay RX9 TX9 43 ∈ wsA := (inA4 231 rfl rfl)
theorem ly_X9_44 : u_lay RX9 TX9 44 ∈ wsA := (inA4 233 rfl rfl)
theorem ly_X9_45 : u_lay RX9 TX9 45 ∈ wsA := (inA4 235 rfl rfl)
theorem ly_X9_46 : u_lay RX9 TX9 46 ∈ wsA := (inA4 237 rfl rfl)
theorem ly_X9_47 : u_lay RX9 TX9 47 ∈ wsA := (inA4 239 rfl rfl)
theorem ly_X9_48 : u_lay RX9 TX9 48 ∈ wsA := (inA5 1 rfl rfl)
theorem ly_X9_49 : u_lay RX9 TX9 49 ∈ wsA := (inA5 3 rfl rfl)
theorem ly_X9_50 : u_lay RX9 TX9 50 ∈ wsA := (inA5 5 rfl rfl)
theorem ly_X9_51 : u_lay RX9 TX9 51 ∈ wsA := (inA5 7 rfl rfl)
theorem ly_X9_52 : u_lay RX9 TX9 52 ∈ wsA := (inA5 9 rfl rfl)
theorem ly_X9_53 : u_lay RX9 TX9 53 ∈ wsA := (inA5 11 rfl rfl)
theorem ly_X9_54 : u_lay RX9 TX9 54 ∈ wsA := (inA5 13 rfl rfl)
theorem ly_X9_55 : u_lay RX9 TX9 55 ∈ wsA := (inA5 15 rfl rfl)
theorem ly_X9_56 : u_lay RX9 TX9 56 ∈ wsA := (inA5 17 rfl rfl)
theorem ly_X9_57 : u_lay RX9 TX9 57 ∈ wsA := (inA5 19 rfl rfl)
theorem ly_X9_58 : u_lay RX9 TX9 58 ∈ wsA := (inA5 21 rfl rfl)
theorem ly_X9_59 : u_lay RX9 TX9 59 ∈ wsA := (inA5 23 rfl rfl)
theorem ly_X9_60 : u_lay RX9 TX9 60 ∈ wsA := (inA5 25 rfl rfl)
theorem ly_X9_61 : u_lay RX9 TX9 61 ∈ wsA := (inA5 27 rfl rfl)
theorem ci_X9 : CI 10 RX9 TX9 62 tyX9 := ⟨rfl, ws_of (fun k hk => match k, hk with | 0, _ => ly_X9_0 | 1, _ => ly_X9_1 | 2, _ => ly_X9_2 | 3, _ => ly_X9_3 | 4, _ => ly_X9_4 | 5, _ => ly_X9_5 | 6, _ => ly_X9_6 | 7, _ => ly_X9_7 | 8, _ => ly_X9_8 | 9, _ => ly_X9_9 | 10, _ => ly_X9_10 | 11, _ => ly_X9_11 | 12, _ => ly_X9_12 | 13, _ => ly_X9_13 | 14, _ => ly_X9_14 | 15, _ => ly_X9_15 | 16, _ => ly_X9_16 | 17, _ => ly_X9_17 | 18, _ => ly_X9_18 | 19, _ => ly_X9_19 | 20, _ => ly_X9_20 | 21, _ => ly_X9_21 | 22, _ => ly_X9_22 | 23, _ => ly_X9_23 | 24, _ => ly_X9_24 | 25, _ => ly_X9_25 | 26, _ => ly_X9_26 | 27, _ => ly_X9_27 | 28, _ => ly_X9_28 | 29, _ => ly_X9_29 | 30, _ => ly_X9_30 | 31, _ => ly_X9_31 | 32, _ => ly_X9_32 | 33, _ => ly_X9_33 | 34, _ => ly_X9_34 | 35, _ => ly_X9_35 | 36, _ => ly_X9_36 | 37, _ => ly_X9_37 | 38, _ => ly_X9_38 | 39, _ => ly_X9_39 | 40, _ => ly_X9_40 | 41, _ => ly_X9_41 | 42, _ => ly_X9_42 | 43, _ => ly_X9_43 | 44, _ => ly_X9_44 | 45, _ => ly_X9_45 | 46, _ => ly_X9_46 | 47, _ => ly_X9_47 | 48, _ => ly_X9_48 | 49, _ => ly_X9_49 | 50, _ => ly_X9_50 | 51, _ => ly_X9_51 | 52, _ => ly_X9_52 | 53, _ => ly_X9_53 | 54, _ => ly_X9_54 | 55, _ => ly_X9_55 | 56, _ => ly_X9_56 | 57, _ => ly_X9_57 | 58, _ => ly_X9_58 | 59, _ => ly_X9_59 | 60, _ => ly_X9_60 | 61, _ => ly_X9_61 | k + 62, h => absurd h (Nat.not_lt.mpr (Nat.le_add_left _ _))), tyX9_ok, nmX9⟩
/-! pool entries: fields -/
theorem pn_J3_checkIndex_8e157 : yJ3_checkIndex_8e157.cls ≠ "java/lang/invoke/MethodHandle" ∧ yJ3_checkIndex_8e157.cls ≠ "java/lang/invoke/VarHandle" ∧ (parseMethodDescriptor yJ3_checkIndex_8e157.desc).map (fun d => d.parameters.length) = some 3 := by decide +kernel
theorem cd_J3_checkIndex_8e157 : Cond.code yJ3_checkIndex_8e157 cJ3_checkIndex_8e157 3 (some .int) ∈ wsA := (inA1 199 rfl rfl)
theorem in_J3_checkIndex_8e157 : Cond.initialized yJ3_checkIndex_8e157.cls ∈ wsA := (inA1 12 rfl rfl)
theorem st_J3_checkIndex_8e157 : Cond.static yJ3_checkIndex_8e157 ∈ wsA := (inA1 198 rfl rfl)
theorem mk_J15_105 : MK RJ15 105 yJ3_checkIndex_8e157 cJ3_checkIndex_8e157 3 (some .int) 3 := ⟨(inA1 197 rfl rfl), in_J3_checkIndex_8e157, cd_J3_checkIndex_8e157, pn_J3_checkIndex_8e157⟩
theorem cl_J7_2 : Cond.classLink RJ7 2 "java/lang/Object" ∈ wsA := (inA1 173 rfl rfl)
theorem cl_J7_110 : Cond.classLink RJ7 110 "[Ljava/lang/Object;" ∈ wsA := (inA1 171 rfl rfl)
theorem pn_J7_copyOf_6403c : yJ7_copyOf_6403c.cls ≠ "java/lang/invoke/MethodHandle" ∧ yJ7_copyOf_6403c.cls ≠ "java/lang/invoke/VarHandle" ∧ (parseMethodDescriptor yJ7_copyOf_6403c.desc).map (fun d => d.parameters.length) = some 3 := by decide +kernel
theorem cd_J7_copyOf_6403c : Cond.code yJ7_copyOf_6403c cJ7_copyOf_6403c 4 (some (.array (.object "java/lang/Object"))) ∈ wsA := (inA1 170 rfl rfl)
theorem in_J7_copyOf_6403c : Cond.initialized yJ7_copyOf_6403c.cls ∈ wsA := (inA1 9 rfl rfl)
theorem st_J7_copyOf_6403c : Cond.static yJ7_copyOf_6403c ∈ wsA := (inA1 169 rfl rfl)
theorem mk_J7_300 : MK RJ7 300 yJ7_copyOf_6403c cJ7_copyOf_6403c 4 (some (.array (.object "java/lang/Object"))) 3 := ⟨(inA1 168 rfl rfl), in_J7_copyOf_6403c, cd_J7_copyOf_6403c, pn_J7_copyOf_6403c⟩
theorem pn_J9_min_7cf53 : yJ9_min_7cf53.cls ≠ "java/lang/invoke/MethodHandle" ∧ yJ9_min_7cf53.cls ≠ "java/lang/invoke/VarHandle" ∧ (parseMethodDescriptor yJ9_min_7cf53.desc).map (fun d => d.parameters.length) = some 2 := by decide +kernel
theorem cd_J9_min_7cf53 : Cond.code yJ9_min_7cf53 cJ9_min_7cf53 2 (some .int) ∈ wsA := (inA1 176 rfl rfl)
theorem in_J9_min_7cf53 : Cond.initialized yJ9_min_7cf53.cls ∈ wsA := (inA1 8 rfl rfl)
theorem st_J9_min_7cf53 : Cond.static yJ9_min_7cf53 ∈ wsA := (inA1 175 rfl rfl)
theorem mk_J7_304 : MK RJ7 304 yJ9_min_7cf53 cJ9_min_7cf53 2 (some .int) 2 := ⟨(inA1 174 rfl rfl), in_J9_min_7cf53, cd_J9_min_7cf53, pn_J9_min_7cf53⟩
theorem pn_J9_max_7cf53 : yJ9_max_7cf53.cls ≠ "java/lang/invoke/MethodHandle" ∧ yJ9_max_7cf53.cls ≠ "java/lang/invoke/VarHandle" ∧ (parseMethodDescriptor yJ9_max_7cf53.desc).map (fun d => d.parameters.length) = some 2 := by decide +kernel
theorem cd_J9_max_7cf53 : Cond.code yJ9_max_7cf53 cJ9_max_7cf53 2 (some .int) ∈ wsA := (inA1 145 rfl rfl)
theorem in_J9_max_7cf53 : Cond.initialized yJ9_max_7cf53.cls ∈ wsA := (inA1 8 rfl rfl)
theorem st_J9_max_7cf53 : Cond.static yJ9_max_7cf53 ∈ wsA := (inA1 144 rfl rfl)
theorem mk_J8_194 : MK RJ8 194 yJ9_max_7cf53 cJ9_max_7cf53 2 (some .int) 2 := ⟨(inA1 143 rfl rfl), in_J9_max_7cf53, cd_J9_max_7cf53, pn_J9_max_7cf53⟩
theorem kc_J8_200 : Cond.constant RJ8 200 (2147483639 : Int32) ∈ wsA := (inA1 146 rfl rfl)
theorem pn_J8_hugeLength_7cf53 : yJ8_hugeLength_7cf53.cls ≠ "java/lang/invoke/MethodHandle" ∧ yJ8_hugeLength_7cf53.cls ≠ "java/lang/invoke/VarHandle" ∧ (parseMethodDescriptor yJ8_hugeLength_7cf53.desc).map (fun d => d.parameters.length) = some 2 := by decide +kernel
theorem cd_J8_hugeLength_7cf53 : Cond.code yJ8_hugeLength_7cf53 cJ8_hugeLength_7cf53 3 (some .int) ∈ wsA := (inA1 149 rfl rfl)
theorem in_J8_hugeLength_7cf53 : Cond.initialized yJ8_hugeLength_7cf53.cls ∈ wsA := (inA1 7 rfl rfl)
theorem st_J8_hugeLength_7cf53 : Cond.static yJ8_hugeLength_7cf53 ∈ wsA := (inA1 148 rfl rfl)
theorem mk_J8_201 : MK RJ8 201 yJ8_hugeLength_7cf53 cJ8_hugeLength_7cf53 3 (some .int) 2 := ⟨(inA1 147 rfl rfl), in_J8_hugeLength_7cf53, cd_J8_hugeLength_7cf53, pn_J8_hugeLength_7cf53⟩
theorem pn_Jxc12de_init_da8c8 : yJxc12de_init_da8c8.cls ≠ "java/lang/invoke/MethodHandle" ∧ yJxc12de_init_da8c8.cls ≠ "java/lang/invoke/VarHandle" ∧ (parseMethodDescriptor yJxc12de_init_da8c8.desc).map (fun d => d.parameters.length) = some 0 := by decide +kernel
theorem cd_Jxc12de_init_da8c8 : Cond.code yJxc12de_init_da8c8 cJxc12de_init_da8c8 1 none ∈ wsA := (inA1 35 rfl rfl)
theorem in_Jxc12de_init_da8c8 : Cond.initialized yJxc12de_init_da8c8.cls ∈ wsA := (inA1 3 rfl rfl)
theorem ii_Jxc12de_init_da8c8 : yJxc12de_init_da8c8.name = "<init>" ∧ Cond.instanceMethod yJxc12de_init_da8c8 ∈ wsA := ⟨rfl, (inA1 34 rfl rfl)⟩
theorem mk_Jx4a65c_1 : MK RJx4a65c 1 yJxc12de_init_da8c8 cJxc12de_init_da8c8 1 none 0 := ⟨(inA1 33 rfl rfl), in_Jxc12de_init_da8c8, cd_Jxc12de_init_da8c8, pn_Jxc12de_init_da8c8⟩
theorem cl_Jx4a65c_7 : Cond.classLink RJx4a65c 7 "java/lang/Object" ∈ wsA := (inA1 181 rfl rfl)
theorem fk_Jx4a65c_9 : FK RJx4a65c 9 0 1 false (.array (.object "java/lang/Object")) := ⟨RJx4a65c, TJx4a65c, 3, tyJx4a65c, "java/util/ArrayList", ci_Jx4a65c, by decide, (inA1 42 rfl rfl), Or.inl rfl, rfl, rfl⟩
theorem gs_Jx4a65c_39 : Cond.fieldLink RJx4a65c 39 "java/util/ArrayList" "DEFAULTCAPACITY_EMPTY_ELEMENTDATA" "[Ljava/lang/Object;" ∈ wsA := (inA1 40 rfl rfl)
theorem fk_Jx4a65c_48 : FK RJx4a65c 48 0 2 false (.int) := ⟨RJx4a65c, TJx4a65c, 3, tyJx4a65c, "java/util/ArrayList", ci_Jx4a65c, by decide, (inA1 43 rfl rfl), Or.inl rfl, rfl, rfl⟩
theorem fk_Jx4a65c_63 : FK RJx4a65c 63 0 0 false (.int) := ⟨RJx4a65c, TJx4a65c, 3, tyJx4a65c, "java/util/ArrayList", ci_Jx4a65c, by decide, (inA1 45 rfl rfl), Or.inr (inA1 46 rfl rfl), rfl, rfl⟩
theorem pn_J7_copyOf_1904c : yJ7_copyOf_1904c.cls ≠ "java/lang/invoke/MethodHandle" ∧ yJ7_copyOf_1904c.cls ≠ "java/lang/invoke/VarHandle" ∧ (parseMethodDescriptor yJ7_copyOf_1904c.desc).map (fun d => d.parameters.length) = some 2 := by decide +kernel
theorem cd_J7_copyOf_1904c : Cond.code yJ7_copyOf_1904c cJ7_copyOf_1904c 2 (some (.array (.object "java/lang/Object"))) ∈ wsA := (inA1 152 rfl rfl)
theorem in_J7_copyOf_1904c : Cond.initialized yJ7_copyOf_1904c.cls ∈ wsA := (inA1 9 rfl rfl)
theorem st_J7_copyOf_1904c : Cond.static yJ7_copyOf_1904c ∈ wsA := (inA1 151 rfl rfl)
theorem mk_Jx4a65c_66 : MK RJx4a65c 66 yJ7_copyOf_1904c cJ7_copyOf_1904c 2 (some (.array (.object "java/lang/Object"))) 2 := ⟨(inA1 150 rfl rfl), in_J7_copyOf_1904c, cd_J7_copyOf_1904c, pn_J7_copyOf_1904c⟩
theorem pn_Jx4a65c_grow_92f84 : yJx4a65c_grow_92f84.cls ≠ "java/lang/invoke/MethodHandle" ∧ yJx4a65c_grow_92f84.cls ≠ "java/lang/invoke/VarHandle" ∧ (parseMethodDescriptor yJx4a65c_grow_92f84.desc).map (fun d => d.parameters.length) = some 1 := by decide +kernel
theorem cd_Jx4a65c_grow_92f84 : Cond.code yJx4a65c_grow_92f84 cJx4a65c_grow_92f84 4 (some (.array (.object "java/lang/Object"))) ∈ wsA := (inA1 139 rfl rfl)
theorem in_Jx4a65c_grow_92f84 : Cond.initialized yJx4a65c_grow_92f84.cls ∈ wsA := (inA1 4 rfl rfl)
theorem iv_Jx4a65c_grow_92f84 : Cond.instanceMethod yJx4a65c_grow_92f84 ∈ wsA ∧ Cond.selects yJx4a65c_grow_92f84.cls yJx4a65c_grow_92f84 yJx4a65c_grow_92f84 ∈ wsA := ⟨(inA1 138 rfl rfl), (inQ 3 rfl rfl)⟩
theorem mk_Jx4a65c_69 : MK RJx4a65c 69 yJx4a65c_grow_92f84 cJx4a65c_grow_92f84 4 (some (.array (.object "java/lang/Object"))) 1 := ⟨(inA1 136 rfl rfl), in_Jx4a65c_grow_92f84, cd_Jx4a65c_grow_92f84, pn_Jx4a65c_grow_92f84⟩
theorem pn_J8_newLength_cabcc : yJ8_newLength_cabcc.cls ≠ "java/lang/invoke/MethodHandle" ∧ yJ8_newLength_cabcc.cls ≠ "java/lang/invoke/VarHandle" ∧ (parseMethodDescriptor yJ8_newLength_cabcc.desc).map (fun d => d.parameters.length) = some 3 := by decide +kernel
theorem cd_J8_newLength_cabcc : Cond.code yJ8_newLength_cabcc cJ8_newLength_cabcc 4 (some .int) ∈ wsA := (inA1 142 rfl rfl)
theorem in_J8_newLength_cabcc : Cond.initialized yJ8_newLength_cabcc.cls ∈ wsA := (inA1 7 rfl rfl)
theorem st_J8_newLength_cabcc : Cond.static yJ8_newLength_cabcc ∈ wsA := (inA1 141 rfl rfl)
theorem mk_Jx4a65c_73 : MK RJx4a65c 73 yJ8_newLength_cabcc cJ8_newLength_cabcc 4 (some .int) 3 := ⟨(inA1 140 rfl rfl), in_J8_newLength_cabcc, cd_J8_newLength_cabcc, pn_J8_newLength_cabcc⟩
theorem mk_Jx4a65c_79 : MK RJx4a65c 79 yJ9_max_7cf53 cJ9_max_7cf53 2 (some .int) 2 := ⟨(inA1 180 rfl rfl), in_J9_max_7cf53, cd_J9_max_7cf53, pn_J9_max_7cf53⟩
theorem pn_J15_checkIndex_7cf53 : yJ15_checkIndex_7cf53.cls ≠ "java/lang/invoke/MethodHandle" ∧ yJ15_checkIndex_7cf53.cls ≠ "java/lang/invoke/VarHandle" ∧ (parseMethodDescriptor yJ15_checkIndex_7cf53.desc).map (fun d => d.parameters.length) = some 2 := by decide +kernel
theorem cd_J15_checkIndex_7cf53 : Cond.code yJ15_checkIndex_7cf53 cJ15_checkIndex_7cf53 2 (some .int) ∈ wsA := (inA1 196 rfl rfl)
theorem in_J15_checkIndex_7cf53 : Cond.initialized yJ15_checkIndex_7cf53.cls ∈ wsA := (inA1 11 rfl rfl)
theorem st_J15_checkIndex_7cf53 : Cond.static yJ15_checkIndex_7cf53 ∈ wsA := (inA1 195 rfl rfl)
theorem mk_Jx4a65c_118 : MK RJx4a65c 118 yJ15_checkIndex_7cf53 cJ15_checkIndex_7cf53 2 (some .int) 2 := ⟨(inA1 194 rfl rfl), in_J15_checkIndex_7cf53, cd_J15_checkIndex_7cf53, pn_J15_checkIndex_7cf53⟩
theorem pn_Jx4a65c_elementData_915e3 : yJx4a65c_elementData_915e3.cls ≠ "java/lang/invoke/MethodHandle" ∧ yJx4a65c_elementData_915e3.cls ≠ "java/lang/invoke/VarHandle" ∧ (parseMethodDescriptor yJx4a65c_elementData_915e3.desc).map (fun d => d.parameters.length) = some 1 := by decide +kernel
theorem cd_Jx4a65c_elementData_915e3 : Cond.code yJx4a65c_elementData_915e3 cJx4a65c_elementData_915e3 2 (some (.object "java/lang/Object")) ∈ wsA := (inA1 203 rfl rfl)
theorem in_Jx4a65c_elementData_915e3 : Cond.initialized yJx4a65c_elementData_915e3.cls ∈ wsA := (inA1 4 rfl rfl)
theorem iv_Jx4a65c_elementData_915e3 : Cond.instanceMethod yJx4a65c_elementData_915e3 ∈ wsA ∧ Cond.selects yJx4a65c_elementData_915e3.cls yJx4a65c_elementData_915e3 yJx4a65c_elementData_915e3 ∈ wsA := ⟨(inA1 201 rfl rfl), (inA1 202 rfl rfl)⟩
theorem mk_Jx4a65c_123 : MK RJx4a65c 123 yJx4a65c_elementData_915e3 cJx4a65c_elementData_915e3 2 (some (.object "java/lang/Object")) 1 := ⟨(inA1 200 rfl rfl), in_Jx4a65c_elementData_915e3, cd_Jx4a65c_elementData_915e3, pn_Jx4a65c_elementData_915e3⟩
theorem pn_Jx4a65c_grow_d5877 : yJx4a65c_grow_d5877.cls ≠ "java/lang/invoke/MethodHandle" ∧ yJx4a65c_grow_d5877.cls ≠ "java/lang/invoke/VarHandle" ∧ (parseMethodDescriptor yJx4a65c_grow_d5877.desc).map (fun d => d.parameters.length) = some 0 := by decide +kernel
theorem cd_Jx4a65c_grow_d5877 : Cond.code yJx4a65c_grow_d5877 cJx4a65c_grow_d5877 1 (some (.array (.object "java/lang/Object"))) ∈ wsA := (inA1 135 rfl rfl)
theorem in_Jx4a65c_grow_d5877 : Cond.initialized yJx4a65c_grow_d5877.cls ∈ wsA := (inA1 4 rfl rfl)
theorem iv_Jx4a65c_grow_d5877 : Cond.instanceMethod yJx4a65c_grow_d5877 ∈ wsA ∧ Cond.selects yJx4a65c_grow_d5877.cls yJx4a65c_grow_d5877 yJx4a65c_grow_d5877 ∈ wsA := ⟨(inA1 134 rfl rfl), (inQ 2 rfl rfl)⟩
theorem mk_Jx4a65c_129 : MK RJx4a65c 129 yJx4a65c_grow_d5877 cJx4a65c_grow_d5877 1 (some (.array (.object "java/lang/Object"))) 0 := ⟨(inA1 132 rfl rfl), in_Jx4a65c_grow_d5877, cd_Jx4a65c_grow_d5877, pn_Jx4a65c_grow_d5877⟩
theorem pn_Jx4a65c_add_72be8 : yJx4a65c_add_72be8.cls ≠ "java/lang/invoke/MethodHandle" ∧ yJx4a65c_add_72be8.cls ≠ "java/lang/invoke/VarHandle" ∧ (parseMethodDescriptor yJx4a65c_add_72be8.desc).map (fun d => d.parameters.length) = some 3 := by decide +kernel
theorem cd_Jx4a65c_add_72be8 : Cond.code yJx4a65c_add_72be8 cJx4a65c_add_72be8 4 none ∈ wsA := (inA1 131 rfl rfl)
theorem in_Jx4a65c_add_72be8 : Cond.initialized yJx4a65c_add_72be8.cls ∈ wsA := (inA1 4 rfl rfl)
theorem iv_Jx4a65c_add_72be8 : Cond.instanceMethod yJx4a65c_add_72be8 ∈ wsA ∧ Cond.selects yJx4a65c_add_72be8.cls yJx4a65c_add_72be8 yJx4a65c_add_72be8 ∈ wsA := ⟨(inA1 130 rfl rfl), (inQ 1 rfl rfl)⟩
theorem mk_Jx4a65c_131 : MK RJx4a65c 131 yJx4a65c_add_72be8 cJx4a65c_add_72be8 4 none 3 := ⟨(inA1 128 rfl rfl), in_Jx4a65c_add_72be8, cd_Jx4a65c_add_72be8, pn_Jx4a65c_add_72be8⟩
theorem pn_Jx4a65c_fastRemove_b59b0 : yJx4a65c_fastRemove_b59b0.cls ≠ "java/lang/invoke/MethodHandle" ∧ yJx4a65c_fastRemove_b59b0.cls ≠ "java/lang/invoke/VarHandle" ∧ (parseMethodDescriptor yJx4a65c_fastRemove_b59b0.desc).map (fun d => d.parameters.length) = some 2 := by decide +kernel
theorem cd_Jx4a65c_fastRemove_b59b0 : Cond.code yJx4a65c_fastRemove_b59b0 cJx4a65c_fastRemove_b59b0 4 none ∈ wsA := (inA2 56 rfl rfl)
theorem in_Jx4a65c_fastRemove_b59b0 : Cond.initialized yJx4a65c_fastRemove_b59b0.cls ∈ wsA := (inA1 4 rfl rfl)
theorem iv_Jx4a65c_fastRemove_b59b0 : Cond.instanceMethod yJx4a65c_fastRemove_b59b0 ∈ wsA ∧ Cond.selects yJx4a65c_fastRemove_b59b0.cls yJx4a65c_fastRemove_b59b0 yJx4a65c_fastRemove_b59b0 ∈ wsA := ⟨(inA2 55 rfl rfl), (inQ 7 rfl rfl)⟩
theorem mk_Jx4a65c_144 : MK RJx4a65c 144 yJx4a65c_fastRemove_b59b0 cJx4a65c_fastRemove_b59b0 4 none 2 := ⟨(inA2 53 rfl rfl), in_Jx4a65c_fastRemove_b59b0, cd_Jx4a65c_fastRemove_b59b0, pn_Jx4a65c_fastRemove_b59b0⟩
theorem ol_Jxa1e45_1 : Cond.methodLink RJxa1e45 1 Lib.objectInit ∈ wsA := (inA1 39 rfl rfl)
theorem pn_Jxa1e45_init_da8c8 : yJxa1e45_init_da8c8.cls ≠ "java/lang/invoke/MethodHandle" ∧ yJxa1e45_init_da8c8.cls ≠ "java/lang/invoke/VarHandle" ∧ (parseMethodDescriptor yJxa1e45_init_da8c8.desc).map (fun d => d.parameters.length) = some 0 := by decide +kernel
theorem cd_Jxa1e45_init_da8c8 : Cond.code yJxa1e45_init_da8c8 cJxa1e45_init_da8c8 1 none ∈ wsA := (inA1 38 rfl rfl)
theorem in_Jxa1e45_init_da8c8 : Cond.initialized yJxa1e45_init_da8c8.cls ∈ wsA := (inA1 2 rfl rfl)
theorem ii_Jxa1e45_init_da8c8 : yJxa1e45_init_da8c8.name = "<init>" ∧ Cond.instanceMethod yJxa1e45_init_da8c8 ∈ wsA := ⟨rfl, (inA1 37 rfl rfl)⟩
theorem mk_Jxc12de_1 : MK RJxc12de 1 yJxa1e45_init_da8c8 cJxa1e45_init_da8c8 1 none 0 := ⟨(inA1 36 rfl rfl), in_Jxa1e45_init_da8c8, cd_Jxa1e45_init_da8c8, pn_Jxa1e45_init_da8c8⟩
theorem fk_Jxc12de_7 : FK RJxc12de 7 0 0 false (.int) := ⟨RJx4a65c, TJx4a65c, 3, tyJx4a65c, "java/util/AbstractList", ci_Jx4a65c, by decide, (inA1 44 rfl rfl), Or.inl rfl, rfl, rfl⟩
theorem cl_L_7 : Cond.classLink RL 7 "WatchServer" ∈ wsA := (inA1 20 rfl rfl)
theorem nk_L_7 : NK RL 7 9 11 [.null, .null, .null, .null, .null, .null, .null, .int 0, .long 0, .int 0, .int 0] := ⟨RX8, TX8, tyX8, ci_X8, cl_L_7, (inA1 21 rfl rfl), (inA1 1 rfl rfl), fun j hj => match j, hj with | 0, _ => rfl | 1, _ => rfl | 2, _ => rfl | 3, _ => rfl | 4, _ => rfl | 5, _ => rfl | 6, _ => rfl | 7, _ => rfl | 8, _ => rfl | 9, _ => rfl | 10, _ => rfl | j + 11, h => absurd h (Nat.not_lt.mpr (Nat.le_add_left _ _)), nrf_of rfl⟩
theorem pn_X8_init : yX8_init.cls ≠ "java/lang/invoke/MethodHandle" ∧ yX8_init.cls ≠ "java/lang/invoke/VarHandle" ∧ (parseMethodDescriptor yX8_init.desc).map (fun d => d.parameters.length) = some 0 := by decide +kernel
theorem cd_X8_init : Cond.code yX8_init cX8_init 1 none ∈ wsA := (inA1 24 rfl rfl)
theorem in_X8_init : Cond.initialized yX8_init.cls ∈ wsA := (inA1 1 rfl rfl)
theorem ii_X8_init : yX8_init.name = "<init>" ∧ Cond.instanceMethod yX8_init ∈ wsA := ⟨rfl, (inA1 23 rfl rfl)⟩
theorem mk_L_9 : MK RL 9 yX8_init cX8_init 1 none 0 := ⟨(inA1 22 rfl rfl), in_X8_init, cd_X8_init, pn_X8_init⟩
theorem cl_L_10 : Cond.classLink RL 10 "WatchServerModel" ∈ wsA := (inA4 76 rfl rfl)
theorem nk_L_10 : NK RL 10 10 62 [.int 0, .int 0, .null, .null, .int 0, .null, .null, .null, .int 0, .null, .null, .null, .null, .null, .null, .int 0, .null, .null, .null, .null, .null, .null, .null, .null, .null, .null, .null, .null, .null, .null, .int 0, .null, .int 0, .null, .null, .null, .null, .null, .null, .null, .null, .null, .null, .null, .null, .null, .null, .null, .int 0, .null, .null, .null, .null, .null, .null, .null, .null, .null, .null, .long 0, .int 0, .null] := ⟨RX9, TX9, tyX9, ci_X9, cl_L_10, (inA4 77 rfl rfl), (inA1 5 rfl rfl), fun j hj => match j, hj with | 0, _ => rfl | 1, _ => rfl | 2, _ => rfl | 3, _ => rfl | 4, _ => rfl | 5, _ => rfl | 6, _ => rfl | 7, _ => rfl | 8, _ => rfl | 9, _ => rfl | 10, _ => rfl | 11, _ => rfl | 12, _ => rfl | 13, _ => rfl | 14, _ => rfl | 15, _ => rfl | 16, _ => rfl | 17, _ => rfl | 18, _ => rfl | 19, _ => rfl | 20, _ => rfl | 21, _ => rfl | 22, _ => rfl | 23, _ => rfl | 24, _ => rfl | 25, _ => rfl | 26, _ => rfl | 27, _ => rfl | 28, _ => rfl | 29, _ => rfl | 30, _ => rfl | 31, _ => rfl | 32, _ => rfl | 33, _ => rfl | 34, _ => rfl | 35, _ => rfl | 36, _ => rfl | 37, _ => rfl | 38, _ => rfl | 39, _ => rfl | 40, _ => rfl | 41, _ => rfl | 42, _ => rfl | 43, _ => rfl | 44, _ => rfl | 45, _ => rfl | 46, _ => rfl | 47, _ => rfl | 48, _ => rfl | 49, _ => rfl | 50, _ => rfl | 51, _ => rfl | 52, _ => rfl | 53, _ => rfl | 54, _ => rfl | 55, _ => rfl | 56, _ => rfl | 57, _ => rfl | 58, _ => rfl | 59, _ => rfl | 60, _ => rfl | 61, _ => rfl | j + 62, h => absurd h (Nat.not_lt.mpr (Nat.le_add_left _ _)), nrf_of rfl⟩
theorem pn_X9_init : yX9_init.cls ≠ "java/lang/invoke/MethodHandle" ∧ yX9_init.cls ≠ "java/lang/invoke/VarHandle" ∧ (parseMethodDescriptor yX9_init.desc).map (fun d => d.parameters.length) = some 0 := by decide +kernel
theorem cd_X9_init : Cond.code yX9_init cX9_init 1 none ∈ wsA := (inA4 80 rfl rfl)
theorem in_X9_init : Cond.initialized yX9_init.cls ∈ wsA := (inA1 5 rfl rfl)
theorem ii_X9_init : yX9_init.name = "<init>" ∧ Cond.instanceMethod yX9_init ∈ wsA := ⟨rfl, (inA4 79 rfl rfl)⟩
theorem mk_L_12 : MK RL 12 yX9_init cX9_init 1 none 0 := ⟨(inA4 78 rfl rfl), in_X9_init, cd_X9_init, pn_X9_init⟩
theorem pn_X8_node : yX8_node.cls ≠ "java/lang/invoke/MethodHandle" ∧ yX8_node.cls ≠ "java/lang/invoke/VarHandle" ∧ (parseMethodDescriptor yX8_node.desc).map (fun d => d.parameters.length) = some 1 := by decide +kernel
theorem cd_X8_node : Cond.code yX8_node cX8_node 2 (some .int) ∈ wsA := (inA1 92 rfl rfl)
theorem in_X8_node : Cond.initialized yX8_node.cls ∈ wsA := (inA1 1 rfl rfl)
theorem iv_X8_node : Cond.instanceMethod yX8_node ∈ wsA ∧ Cond.selects yX8_node.cls yX8_node yX8_node ∈ wsA := ⟨(inA1 90 rfl rfl), (inA1 91 rfl rfl)⟩
theorem mk_L_13 : MK RL 13 yX8_node cX8_node 2 (some .int) 1 := ⟨(inA1 89 rfl rfl), in_X8_node, cd_X8_node, pn_X8_node⟩
theorem pn_X9_node : yX9_node.cls ≠ "java/lang/invoke/MethodHandle" ∧ yX9_node.cls ≠ "java/lang/invoke/VarHandle" ∧ (parseMethodDescriptor yX9_node.desc).map (fun d => d.parameters.length) = some 1 := by decide +kernel
theorem cd_X9_node : Cond.code yX9_node cX9_node 2 (some .int) ∈ wsA := (inA5 35 rfl rfl)
theorem in_X9_node : Cond.initialized yX9_node.cls ∈ wsA := (inA1 5 rfl rfl)
theorem iv_X9_node : Cond.instanceMethod yX9_node ∈ wsA ∧ Cond.selects yX9_node.cls yX9_node yX9_node ∈ wsA := ⟨(inA5 33 rfl rfl), (inA5 34 rfl rfl)⟩
theorem mk_L_17 : MK RL 17 yX9_node cX9_node 2 (some .int) 1 := ⟨(inA5 32 rfl rfl), in_X9_node, cd_X9_node, pn_X9_node⟩
theorem pn_X8_refer : yX8_refer.cls ≠ "java/lang/invoke/MethodHandle" ∧ yX8_refer.cls ≠ "java/lang/invoke/VarHandle" ∧ (parseMethodDescriptor yX8_refer.desc).map (fun d => d.parameters.length) = some 3 := by decide +kernel
theorem cd_X8_refer : Cond.code yX8_refer cX8_refer 4 (some .int) ∈ wsA := (inA1 185 rfl rfl)
theorem in_X8_refer : Cond.initialized yX8_refer.cls ∈ wsA := (inA1 1 rfl rfl)
theorem iv_X8_refer : Cond.instanceMethod yX8_refer ∈ wsA ∧ Cond.selects yX8_refer.cls yX8_refer yX8_refer ∈ wsA := ⟨(inA1 183 rfl rfl), (inA1 184 rfl rfl)⟩
theorem mk_L_18 : MK RL 18 yX8_refer cX8_refer 4 (some .int) 3 := ⟨(inA1 182 rfl rfl), in_X8_refer, cd_X8_refer, pn_X8_refer⟩
theorem pn_X9_refer : yX9_refer.cls ≠ "java/lang/invoke/MethodHandle" ∧ yX9_refer.cls ≠ "java/lang/invoke/VarHandle" ∧ (parseMethodDescriptor yX9_refer.desc).map (fun d => d.parameters.length) = some 3 := by decide +kernel
theorem cd_X9_refer : Cond.code yX9_refer cX9_refer 4 (some .int) ∈ wsA := (inA5 47 rfl rfl)
theorem in_X9_refer : Cond.initialized yX9_refer.cls ∈ wsA := (inA1 5 rfl rfl)
theorem iv_X9_refer : Cond.instanceMethod yX9_refer ∈ wsA ∧ Cond.selects yX9_refer.cls yX9_refer yX9_refer ∈ wsA := ⟨(inA5 45 rfl rfl), (inA5 46 rfl rfl)⟩
theorem mk_L_22 : MK RL 22 yX9_refer cX9_refer 4 (some .int) 3 := ⟨(inA5 44 rfl rfl), in_X9_refer, cd_X9_refer, pn_X9_refer⟩
theorem kc_L_23 : Cond.constantLong RL 23 (4294967295 : Int64) ∈ wsA := (inA6 18 rfl rfl)
theorem pn_X8_change : yX8_change.cls ≠ "java/lang/invoke/MethodHandle" ∧ yX8_change.cls ≠ "java/lang/invoke/VarHandle" ∧ (parseMethodDescriptor yX8_change.desc).map (fun d => d.parameters.length) = some 2 := by decide +kernel
theorem cd_X8_change : Cond.code yX8_change cX8_change 5 (some .int) ∈ wsA := (inA1 223 rfl rfl)
theorem in_X8_change : Cond.initialized yX8_change.cls ∈ wsA := (inA1 1 rfl rfl)
theorem iv_X8_change : Cond.instanceMethod yX8_change ∈ wsA ∧ Cond.selects yX8_change.cls yX8_change yX8_change ∈ wsA := ⟨(inA1 221 rfl rfl), (inA1 222 rfl rfl)⟩
theorem mk_L_25 : MK RL 25 yX8_change cX8_change 5 (some .int) 2 := ⟨(inA1 220 rfl rfl), in_X8_change, cd_X8_change, pn_X8_change⟩
theorem pn_X9_change : yX9_change.cls ≠ "java/lang/invoke/MethodHandle" ∧ yX9_change.cls ≠ "java/lang/invoke/VarHandle" ∧ (parseMethodDescriptor yX9_change.desc).map (fun d => d.parameters.length) = some 2 := by decide +kernel
theorem cd_X9_change : Cond.code yX9_change cX9_change 4 (some .int) ∈ wsA := (inA5 56 rfl rfl)
theorem in_X9_change : Cond.initialized yX9_change.cls ∈ wsA := (inA1 5 rfl rfl)
theorem iv_X9_change : Cond.instanceMethod yX9_change ∈ wsA ∧ Cond.selects yX9_change.cls yX9_change yX9_change ∈ wsA := ⟨(inA5 54 rfl rfl), (inA5 55 rfl rfl)⟩
theorem mk_L_29 : MK RL 29 yX9_change cX9_change 4 (some .int) 2 := ⟨(inA5 53 rfl rfl), in_X9_change, cd_X9_change, pn_X9_change⟩
theorem pn_X8_tick : yX8_tick.cls ≠ "java/lang/invoke/MethodHandle" ∧ yX8_tick.cls ≠ "java/lang/invoke/VarHandle" ∧ (parseMethodDescriptor yX8_tick.desc).map (fun d => d.parameters.length) = some 1 := by decide +kernel
theorem cd_X8_tick : Cond.code yX8_tick cX8_tick 4 (some .int) ∈ wsA := (inA1 231 rfl rfl)
theorem in_X8_tick : Cond.initialized yX8_tick.cls ∈ wsA := (inA1 1 rfl rfl)
theorem iv_X8_tick : Cond.instanceMethod yX8_tick ∈ wsA ∧ Cond.selects yX8_tick.cls yX8_tick yX8_tick ∈ wsA := ⟨(inA1 229 rfl rfl), (inA1 230 rfl rfl)⟩
theorem mk_L_30 : MK RL 30 yX8_tick cX8_tick 4 (some .int) 1 := ⟨(inA1 228 rfl rfl), in_X8_tick, cd_X8_tick, pn_X8_tick⟩
theorem pn_X9_tick : yX9_tick.cls ≠ "java/lang/invoke/MethodHandle" ∧ yX9_tick.cls ≠ "java/lang/invoke/VarHandle" ∧ (parseMethodDescriptor yX9_tick.desc).map (fun d => d.parameters.length) = some 1 := by decide +kernel
theorem cd_X9_tick : Cond.code yX9_tick cX9_tick 4 (some .int) ∈ wsA := (inA5 64 rfl rfl)
theorem in_X9_tick : Cond.initialized yX9_tick.cls ∈ wsA := (inA1 5 rfl rfl)
theorem iv_X9_tick : Cond.instanceMethod yX9_tick ∈ wsA ∧ Cond.selects yX9_tick.cls yX9_tick yX9_tick ∈ wsA := ⟨(inA5 62 rfl rfl), (inA5 63 rfl rfl)⟩
theorem mk_L_33 : MK RL 33 yX9_tick cX9_tick 4 (some .int) 1 := ⟨(inA5 61 rfl rfl), in_X9_tick, cd_X9_tick, pn_X9_tick⟩
theorem pn_X8_session : yX8_session.cls ≠ "java/lang/invoke/MethodHandle" ∧ yX8_session.cls ≠ "java/lang/invoke/VarHandle" ∧ (parseMethodDescriptor yX8_session.desc).map (fun d => d.parameters.length) = some 1 := by decide +kernel
theorem cd_X8_session : Cond.code yX8_session cX8_session 2 (some .int) ∈ wsA := (inA2 164 rfl rfl)
theorem in_X8_session : Cond.initialized yX8_session.cls ∈ wsA := (inA1 1 rfl rfl)
theorem iv_X8_session : Cond.instanceMethod yX8_session ∈ wsA ∧ Cond.selects yX8_session.cls yX8_session yX8_session ∈ wsA := ⟨(inA2 162 rfl rfl), (inA2 163 rfl rfl)⟩
theorem mk_L_34 : MK RL 34 yX8_session cX8_session 2 (some .int) 1 := ⟨(inA2 161 rfl rfl), in_X8_session, cd_X8_session, pn_X8_session⟩
theorem pn_X9_session : yX9_session.cls ≠ "java/lang/invoke/MethodHandle" ∧ yX9_session.cls ≠ "java/lang/invoke/VarHandle" ∧ (parseMethodDescriptor yX9_session.desc).map (fun d => d.parameters.length) = some 1 := by decide +kernel
theorem cd_X9_session : Cond.code yX9_session cX9_session 2 (some .int) ∈ wsA := (inA5 126 rfl rfl)
theorem in_X9_session : Cond.initialized yX9_session.cls ∈ wsA := (inA1 5 rfl rfl)
theorem iv_X9_session : Cond.instanceMethod yX9_session ∈ wsA ∧ Cond.selects yX9_session.cls yX9_session yX9_session ∈ wsA := ⟨(inA5 124 rfl rfl), (inA5 125 rfl rfl)⟩
theorem mk_L_37 : MK RL 37 yX9_session cX9_session 2 (some .int) 1 := ⟨(inA5 123 rfl rfl), in_X9_session, cd_X9_session, pn_X9_session⟩
theorem pn_X8_activate : yX8_activate.cls ≠ "java/lang/invoke/MethodHandle" ∧ yX8_activate.cls ≠ "java/lang/invoke/VarHandle" ∧ (parseMethodDescriptor yX8_activate.desc).map (fun d => d.parameters.length) = some 1 := by decide +kernel
theorem cd_X8_activate : Cond.code yX8_activate cX8_activate 3 (some .int) ∈ wsA := (inA2 199 rfl rfl)
theorem in_X8_activate : Cond.initialized yX8_activate.cls ∈ wsA := (inA1 1 rfl rfl)
theorem iv_X8_activate : Cond.instanceMethod yX8_activate ∈ wsA ∧ Cond.selects yX8_activate.cls yX8_activate yX8_activate ∈ wsA := ⟨(inA2 197 rfl rfl), (inA2 198 rfl rfl)⟩
theorem mk_L_38 : MK RL 38 yX8_activate cX8_activate 3 (some .int) 1 := ⟨(inA2 196 rfl rfl), in_X8_activate, cd_X8_activate, pn_X8_activate⟩
theorem pn_X9_activate : yX9_activate.cls ≠ "java/lang/invoke/MethodHandle" ∧ yX9_activate.cls ≠ "java/lang/invoke/VarHandle" ∧ (parseMethodDescriptor yX9_activate.desc).map (fun d => d.parameters.length) = some 1 := by decide +kernel
theorem cd_X9_activate : Cond.code yX9_activate cX9_activate 2 (some .int) ∈ wsA := (inA5 130 rfl rfl)
theorem in_X9_activate : Cond.initialized yX9_activate.cls ∈ wsA := (inA1 5 rfl rfl)
theorem iv_X9_activate : Cond.instanceMethod yX9_activate ∈ wsA ∧ Cond.selects yX9_activate.cls yX9_activate yX9_activate ∈ wsA := ⟨(inA5 128 rfl rfl), (inA5 129 rfl rfl)⟩
theorem mk_L_41 : MK RL 41 yX9_activate cX9_activate 2 (some .int) 1 := ⟨(inA5 127 rfl rfl), in_X9_activate, cd_X9_activate, pn_X9_activate⟩
theorem pn_X8_close : yX8_close.cls ≠ "java/lang/invoke/MethodHandle" ∧ yX8_close.cls ≠ "java/lang/invoke/VarHandle" ∧ (parseMethodDescriptor yX8_close.desc).map (fun d => d.parameters.length) = some 1 := by decide +kernel
theorem cd_X8_close : Cond.code yX8_close cX8_close 3 (some .int) ∈ wsA := (inA2 215 rfl rfl)
theorem in_X8_close : Cond.initialized yX8_close.cls ∈ wsA := (inA1 1 rfl rfl)
theorem iv_X8_close : Cond.instanceMethod yX8_close ∈ wsA ∧ Cond.selects yX8_close.cls yX8_close yX8_close ∈ wsA := ⟨(inA2 213 rfl rfl), (inA2 214 rfl rfl)⟩
theorem mk_L_42 : MK RL 42 yX8_close cX8_close 3 (some .int) 1 := ⟨(inA2 212 rfl rfl), in_X8_close, cd_X8_close, pn_X8_close⟩
theorem pn_X9_close : yX9_close.cls ≠ "java/lang/invoke/MethodHandle" ∧ yX9_close.cls ≠ "java/lang/invoke/VarHandle" ∧ (parseMethodDescriptor yX9_close.desc).map (fun d => d.parameters.length) = some 1 := by decide +kernel
theorem cd_X9_close : Cond.code yX9_close cX9_close 3 (some .int) ∈ wsA := (inA5 134 rfl rfl)
theorem in_X9_close : Cond.initialized yX9_close.cls ∈ wsA := (inA1 5 rfl rfl)
theorem iv_X9_close : Cond.instanceMethod yX9_close ∈ wsA ∧ Cond.selects yX9_close.cls yX9_close yX9_close ∈ wsA := ⟨(inA5 132 rfl rfl), (inA5 133 rfl rfl)⟩
theorem mk_L_45 : MK RL 45 yX9_close cX9_close 3 (some .int) 1 := ⟨(inA5 131 rfl rfl), in_X9_close, cd_X9_close, pn_X9_close⟩
theorem pn_X8_browse : yX8_browse.cls ≠ "java/lang/invoke/MethodHandle" ∧ yX8_browse.cls ≠ "java/lang/invoke/VarHandle" ∧ (parseMethodDescriptor yX8_browse.desc).map (fun d => d.parameters.length) = some 5 := by decide +kernel
theorem cd_X8_browse : Cond.code yX8_browse cX8_browse 9 (some .int) ∈ wsA := (inA2 223 rfl rfl)
theorem in_X8_browse : Cond.initialized yX8_browse.cls ∈ wsA := (inA1 1 rfl rfl)
theorem iv_X8_browse : Cond.instanceMethod yX8_browse ∈ wsA ∧ Cond.selects yX8_browse.cls yX8_browse yX8_browse ∈ wsA := ⟨(inA2 221 rfl rfl), (inA2 222 rfl rfl)⟩
theorem mk_L_46 : MK RL 46 yX8_browse cX8_browse 9 (some .int) 5 := ⟨(inA2 220 rfl rfl), in_X8_browse, cd_X8_browse, pn_X8_browse⟩
theorem pn_X9_browse : yX9_browse.cls ≠ "java/lang/invoke/MethodHandle" ∧ yX9_browse.cls ≠ "java/lang/invoke/VarHandle" ∧ (parseMethodDescriptor yX9_browse.desc).map (fun d => d.parameters.length) = some 5 := by decide +kernel
theorem cd_X9_browse : Cond.code yX9_browse cX9_browse 11 (some .int) ∈ wsA := (inA5 142 rfl rfl)
theorem in_X9_browse : Cond.initialized yX9_browse.cls ∈ wsA := (inA1 5 rfl rfl)
theorem iv_X9_browse : Cond.instanceMethod yX9_browse ∈ wsA ∧ Cond.selects yX9_browse.cls yX9_browse yX9_browse ∈ wsA := ⟨(inA5 140 rfl rfl), (inA5 141 rfl rfl)⟩
theorem mk_L_50 : MK RL 50 yX9_browse cX9_browse 11 (some .int) 5 := ⟨(inA5 139 rfl rfl), in_X9_browse, cd_X9_browse, pn_X9_browse⟩
theorem pn_X8_read : yX8_read.cls ≠ "java/lang/invoke/MethodHandle" ∧ yX8_read.cls ≠ "java/lang/invoke/VarHandle" ∧ (parseMethodDescriptor yX8_read.desc).map (fun d => d.parameters.length) = some 2 := by decide +kernel
theorem cd_X8_read : Cond.code yX8_read cX8_read 4 (some .int) ∈ wsA := (inA2 239 rfl rfl)
theorem in_X8_read : Cond.initialized yX8_read.cls ∈ wsA := (inA1 1 rfl rfl)
theorem iv_X8_read : Cond.instanceMethod yX8_read ∈ wsA ∧ Cond.selects yX8_read.cls yX8_read yX8_read ∈ wsA := ⟨(inA2 237 rfl rfl), (inA2 238 rfl rfl)⟩
theorem mk_L_51 : MK RL 51 yX8_read cX8_read 4 (some .int) 2 := ⟨(inA2 236 rfl rfl), in_X8_read, cd_X8_read, pn_X8_read⟩
theorem pn_X9_read : yX9_read.cls ≠ "java/lang/invoke/MethodHandle" ∧ yX9_read.cls ≠ "java/lang/invoke/VarHandle" ∧ (parseMethodDescriptor yX9_read.desc).map (fun d => d.parameters.length) = some 2 := by decide +kernel
theorem cd_X9_read : Cond.code yX9_read cX9_read 4 (some .int) ∈ wsA := (inA5 146 rfl rfl)
theorem in_X9_read : Cond.initialized yX9_read.cls ∈ wsA := (inA1 5 rfl rfl)
theorem iv_X9_read : Cond.instanceMethod yX9_read ∈ wsA ∧ Cond.selects yX9_read.cls yX9_read yX9_read ∈ wsA := ⟨(inA5 144 rfl rfl), (inA5 145 rfl rfl)⟩
theorem mk_L_55 : MK RL 55 yX9_read cX9_read 4 (some .int) 2 := ⟨(inA5 143 rfl rfl), in_X9_read, cd_X9_read, pn_X9_read⟩
theorem pn_X8_value : yX8_value.cls ≠ "java/lang/invoke/MethodHandle" ∧ yX8_value.cls ≠ "java/lang/invoke/VarHandle" ∧ (parseMethodDescriptor yX8_value.desc).map (fun d => d.parameters.length) = some 0 := by decide +kernel
theorem cd_X8_value : Cond.code yX8_value cX8_value 1 (some .long) ∈ wsA := (inA3 3 rfl rfl)
theorem in_X8_value : Cond.initialized yX8_value.cls ∈ wsA := (inA1 1 rfl rfl)
theorem iv_X8_value : Cond.instanceMethod yX8_value ∈ wsA ∧ Cond.selects yX8_value.cls yX8_value yX8_value ∈ wsA := ⟨(inA3 1 rfl rfl), (inA3 2 rfl rfl)⟩
theorem mk_L_56 : MK RL 56 yX8_value cX8_value 1 (some .long) 0 := ⟨(inA3 0 rfl rfl), in_X8_value, cd_X8_value, pn_X8_value⟩
theorem pn_X9_value : yX9_value.cls ≠ "java/lang/invoke/MethodHandle" ∧ yX9_value.cls ≠ "java/lang/invoke/VarHandle" ∧ (parseMethodDescriptor yX9_value.desc).map (fun d => d.parameters.length) = some 0 := by decide +kernel
theorem cd_X9_value : Cond.code yX9_value cX9_value 1 (some .long) ∈ wsA := (inA5 150 rfl rfl)
theorem in_X9_value : Cond.initialized yX9_value.cls ∈ wsA := (inA1 5 rfl rfl)
theorem iv_X9_value : Cond.instanceMethod yX9_value ∈ wsA ∧ Cond.selects yX9_value.cls yX9_value yX9_value ∈ wsA := ⟨(inA5 148 rfl rfl), (inA5 149 rfl rfl)⟩
theorem mk_L_60 : MK RL 60 yX9_value cX9_value 1 (some .long) 0 := ⟨(inA5 147 rfl rfl), in_X9_value, cd_X9_value, pn_X9_value⟩
theorem pn_X8_write : yX8_write.cls ≠ "java/lang/invoke/MethodHandle" ∧ yX8_write.cls ≠ "java/lang/invoke/VarHandle" ∧ (parseMethodDescriptor yX8_write.desc).map (fun d => d.parameters.length) = some 3 := by decide +kernel
theorem cd_X8_write : Cond.code yX8_write cX8_write 6 (some .int) ∈ wsA := (inA3 7 rfl rfl)
theorem in_X8_write : Cond.initialized yX8_write.cls ∈ wsA := (inA1 1 rfl rfl)
theorem iv_X8_write : Cond.instanceMethod yX8_write ∈ wsA ∧ Cond.selects yX8_write.cls yX8_write yX8_write ∈ wsA := ⟨(inA3 5 rfl rfl), (inA3 6 rfl rfl)⟩
theorem mk_L_61 : MK RL 61 yX8_write cX8_write 6 (some .int) 3 := ⟨(inA3 4 rfl rfl), in_X8_write, cd_X8_write, pn_X8_write⟩
theorem pn_X9_write : yX9_write.cls ≠ "java/lang/invoke/MethodHandle" ∧ yX9_write.cls ≠ "java/lang/invoke/VarHandle" ∧ (parseMethodDescriptor yX9_write.desc).map (fun d => d.parameters.length) = some 3 := by decide +kernel
theorem cd_X9_write : Cond.code yX9_write cX9_write 6 (some .int) ∈ wsA := (inA5 154 rfl rfl)
theorem in_X9_write : Cond.initialized yX9_write.cls ∈ wsA := (inA1 5 rfl rfl)
theorem iv_X9_write : Cond.instanceMethod yX9_write ∈ wsA ∧ Cond.selects yX9_write.cls yX9_write yX9_write ∈ wsA := ⟨(inA5 152 rfl rfl), (inA5 153 rfl rfl)⟩
theorem mk_L_65 : MK RL 65 yX9_write cX9_write 6 (some .int) 3 := ⟨(inA5 151 rfl rfl), in_X9_write, cd_X9_write, pn_X9_write⟩
theorem pn_X8_subscribe : yX8_subscribe.cls ≠ "java/lang/invoke/MethodHandle" ∧ yX8_subscribe.cls ≠ "java/lang/invoke/VarHandle" ∧ (parseMethodDescriptor yX8_subscribe.desc).map (fun d => d.parameters.length) = some 5 := by decide +kernel
theorem cd_X8_subscribe : Cond.code yX8_subscribe cX8_subscribe 8 (some .int) ∈ wsA := (inA3 11 rfl rfl)
theorem in_X8_subscribe : Cond.initialized yX8_subscribe.cls ∈ wsA := (inA1 1 rfl rfl)
theorem iv_X8_subscribe : Cond.instanceMethod yX8_subscribe ∈ wsA ∧ Cond.selects yX8_subscribe.cls yX8_subscribe yX8_subscribe ∈ wsA := ⟨(inA3 9 rfl rfl), (inA3 10 rfl rfl)⟩
theorem mk_L_66 : MK RL 66 yX8_subscribe cX8_subscribe 8 (some .int) 5 := ⟨(inA3 8 rfl rfl), in_X8_subscribe, cd_X8_subscribe, pn_X8_subscribe⟩
theorem pn_X9_subscribe : yX9_subscribe.cls ≠ "java/lang/invoke/MethodHandle" ∧ yX9_subscribe.cls ≠ "java/lang/invoke/VarHandle" ∧ (parseMethodDescriptor yX9_subscribe.desc).map (fun d => d.parameters.length) = some 5 := by decide +kernel
theorem cd_X9_subscribe : Cond.code yX9_subscribe cX9_subscribe 8 (some .int) ∈ wsA := (inA5 158 rfl rfl)
theorem in_X9_subscribe : Cond.initialized yX9_subscribe.cls ∈ wsA := (inA1 5 rfl rfl)
theorem iv_X9_subscribe : Cond.instanceMethod yX9_subscribe ∈ wsA ∧ Cond.selects yX9_subscribe.cls yX9_subscribe yX9_subscribe ∈ wsA := ⟨(inA5 156 rfl rfl), (inA5 157 rfl rfl)⟩
theorem mk_L_69 : MK RL 69 yX9_subscribe cX9_subscribe 8 (some .int) 5 := ⟨(inA5 155 rfl rfl), in_X9_subscribe, cd_X9_subscribe, pn_X9_subscribe⟩
theorem pn_X8_modify : yX8_modify.cls ≠ "java/lang/invoke/MethodHandle" ∧ yX8_modify.cls ≠ "java/lang/invoke/VarHandle" ∧ (parseMethodDescriptor yX8_modify.desc).map (fun d => d.parameters.length) = some 6 := by decide +kernel
theorem cd_X8_modify : Cond.code yX8_modify cX8_modify 9 (some .int) ∈ wsA := (inA3 102 rfl rfl)
theorem in_X8_modify : Cond.initialized yX8_modify.cls ∈ wsA := (inA1 1 rfl rfl)
theorem iv_X8_modify : Cond.instanceMethod yX8_modify ∈ wsA ∧ Cond.selects yX8_modify.cls yX8_modify yX8_modify ∈ wsA := ⟨(inA3 100 rfl rfl), (inA3 101 rfl rfl)⟩
theorem mk_L_70 : MK RL 70 yX8_modify cX8_modify 9 (some .int) 6 := ⟨(inA3 99 rfl rfl), in_X8_modify, cd_X8_modify, pn_X8_modify⟩
theorem pn_X9_modify : yX9_modify.cls ≠ "java/lang/invoke/MethodHandle" ∧ yX9_modify.cls ≠ "java/lang/invoke/VarHandle" ∧ (parseMethodDescriptor yX9_modify.desc).map (fun d => d.parameters.length) = some 6 := by decide +kernel
theorem cd_X9_modify : Cond.code yX9_modify cX9_modify 8 (some .int) ∈ wsA := (inA5 173 rfl rfl)
theorem in_X9_modify : Cond.initialized yX9_modify.cls ∈ wsA := (inA1 5 rfl rfl)
theorem iv_X9_modify : Cond.instanceMethod yX9_modify ∈ wsA ∧ Cond.selects yX9_modify.cls yX9_modify yX9_modify ∈ wsA := ⟨(inA5 171 rfl rfl), (inA5 172 rfl rfl)⟩
theorem mk_L_74 : MK RL 74 yX9_modify cX9_modify 8 (some .int) 6 := ⟨(inA5 170 rfl rfl), in_X9_modify, cd_X9_modify, pn_X9_modify⟩
theorem pn_X8_turn : yX8_turn.cls ≠ "java/lang/invoke/MethodHandle" ∧ yX8_turn.cls ≠ "java/lang/invoke/VarHandle" ∧ (parseMethodDescriptor yX8_turn.desc).map (fun d => d.parameters.length) = some 3 := by decide +kernel
theorem cd_X8_turn : Cond.code yX8_turn cX8_turn 7 (some .int) ∈ wsA := (inA3 114 rfl rfl)
theorem in_X8_turn : Cond.initialized yX8_turn.cls ∈ wsA := (inA1 1 rfl rfl)
theorem iv_X8_turn : Cond.instanceMethod yX8_turn ∈ wsA ∧ Cond.selects yX8_turn.cls yX8_turn yX8_turn ∈ wsA := ⟨(inA3 112 rfl rfl), (inA3 113 rfl rfl)⟩
theorem mk_L_75 : MK RL 75 yX8_turn cX8_turn 7 (some .int) 3 := ⟨(inA3 111 rfl rfl), in_X8_turn, cd_X8_turn, pn_X8_turn⟩
theorem pn_X9_turn : yX9_turn.cls ≠ "java/lang/invoke/MethodHandle" ∧ yX9_turn.cls ≠ "java/lang/invoke/VarHandle" ∧ (parseMethodDescriptor yX9_turn.desc).map (fun d => d.parameters.length) = some 3 := by decide +kernel
theorem cd_X9_turn : Cond.code yX9_turn cX9_turn 6 (some .int) ∈ wsA := (inA5 181 rfl rfl)
theorem in_X9_turn : Cond.initialized yX9_turn.cls ∈ wsA := (inA1 5 rfl rfl)
theorem iv_X9_turn : Cond.instanceMethod yX9_turn ∈ wsA ∧ Cond.selects yX9_turn.cls yX9_turn yX9_turn ∈ wsA := ⟨(inA5 179 rfl rfl), (inA5 180 rfl rfl)⟩
theorem mk_L_79 : MK RL 79 yX9_turn cX9_turn 6 (some .int) 3 := ⟨(inA5 178 rfl rfl), in_X9_turn, cd_X9_turn, pn_X9_turn⟩
theorem pn_X8_transfer : yX8_transfer.cls ≠ "java/lang/invoke/MethodHandle" ∧ yX8_transfer.cls ≠ "java/lang/invoke/VarHandle" ∧ (parseMethodDescriptor yX8_transfer.desc).map (fun d => d.parameters.length) = some 2 := by decide +kernel
theorem cd_X8_transfer : Cond.code yX8_transfer cX8_transfer 6 (some .int) ∈ wsA := (inA3 121 rfl rfl)
theorem in_X8_transfer : Cond.initialized yX8_transfer.cls ∈ wsA := (inA1 1 rfl rfl)
theorem iv_X8_transfer : Cond.instanceMethod yX8_transfer ∈ wsA ∧ Cond.selects yX8_transfer.cls yX8_transfer yX8_transfer ∈ wsA := ⟨(inA3 119 rfl rfl), (inA3 120 rfl rfl)⟩
theorem mk_L_80 : MK RL 80 yX8_transfer cX8_transfer 6 (some .int) 2 := ⟨(inA3 118 rfl rfl), in_X8_transfer, cd_X8_transfer, pn_X8_transfer⟩
theorem pn_X9_transfer : yX9_transfer.cls ≠ "java/lang/invoke/MethodHandle" ∧ yX9_transfer.cls ≠ "java/lang/invoke/VarHandle" ∧ (parseMethodDescriptor yX9_transfer.desc).map (fun d => d.parameters.length) = some 2 := by decide +kernel
theorem cd_X9_transfer : Cond.code yX9_transfer cX9_transfer 5 (some .int) ∈ wsA := (inA5 185 rfl rfl)
theorem in_X9_transfer : Cond.initialized yX9_transfer.cls ∈ wsA := (inA1 5 rfl rfl)
theorem iv_X9_transfer : Cond.instanceMethod yX9_transfer ∈ wsA ∧ Cond.selects yX9_transfer.cls yX9_transfer yX9_transfer ∈ wsA := ⟨(inA5 183 rfl rfl), (inA5 184 rfl rfl)⟩
theorem mk_L_83 : MK RL 83 yX9_transfer cX9_transfer 5 (some .int) 2 := ⟨(inA5 182 rfl rfl), in_X9_transfer, cd_X9_transfer, pn_X9_transfer⟩
theorem pn_X8_unsubscribe : yX8_unsubscribe.cls ≠ "java/lang/invoke/MethodHandle" ∧ yX8_unsubscribe.cls ≠ "java/lang/invoke/VarHandle" ∧ (parseMethodDescriptor yX8_unsubscribe.desc).map (fun d => d.parameters.length) = some 2 := by decide +kernel
theorem cd_X8_unsubscribe : Cond.code yX8_unsubscribe cX8_unsubscribe 5 (some .int) ∈ wsA := (inA3 125 rfl rfl)
theorem in_X8_unsubscribe : Cond.initialized yX8_unsubscribe.cls ∈ wsA := (inA1 1 rfl rfl)
theorem iv_X8_unsubscribe : Cond.instanceMethod yX8_unsubscribe ∈ wsA ∧ Cond.selects yX8_unsubscribe.cls yX8_unsubscribe yX8_unsubscribe ∈ wsA := ⟨(inA3 123 rfl rfl), (inA3 124 rfl rfl)⟩
theorem mk_L_84 : MK RL 84 yX8_unsubscribe cX8_unsubscribe 5 (some .int) 2 := ⟨(inA3 122 rfl rfl), in_X8_unsubscribe, cd_X8_unsubscribe, pn_X8_unsubscribe⟩
theorem pn_X9_unsubscribe : yX9_unsubscribe.cls ≠ "java/lang/invoke/MethodHandle" ∧ yX9_unsubscribe.cls ≠ "java/lang/invoke/VarHandle" ∧ (parseMethodDescriptor yX9_unsubscribe.desc).map (fun d => d.parameters.length) = some 2 := by decide +kernel
theorem cd_X9_unsubscribe : Cond.code yX9_unsubscribe cX9_unsubscribe 4 (some .int) ∈ wsA := (inA5 189 rfl rfl)
theorem in_X9_unsubscribe : Cond.initialized yX9_unsubscribe.cls ∈ wsA := (inA1 5 rfl rfl)
theorem iv_X9_unsubscribe : Cond.instanceMethod yX9_unsubscribe ∈ wsA ∧ Cond.selects yX9_unsubscribe.cls yX9_unsubscribe yX9_unsubscribe ∈ wsA := ⟨(inA5 187 rfl rfl), (inA5 188 rfl rfl)⟩
theorem mk_L_87 : MK RL 87 yX9_unsubscribe cX9_unsubscribe 4 (some .int) 2 := ⟨(inA5 186 rfl rfl), in_X9_unsubscribe, cd_X9_unsubscribe, pn_X9_unsubscribe⟩
theorem pn_X8_item : yX8_item.cls ≠ "java/lang/invoke/MethodHandle" ∧ yX8_item.cls ≠ "java/lang/invoke/VarHandle" ∧ (parseMethodDescriptor yX8_item.desc).map (fun d => d.parameters.length) = some 8 := by decide +kernel
theorem cd_X8_item : Cond.code yX8_item cX8_item 14 (some .int) ∈ wsA := (inA3 129 rfl rfl)
theorem in_X8_item : Cond.initialized yX8_item.cls ∈ wsA := (inA1 1 rfl rfl)
theorem iv_X8_item : Cond.instanceMethod yX8_item ∈ wsA ∧ Cond.selects yX8_item.cls yX8_item yX8_item ∈ wsA := ⟨(inA3 127 rfl rfl), (inA3 128 rfl rfl)⟩
theorem mk_L_88 : MK RL 88 yX8_item cX8_item 14 (some .int) 8 := ⟨(inA3 126 rfl rfl), in_X8_item, cd_X8_item, pn_X8_item⟩
theorem pn_X9_item : yX9_item.cls ≠ "java/lang/invoke/MethodHandle" ∧ yX9_item.cls ≠ "java/lang/invoke/VarHandle" ∧ (parseMethodDescriptor yX9_item.desc).map (fun d => d.parameters.length) = some 8 := by decide +kernel
theorem cd_X9_item : Cond.code yX9_item cX9_item 13 (some .int) ∈ wsA := (inA5 193 rfl rfl)
theorem in_X9_item : Cond.initialized yX9_item.cls ∈ wsA := (inA1 5 rfl rfl)
theorem iv_X9_item : Cond.instanceMethod yX9_item ∈ wsA ∧ Cond.selects yX9_item.cls yX9_item yX9_item ∈ wsA := ⟨(inA5 191 rfl rfl), (inA5 192 rfl rfl)⟩
theorem mk_L_92 : MK RL 92 yX9_item cX9_item 13 (some .int) 8 := ⟨(inA5 190 rfl rfl), in_X9_item, cd_X9_item, pn_X9_item⟩
theorem pn_X8_mode : yX8_mode.cls ≠ "java/lang/invoke/MethodHandle" ∧ yX8_mode.cls ≠ "java/lang/invoke/VarHandle" ∧ (parseMethodDescriptor yX8_mode.desc).map (fun d => d.parameters.length) = some 3 := by decide +kernel
theorem cd_X8_mode : Cond.code yX8_mode cX8_mode 7 (some .int) ∈ wsA := (inA3 214 rfl rfl)
theorem in_X8_mode : Cond.initialized yX8_mode.cls ∈ wsA := (inA1 1 rfl rfl)
theorem iv_X8_mode : Cond.instanceMethod yX8_mode ∈ wsA ∧ Cond.selects yX8_mode.cls yX8_mode yX8_mode ∈ wsA := ⟨(inA3 212 rfl rfl), (inA3 213 rfl rfl)⟩
theorem mk_L_93 : MK RL 93 yX8_mode cX8_mode 7 (some .int) 3 := ⟨(inA3 211 rfl rfl), in_X8_mode, cd_X8_mode, pn_X8_mode⟩
theorem pn_X9_mode : yX9_mode.cls ≠ "java/lang/invoke/MethodHandle" ∧ yX9_mode.cls ≠ "java/lang/invoke/VarHandle" ∧ (parseMethodDescriptor yX9_mode.desc).map (fun d => d.parameters.length) = some 3 := by decide +kernel
theorem cd_X9_mode : Cond.code yX9_mode cX9_mode 6 (some .int) ∈ wsA := (inA5 198 rfl rfl)
theorem in_X9_mode : Cond.initialized yX9_mode.cls ∈ wsA := (inA1 5 rfl rfl)
theorem iv_X9_mode : Cond.instanceMethod yX9_mode ∈ wsA ∧ Cond.selects yX9_mode.cls yX9_mode yX9_mode ∈ wsA := ⟨(inA5 196 rfl rfl), (inA5 197 rfl rfl)⟩
theorem mk_L_96 : MK RL 96 yX9_mode cX9_mode 6 (some .int) 3 := ⟨(inA5 195 rfl rfl), in_X9_mode, cd_X9_mode, pn_X9_mode⟩
theorem pn_X8_drop : yX8_drop.cls ≠ "java/lang/invoke/MethodHandle" ∧ yX8_drop.cls ≠ "java/lang/invoke/VarHandle" ∧ (parseMethodDescriptor yX8_drop.desc).map (fun d => d.parameters.length) = some 2 := by decide +kernel
theorem cd_X8_drop : Cond.code yX8_drop cX8_drop 6 (some .int) ∈ wsA := (inA3 226 rfl rfl)
theorem in_X8_drop : Cond.initialized yX8_drop.cls ∈ wsA := (inA1 1 rfl rfl)
theorem iv_X8_drop : Cond.instanceMethod yX8_drop ∈ wsA ∧ Cond.selects yX8_drop.cls yX8_drop yX8_drop ∈ wsA := ⟨(inA3 224 rfl rfl), (inA3 225 rfl rfl)⟩
theorem mk_L_97 : MK RL 97 yX8_drop cX8_drop 6 (some .int) 2 := ⟨(inA3 223 rfl rfl), in_X8_drop, cd_X8_drop, pn_X8_drop⟩
theorem pn_X9_drop : yX9_drop.cls ≠ "java/lang/invoke/MethodHandle" ∧ yX9_drop.cls ≠ "java/lang/invoke/VarHandle" ∧ (parseMethodDescriptor yX9_drop.desc).map (fun d => d.parameters.length) = some 2 := by decide +kernel
theorem cd_X9_drop : Cond.code yX9_drop cX9_drop 4 (some .int) ∈ wsA := (inA5 206 rfl rfl)
theorem in_X9_drop : Cond.initialized yX9_drop.cls ∈ wsA := (inA1 5 rfl rfl)
theorem iv_X9_drop : Cond.instanceMethod yX9_drop ∈ wsA ∧ Cond.selects yX9_drop.cls yX9_drop yX9_drop ∈ wsA := ⟨(inA5 204 rfl rfl), (inA5 205 rfl rfl)⟩
theorem mk_L_100 : MK RL 100 yX9_drop cX9_drop 4 (some .int) 2 := ⟨(inA5 203 rfl rfl), in_X9_drop, cd_X9_drop, pn_X9_drop⟩
theorem pn_X8_publish : yX8_publish.cls ≠ "java/lang/invoke/MethodHandle" ∧ yX8_publish.cls ≠ "java/lang/invoke/VarHandle" ∧ (parseMethodDescriptor yX8_publish.desc).map (fun d => d.parameters.length) = some 3 := by decide +kernel
theorem cd_X8_publish : Cond.code yX8_publish cX8_publish 6 (some .int) ∈ wsA := (inA3 234 rfl rfl)
theorem in_X8_publish : Cond.initialized yX8_publish.cls ∈ wsA := (inA1 1 rfl rfl)
theorem iv_X8_publish : Cond.instanceMethod yX8_publish ∈ wsA ∧ Cond.selects yX8_publish.cls yX8_publish yX8_publish ∈ wsA := ⟨(inA3 232 rfl rfl), (inA3 233 rfl rfl)⟩
theorem mk_L_101 : MK RL 101 yX8_publish cX8_publish 6 (some .int) 3 := ⟨(inA3 231 rfl rfl), in_X8_publish, cd_X8_publish, pn_X8_publish⟩
theorem pn_X9_publish : yX9_publish.cls ≠ "java/lang/invoke/MethodHandle" ∧ yX9_publish.cls ≠ "java/lang/invoke/VarHandle" ∧ (parseMethodDescriptor yX9_publish.desc).map (fun d => d.parameters.length) = some 3 := by decide +kernel
theorem cd_X9_publish : Cond.code yX9_publish cX9_publish 9 (some .int) ∈ wsA := (inA5 210 rfl rfl)
theorem in_X9_publish : Cond.initialized yX9_publish.cls ∈ wsA := (inA1 5 rfl rfl)
theorem iv_X9_publish : Cond.instanceMethod yX9_publish ∈ wsA ∧ Cond.selects yX9_publish.cls yX9_publish yX9_publish ∈ wsA := ⟨(inA5 208 rfl rfl), (inA5 209 rfl rfl)⟩
theorem mk_L_104 : MK RL 104 yX9_publish cX9_publish 9 (some .int) 3 := ⟨(inA5 207 rfl rfl), in_X9_publish, cd_X9_publish, pn_X9_publish⟩
theorem pn_X8_acknowledged : yX8_acknowledged.cls ≠ "java/lang/invoke/MethodHandle" ∧ yX8_acknowledged.cls ≠ "java/lang/invoke/VarHandle" ∧ (parseMethodDescriptor yX8_acknowledged.desc).map (fun d => d.parameters.length) = some 0 := by decide +kernel
theorem cd_X8_acknowledged : Cond.code yX8_acknowledged cX8_acknowledged 1 (some .int) ∈ wsA := (inA4 18 rfl rfl)
theorem in_X8_acknowledged : Cond.initialized yX8_acknowledged.cls ∈ wsA := (inA1 1 rfl rfl)
theorem iv_X8_acknowledged : Cond.instanceMethod yX8_acknowledged ∈ wsA ∧ Cond.selects yX8_acknowledged.cls yX8_acknowledged yX8_acknowledged ∈ wsA := ⟨(inA4 16 rfl rfl), (inA4 17 rfl rfl)⟩
theorem mk_L_105 : MK RL 105 yX8_acknowledged cX8_acknowledged 1 (some .int) 0 := ⟨(inA4 15 rfl rfl), in_X8_acknowledged, cd_X8_acknowledged, pn_X8_acknowledged⟩
theorem pn_X9_acknowledged : yX9_acknowledged.cls ≠ "java/lang/invoke/MethodHandle" ∧ yX9_acknowledged.cls ≠ "java/lang/invoke/VarHandle" ∧ (parseMethodDescriptor yX9_acknowledged.desc).map (fun d => d.parameters.length) = some 0 := by decide +kernel
theorem cd_X9_acknowledged : Cond.code yX9_acknowledged cX9_acknowledged 1 (some .int) ∈ wsA := (inA5 222 rfl rfl)
theorem in_X9_acknowledged : Cond.initialized yX9_acknowledged.cls ∈ wsA := (inA1 5 rfl rfl)
theorem iv_X9_acknowledged : Cond.instanceMethod yX9_acknowledged ∈ wsA ∧ Cond.selects yX9_acknowledged.cls yX9_acknowledged yX9_acknowledged ∈ wsA := ⟨(inA5 220 rfl rfl), (inA5 221 rfl rfl)⟩
theorem mk_L_109 : MK RL 109 yX9_acknowledged cX9_acknowledged 1 (some .int) 0 := ⟨(inA5 219 rfl rfl), in_X9_acknowledged, cd_X9_acknowledged, pn_X9_acknowledged⟩
theorem pn_X8_again : yX8_again.cls ≠ "java/lang/invoke/MethodHandle" ∧ yX8_again.cls ≠ "java/lang/invoke/VarHandle" ∧ (parseMethodDescriptor yX8_again.desc).map (fun d => d.parameters.length) = some 3 := by decide +kernel
theorem cd_X8_again : Cond.code yX8_again cX8_again 7 (some .int) ∈ wsA := (inA4 22 rfl rfl)
theorem in_X8_again : Cond.initialized yX8_again.cls ∈ wsA := (inA1 1 rfl rfl)
theorem iv_X8_again : Cond.instanceMethod yX8_again ∈ wsA ∧ Cond.selects yX8_again.cls yX8_again yX8_again ∈ wsA := ⟨(inA4 20 rfl rfl), (inA4 21 rfl rfl)⟩
theorem mk_L_110 : MK RL 110 yX8_again cX8_again 7 (some .int) 3 := ⟨(inA4 19 rfl rfl), in_X8_again, cd_X8_again, pn_X8_again⟩
theorem pn_X9_again : yX9_again.cls ≠ "java/lang/invoke/MethodHandle" ∧ yX9_again.cls ≠ "java/lang/invoke/VarHandle" ∧ (parseMethodDescriptor yX9_again.desc).map (fun d => d.parameters.length) = some 3 := by decide +kernel
theorem cd_X9_again : Cond.code yX9_again cX9_again 6 (some .int) ∈ wsA := (inA5 226 rfl rfl)
theorem in_X9_again : Cond.initialized yX9_again.cls ∈ wsA := (inA1 5 rfl rfl)
theorem iv_X9_again : Cond.instanceMethod yX9_again ∈ wsA ∧ Cond.selects yX9_again.cls yX9_again yX9_again ∈ wsA := ⟨(inA5 224 rfl rfl), (inA5 225 rfl rfl)⟩
theorem mk_L_113 : MK RL 113 yX9_again cX9_again 6 (some .int) 3 := ⟨(inA5 223 rfl rfl), in_X9_again, cd_X9_again, pn_X9_again⟩
theorem pn_X8_mail : yX8_mail.cls ≠ "java/lang/invoke/MethodHandle" ∧ yX8_mail.cls ≠ "java/lang/invoke/VarHandle" ∧ (parseMethodDescriptor yX8_mail.desc).map (fun d => d.parameters.length) = some 2 := by decide +kernel
theorem cd_X8_mail : Cond.code yX8_mail cX8_mail 4 (some .int) ∈ wsA := (inA4 30 rfl rfl)
theorem in_X8_mail : Cond.initialized yX8_mail.cls ∈ wsA := (inA1 1 rfl rfl)
theorem iv_X8_mail : Cond.instanceMethod yX8_mail ∈ wsA ∧ Cond.selects yX8_mail.cls yX8_mail yX8_mail ∈ wsA := ⟨(inA4 28 rfl rfl), (inA4 29 rfl rfl)⟩
theorem mk_L_114 : MK RL 114 yX8_mail cX8_mail 4 (some .int) 2 := ⟨(inA4 27 rfl rfl), in_X8_mail, cd_X8_mail, pn_X8_mail⟩
theorem pn_X9_mail : yX9_mail.cls ≠ "java/lang/invoke/MethodHandle" ∧ yX9_mail.cls ≠ "java/lang/invoke/VarHandle" ∧ (parseMethodDescriptor yX9_mail.desc).map (fun d => d.parameters.length) = some 2 := by decide +kernel
theorem cd_X9_mail : Cond.code yX9_mail cX9_mail 3 (some .int) ∈ wsA := (inA5 230 rfl rfl)
theorem in_X9_mail : Cond.initialized yX9_mail.cls ∈ wsA := (inA1 5 rfl rfl)
theorem iv_X9_mail : Cond.instanceMethod yX9_mail ∈ wsA ∧ Cond.selects yX9_mail.cls yX9_mail yX9_mail ∈ wsA := ⟨(inA5 228 rfl rfl), (inA5 229 rfl rfl)⟩
theorem mk_L_117 : MK RL 117 yX9_mail cX9_mail 3 (some .int) 2 := ⟨(inA5 227 rfl rfl), in_X9_mail, cd_X9_mail, pn_X9_mail⟩
theorem pn_X8_message : yX8_message.cls ≠ "java/lang/invoke/MethodHandle" ∧ yX8_message.cls ≠ "java/lang/invoke/VarHandle" ∧ (parseMethodDescriptor yX8_message.desc).map (fun d => d.parameters.length) = some 2 := by decide +kernel
theorem cd_X8_message : Cond.code yX8_message cX8_message 4 (some .int) ∈ wsA := (inA4 34 rfl rfl)
theorem in_X8_message : Cond.initialized yX8_message.cls ∈ wsA := (inA1 1 rfl rfl)
theorem iv_X8_message : Cond.instanceMethod yX8_message ∈ wsA ∧ Cond.selects yX8_message.cls yX8_message yX8_message ∈ wsA := ⟨(inA4 32 rfl rfl), (inA4 33 rfl rfl)⟩
theorem mk_L_118 : MK RL 118 yX8_message cX8_message 4 (some .int) 2 := ⟨(inA4 31 rfl rfl), in_X8_message, cd_X8_message, pn_X8_message⟩
theorem pn_X9_message : yX9_message.cls ≠ "java/lang/invoke/MethodHandle" ∧ yX9_message.cls ≠ "java/lang/invoke/VarHandle" ∧ (parseMethodDescriptor yX9_message.desc).map (fun d => d.parameters.length) = some 2 := by decide +kernel
theorem cd_X9_message : Cond.code yX9_message cX9_message 3 (some .int) ∈ wsA := (inA5 234 rfl rfl)
theorem in_X9_message : Cond.initialized yX9_message.cls ∈ wsA := (inA1 5 rfl rfl)
theorem iv_X9_message : Cond.instanceMethod yX9_message ∈ wsA ∧ Cond.selects yX9_message.cls yX9_message yX9_message ∈ wsA := ⟨(inA5 232 rfl rfl), (inA5 233 rfl rfl)⟩
theorem mk_L_121 : MK RL 121 yX9_message cX9_message 3 (some .int) 2 := ⟨(inA5 231 rfl rfl), in_X9_message, cd_X9_message, pn_X9_message⟩
theorem pn_X8_entry : yX8_entry.cls ≠ "java/lang/invoke/MethodHandle" ∧ yX8_entry.cls ≠ "java/lang/invoke/VarHandle" ∧ (parseMethodDescriptor yX8_entry.desc).map (fun d => d.parameters.length) = some 3 := by decide +kernel
theorem cd_X8_entry : Cond.code yX8_entry cX8_entry 6 (some .long) ∈ wsA := (inA4 42 rfl rfl)
theorem in_X8_entry : Cond.initialized yX8_entry.cls ∈ wsA := (inA1 1 rfl rfl)
theorem iv_X8_entry : Cond.instanceMethod yX8_entry ∈ wsA ∧ Cond.selects yX8_entry.cls yX8_entry yX8_entry ∈ wsA := ⟨(inA4 40 rfl rfl), (inA4 41 rfl rfl)⟩
theorem mk_L_122 : MK RL 122 yX8_entry cX8_entry 6 (some .long) 3 := ⟨(inA4 39 rfl rfl), in_X8_entry, cd_X8_entry, pn_X8_entry⟩
theorem pn_X9_entry : yX9_entry.cls ≠ "java/lang/invoke/MethodHandle" ∧ yX9_entry.cls ≠ "java/lang/invoke/VarHandle" ∧ (parseMethodDescriptor yX9_entry.desc).map (fun d => d.parameters.length) = some 3 := by decide +kernel
theorem cd_X9_entry : Cond.code yX9_entry cX9_entry 5 (some .long) ∈ wsA := (inA5 238 rfl rfl)
theorem in_X9_entry : Cond.initialized yX9_entry.cls ∈ wsA := (inA1 5 rfl rfl)
theorem iv_X9_entry : Cond.instanceMethod yX9_entry ∈ wsA ∧ Cond.selects yX9_entry.cls yX9_entry yX9_entry ∈ wsA := ⟨(inA5 236 rfl rfl), (inA5 237 rfl rfl)⟩
theorem mk_L_126 : MK RL 126 yX9_entry cX9_entry 5 (some .long) 3 := ⟨(inA5 235 rfl rfl), in_X9_entry, cd_X9_entry, pn_X9_entry⟩
theorem pn_X8_sessionOf : yX8_sessionOf.cls ≠ "java/lang/invoke/MethodHandle" ∧ yX8_sessionOf.cls ≠ "java/lang/invoke/VarHandle" ∧ (parseMethodDescriptor yX8_sessionOf.desc).map (fun d => d.parameters.length) = some 2 := by decide +kernel
theorem cd_X8_sessionOf : Cond.code yX8_sessionOf cX8_sessionOf 4 (some .int) ∈ wsA := (inA4 47 rfl rfl)
theorem in_X8_sessionOf : Cond.initialized yX8_sessionOf.cls ∈ wsA := (inA1 1 rfl rfl)
theorem iv_X8_sessionOf : Cond.instanceMethod yX8_sessionOf ∈ wsA ∧ Cond.selects yX8_sessionOf.cls yX8_sessionOf yX8_sessionOf ∈ wsA := ⟨(inA4 45 rfl rfl), (inA4 46 rfl rfl)⟩
theorem mk_L_127 : MK RL 127 yX8_sessionOf cX8_sessionOf 4 (some .int) 2 := ⟨(inA4 44 rfl rfl), in_X8_sessionOf, cd_X8_sessionOf, pn_X8_sessionOf⟩
theorem pn_X9_sessionOf : yX9_sessionOf.cls ≠ "java/lang/invoke/MethodHandle" ∧ yX9_sessionOf.cls ≠ "java/lang/invoke/VarHandle" ∧ (parseMethodDescriptor yX9_sessionOf.desc).map (fun d => d.parameters.length) = some 2 := by decide +kernel
theorem cd_X9_sessionOf : Cond.code yX9_sessionOf cX9_sessionOf 5 (some .int) ∈ wsA := (inA6 3 rfl rfl)
theorem in_X9_sessionOf : Cond.initialized yX9_sessionOf.cls ∈ wsA := (inA1 5 rfl rfl)
theorem iv_X9_sessionOf : Cond.instanceMethod yX9_sessionOf ∈ wsA ∧ Cond.selects yX9_sessionOf.cls yX9_sessionOf yX9_sessionOf ∈ wsA := ⟨(inA6 1 rfl rfl), (inA6 2 rfl rfl)⟩
theorem mk_L_130 : MK RL 130 yX9_sessionOf cX9_sessionOf 5 (some .int) 2 := ⟨(inA6 0 rfl rfl), in_X9_sessionOf, cd_X9_sessionOf, pn_X9_sessionOf⟩
theorem pn_X8_subscription : yX8_subscription.cls ≠ "java/lang/invoke/MethodHandle" ∧ yX8_subscription.cls ≠ "java/lang/invoke/VarHandle" ∧ (parseMethodDescriptor yX8_subscription.desc).map (fun d => d.parameters.length) = some 2 := by decide +kernel
theorem cd_X8_subscription : Cond.code yX8_subscription cX8_subscription 4 (some .int) ∈ wsA := (inA4 51 rfl rfl)
theorem in_X8_subscription : Cond.initialized yX8_subscription.cls ∈ wsA := (inA1 1 rfl rfl)
theorem iv_X8_subscription : Cond.instanceMethod yX8_subscription ∈ wsA ∧ Cond.selects yX8_subscription.cls yX8_subscription yX8_subscription ∈ wsA := ⟨(inA4 49 rfl rfl), (inA4 50 rfl rfl)⟩
theorem mk_L_131 : MK RL 131 yX8_subscription cX8_subscription 4 (some .int) 2 := ⟨(inA4 48 rfl rfl), in_X8_subscription, cd_X8_subscription, pn_X8_subscription⟩
theorem pn_X9_subscription : yX9_subscription.cls ≠ "java/lang/invoke/MethodHandle" ∧ yX9_subscription.cls ≠ "java/lang/invoke/VarHandle" ∧ (parseMethodDescriptor yX9_subscription.desc).map (fun d => d.parameters.length) = some 2 := by decide +kernel
theorem cd_X9_subscription : Cond.code yX9_subscription cX9_subscription 5 (some .int) ∈ wsA := (inA6 7 rfl rfl)
theorem in_X9_subscription : Cond.initialized yX9_subscription.cls ∈ wsA := (inA1 5 rfl rfl)
theorem iv_X9_subscription : Cond.instanceMethod yX9_subscription ∈ wsA ∧ Cond.selects yX9_subscription.cls yX9_subscription yX9_subscription ∈ wsA := ⟨(inA6 5 rfl rfl), (inA6 6 rfl rfl)⟩
theorem mk_L_134 : MK RL 134 yX9_subscription cX9_subscription 5 (some .int) 2 := ⟨(inA6 4 rfl rfl), in_X9_subscription, cd_X9_subscription, pn_X9_subscription⟩
theorem pn_X8_itemOf : yX8_itemOf.cls ≠ "java/lang/invoke/MethodHandle" ∧ yX8_itemOf.cls ≠ "java/lang/invoke/VarHandle" ∧ (parseMethodDescriptor yX8_itemOf.desc).map (fun d => d.parameters.length) = some 2 := by decide +kernel
theorem cd_X8_itemOf : Cond.code yX8_itemOf cX8_itemOf 4 (some .int) ∈ wsA := (inA4 55 rfl rfl)
theorem in_X8_itemOf : Cond.initialized yX8_itemOf.cls ∈ wsA := (inA1 1 rfl rfl)
theorem iv_X8_itemOf : Cond.instanceMethod yX8_itemOf ∈ wsA ∧ Cond.selects yX8_itemOf.cls yX8_itemOf yX8_itemOf ∈ wsA := ⟨(inA4 53 rfl rfl), (inA4 54 rfl rfl)⟩
theorem mk_L_135 : MK RL 135 yX8_itemOf cX8_itemOf 4 (some .int) 2 := ⟨(inA4 52 rfl rfl), in_X8_itemOf, cd_X8_itemOf, pn_X8_itemOf⟩
theorem pn_X9_itemOf : yX9_itemOf.cls ≠ "java/lang/invoke/MethodHandle" ∧ yX9_itemOf.cls ≠ "java/lang/invoke/VarHandle" ∧ (parseMethodDescriptor yX9_itemOf.desc).map (fun d => d.parameters.length) = some 2 := by decide +kernel
theorem cd_X9_itemOf : Cond.code yX9_itemOf cX9_itemOf 3 (some .int) ∈ wsA := (inA6 11 rfl rfl)
theorem in_X9_itemOf : Cond.initialized yX9_itemOf.cls ∈ wsA := (inA1 5 rfl rfl)
theorem iv_X9_itemOf : Cond.instanceMethod yX9_itemOf ∈ wsA ∧ Cond.selects yX9_itemOf.cls yX9_itemOf yX9_itemOf ∈ wsA := ⟨(inA6 9 rfl rfl), (inA6 10 rfl rfl)⟩
theorem mk_L_138 : MK RL 138 yX9_itemOf cX9_itemOf 3 (some .int) 2 := ⟨(inA6 8 rfl rfl), in_X9_itemOf, cd_X9_itemOf, pn_X9_itemOf⟩
theorem pn_X8_status : yX8_status.cls ≠ "java/lang/invoke/MethodHandle" ∧ yX8_status.cls ≠ "java/lang/invoke/VarHandle" ∧ (parseMethodDescriptor yX8_status.desc).map (fun d => d.parameters.length) = some 1 := by decide +kernel
theorem cd_X8_status : Cond.code yX8_status cX8_status 3 (some .int) ∈ wsA := (inA4 67 rfl rfl)
theorem in_X8_status : Cond.initialized yX8_status.cls ∈ wsA := (inA1 1 rfl rfl)
theorem iv_X8_status : Cond.instanceMethod yX8_status ∈ wsA ∧ Cond.selects yX8_status.cls yX8_status yX8_status ∈ wsA := ⟨(inA4 65 rfl rfl), (inA4 66 rfl rfl)⟩
theorem mk_L_139 : MK RL 139 yX8_status cX8_status 3 (some .int) 1 := ⟨(inA4 64 rfl rfl), in_X8_status, cd_X8_status, pn_X8_status⟩
theorem pn_X9_status : yX9_status.cls ≠ "java/lang/invoke/MethodHandle" ∧ yX9_status.cls ≠ "java/lang/invoke/VarHandle" ∧ (parseMethodDescriptor yX9_status.desc).map (fun d => d.parameters.length) = some 1 := by decide +kernel
theorem cd_X9_status : Cond.code yX9_status cX9_status 4 (some .int) ∈ wsA := (inA6 15 rfl rfl)
theorem in_X9_status : Cond.initialized yX9_status.cls ∈ wsA := (inA1 5 rfl rfl)
theorem iv_X9_status : Cond.instanceMethod yX9_status ∈ wsA ∧ Cond.selects yX9_status.cls yX9_status yX9_status ∈ wsA := ⟨(inA6 13 rfl rfl), (inA6 14 rfl rfl)⟩
theorem mk_L_142 : MK RL 142 yX9_status cX9_status 4 (some .int) 1 := ⟨(inA6 12 rfl rfl), in_X9_status, cd_X9_status, pn_X9_status⟩
theorem ol_X0_1 : Cond.methodLink RX0 1 Lib.objectInit ∈ wsA := (inA2 20 rfl rfl)
theorem fk_X0_7 : FK RX0 7 1 3 false (.boolean) := ⟨RX0, TX0, 4, tyX0, "WatchServer$Entry", ci_X0, by decide, (inA2 27 rfl rfl), Or.inl rfl, rfl, rfl⟩
theorem fk_X0_13 : FK RX0 13 1 0 true (.long) := ⟨RX0, TX0, 4, tyX0, "WatchServer$Entry", ci_X0, by decide, (inA2 21 rfl rfl), Or.inl rfl, rfl, rfl⟩
theorem fp_X0_13 : FP RX0 13 1 0 (.long) := ⟨RX0, TX0, 4, tyX0, "WatchServer$Entry", ci_X0, by decide, (inA2 21 rfl rfl), Or.inl rfl, rfl, rfl, rfl⟩
theorem fk_X0_17 : FK RX0 17 1 1 true (.int) := ⟨RX0, TX0, 4, tyX0, "WatchServer$Entry", ci_X0, by decide, (inA2 23 rfl rfl), Or.inl rfl, rfl, rfl⟩
theorem fp_X0_17 : FP RX0 17 1 1 (.int) := ⟨RX0, TX0, 4, tyX0, "WatchServer$Entry", ci_X0, by decide, (inA2 23 rfl rfl), Or.inl rfl, rfl, rfl, rfl⟩
theorem fk_X0_21 : FK RX0 21 1 2 true (.int) := ⟨RX0, TX0, 4, tyX0, "WatchServer$Entry", ci_X0, by decide, (inA2 25 rfl rfl), Or.inl rfl, rfl, rfl⟩
theorem fp_X0_21 : FP RX0 21 1 2 (.int) := ⟨RX0, TX0, 4, tyX0, "WatchServer$Entry", ci_X0, by decide, (inA2 25 rfl rfl), Or.inl rfl, rfl, rfl, rfl⟩
theorem ol_X1_1 : Cond.methodLink RX1 1 Lib.objectInit ∈ wsA := (inA3 159 rfl rfl)
theorem fk_X1_9 : FK RX1 9 2 7 false (.int) := ⟨RX1, TX1, 11, tyX1, "WatchServer$Item", ci_X1, by decide, (inA3 174 rfl rfl), Or.inl rfl, rfl, rfl⟩
theorem fk_X1_13 : FK RX1 13 2 8 false (.boolean) := ⟨RX1, TX1, 11, tyX1, "WatchServer$Item", ci_X1, by decide, (inA3 177 rfl rfl), Or.inl rfl, rfl, rfl⟩
theorem fk_X1_17 : FK RX1 17 2 9 false (.long) := ⟨RX1, TX1, 11, tyX1, "WatchServer$Item", ci_X1, by decide, (inA3 178 rfl rfl), Or.inl rfl, rfl, rfl⟩
theorem fk_X1_21 : FK RX1 21 2 10 false (.boolean) := ⟨RX1, TX1, 11, tyX1, "WatchServer$Item", ci_X1, by decide, (inA3 179 rfl rfl), Or.inl rfl, rfl, rfl⟩
theorem fk_X1_24 : FK RX1 24 2 0 true (.int) := ⟨RX1, TX1, 11, tyX1, "WatchServer$Item", ci_X1, by decide, (inA3 160 rfl rfl), Or.inl rfl, rfl, rfl⟩
theorem fp_X1_24 : FP RX1 24 2 0 (.int) := ⟨RX1, TX1, 11, tyX1, "WatchServer$Item", ci_X1, by decide, (inA3 160 rfl rfl), Or.inl rfl, rfl, rfl, rfl⟩
theorem fk_X1_27 : FK RX1 27 2 1 true (.object "WatchServer$Subscription") := ⟨RX1, TX1, 11, tyX1, "WatchServer$Item", ci_X1, by decide, (inA3 162 rfl rfl), Or.inl rfl, rfl, rfl⟩
theorem fp_X1_27 : FP RX1 27 2 1 (.object "WatchServer$Subscription") := ⟨RX1, TX1, 11, tyX1, "WatchServer$Item", ci_X1, by decide, (inA3 162 rfl rfl), Or.inl rfl, rfl, rfl, rfl⟩
theorem fk_X1_31 : FK RX1 31 2 2 true (.object "WatchServer$Node") := ⟨RX1, TX1, 11, tyX1, "WatchServer$Item", ci_X1, by decide, (inA3 164 rfl rfl), Or.inl rfl, rfl, rfl⟩
theorem fp_X1_31 : FP RX1 31 2 2 (.object "WatchServer$Node") := ⟨RX1, TX1, 11, tyX1, "WatchServer$Item", ci_X1, by decide, (inA3 164 rfl rfl), Or.inl rfl, rfl, rfl, rfl⟩
theorem fk_X1_35 : FK RX1 35 2 3 true (.int) := ⟨RX1, TX1, 11, tyX1, "WatchServer$Item", ci_X1, by decide, (inA3 166 rfl rfl), Or.inl rfl, rfl, rfl⟩
theorem fp_X1_35 : FP RX1 35 2 3 (.int) := ⟨RX1, TX1, 11, tyX1, "WatchServer$Item", ci_X1, by decide, (inA3 166 rfl rfl), Or.inl rfl, rfl, rfl, rfl⟩
theorem fk_X1_38 : FK RX1 38 2 4 true (.int) := ⟨RX1, TX1, 11, tyX1, "WatchServer$Item", ci_X1, by decide, (inA3 168 rfl rfl), Or.inl rfl, rfl, rfl⟩
theorem fp_X1_38 : FP RX1 38 2 4 (.int) := ⟨RX1, TX1, 11, tyX1, "WatchServer$Item", ci_X1, by decide, (inA3 168 rfl rfl), Or.inl rfl, rfl, rfl, rfl⟩
theorem fk_X1_41 : FK RX1 41 2 5 true (.long) := ⟨RX1, TX1, 11, tyX1, "WatchServer$Item", ci_X1, by decide, (inA3 170 rfl rfl), Or.inl rfl, rfl, rfl⟩
theorem fp_X1_41 : FP RX1 41 2 5 (.long) := ⟨RX1, TX1, 11, tyX1, "WatchServer$Item", ci_X1, by decide, (inA3 170 rfl rfl), Or.inl rfl, rfl, rfl, rfl⟩
theorem fk_X1_44 : FK RX1 44 2 6 true (.object "WatchServer$Queue") := ⟨RX1, TX1, 11, tyX1, "WatchServer$Item", ci_X1, by decide, (inA3 171 rfl rfl), Or.inl rfl, rfl, rfl⟩
theorem fp_X1_44 : FP RX1 44 2 6 (.object "WatchServer$Queue") := ⟨RX1, TX1, 11, tyX1, "WatchServer$Item", ci_X1, by decide, (inA3 171 rfl rfl), Or.inl rfl, rfl, rfl, rfl⟩
theorem pn_X8_isWithin : yX8_isWithin.cls ≠ "java/lang/invoke/MethodHandle" ∧ yX8_isWithin.cls ≠ "java/lang/invoke/VarHandle" ∧ (parseMethodDescriptor yX8_isWithin.desc).map (fun d => d.parameters.length) = some 3 := by decide +kernel
theorem cd_X8_isWithin : Cond.code yX8_isWithin cX8_isWithin 3 (some .boolean) ∈ wsA := (inA1 95 rfl rfl)
theorem in_X8_isWithin : Cond.initialized yX8_isWithin.cls ∈ wsA := (inA1 1 rfl rfl)
theorem st_X8_isWithin : Cond.static yX8_isWithin ∈ wsA := (inA1 94 rfl rfl)
theorem fk_X1_56 : FK RX1 56 5 2 true (.object "java/util/ArrayList") := ⟨RX4, TX4, 3, tyX4, "WatchServer$Queue", ci_X4, by decide, (inA3 146 rfl rfl), Or.inl rfl, rfl, rfl⟩
theorem pn_Jx4a65c_clear_da8c8 : yJx4a65c_clear_da8c8.cls ≠ "java/lang/invoke/MethodHandle" ∧ yJx4a65c_clear_da8c8.cls ≠ "java/lang/invoke/VarHandle" ∧ (parseMethodDescriptor yJx4a65c_clear_da8c8.desc).map (fun d => d.parameters.length) = some 0 := by decide +kernel
theorem cd_Jx4a65c_clear_da8c8 : Cond.code yJx4a65c_clear_da8c8 cJx4a65c_clear_da8c8 4 none ∈ wsA := (inA2 95 rfl rfl)
theorem in_Jx4a65c_clear_da8c8 : Cond.initialized yJx4a65c_clear_da8c8.cls ∈ wsA := (inA1 4 rfl rfl)
theorem iv_Jx4a65c_clear_da8c8 : Cond.instanceMethod yJx4a65c_clear_da8c8 ∈ wsA ∧ Cond.selects yJx4a65c_clear_da8c8.cls yJx4a65c_clear_da8c8 yJx4a65c_clear_da8c8 ∈ wsA := ⟨(inA2 93 rfl rfl), (inA2 94 rfl rfl)⟩
theorem mk_X1_60 : MK RX1 60 yJx4a65c_clear_da8c8 cJx4a65c_clear_da8c8 4 none 0 := ⟨(inA3 209 rfl rfl), in_Jx4a65c_clear_da8c8, cd_Jx4a65c_clear_da8c8, pn_Jx4a65c_clear_da8c8⟩
theorem pn_X1_sample : yX1_sample.cls ≠ "java/lang/invoke/MethodHandle" ∧ yX1_sample.cls ≠ "java/lang/invoke/VarHandle" ∧ (parseMethodDescriptor yX1_sample.desc).map (fun d => d.parameters.length) = some 1 := by decide +kernel
theorem cd_X1_sample : Cond.code yX1_sample cX1_sample 4 none ∈ wsA := (inA2 4 rfl rfl)
theorem in_X1_sample : Cond.initialized yX1_sample.cls ∈ wsA := (inA1 18 rfl rfl)
theorem iv_X1_sample : Cond.instanceMethod yX1_sample ∈ wsA ∧ Cond.selects yX1_sample.cls yX1_sample yX1_sample ∈ wsA := ⟨(inA2 2 rfl rfl), (inA2 3 rfl rfl)⟩
theorem mk_X1_65 : MK RX1 65 yX1_sample cX1_sample 4 none 1 := ⟨(inA3 210 rfl rfl), in_X1_sample, cd_X1_sample, pn_X1_sample⟩
theorem fk_X1_69 : FK RX1 69 4 2 false (.long) := ⟨RX3, TX3, 3, tyX3, "WatchServer$Node", ci_X3, by decide, (inA1 115 rfl rfl), Or.inl rfl, rfl, rfl⟩
theorem pn_X1_isBeyondBand : yX1_isBeyondBand.cls ≠ "java/lang/invoke/MethodHandle" ∧ yX1_isBeyondBand.cls ≠ "java/lang/invoke/VarHandle" ∧ (parseMethodDescriptor yX1_isBeyondBand.desc).map (fun d => d.parameters.length) = some 1 := by decide +kernel
theorem cd_X1_isBeyondBand : Cond.code yX1_isBeyondBand cX1_isBeyondBand 5 (some .boolean) ∈ wsA := (inA2 8 rfl rfl)
theorem in_X1_isBeyondBand : Cond.initialized yX1_isBeyondBand.cls ∈ wsA := (inA1 18 rfl rfl)
theorem iv_X1_isBeyondBand : Cond.instanceMethod yX1_isBeyondBand ∈ wsA ∧ Cond.selects yX1_isBeyondBand.cls yX1_isBeyondBand yX1_isBeyondBand ∈ wsA := ⟨(inA2 6 rfl rfl), (inA2 7 rfl rfl)⟩
theorem mk_X1_74 : MK RX1 74 yX1_isBeyondBand cX1_isBeyondBand 5 (some .boolean) 1 := ⟨(inA2 5 rfl rfl), in_X1_isBeyondBand, cd_X1_isBeyondBand, pn_X1_isBeyondBand⟩
theorem cl_X1_78 : Cond.classLink RX1 78 "WatchServer$Entry" ∈ wsA := (inA2 15 rfl rfl)
theorem nk_X1_78 : NK RX1 78 1 4 [.long 0, .int 0, .int 0, .int 0] := ⟨RX0, TX0, tyX0, ci_X0, cl_X1_78, (inA2 16 rfl rfl), (inA1 14 rfl rfl), fun j hj => match j, hj with | 0, _ => rfl | 1, _ => rfl | 2, _ => rfl | 3, _ => rfl | j + 4, h => absurd h (Nat.not_lt.mpr (Nat.le_add_left _ _)), nrf_of rfl⟩
theorem pn_X0_init : yX0_init.cls ≠ "java/lang/invoke/MethodHandle" ∧ yX0_init.cls ≠ "java/lang/invoke/VarHandle" ∧ (parseMethodDescriptor yX0_init.desc).map (fun d => d.parameters.length) = some 3 := by decide +kernel
theorem cd_X0_init : Cond.code yX0_init cX0_init 5 none ∈ wsA := (inA2 19 rfl rfl)
theorem in_X0_init : Cond.initialized yX0_init.cls ∈ wsA := (inA1 14 rfl rfl)
theorem ii_X0_init : yX0_init.name = "<init>" ∧ Cond.instanceMethod yX0_init ∈ wsA := ⟨rfl, (inA2 18 rfl rfl)⟩
theorem mk_X1_80 : MK RX1 80 yX0_init cX0_init 5 none 3 := ⟨(inA2 17 rfl rfl), in_X0_init, cd_X0_init, pn_X0_init⟩
theorem pn_X4_put : yX4_put.cls ≠ "java/lang/invoke/MethodHandle" ∧ yX4_put.cls ≠ "java/lang/invoke/VarHandle" ∧ (parseMethodDescriptor yX4_put.desc).map (fun d => d.parameters.length) = some 1 := by decide +kernel
theorem cd_X4_put : Cond.code yX4_put cX4_put 2 none ∈ wsA := (inA2 42 rfl rfl)
theorem in_X4_put : Cond.initialized yX4_put.cls ∈ wsA := (inA1 19 rfl rfl)
theorem iv_X4_put : Cond.instanceMethod yX4_put ∈ wsA ∧ Cond.selects yX4_put.cls yX4_put yX4_put ∈ wsA := ⟨(inA2 40 rfl rfl), (inA2 41 rfl rfl)⟩
theorem mk_X1_83 : MK RX1 83 yX4_put cX4_put 2 none 1 := ⟨(inA2 39 rfl rfl), in_X4_put, cd_X4_put, pn_X4_put⟩
theorem pn_J9_max_f86c9 : yJ9_max_f86c9.cls ≠ "java/lang/invoke/MethodHandle" ∧ yJ9_max_f86c9.cls ≠ "java/lang/invoke/VarHandle" ∧ (parseMethodDescriptor yJ9_max_f86c9.desc).map (fun d => d.parameters.length) = some 2 := by decide +kernel
theorem cd_J9_max_f86c9 : Cond.code yJ9_max_f86c9 cJ9_max_f86c9 4 (some .long) ∈ wsA := (inA2 11 rfl rfl)
theorem in_J9_max_f86c9 : Cond.initialized yJ9_max_f86c9.cls ∈ wsA := (inA1 8 rfl rfl)
theorem st_J9_max_f86c9 : Cond.static yJ9_max_f86c9 ∈ wsA := (inA2 10 rfl rfl)
theorem mk_X1_87 : MK RX1 87 yJ9_max_f86c9 cJ9_max_f86c9 4 (some .long) 2 := ⟨(inA2 9 rfl rfl), in_J9_max_f86c9, cd_J9_max_f86c9, pn_J9_max_f86c9⟩
theorem pn_J9_min_f86c9 : yJ9_min_f86c9.cls ≠ "java/lang/invoke/MethodHandle" ∧ yJ9_min_f86c9.cls ≠ "java/lang/invoke/VarHandle" ∧ (parseMethodDescriptor yJ9_min_f86c9.desc).map (fun d => d.parameters.length) = some 2 := by decide +kernel
theorem cd_J9_min_f86c9 : Cond.code yJ9_min_f86c9 cJ9_min_f86c9 4 (some .long) ∈ wsA := (inA2 14 rfl rfl)
theorem in_J9_min_f86c9 : Cond.initialized yJ9_min_f86c9.cls ∈ wsA := (inA1 8 rfl rfl)
theorem st_J9_min_f86c9 : Cond.static yJ9_min_f86c9 ∈ wsA := (inA2 13 rfl rfl)
theorem mk_X1_93 : MK RX1 93 yJ9_min_f86c9 cJ9_min_f86c9 4 (some .long) 2 := ⟨(inA2 12 rfl rfl), in_J9_min_f86c9, cd_J9_min_f86c9, pn_J9_min_f86c9⟩
theorem ol_X2_1 : Cond.methodLink RX2 1 Lib.objectInit ∈ wsA := (inA2 115 rfl rfl)
theorem fk_X2_7 : FK RX2 7 3 5 false (.boolean) := ⟨RX2, TX2, 7, tyX2, "WatchServer$Message", ci_X2, by decide, (inA2 127 rfl rfl), Or.inl rfl, rfl, rfl⟩
theorem fk_X2_13 : FK RX2 13 3 6 false (.boolean) := ⟨RX2, TX2, 7, tyX2, "WatchServer$Message", ci_X2, by decide, (inA2 129 rfl rfl), Or.inl rfl, rfl, rfl⟩
theorem fk_X2_16 : FK RX2 16 3 0 true (.int) := ⟨RX2, TX2, 7, tyX2, "WatchServer$Message", ci_X2, by decide, (inA2 116 rfl rfl), Or.inl rfl, rfl, rfl⟩
theorem fp_X2_16 : FP RX2 16 3 0 (.int) := ⟨RX2, TX2, 7, tyX2, "WatchServer$Message", ci_X2, by decide, (inA2 116 rfl rfl), Or.inl rfl, rfl, rfl, rfl⟩
theorem fk_X2_20 : FK RX2 20 3 1 true (.int) := ⟨RX2, TX2, 7, tyX2, "WatchServer$Message", ci_X2, by decide, (inA2 118 rfl rfl), Or.inl rfl, rfl, rfl⟩
theorem fp_X2_20 : FP RX2 20 3 1 (.int) := ⟨RX2, TX2, 7, tyX2, "WatchServer$Message", ci_X2, by decide, (inA2 118 rfl rfl), Or.inl rfl, rfl, rfl, rfl⟩
theorem fk_X2_23 : FK RX2 23 3 2 true (.int) := ⟨RX2, TX2, 7, tyX2, "WatchServer$Message", ci_X2, by decide, (inA2 120 rfl rfl), Or.inl rfl, rfl, rfl⟩
theorem fp_X2_23 : FP RX2 23 3 2 (.int) := ⟨RX2, TX2, 7, tyX2, "WatchServer$Message", ci_X2, by decide, (inA2 120 rfl rfl), Or.inl rfl, rfl, rfl, rfl⟩
theorem fk_X2_26 : FK RX2 26 3 3 true (.int) := ⟨RX2, TX2, 7, tyX2, "WatchServer$Message", ci_X2, by decide, (inA2 123 rfl rfl), Or.inl rfl, rfl, rfl⟩
theorem fp_X2_26 : FP RX2 26 3 3 (.int) := ⟨RX2, TX2, 7, tyX2, "WatchServer$Message", ci_X2, by decide, (inA2 123 rfl rfl), Or.inl rfl, rfl, rfl, rfl⟩
theorem fk_X2_29 : FK RX2 29 3 4 true (.array (.object "WatchServer$Entry")) := ⟨RX2, TX2, 7, tyX2, "WatchServer$Message", ci_X2, by decide, (inA2 125 rfl rfl), Or.inl rfl, rfl, rfl⟩
theorem fp_X2_29 : FP RX2 29 3 4 (.array (.object "WatchServer$Entry")) := ⟨RX2, TX2, 7, tyX2, "WatchServer$Message", ci_X2, by decide, (inA2 125 rfl rfl), Or.inl rfl, rfl, rfl, rfl⟩
theorem ol_X3_1 : Cond.methodLink RX3 1 Lib.objectInit ∈ wsA := (inA1 109 rfl rfl)
theorem fk_X3_7 : FK RX3 7 4 2 false (.long) := ⟨RX3, TX3, 3, tyX3, "WatchServer$Node", ci_X3, by decide, (inA1 114 rfl rfl), Or.inl rfl, rfl, rfl⟩
theorem fk_X3_13 : FK RX3 13 4 0 true (.int) := ⟨RX3, TX3, 3, tyX3, "WatchServer$Node", ci_X3, by decide, (inA1 110 rfl rfl), Or.inl rfl, rfl, rfl⟩
theorem fp_X3_13 : FP RX3 13 4 0 (.int) := ⟨RX3, TX3, 3, tyX3, "WatchServer$Node", ci_X3, by decide, (inA1 110 rfl rfl), Or.inl rfl, rfl, rfl, rfl⟩
theorem fk_X3_17 : FK RX3 17 4 1 true (.int) := ⟨RX3, TX3, 3, tyX3, "WatchServer$Node", ci_X3, by decide, (inA1 112 rfl rfl), Or.inl rfl, rfl, rfl⟩
theorem fp_X3_17 : FP RX3 17 4 1 (.int) := ⟨RX3, TX3, 3, tyX3, "WatchServer$Node", ci_X3, by decide, (inA1 112 rfl rfl), Or.inl rfl, rfl, rfl, rfl⟩
theorem ol_X4_1 : Cond.methodLink RX4 1 Lib.objectInit ∈ wsA := (inA3 140 rfl rfl)
theorem cl_X4_7 : Cond.classLink RX4 7 "java/util/ArrayList" ∈ wsA := (inA3 141 rfl rfl)
theorem nk_X4_7 : NK RX4 7 0 3 [.int 0, .null, .int 0] := ⟨RJx4a65c, TJx4a65c, tyJx4a65c, ci_Jx4a65c, cl_X4_7, (inA1 29 rfl rfl), (inA1 4 rfl rfl), fun j hj => match j, hj with | 0, _ => rfl | 1, _ => rfl | 2, _ => rfl | j + 3, h => absurd h (Nat.not_lt.mpr (Nat.le_add_left _ _)), nrf_of rfl⟩
theorem pn_Jx4a65c_init_da8c8 : yJx4a65c_init_da8c8.cls ≠ "java/lang/invoke/MethodHandle" ∧ yJx4a65c_init_da8c8.cls ≠ "java/lang/invoke/VarHandle" ∧ (parseMethodDescriptor yJx4a65c_init_da8c8.desc).map (fun d => d.parameters.length) = some 0 := by decide +kernel
theorem cd_Jx4a65c_init_da8c8 : Cond.code yJx4a65c_init_da8c8 cJx4a65c_init_da8c8 1 none ∈ wsA := (inA1 32 rfl rfl)
theorem in_Jx4a65c_init_da8c8 : Cond.initialized yJx4a65c_init_da8c8.cls ∈ wsA := (inA1 4 rfl rfl)
theorem ii_Jx4a65c_init_da8c8 : yJx4a65c_init_da8c8.name = "<init>" ∧ Cond.instanceMethod yJx4a65c_init_da8c8 ∈ wsA := ⟨rfl, (inA1 31 rfl rfl)⟩
theorem mk_X4_9 : MK RX4 9 yJx4a65c_init_da8c8 cJx4a65c_init_da8c8 1 none 0 := ⟨(inA3 142 rfl rfl), in_Jx4a65c_init_da8c8, cd_Jx4a65c_init_da8c8, pn_Jx4a65c_init_da8c8⟩
theorem fk_X4_10 : FK RX4 10 5 2 true (.object "java/util/ArrayList") := ⟨RX4, TX4, 3, tyX4, "WatchServer$Queue", ci_X4, by decide, (inA3 145 rfl rfl), Or.inl rfl, rfl, rfl⟩
theorem fp_X4_10 : FP RX4 10 5 2 (.object "java/util/ArrayList") := ⟨RX4, TX4, 3, tyX4, "WatchServer$Queue", ci_X4, by decide, (inA3 145 rfl rfl), Or.inl rfl, rfl, rfl, rfl⟩
theorem fk_X4_16 : FK RX4 16 5 0 true (.int) := ⟨RX4, TX4, 3, tyX4, "WatchServer$Queue", ci_X4, by decide, (inA3 143 rfl rfl), Or.inl rfl, rfl, rfl⟩
theorem fp_X4_16 : FP RX4 16 5 0 (.int) := ⟨RX4, TX4, 3, tyX4, "WatchServer$Queue", ci_X4, by decide, (inA3 143 rfl rfl), Or.inl rfl, rfl, rfl, rfl⟩
theorem fk_X4_20 : FK RX4 20 5 1 true (.boolean) := ⟨RX4, TX4, 3, tyX4, "WatchServer$Queue", ci_X4, by decide, (inA3 144 rfl rfl), Or.inl rfl, rfl, rfl⟩
theorem fp_X4_20 : FP RX4 20 5 1 (.boolean) := ⟨RX4, TX4, 3, tyX4, "WatchServer$Queue", ci_X4, by decide, (inA3 144 rfl rfl), Or.inl rfl, rfl, rfl, rfl⟩
theorem pn_Jx4a65c_size_8abf5 : yJx4a65c_size_8abf5.cls ≠ "java/lang/invoke/MethodHandle" ∧ yJx4a65c_size_8abf5.cls ≠ "java/lang/invoke/VarHandle" ∧ (parseMethodDescriptor yJx4a65c_size_8abf5.desc).map (fun d => d.parameters.length) = some 0 := by decide +kernel
theorem cd_Jx4a65c_size_8abf5 : Cond.code yJx4a65c_size_8abf5 cJx4a65c_size_8abf5 1 (some .int) ∈ wsA := (inA1 103 rfl rfl)
theorem in_Jx4a65c_size_8abf5 : Cond.initialized yJx4a65c_size_8abf5.cls ∈ wsA := (inA1 4 rfl rfl)
theorem iv_Jx4a65c_size_8abf5 : Cond.instanceMethod yJx4a65c_size_8abf5 ∈ wsA ∧ Cond.selects yJx4a65c_size_8abf5.cls yJx4a65c_size_8abf5 yJx4a65c_size_8abf5 ∈ wsA := ⟨(inA1 101 rfl rfl), (inA1 102 rfl rfl)⟩
theorem mk_X4_24 : MK RX4 24 yJx4a65c_size_8abf5 cJx4a65c_size_8abf5 1 (some .int) 0 := ⟨(inA2 43 rfl rfl), in_Jx4a65c_size_8abf5, cd_Jx4a65c_size_8abf5, pn_Jx4a65c_size_8abf5⟩
theorem pn_Jx4a65c_add_9ea2d : yJx4a65c_add_9ea2d.cls ≠ "java/lang/invoke/MethodHandle" ∧ yJx4a65c_add_9ea2d.cls ≠ "java/lang/invoke/VarHandle" ∧ (parseMethodDescriptor yJx4a65c_add_9ea2d.desc).map (fun d => d.parameters.length) = some 1 := by decide +kernel
theorem cd_Jx4a65c_add_9ea2d : Cond.code yJx4a65c_add_9ea2d cJx4a65c_add_9ea2d 2 (some .boolean) ∈ wsA := (inA1 127 rfl rfl)
theorem in_Jx4a65c_add_9ea2d : Cond.initialized yJx4a65c_add_9ea2d.cls ∈ wsA := (inA1 4 rfl rfl)
theorem iv_Jx4a65c_add_9ea2d : Cond.instanceMethod yJx4a65c_add_9ea2d ∈ wsA ∧ Cond.selects yJx4a65c_add_9ea2d.cls yJx4a65c_add_9ea2d yJx4a65c_add_9ea2d ∈ wsA := ⟨(inA1 125 rfl rfl), (inA1 126 rfl rfl)⟩
theorem mk_X4_27 : MK RX4 27 yJx4a65c_add_9ea2d cJx4a65c_add_9ea2d 2 (some .boolean) 1 := ⟨(inA2 44 rfl rfl), in_Jx4a65c_add_9ea2d, cd_Jx4a65c_add_9ea2d, pn_Jx4a65c_add_9ea2d⟩
theorem pn_Jx4a65c_set_bcc79 : yJx4a65c_set_bcc79.cls ≠ "java/lang/invoke/MethodHandle" ∧ yJx4a65c_set_bcc79.cls ≠ "java/lang/invoke/VarHandle" ∧ (parseMethodDescriptor yJx4a65c_set_bcc79.desc).map (fun d => d.parameters.length) = some 2 := by decide +kernel
theorem cd_Jx4a65c_set_bcc79 : Cond.code yJx4a65c_set_bcc79 cJx4a65c_set_bcc79 4 (some (.object "java/lang/Object")) ∈ wsA := (inA2 48 rfl rfl)
theorem in_Jx4a65c_set_bcc79 : Cond.initialized yJx4a65c_set_bcc79.cls ∈ wsA := (inA1 4 rfl rfl)
theorem iv_Jx4a65c_set_bcc79 : Cond.instanceMethod yJx4a65c_set_bcc79 ∈ wsA ∧ Cond.selects yJx4a65c_set_bcc79.cls yJx4a65c_set_bcc79 yJx4a65c_set_bcc79 ∈ wsA := ⟨(inA2 46 rfl rfl), (inA2 47 rfl rfl)⟩
theorem mk_X4_31 : MK RX4 31 yJx4a65c_set_bcc79 cJx4a65c_set_bcc79 4 (some (.object "java/lang/Object")) 2 := ⟨(inA2 45 rfl rfl), in_Jx4a65c_set_bcc79, cd_Jx4a65c_set_bcc79, pn_Jx4a65c_set_bcc79⟩
theorem pn_Jx4a65c_remove_915e3 : yJx4a65c_remove_915e3.cls ≠ "java/lang/invoke/MethodHandle" ∧ yJx4a65c_remove_915e3.cls ≠ "java/lang/invoke/VarHandle" ∧ (parseMethodDescriptor yJx4a65c_remove_915e3.desc).map (fun d => d.parameters.length) = some 1 := by decide +kernel
theorem cd_Jx4a65c_remove_915e3 : Cond.code yJx4a65c_remove_915e3 cJx4a65c_remove_915e3 4 (some (.object "java/lang/Object")) ∈ wsA := (inA2 52 rfl rfl)
theorem in_Jx4a65c_remove_915e3 : Cond.initialized yJx4a65c_remove_915e3.cls ∈ wsA := (inA1 4 rfl rfl)
theorem iv_Jx4a65c_remove_915e3 : Cond.instanceMethod yJx4a65c_remove_915e3 ∈ wsA ∧ Cond.selects yJx4a65c_remove_915e3.cls yJx4a65c_remove_915e3 yJx4a65c_remove_915e3 ∈ wsA := ⟨(inA2 50 rfl rfl), (inA2 51 rfl rfl)⟩
theorem mk_X4_35 : MK RX4 35 yJx4a65c_remove_915e3 cJx4a65c_remove_915e3 4 (some (.object "java/lang/Object")) 1 := ⟨(inA2 49 rfl rfl), in_Jx4a65c_remove_915e3, cd_Jx4a65c_remove_915e3, pn_Jx4a65c_remove_915e3⟩
theorem pn_Jx4a65c_get_915e3 : yJx4a65c_get_915e3.cls ≠ "java/lang/invoke/MethodHandle" ∧ yJx4a65c_get_915e3.cls ≠ "java/lang/invoke/VarHandle" ∧ (parseMethodDescriptor yJx4a65c_get_915e3.desc).map (fun d => d.parameters.length) = some 1 := by decide +kernel
theorem cd_Jx4a65c_get_915e3 : Cond.code yJx4a65c_get_915e3 cJx4a65c_get_915e3 2 (some (.object "java/lang/Object")) ∈ wsA := (inA1 193 rfl rfl)
theorem in_Jx4a65c_get_915e3 : Cond.initialized yJx4a65c_get_915e3.cls ∈ wsA := (inA1 4 rfl rfl)
theorem iv_Jx4a65c_get_915e3 : Cond.instanceMethod yJx4a65c_get_915e3 ∈ wsA ∧ Cond.selects yJx4a65c_get_915e3.cls yJx4a65c_get_915e3 yJx4a65c_get_915e3 ∈ wsA := ⟨(inA1 191 rfl rfl), (inA1 192 rfl rfl)⟩
theorem mk_X4_39 : MK RX4 39 yJx4a65c_get_915e3 cJx4a65c_get_915e3 2 (some (.object "java/lang/Object")) 1 := ⟨(inA2 58 rfl rfl), in_Jx4a65c_get_915e3, cd_Jx4a65c_get_915e3, pn_Jx4a65c_get_915e3⟩
theorem cl_X4_42 : Cond.classLink RX4 42 "WatchServer$Entry" ∈ wsA := (inA2 59 rfl rfl)
theorem fk_X4_44 : FK RX4 44 1 3 false (.boolean) := ⟨RX0, TX0, 4, tyX0, "WatchServer$Entry", ci_X0, by decide, (inA2 28 rfl rfl), Or.inl rfl, rfl, rfl⟩
theorem pn_Jx4a65c_isEmpty_aae02 : yJx4a65c_isEmpty_aae02.cls ≠ "java/lang/invoke/MethodHandle" ∧ yJx4a65c_isEmpty_aae02.cls ≠ "java/lang/invoke/VarHandle" ∧ (parseMethodDescriptor yJx4a65c_isEmpty_aae02.desc).map (fun d => d.parameters.length) = some 0 := by decide +kernel
theorem cd_Jx4a65c_isEmpty_aae02 : Cond.code yJx4a65c_isEmpty_aae02 cJx4a65c_isEmpty_aae02 1 (some .boolean) ∈ wsA := (inA4 63 rfl rfl)
theorem in_Jx4a65c_isEmpty_aae02 : Cond.initialized yJx4a65c_isEmpty_aae02.cls ∈ wsA := (inA1 4 rfl rfl)
theorem iv_Jx4a65c_isEmpty_aae02 : Cond.instanceMethod yJx4a65c_isEmpty_aae02 ∈ wsA ∧ Cond.selects yJx4a65c_isEmpty_aae02.cls yJx4a65c_isEmpty_aae02 yJx4a65c_isEmpty_aae02 ∈ wsA := ⟨(inA4 61 rfl rfl), (inA4 62 rfl rfl)⟩
theorem mk_X4_47 : MK RX4 47 yJx4a65c_isEmpty_aae02 cJx4a65c_isEmpty_aae02 1 (some .boolean) 0 := ⟨(inA4 60 rfl rfl), in_Jx4a65c_isEmpty_aae02, cd_Jx4a65c_isEmpty_aae02, pn_Jx4a65c_isEmpty_aae02⟩
theorem ol_X5_1 : Cond.methodLink RX5 1 Lib.objectInit ∈ wsA := (inA1 209 rfl rfl)
theorem fk_X5_7 : FK RX5 7 6 0 true (.int) := ⟨RX5, TX5, 3, tyX5, "WatchServer$Reference", ci_X5, by decide, (inA1 210 rfl rfl), Or.inl rfl, rfl, rfl⟩
theorem fp_X5_7 : FP RX5 7 6 0 (.int) := ⟨RX5, TX5, 3, tyX5, "WatchServer$Reference", ci_X5, by decide, (inA1 210 rfl rfl), Or.inl rfl, rfl, rfl, rfl⟩
theorem fk_X5_13 : FK RX5 13 6 1 true (.int) := ⟨RX5, TX5, 3, tyX5, "WatchServer$Reference", ci_X5, by decide, (inA1 211 rfl rfl), Or.inl rfl, rfl, rfl⟩
theorem fp_X5_13 : FP RX5 13 6 1 (.int) := ⟨RX5, TX5, 3, tyX5, "WatchServer$Reference", ci_X5, by decide, (inA1 211 rfl rfl), Or.inl rfl, rfl, rfl, rfl⟩
theorem fk_X5_16 : FK RX5 16 6 2 true (.int) := ⟨RX5, TX5, 3, tyX5, "WatchServer$Reference", ci_X5, by decide, (inA1 212 rfl rfl), Or.inl rfl, rfl, rfl⟩
theorem fp_X5_16 : FP RX5 16 6 2 (.int) := ⟨RX5, TX5, 3, tyX5, "WatchServer$Reference", ci_X5, by decide, (inA1 212 rfl rfl), Or.inl rfl, rfl, rfl, rfl⟩
theorem ol_X6_1 : Cond.methodLink RX6 1 Lib.objectInit ∈ wsA := (inA2 169 rfl rfl)
theorem cl_X6_7 : Cond.classLink RX6 7 "java/util/ArrayList" ∈ wsA := (inA2 170 rfl rfl)
theorem nk_X6_7 : NK RX6 7 0 3 [.int 0, .null, .int 0] := ⟨RJx4a65c, TJx4a65c, tyJx4a65c, ci_Jx4a65c, cl_X6_7, (inA1 29 rfl rfl), (inA1 4 rfl rfl), fun j hj => match j, hj with | 0, _ => rfl | 1, _ => rfl | 2, _ => rfl | j + 3, h => absurd h (Nat.not_lt.mpr (Nat.le_add_left _ _)), nrf_of rfl⟩
theorem mk_X6_9 : MK RX6 9 yJx4a65c_init_da8c8 cJx4a65c_init_da8c8 1 none 0 := ⟨(inA2 171 rfl rfl), in_Jx4a65c_init_da8c8, cd_Jx4a65c_init_da8c8, pn_Jx4a65c_init_da8c8⟩
theorem fk_X6_10 : FK RX6 10 7 2 true (.object "java/util/ArrayList") := ⟨RX6, TX6, 6, tyX6, "WatchServer$Session", ci_X6, by decide, (inA2 175 rfl rfl), Or.inl rfl, rfl, rfl⟩
theorem fp_X6_10 : FP RX6 10 7 2 (.object "java/util/ArrayList") := ⟨RX6, TX6, 6, tyX6, "WatchServer$Session", ci_X6, by decide, (inA2 175 rfl rfl), Or.inl rfl, rfl, rfl, rfl⟩
theorem fk_X6_16 : FK RX6 16 7 3 false (.int) := ⟨RX6, TX6, 6, tyX6, "WatchServer$Session", ci_X6, by decide, (inA2 177 rfl rfl), Or.inl rfl, rfl, rfl⟩
theorem fk_X6_20 : FK RX6 20 7 5 false (.int) := ⟨RX6, TX6, 6, tyX6, "WatchServer$Session", ci_X6, by decide, (inA2 181 rfl rfl), Or.inl rfl, rfl, rfl⟩
theorem fk_X6_23 : FK RX6 23 7 0 true (.int) := ⟨RX6, TX6, 6, tyX6, "WatchServer$Session", ci_X6, by decide, (inA2 172 rfl rfl), Or.inl rfl, rfl, rfl⟩
theorem fp_X6_23 : FP RX6 23 7 0 (.int) := ⟨RX6, TX6, 6, tyX6, "WatchServer$Session", ci_X6, by decide, (inA2 172 rfl rfl), Or.inl rfl, rfl, rfl, rfl⟩
theorem fk_X6_26 : FK RX6 26 7 1 true (.int) := ⟨RX6, TX6, 6, tyX6, "WatchServer$Session", ci_X6, by decide, (inA2 174 rfl rfl), Or.inl rfl, rfl, rfl⟩
theorem fp_X6_26 : FP RX6 26 7 1 (.int) := ⟨RX6, TX6, 6, tyX6, "WatchServer$Session", ci_X6, by decide, (inA2 174 rfl rfl), Or.inl rfl, rfl, rfl, rfl⟩
theorem fk_X6_29 : FK RX6 29 7 4 false (.int) := ⟨RX6, TX6, 6, tyX6, "WatchServer$Session", ci_X6, by decide, (inA2 179 rfl rfl), Or.inl rfl, rfl, rfl⟩
theorem ol_X7_1 : Cond.methodLink RX7 1 Lib.objectInit ∈ wsA := (inA3 20 rfl rfl)
theorem cl_X7_7 : Cond.classLink RX7 7 "java/util/ArrayList" ∈ wsA := (inA3 21 rfl rfl)
theorem nk_X7_7 : NK RX7 7 0 3 [.int 0, .null, .int 0] := ⟨RJx4a65c, TJx4a65c, tyJx4a65c, ci_Jx4a65c, cl_X7_7, (inA1 29 rfl rfl), (inA1 4 rfl rfl), fun j hj => match j, hj with | 0, _ => rfl | 1, _ => rfl | 2, _ => rfl | j + 3, h => absurd h (Nat.not_lt.mpr (Nat.le_add_left _ _)), nrf_of rfl⟩
theorem mk_X7_9 : MK RX7 9 yJx4a65c_init_da8c8 cJx4a65c_init_da8c8 1 none 0 := ⟨(inA3 22 rfl rfl), in_Jx4a65c_init_da8c8, cd_Jx4a65c_init_da8c8, pn_Jx4a65c_init_da8c8⟩
theorem fk_X7_10 : FK RX7 10 8 1 true (.object "java/util/ArrayList") := ⟨RX7, TX7, 18, tyX7, "WatchServer$Subscription", ci_X7, by decide, (inA3 25 rfl rfl), Or.inl rfl, rfl, rfl⟩
theorem fp_X7_10 : FP RX7 10 8 1 (.object "java/util/ArrayList") := ⟨RX7, TX7, 18, tyX7, "WatchServer$Subscription", ci_X7, by decide, (inA3 25 rfl rfl), Or.inl rfl, rfl, rfl, rfl⟩
theorem fk_X7_16 : FK RX7 16 8 2 true (.object "java/util/ArrayList") := ⟨RX7, TX7, 18, tyX7, "WatchServer$Subscription", ci_X7, by decide, (inA3 27 rfl rfl), Or.inl rfl, rfl, rfl⟩
theorem fp_X7_16 : FP RX7 16 8 2 (.object "java/util/ArrayList") := ⟨RX7, TX7, 18, tyX7, "WatchServer$Subscription", ci_X7, by decide, (inA3 27 rfl rfl), Or.inl rfl, rfl, rfl, rfl⟩
theorem fk_X7_19 : FK RX7 19 8 9 false (.boolean) := ⟨RX7, TX7, 18, tyX7, "WatchServer$Subscription", ci_X7, by decide, (inA3 40 rfl rfl), Or.inl rfl, rfl, rfl⟩
theorem fk_X7_23 : FK RX7 23 8 10 false (.int) := ⟨RX7, TX7, 18, tyX7, "WatchServer$Subscription", ci_X7, by decide, (inA3 42 rfl rfl), Or.inl rfl, rfl, rfl⟩
theorem fk_X7_27 : FK RX7 27 8 13 false (.boolean) := ⟨RX7, TX7, 18, tyX7, "WatchServer$Subscription", ci_X7, by decide, (inA3 48 rfl rfl), Or.inl rfl, rfl, rfl⟩
theorem fk_X7_30 : FK RX7 30 8 14 false (.boolean) := ⟨RX7, TX7, 18, tyX7, "WatchServer$Subscription", ci_X7, by decide, (inA3 50 rfl rfl), Or.inl rfl, rfl, rfl⟩
theorem fk_X7_33 : FK RX7 33 8 15 false (.boolean) := ⟨RX7, TX7, 18, tyX7, "WatchServer$Subscription", ci_X7, by decide, (inA3 52 rfl rfl), Or.inl rfl, rfl, rfl⟩
theorem fk_X7_36 : FK RX7 36 8 16 false (.int) := ⟨RX7, TX7, 18, tyX7, "WatchServer$Subscription", ci_X7, by decide, (inA3 54 rfl rfl), Or.inl rfl, rfl, rfl⟩
theorem fk_X7_39 : FK RX7 39 8 17 false (.boolean) := ⟨RX7, TX7, 18, tyX7, "WatchServer$Subscription", ci_X7, by decide, (inA3 56 rfl rfl), Or.inl rfl, rfl, rfl⟩
theorem fk_X7_42 : FK RX7 42 8 0 true (.int) := ⟨RX7, TX7, 18, tyX7, "WatchServer$Subscription", ci_X7, by decide, (inA3 23 rfl rfl), Or.inl rfl, rfl, rfl⟩
theorem fp_X7_42 : FP RX7 42 8 0 (.int) := ⟨RX7, TX7, 18, tyX7, "WatchServer$Subscription", ci_X7, by decide, (inA3 23 rfl rfl), Or.inl rfl, rfl, rfl, rfl⟩
theorem fk_X7_45 : FK RX7 45 8 3 false (.object "WatchServer$Session") := ⟨RX7, TX7, 18, tyX7, "WatchServer$Subscription", ci_X7, by decide, (inA3 29 rfl rfl), Or.inl rfl, rfl, rfl⟩
theorem fk_X7_55 : FK RX7 55 8 4 false (.int) := ⟨RX7, TX7, 18, tyX7, "WatchServer$Subscription", ci_X7, by decide, (inA3 31 rfl rfl), Or.inl rfl, rfl, rfl⟩
theorem fk_X7_58 : FK RX7 58 8 5 false (.int) := ⟨RX7, TX7, 18, tyX7, "WatchServer$Subscription", ci_X7, by decide, (inA3 33 rfl rfl), Or.inl rfl, rfl, rfl⟩
theorem fk_X7_61 : FK RX7 61 8 6 false (.int) := ⟨RX7, TX7, 18, tyX7, "WatchServer$Subscription", ci_X7, by decide, (inA3 35 rfl rfl), Or.inl rfl, rfl, rfl⟩
theorem fk_X7_64 : FK RX7 64 8 7 false (.int) := ⟨RX7, TX7, 18, tyX7, "WatchServer$Subscription", ci_X7, by decide, (inA3 37 rfl rfl), Or.inl rfl, rfl, rfl⟩
theorem fk_X7_67 : FK RX7 67 8 8 false (.int) := ⟨RX7, TX7, 18, tyX7, "WatchServer$Subscription", ci_X7, by decide, (inA3 39 rfl rfl), Or.inl rfl, rfl, rfl⟩
theorem fk_X7_70 : FK RX7 70 8 11 false (.int) := ⟨RX7, TX7, 18, tyX7, "WatchServer$Subscription", ci_X7, by decide, (inA3 44 rfl rfl), Or.inl rfl, rfl, rfl⟩
theorem fk_X7_73 : FK RX7 73 8 12 false (.int) := ⟨RX7, TX7, 18, tyX7, "WatchServer$Subscription", ci_X7, by decide, (inA3 46 rfl rfl), Or.inl rfl, rfl, rfl⟩
theorem pn_X7_countEntries : yX7_countEntries.cls ≠ "java/lang/invoke/MethodHandle" ∧ yX7_countEntries.cls ≠ "java/lang/invoke/VarHandle" ∧ (parseMethodDescriptor yX7_countEntries.desc).map (fun d => d.parameters.length) = some 0 := by decide +kernel
theorem cd_X7_countEntries : Cond.code yX7_countEntries cX7_countEntries 4 (some .int) ∈ wsA := (inA2 76 rfl rfl)
theorem in_X7_countEntries : Cond.initialized yX7_countEntries.cls ∈ wsA := (inA1 17 rfl rfl)
theorem iv_X7_countEntries : Cond.instanceMethod yX7_countEntries ∈ wsA ∧ Cond.selects yX7_countEntries.cls yX7_countEntries yX7_countEntries ∈ wsA := ⟨(inA2 74 rfl rfl), (inA2 75 rfl rfl)⟩
theorem mk_X7_76 : MK RX7 76 yX7_countEntries cX7_countEntries 4 (some .int) 0 := ⟨(inA2 73 rfl rfl), in_X7_countEntries, cd_X7_countEntries, pn_X7_countEntries⟩
theorem pn_X7_isReady : yX7_isReady.cls ≠ "java/lang/invoke/MethodHandle" ∧ yX7_isReady.cls ≠ "java/lang/invoke/VarHandle" ∧ (parseMethodDescriptor yX7_isReady.desc).map (fun d => d.parameters.length) = some 0 := by decide +kernel
theorem cd_X7_isReady : Cond.code yX7_isReady cX7_isReady 1 (some .boolean) ∈ wsA := (inA2 72 rfl rfl)
theorem in_X7_isReady : Cond.initialized yX7_isReady.cls ∈ wsA := (inA1 17 rfl rfl)
theorem iv_X7_isReady : Cond.instanceMethod yX7_isReady ∈ wsA ∧ Cond.selects yX7_isReady.cls yX7_isReady yX7_isReady ∈ wsA := ⟨(inA2 70 rfl rfl), (inA2 71 rfl rfl)⟩
theorem mk_X7_80 : MK RX7 80 yX7_isReady cX7_isReady 1 (some .boolean) 0 := ⟨(inA2 69 rfl rfl), in_X7_isReady, cd_X7_isReady, pn_X7_isReady⟩
theorem mk_X7_84 : MK RX7 84 yJx4a65c_size_8abf5 cJx4a65c_size_8abf5 1 (some .int) 0 := ⟨(inA2 77 rfl rfl), in_Jx4a65c_size_8abf5, cd_Jx4a65c_size_8abf5, pn_Jx4a65c_size_8abf5⟩
theorem mk_X7_87 : MK RX7 87 yJx4a65c_get_915e3 cJx4a65c_get_915e3 2 (some (.object "java/lang/Object")) 1 := ⟨(inA2 78 rfl rfl), in_Jx4a65c_get_915e3, cd_Jx4a65c_get_915e3, pn_Jx4a65c_get_915e3⟩
theorem cl_X7_91 : Cond.classLink RX7 91 "WatchServer$Item" ∈ wsA := (inA2 79 rfl rfl)
theorem fk_X7_93 : FK RX7 93 2 7 false (.int) := ⟨RX1, TX1, 11, tyX1, "WatchServer$Item", ci_X1, by decide, (inA3 175 rfl rfl), Or.inl rfl, rfl, rfl⟩
theorem fk_X7_96 : FK RX7 96 2 6 true (.object "WatchServer$Queue") := ⟨RX1, TX1, 11, tyX1, "WatchServer$Item", ci_X1, by decide, (inA3 172 rfl rfl), Or.inl rfl, rfl, rfl⟩
theorem fk_X7_100 : FK RX7 100 5 2 true (.object "java/util/ArrayList") := ⟨RX4, TX4, 3, tyX4, "WatchServer$Queue", ci_X4, by decide, (inA3 147 rfl rfl), Or.inl rfl, rfl, rfl⟩
theorem mk_X7_105 : MK RX7 105 yJ9_min_7cf53 cJ9_min_7cf53 2 (some .int) 2 := ⟨(inA2 108 rfl rfl), in_J9_min_7cf53, cd_J9_min_7cf53, pn_J9_min_7cf53⟩
theorem cl_X7_111 : Cond.classLink RX7 111 "WatchServer$Entry" ∈ wsA := (inA2 109 rfl rfl)
theorem mk_X7_113 : MK RX7 113 yJx4a65c_remove_915e3 cJx4a65c_remove_915e3 4 (some (.object "java/lang/Object")) 1 := ⟨(inA2 111 rfl rfl), in_Jx4a65c_remove_915e3, cd_Jx4a65c_remove_915e3, pn_Jx4a65c_remove_915e3⟩
theorem cl_X7_116 : Cond.classLink RX7 116 "WatchServer$Message" ∈ wsA := (inA2 96 rfl rfl)
theorem fk_X7_118 : FK RX7 118 3 6 false (.boolean) := ⟨RX2, TX2, 7, tyX2, "WatchServer$Message", ci_X2, by decide, (inA2 130 rfl rfl), Or.inl rfl, rfl, rfl⟩
theorem mk_X7_120 : MK RX7 120 yJx4a65c_add_9ea2d cJx4a65c_add_9ea2d 2 (some .boolean) 1 := ⟨(inA2 151 rfl rfl), in_Jx4a65c_add_9ea2d, cd_Jx4a65c_add_9ea2d, pn_Jx4a65c_add_9ea2d⟩
theorem fk_X7_124 : FK RX7 124 3 2 true (.int) := ⟨RX2, TX2, 7, tyX2, "WatchServer$Message", ci_X2, by decide, (inA2 121 rfl rfl), Or.inl rfl, rfl, rfl⟩
theorem fk_X7_125 : FK RX7 125 2 10 false (.boolean) := ⟨RX1, TX1, 11, tyX1, "WatchServer$Item", ci_X1, by decide, (inA3 180 rfl rfl), Or.inl rfl, rfl, rfl⟩
theorem mk_X7_126 : MK RX7 126 yJx4a65c_clear_da8c8 cJx4a65c_clear_da8c8 4 none 0 := ⟨(inA2 92 rfl rfl), in_Jx4a65c_clear_da8c8, cd_Jx4a65c_clear_da8c8, pn_Jx4a65c_clear_da8c8⟩
theorem ol_X8_1 : Cond.methodLink RX8 1 Lib.objectInit ∈ wsA := (inA1 25 rfl rfl)
theorem cl_X8_7 : Cond.classLink RX8 7 "java/util/ArrayList" ∈ wsA := (inA1 28 rfl rfl)
theorem nk_X8_7 : NK RX8 7 0 3 [.int 0, .null, .int 0] := ⟨RJx4a65c, TJx4a65c, tyJx4a65c, ci_Jx4a65c, cl_X8_7, (inA1 29 rfl rfl), (inA1 4 rfl rfl), fun j hj => match j, hj with | 0, _ => rfl | 1, _ => rfl | 2, _ => rfl | j + 3, h => absurd h (Nat.not_lt.mpr (Nat.le_add_left _ _)), nrf_of rfl⟩
theorem mk_X8_9 : MK RX8 9 yJx4a65c_init_da8c8 cJx4a65c_init_da8c8 1 none 0 := ⟨(inA1 30 rfl rfl), in_Jx4a65c_init_da8c8, cd_Jx4a65c_init_da8c8, pn_Jx4a65c_init_da8c8⟩
theorem fk_X8_10 : FK RX8 10 9 0 true (.object "java/util/ArrayList") := ⟨RX8, TX8, 11, tyX8, "WatchServer", ci_X8, by decide, (inA1 54 rfl rfl), Or.inl rfl, rfl, rfl⟩
theorem fp_X8_10 : FP RX8 10 9 0 (.object "java/util/ArrayList") := ⟨RX8, TX8, 11, tyX8, "WatchServer", ci_X8, by decide, (inA1 54 rfl rfl), Or.inl rfl, rfl, rfl, rfl⟩
theorem fk_X8_16 : FK RX8 16 9 1 true (.object "java/util/ArrayList") := ⟨RX8, TX8, 11, tyX8, "WatchServer", ci_X8, by decide, (inA1 55 rfl rfl), Or.inl rfl, rfl, rfl⟩
theorem fp_X8_16 : FP RX8 16 9 1 (.object "java/util/ArrayList") := ⟨RX8, TX8, 11, tyX8, "WatchServer", ci_X8, by decide, (inA1 55 rfl rfl), Or.inl rfl, rfl, rfl, rfl⟩
theorem fk_X8_19 : FK RX8 19 9 2 true (.object "java/util/ArrayList") := ⟨RX8, TX8, 11, tyX8, "WatchServer", ci_X8, by decide, (inA1 56 rfl rfl), Or.inl rfl, rfl, rfl⟩
theorem fp_X8_19 : FP RX8 19 9 2 (.object "java/util/ArrayList") := ⟨RX8, TX8, 11, tyX8, "WatchServer", ci_X8, by decide, (inA1 56 rfl rfl), Or.inl rfl, rfl, rfl, rfl⟩
theorem fk_X8_22 : FK RX8 22 9 3 true (.object "java/util/ArrayList") := ⟨RX8, TX8, 11, tyX8, "WatchServer", ci_X8, by decide, (inA1 57 rfl rfl), Or.inl rfl, rfl, rfl⟩
theorem fp_X8_22 : FP RX8 22 9 3 (.object "java/util/ArrayList") := ⟨RX8, TX8, 11, tyX8, "WatchServer", ci_X8, by decide, (inA1 57 rfl rfl), Or.inl rfl, rfl, rfl, rfl⟩
theorem fk_X8_25 : FK RX8 25 9 4 true (.object "java/util/ArrayList") := ⟨RX8, TX8, 11, tyX8, "WatchServer", ci_X8, by decide, (inA1 58 rfl rfl), Or.inl rfl, rfl, rfl⟩
theorem fp_X8_25 : FP RX8 25 9 4 (.object "java/util/ArrayList") := ⟨RX8, TX8, 11, tyX8, "WatchServer", ci_X8, by decide, (inA1 58 rfl rfl), Or.inl rfl, rfl, rfl, rfl⟩
theorem fk_X8_28 : FK RX8 28 9 5 true (.object "java/util/ArrayList") := ⟨RX8, TX8, 11, tyX8, "WatchServer", ci_X8, by decide, (inA1 59 rfl rfl), Or.inl rfl, rfl, rfl⟩
theorem fp_X8_28 : FP RX8 28 9 5 (.object "java/util/ArrayList") := ⟨RX8, TX8, 11, tyX8, "WatchServer", ci_X8, by decide, (inA1 59 rfl rfl), Or.inl rfl, rfl, rfl, rfl⟩
theorem fk_X8_31 : FK RX8 31 9 6 true (.array .int) := ⟨RX8, TX8, 11, tyX8, "WatchServer", ci_X8, by decide, (inA1 60 rfl rfl), Or.inl rfl, rfl, rfl⟩
theorem fp_X8_31 : FP RX8 31 9 6 (.array .int) := ⟨RX8, TX8, 11, tyX8, "WatchServer", ci_X8, by decide, (inA1 60 rfl rfl), Or.inl rfl, rfl, rfl, rfl⟩
theorem fk_X8_35 : FK RX8 35 9 7 false (.int) := ⟨RX8, TX8, 11, tyX8, "WatchServer", ci_X8, by decide, (inA1 61 rfl rfl), Or.inl rfl, rfl, rfl⟩
theorem fk_X8_39 : FK RX8 39 9 8 false (.long) := ⟨RX8, TX8, 11, tyX8, "WatchServer", ci_X8, by decide, (inA1 62 rfl rfl), Or.inl rfl, rfl, rfl⟩
theorem fk_X8_43 : FK RX8 43 9 9 false (.int) := ⟨RX8, TX8, 11, tyX8, "WatchServer", ci_X8, by decide, (inA1 63 rfl rfl), Or.inl rfl, rfl, rfl⟩
theorem fk_X8_46 : FK RX8 46 9 10 false (.int) := ⟨RX8, TX8, 11, tyX8, "WatchServer", ci_X8, by decide, (inA1 64 rfl rfl), Or.inl rfl, rfl, rfl⟩
theorem cl_X8_49 : Cond.classLink RX8 49 "WatchServer$Node" ∈ wsA := (inA1 104 rfl rfl)
theorem nk_X8_49 : NK RX8 49 4 3 [.int 0, .int 0, .long 0] := ⟨RX3, TX3, tyX3, ci_X3, cl_X8_49, (inA1 105 rfl rfl), (inA1 6 rfl rfl), fun j hj => match j, hj with | 0, _ => rfl | 1, _ => rfl | 2, _ => rfl | j + 3, h => absurd h (Nat.not_lt.mpr (Nat.le_add_left _ _)), nrf_of rfl⟩
theorem mk_X8_51 : MK RX8 51 yX8_isWithin cX8_isWithin 3 (some .boolean) 3 := ⟨(inA1 93 rfl rfl), in_X8_isWithin, cd_X8_isWithin, pn_X8_isWithin⟩
theorem pn_X8_refuse : yX8_refuse.cls ≠ "java/lang/invoke/MethodHandle" ∧ yX8_refuse.cls ≠ "java/lang/invoke/VarHandle" ∧ (parseMethodDescriptor yX8_refuse.desc).map (fun d => d.parameters.length) = some 1 := by decide +kernel
theorem cd_X8_refuse : Cond.code yX8_refuse cX8_refuse 3 (some .int) ∈ wsA := (inA1 99 rfl rfl)
theorem in_X8_refuse : Cond.initialized yX8_refuse.cls ∈ wsA := (inA1 1 rfl rfl)
theorem iv_X8_refuse : Cond.instanceMethod yX8_refuse ∈ wsA ∧ Cond.selects yX8_refuse.cls yX8_refuse yX8_refuse ∈ wsA := ⟨(inA1 98 rfl rfl), (inQ 0 rfl rfl)⟩
theorem mk_X8_55 : MK RX8 55 yX8_refuse cX8_refuse 3 (some .int) 1 := ⟨(inA1 96 rfl rfl), in_X8_refuse, cd_X8_refuse, pn_X8_refuse⟩
theorem mk_X8_59 : MK RX8 59 yJx4a65c_size_8abf5 cJx4a65c_size_8abf5 1 (some .int) 0 := ⟨(inA1 100 rfl rfl), in_Jx4a65c_size_8abf5, cd_Jx4a65c_size_8abf5, pn_Jx4a65c_size_8abf5⟩
theorem pn_X3_init : yX3_init.cls ≠ "java/lang/invoke/MethodHandle" ∧ yX3_init.cls ≠ "java/lang/invoke/VarHandle" ∧ (parseMethodDescriptor yX3_init.desc).map (fun d => d.parameters.length) = some 2 := by decide +kernel
theorem cd_X3_init : Cond.code yX3_init cX3_init 3 none ∈ wsA := (inA1 108 rfl rfl)
theorem in_X3_init : Cond.initialized yX3_init.cls ∈ wsA := (inA1 6 rfl rfl)
theorem ii_X3_init : yX3_init.name = "<init>" ∧ Cond.instanceMethod yX3_init ∈ wsA := ⟨rfl, (inA1 107 rfl rfl)⟩
theorem mk_X8_63 : MK RX8 63 yX3_init cX3_init 3 none 2 := ⟨(inA1 106 rfl rfl), in_X3_init, cd_X3_init, pn_X3_init⟩
theorem mk_X8_66 : MK RX8 66 yJx4a65c_add_9ea2d cJx4a65c_add_9ea2d 2 (some .boolean) 1 := ⟨(inA1 124 rfl rfl), in_Jx4a65c_add_9ea2d, cd_Jx4a65c_add_9ea2d, pn_Jx4a65c_add_9ea2d⟩
theorem pn_X8_nodeAt : yX8_nodeAt.cls ≠ "java/lang/invoke/MethodHandle" ∧ yX8_nodeAt.cls ≠ "java/lang/invoke/VarHandle" ∧ (parseMethodDescriptor yX8_nodeAt.desc).map (fun d => d.parameters.length) = some 1 := by decide +kernel
theorem cd_X8_nodeAt : Cond.code yX8_nodeAt cX8_nodeAt 2 (some (.object "WatchServer$Node")) ∈ wsA := (inA1 189 rfl rfl)
theorem in_X8_nodeAt : Cond.initialized yX8_nodeAt.cls ∈ wsA := (inA1 1 rfl rfl)
theorem iv_X8_nodeAt : Cond.instanceMethod yX8_nodeAt ∈ wsA ∧ Cond.selects yX8_nodeAt.cls yX8_nodeAt yX8_nodeAt ∈ wsA := ⟨(inA1 188 rfl rfl), (inQ 4 rfl rfl)⟩
theorem mk_X8_70 : MK RX8 70 yX8_nodeAt cX8_nodeAt 2 (some (.object "WatchServer$Node")) 1 := ⟨(inA1 186 rfl rfl), in_X8_nodeAt, cd_X8_nodeAt, pn_X8_nodeAt⟩
theorem cl_X8_74 : Cond.classLink RX8 74 "WatchServer$Reference" ∈ wsA := (inA1 204 rfl rfl)
theorem nk_X8_74 : NK RX8 74 6 3 [.int 0, .int 0, .int 0] := ⟨RX5, TX5, tyX5, ci_X5, cl_X8_74, (inA1 205 rfl rfl), (inA1 13 rfl rfl), fun j hj => match j, hj with | 0, _ => rfl | 1, _ => rfl | 2, _ => rfl | j + 3, h => absurd h (Nat.not_lt.mpr (Nat.le_add_left _ _)), nrf_of rfl⟩
theorem pn_X5_init : yX5_init.cls ≠ "java/lang/invoke/MethodHandle" ∧ yX5_init.cls ≠ "java/lang/invoke/VarHandle" ∧ (parseMethodDescriptor yX5_init.desc).map (fun d => d.parameters.length) = some 3 := by decide +kernel
theorem cd_X5_init : Cond.code yX5_init cX5_init 4 none ∈ wsA := (inA1 208 rfl rfl)
theorem in_X5_init : Cond.initialized yX5_init.cls ∈ wsA := (inA1 13 rfl rfl)
theorem ii_X5_init : yX5_init.name = "<init>" ∧ Cond.instanceMethod yX5_init ∈ wsA := ⟨rfl, (inA1 207 rfl rfl)⟩
theorem mk_X8_76 : MK RX8 76 yX5_init cX5_init 4 none 3 := ⟨(inA1 206 rfl rfl), in_X5_init, cd_X5_init, pn_X5_init⟩
theorem pn_X8_variableAt : yX8_variableAt.cls ≠ "java/lang/invoke/MethodHandle" ∧ yX8_variableAt.cls ≠ "java/lang/invoke/VarHandle" ∧ (parseMethodDescriptor yX8_variableAt.desc).map (fun d => d.parameters.length) = some 1 := by decide +kernel
theorem cd_X8_variableAt : Cond.code yX8_variableAt cX8_variableAt 3 (some (.object "WatchServer$Node")) ∈ wsA := (inA1 227 rfl rfl)
theorem in_X8_variableAt : Cond.initialized yX8_variableAt.cls ∈ wsA := (inA1 1 rfl rfl)
theorem iv_X8_variableAt : Cond.instanceMethod yX8_variableAt ∈ wsA ∧ Cond.selects yX8_variableAt.cls yX8_variableAt yX8_variableAt ∈ wsA := ⟨(inA1 226 rfl rfl), (inQ 5 rfl rfl)⟩
theorem mk_X8_79 : MK RX8 79 yX8_variableAt cX8_variableAt 3 (some (.object "WatchServer$Node")) 1 := ⟨(inA1 224 rfl rfl), in_X8_variableAt, cd_X8_variableAt, pn_X8_variableAt⟩
theorem fk_X8_82 : FK RX8 82 4 2 false (.long) := ⟨RX3, TX3, 3, tyX3, "WatchServer$Node", ci_X3, by decide, (inA1 116 rfl rfl), Or.inl rfl, rfl, rfl⟩
theorem kc_X8_85 : Cond.constant RX8 85 (100000 : Int32) ∈ wsA := (inA1 232 rfl rfl)
theorem pn_X8_sampleItems : yX8_sampleItems.cls ≠ "java/lang/invoke/MethodHandle" ∧ yX8_sampleItems.cls ≠ "java/lang/invoke/VarHandle" ∧ (parseMethodDescriptor yX8_sampleItems.desc).map (fun d => d.parameters.length) = some 0 := by decide +kernel
theorem cd_X8_sampleItems : Cond.code yX8_sampleItems cX8_sampleItems 3 none ∈ wsA := (inA1 236 rfl rfl)
theorem in_X8_sampleItems : Cond.initialized yX8_sampleItems.cls ∈ wsA := (inA1 1 rfl rfl)
theorem iv_X8_sampleItems : Cond.instanceMethod yX8_sampleItems ∈ wsA ∧ Cond.selects yX8_sampleItems.cls yX8_sampleItems yX8_sampleItems ∈ wsA := ⟨(inA1 235 rfl rfl), (inQ 6 rfl rfl)⟩
theorem mk_X8_86 : MK RX8 86 yX8_sampleItems cX8_sampleItems 3 none 0 := ⟨(inA1 233 rfl rfl), in_X8_sampleItems, cd_X8_sampleItems, pn_X8_sampleItems⟩
theorem pn_X8_serveSubscriptions : yX8_serveSubscriptions.cls ≠ "java/lang/invoke/MethodHandle" ∧ yX8_serveSubscriptions.cls ≠ "java/lang/invoke/VarHandle" ∧ (parseMethodDescriptor yX8_serveSubscriptions.desc).map (fun d => d.parameters.length) = some 0 := by decide +kernel
theorem cd_X8_serveSubscriptions : Cond.code yX8_serveSubscriptions cX8_serveSubscriptions 3 none ∈ wsA := (inA2 63 rfl rfl)
theorem in_X8_serveSubscriptions : Cond.initialized yX8_serveSubscriptions.cls ∈ wsA := (inA1 1 rfl rfl)
theorem iv_X8_serveSubscriptions : Cond.instanceMethod yX8_serveSubscriptions ∈ wsA ∧ Cond.selects yX8_serveSubscriptions.cls yX8_serveSubscriptions yX8_serveSubscriptions ∈ wsA := ⟨(inA2 62 rfl rfl), (inQ 8 rfl rfl)⟩
theorem mk_X8_89 : MK RX8 89 yX8_serveSubscriptions cX8_serveSubscriptions 3 none 0 := ⟨(inA2 60 rfl rfl), in_X8_serveSubscriptions, cd_X8_serveSubscriptions, pn_X8_serveSubscriptions⟩
theorem pn_X8_closeTimedOut : yX8_closeTimedOut.cls ≠ "java/lang/invoke/MethodHandle" ∧ yX8_closeTimedOut.cls ≠ "java/lang/invoke/VarHandle" ∧ (parseMethodDescriptor yX8_closeTimedOut.desc).map (fun d => d.parameters.length) = some 0 := by decide +kernel
theorem cd_X8_closeTimedOut : Cond.code yX8_closeTimedOut cX8_closeTimedOut 3 none ∈ wsA := (inA2 155 rfl rfl)
theorem in_X8_closeTimedOut : Cond.initialized yX8_closeTimedOut.cls ∈ wsA := (inA1 1 rfl rfl)
theorem iv_X8_closeTimedOut : Cond.instanceMethod yX8_closeTimedOut ∈ wsA ∧ Cond.selects yX8_closeTimedOut.cls yX8_closeTimedOut yX8_closeTimedOut ∈ wsA := ⟨(inA2 154 rfl rfl), (inQ 12 rfl rfl)⟩
theorem mk_X8_92 : MK RX8 92 yX8_closeTimedOut cX8_closeTimedOut 3 none 0 := ⟨(inA2 152 rfl rfl), in_X8_closeTimedOut, cd_X8_closeTimedOut, pn_X8_closeTimedOut⟩
theorem cl_X8_95 : Cond.classLink RX8 95 "WatchServer$Session" ∈ wsA := (inA2 156 rfl rfl)
theorem nk_X8_95 : NK RX8 95 7 6 [.int 0, .int 0, .null, .int 0, .int 0, .int 0] := ⟨RX6, TX6, tyX6, ci_X6, cl_X8_95, (inA2 165 rfl rfl), (inA1 16 rfl rfl), fun j hj => match j, hj with | 0, _ => rfl | 1, _ => rfl | 2, _ => rfl | 3, _ => rfl | 4, _ => rfl | 5, _ => rfl | j + 6, h => absurd h (Nat.not_lt.mpr (Nat.le_add_left _ _)), nrf_of rfl⟩
theorem pn_X6_init : yX6_init.cls ≠ "java/lang/invoke/MethodHandle" ∧ yX6_init.cls ≠ "java/lang/invoke/VarHandle" ∧ (parseMethodDescriptor yX6_init.desc).map (fun d => d.parameters.length) = some 3 := by decide +kernel
theorem cd_X6_init : Cond.code yX6_init cX6_init 4 none ∈ wsA := (inA2 168 rfl rfl)
theorem in_X6_init : Cond.initialized yX6_init.cls ∈ wsA := (inA1 16 rfl rfl)
theorem ii_X6_init : yX6_init.name = "<init>" ∧ Cond.instanceMethod yX6_init ∈ wsA := ⟨rfl, (inA2 167 rfl rfl)⟩
theorem mk_X8_97 : MK RX8 97 yX6_init cX6_init 4 none 3 := ⟨(inA2 166 rfl rfl), in_X6_init, cd_X6_init, pn_X6_init⟩
theorem pn_X8_sessionAt : yX8_sessionAt.cls ≠ "java/lang/invoke/MethodHandle" ∧ yX8_sessionAt.cls ≠ "java/lang/invoke/VarHandle" ∧ (parseMethodDescriptor yX8_sessionAt.desc).map (fun d => d.parameters.length) = some 1 := by decide +kernel
theorem cd_X8_sessionAt : Cond.code yX8_sessionAt cX8_sessionAt 2 (some (.object "WatchServer$Session")) ∈ wsA := (inA2 203 rfl rfl)
theorem in_X8_sessionAt : Cond.initialized yX8_sessionAt.cls ∈ wsA := (inA1 1 rfl rfl)
theorem iv_X8_sessionAt : Cond.instanceMethod yX8_sessionAt ∈ wsA ∧ Cond.selects yX8_sessionAt.cls yX8_sessionAt yX8_sessionAt ∈ wsA := ⟨(inA2 202 rfl rfl), (inQ 14 rfl rfl)⟩
theorem mk_X8_98 : MK RX8 98 yX8_sessionAt cX8_sessionAt 2 (some (.object "WatchServer$Session")) 1 := ⟨(inA2 200 rfl rfl), in_X8_sessionAt, cd_X8_sessionAt, pn_X8_sessionAt⟩
theorem fk_X8_102 : FK RX8 102 7 3 false (.int) := ⟨RX6, TX6, 6, tyX6, "WatchServer$Session", ci_X6, by decide, (inA2 178 rfl rfl), Or.inl rfl, rfl, rfl⟩
theorem pn_X8_refuseSession : yX8_refuseSession.cls ≠ "java/lang/invoke/MethodHandle" ∧ yX8_refuseSession.cls ≠ "java/lang/invoke/VarHandle" ∧ (parseMethodDescriptor yX8_refuseSession.desc).map (fun d => d.parameters.length) = some 1 := by decide +kernel
theorem cd_X8_refuseSession : Cond.code yX8_refuseSession cX8_refuseSession 3 (some .int) ∈ wsA := (inA2 207 rfl rfl)
theorem in_X8_refuseSession : Cond.initialized yX8_refuseSession.cls ∈ wsA := (inA1 1 rfl rfl)
theorem iv_X8_refuseSession : Cond.instanceMethod yX8_refuseSession ∈ wsA ∧ Cond.selects yX8_refuseSession.cls yX8_refuseSession yX8_refuseSession ∈ wsA := ⟨(inA2 206 rfl rfl), (inQ 15 rfl rfl)⟩
theorem mk_X8_105 : MK RX8 105 yX8_refuseSession cX8_refuseSession 3 (some .int) 1 := ⟨(inA2 204 rfl rfl), in_X8_refuseSession, cd_X8_refuseSession, pn_X8_refuseSession⟩
theorem pn_X6_renew : yX6_renew.cls ≠ "java/lang/invoke/MethodHandle" ∧ yX6_renew.cls ≠ "java/lang/invoke/VarHandle" ∧ (parseMethodDescriptor yX6_renew.desc).map (fun d => d.parameters.length) = some 1 := by decide +kernel
theorem cd_X6_renew : Cond.code yX6_renew cX6_renew 2 none ∈ wsA := (inA2 211 rfl rfl)
theorem in_X6_renew : Cond.initialized yX6_renew.cls ∈ wsA := (inA1 16 rfl rfl)
theorem iv_X6_renew : Cond.instanceMethod yX6_renew ∈ wsA ∧ Cond.selects yX6_renew.cls yX6_renew yX6_renew ∈ wsA := ⟨(inA2 209 rfl rfl), (inA2 210 rfl rfl)⟩
theorem mk_X8_108 : MK RX8 108 yX6_renew cX6_renew 2 none 1 := ⟨(inA2 208 rfl rfl), in_X6_renew, cd_X6_renew, pn_X6_renew⟩
theorem pn_X8_enter : yX8_enter.cls ≠ "java/lang/invoke/MethodHandle" ∧ yX8_enter.cls ≠ "java/lang/invoke/VarHandle" ∧ (parseMethodDescriptor yX8_enter.desc).map (fun d => d.parameters.length) = some 1 := by decide +kernel
theorem cd_X8_enter : Cond.code yX8_enter cX8_enter 3 (some (.object "WatchServer$Session")) ∈ wsA := (inA2 219 rfl rfl)
theorem in_X8_enter : Cond.initialized yX8_enter.cls ∈ wsA := (inA1 1 rfl rfl)
theorem iv_X8_enter : Cond.instanceMethod yX8_enter ∈ wsA ∧ Cond.selects yX8_enter.cls yX8_enter yX8_enter ∈ wsA := ⟨(inA2 218 rfl rfl), (inQ 16 rfl rfl)⟩
theorem mk_X8_112 : MK RX8 112 yX8_enter cX8_enter 3 (some (.object "WatchServer$Session")) 1 := ⟨(inA2 216 rfl rfl), in_X8_enter, cd_X8_enter, pn_X8_enter⟩
theorem pn_X8_shut : yX8_shut.cls ≠ "java/lang/invoke/MethodHandle" ∧ yX8_shut.cls ≠ "java/lang/invoke/VarHandle" ∧ (parseMethodDescriptor yX8_shut.desc).map (fun d => d.parameters.length) = some 1 := by decide +kernel
theorem cd_X8_shut : Cond.code yX8_shut cX8_shut 5 (some .int) ∈ wsA := (inA2 160 rfl rfl)
theorem in_X8_shut : Cond.initialized yX8_shut.cls ∈ wsA := (inA1 1 rfl rfl)
theorem iv_X8_shut : Cond.instanceMethod yX8_shut ∈ wsA ∧ Cond.selects yX8_shut.cls yX8_shut yX8_shut ∈ wsA := ⟨(inA2 159 rfl rfl), (inQ 13 rfl rfl)⟩
theorem mk_X8_115 : MK RX8 115 yX8_shut cX8_shut 5 (some .int) 1 := ⟨(inA2 157 rfl rfl), in_X8_shut, cd_X8_shut, pn_X8_shut⟩
theorem mk_X8_119 : MK RX8 119 yJx4a65c_get_915e3 cJx4a65c_get_915e3 2 (some (.object "java/lang/Object")) 1 := ⟨(inA1 190 rfl rfl), in_Jx4a65c_get_915e3, cd_Jx4a65c_get_915e3, pn_Jx4a65c_get_915e3⟩
theorem pn_X5_touches : yX5_touches.cls ≠ "java/lang/invoke/MethodHandle" ∧ yX5_touches.cls ≠ "java/lang/invoke/VarHandle" ∧ (parseMethodDescriptor yX5_touches.desc).map (fun d => d.parameters.length) = some 2 := by decide +kernel
theorem cd_X5_touches : Cond.code yX5_touches cX5_touches 3 (some .boolean) ∈ wsA := (inA2 227 rfl rfl)
theorem in_X5_touches : Cond.initialized yX5_touches.cls ∈ wsA := (inA1 13 rfl rfl)
theorem iv_X5_touches : Cond.instanceMethod yX5_touches ∈ wsA ∧ Cond.selects yX5_touches.cls yX5_touches yX5_touches ∈ wsA := ⟨(inA2 225 rfl rfl), (inA2 226 rfl rfl)⟩
theorem mk_X8_123 : MK RX8 123 yX5_touches cX5_touches 3 (some .boolean) 2 := ⟨(inA2 224 rfl rfl), in_X5_touches, cd_X5_touches, pn_X5_touches⟩
theorem pn_X5_isAmong : yX5_isAmong.cls ≠ "java/lang/invoke/MethodHandle" ∧ yX5_isAmong.cls ≠ "java/lang/invoke/VarHandle" ∧ (parseMethodDescriptor yX5_isAmong.desc).map (fun d => d.parameters.length) = some 1 := by decide +kernel
theorem cd_X5_isAmong : Cond.code yX5_isAmong cX5_isAmong 2 (some .boolean) ∈ wsA := (inA2 231 rfl rfl)
theorem in_X5_isAmong : Cond.initialized yX5_isAmong.cls ∈ wsA := (inA1 13 rfl rfl)
theorem iv_X5_isAmong : Cond.instanceMethod yX5_isAmong ∈ wsA ∧ Cond.selects yX5_isAmong.cls yX5_isAmong yX5_isAmong ∈ wsA := ⟨(inA2 229 rfl rfl), (inA2 230 rfl rfl)⟩
theorem mk_X8_127 : MK RX8 127 yX5_isAmong cX5_isAmong 2 (some .boolean) 1 := ⟨(inA2 228 rfl rfl), in_X5_isAmong, cd_X5_isAmong, pn_X5_isAmong⟩
theorem pn_X5_otherEnd : yX5_otherEnd.cls ≠ "java/lang/invoke/MethodHandle" ∧ yX5_otherEnd.cls ≠ "java/lang/invoke/VarHandle" ∧ (parseMethodDescriptor yX5_otherEnd.desc).map (fun d => d.parameters.length) = some 1 := by decide +kernel
theorem cd_X5_otherEnd : Cond.code yX5_otherEnd cX5_otherEnd 2 (some .int) ∈ wsA := (inA2 235 rfl rfl)
theorem in_X5_otherEnd : Cond.initialized yX5_otherEnd.cls ∈ wsA := (inA1 13 rfl rfl)
theorem iv_X5_otherEnd : Cond.instanceMethod yX5_otherEnd ∈ wsA ∧ Cond.selects yX5_otherEnd.cls yX5_otherEnd yX5_otherEnd ∈ wsA := ⟨(inA2 233 rfl rfl), (inA2 234 rfl rfl)⟩
theorem mk_X8_131 : MK RX8 131 yX5_otherEnd cX5_otherEnd 2 (some .int) 1 := ⟨(inA2 232 rfl rfl), in_X5_otherEnd, cd_X5_otherEnd, pn_X5_otherEnd⟩
theorem fk_X8_134 : FK RX8 134 4 1 true (.int) := ⟨RX3, TX3, 3, tyX3, "WatchServer$Node", ci_X3, by decide, (inA1 113 rfl rfl), Or.inl rfl, rfl, rfl⟩
theorem pn_X7_mayHave : yX7_mayHave.cls ≠ "java/lang/invoke/MethodHandle" ∧ yX7_mayHave.cls ≠ "java/lang/invoke/VarHandle" ∧ (parseMethodDescriptor yX7_mayHave.desc).map (fun d => d.parameters.length) = some 4 := by decide +kernel
theorem cd_X7_mayHave : Cond.code yX7_mayHave cX7_mayHave 4 (some .boolean) ∈ wsA := (inA3 14 rfl rfl)
theorem in_X7_mayHave : Cond.initialized yX7_mayHave.cls ∈ wsA := (inA1 17 rfl rfl)
theorem st_X7_mayHave : Cond.static yX7_mayHave ∈ wsA := (inA3 13 rfl rfl)
theorem mk_X8_137 : MK RX8 137 yX7_mayHave cX7_mayHave 4 (some .boolean) 4 := ⟨(inA3 12 rfl rfl), in_X7_mayHave, cd_X7_mayHave, pn_X7_mayHave⟩
theorem cl_X8_138 : Cond.classLink RX8 138 "WatchServer$Subscription" ∈ wsA := (inA2 64 rfl rfl)
theorem nk_X8_138 : NK RX8 138 8 18 [.int 0, .null, .null, .null, .int 0, .int 0, .int 0, .int 0, .int 0, .int 0, .int 0, .int 0, .int 0, .int 0, .int 0, .int 0, .int 0, .int 0] := ⟨RX7, TX7, tyX7, ci_X7, cl_X8_138, (inA3 16 rfl rfl), (inA1 17 rfl rfl), fun j hj => match j, hj with | 0, _ => rfl | 1, _ => rfl | 2, _ => rfl | 3, _ => rfl | 4, _ => rfl | 5, _ => rfl | 6, _ => rfl | 7, _ => rfl | 8, _ => rfl | 9, _ => rfl | 10, _ => rfl | 11, _ => rfl | 12, _ => rfl | 13, _ => rfl | 14, _ => rfl | 15, _ => rfl | 16, _ => rfl | 17, _ => rfl | j + 18, h => absurd h (Nat.not_lt.mpr (Nat.le_add_left _ _)), nrf_of rfl⟩
theorem pn_X7_init : yX7_init.cls ≠ "java/lang/invoke/MethodHandle" ∧ yX7_init.cls ≠ "java/lang/invoke/VarHandle" ∧ (parseMethodDescriptor yX7_init.desc).map (fun d => d.parameters.length) = some 2 := by decide +kernel
theorem cd_X7_init : Cond.code yX7_init cX7_init 3 none ∈ wsA := (inA3 19 rfl rfl)
theorem in_X7_init : Cond.initialized yX7_init.cls ∈ wsA := (inA1 17 rfl rfl)
theorem ii_X7_init : yX7_init.name = "<init>" ∧ Cond.instanceMethod yX7_init ∈ wsA := ⟨rfl, (inA3 18 rfl rfl)⟩
theorem mk_X8_143 : MK RX8 143 yX7_init cX7_init 3 none 2 := ⟨(inA3 17 rfl rfl), in_X7_init, cd_X7_init, pn_X7_init⟩
theorem pn_X7_begin : yX7_begin.cls ≠ "java/lang/invoke/MethodHandle" ∧ yX7_begin.cls ≠ "java/lang/invoke/VarHandle" ∧ (parseMethodDescriptor yX7_begin.desc).map (fun d => d.parameters.length) = some 5 := by decide +kernel
theorem cd_X7_begin : Cond.code yX7_begin cX7_begin 6 none ∈ wsA := (inA3 98 rfl rfl)
theorem in_X7_begin : Cond.initialized yX7_begin.cls ∈ wsA := (inA1 17 rfl rfl)
theorem iv_X7_begin : Cond.instanceMethod yX7_begin ∈ wsA ∧ Cond.selects yX7_begin.cls yX7_begin yX7_begin ∈ wsA := ⟨(inA3 96 rfl rfl), (inA3 97 rfl rfl)⟩
theorem mk_X8_146 : MK RX8 146 yX7_begin cX7_begin 6 none 5 := ⟨(inA3 95 rfl rfl), in_X7_begin, cd_X7_begin, pn_X7_begin⟩
theorem fk_X8_150 : FK RX8 150 8 0 true (.int) := ⟨RX7, TX7, 18, tyX7, "WatchServer$Subscription", ci_X7, by decide, (inA3 24 rfl rfl), Or.inl rfl, rfl, rfl⟩
theorem pn_X8_subscriptionOf : yX8_subscriptionOf.cls ≠ "java/lang/invoke/MethodHandle" ∧ yX8_subscriptionOf.cls ≠ "java/lang/invoke/VarHandle" ∧ (parseMethodDescriptor yX8_subscriptionOf.desc).map (fun d => d.parameters.length) = some 2 := by decide +kernel
theorem cd_X8_subscriptionOf : Cond.code yX8_subscriptionOf cX8_subscriptionOf 4 (some (.object "WatchServer$Subscription")) ∈ wsA := (inA3 106 rfl rfl)
theorem in_X8_subscriptionOf : Cond.initialized yX8_subscriptionOf.cls ∈ wsA := (inA1 1 rfl rfl)
theorem iv_X8_subscriptionOf : Cond.instanceMethod yX8_subscriptionOf ∈ wsA ∧ Cond.selects yX8_subscriptionOf.cls yX8_subscriptionOf yX8_subscriptionOf ∈ wsA := ⟨(inA3 105 rfl rfl), (inQ 17 rfl rfl)⟩
theorem mk_X8_153 : MK RX8 153 yX8_subscriptionOf cX8_subscriptionOf 4 (some (.object "WatchServer$Subscription")) 2 := ⟨(inA3 103 rfl rfl), in_X8_subscriptionOf, cd_X8_subscriptionOf, pn_X8_subscriptionOf⟩
theorem fk_X8_157 : FK RX8 157 8 9 false (.boolean) := ⟨RX7, TX7, 18, tyX7, "WatchServer$Subscription", ci_X7, by decide, (inA3 41 rfl rfl), Or.inl rfl, rfl, rfl⟩
theorem fk_X8_161 : FK RX8 161 8 7 false (.int) := ⟨RX7, TX7, 18, tyX7, "WatchServer$Subscription", ci_X7, by decide, (inA3 38 rfl rfl), Or.inl rfl, rfl, rfl⟩
theorem fk_X8_164 : FK RX8 164 8 12 false (.int) := ⟨RX7, TX7, 18, tyX7, "WatchServer$Subscription", ci_X7, by decide, (inA3 47 rfl rfl), Or.inl rfl, rfl, rfl⟩
theorem pn_X8_asNumber : yX8_asNumber.cls ≠ "java/lang/invoke/MethodHandle" ∧ yX8_asNumber.cls ≠ "java/lang/invoke/VarHandle" ∧ (parseMethodDescriptor yX8_asNumber.desc).map (fun d => d.parameters.length) = some 1 := by decide +kernel
theorem cd_X8_asNumber : Cond.code yX8_asNumber cX8_asNumber 1 (some .int) ∈ wsA := (inA3 117 rfl rfl)
theorem in_X8_asNumber : Cond.initialized yX8_asNumber.cls ∈ wsA := (inA1 1 rfl rfl)
theorem st_X8_asNumber : Cond.static yX8_asNumber ∈ wsA := (inA3 116 rfl rfl)
theorem mk_X8_167 : MK RX8 167 yX8_asNumber cX8_asNumber 1 (some .int) 1 := ⟨(inA3 115 rfl rfl), in_X8_asNumber, cd_X8_asNumber, pn_X8_asNumber⟩
theorem pn_X8_subscriptionAt : yX8_subscriptionAt.cls ≠ "java/lang/invoke/MethodHandle" ∧ yX8_subscriptionAt.cls ≠ "java/lang/invoke/VarHandle" ∧ (parseMethodDescriptor yX8_subscriptionAt.desc).map (fun d => d.parameters.length) = some 1 := by decide +kernel
theorem cd_X8_subscriptionAt : Cond.code yX8_subscriptionAt cX8_subscriptionAt 3 (some (.object "WatchServer$Subscription")) ∈ wsA := (inA3 110 rfl rfl)
theorem in_X8_subscriptionAt : Cond.initialized yX8_subscriptionAt.cls ∈ wsA := (inA1 1 rfl rfl)
theorem iv_X8_subscriptionAt : Cond.instanceMethod yX8_subscriptionAt ∈ wsA ∧ Cond.selects yX8_subscriptionAt.cls yX8_subscriptionAt yX8_subscriptionAt ∈ wsA := ⟨(inA3 109 rfl rfl), (inQ 18 rfl rfl)⟩
theorem mk_X8_171 : MK RX8 171 yX8_subscriptionAt cX8_subscriptionAt 3 (some (.object "WatchServer$Subscription")) 1 := ⟨(inA3 107 rfl rfl), in_X8_subscriptionAt, cd_X8_subscriptionAt, pn_X8_subscriptionAt⟩
theorem fk_X8_175 : FK RX8 175 8 3 false (.object "WatchServer$Session") := ⟨RX7, TX7, 18, tyX7, "WatchServer$Subscription", ci_X7, by decide, (inA3 30 rfl rfl), Or.inl rfl, rfl, rfl⟩
theorem pn_X7_end : yX7_end.cls ≠ "java/lang/invoke/MethodHandle" ∧ yX7_end.cls ≠ "java/lang/invoke/VarHandle" ∧ (parseMethodDescriptor yX7_end.desc).map (fun d => d.parameters.length) = some 0 := by decide +kernel
theorem cd_X7_end : Cond.code yX7_end cX7_end 2 none ∈ wsA := (inA2 91 rfl rfl)
theorem in_X7_end : Cond.initialized yX7_end.cls ∈ wsA := (inA1 17 rfl rfl)
theorem iv_X7_end : Cond.instanceMethod yX7_end ∈ wsA ∧ Cond.selects yX7_end.cls yX7_end yX7_end ∈ wsA := ⟨(inA2 89 rfl rfl), (inA2 90 rfl rfl)⟩
theorem mk_X8_179 : MK RX8 179 yX7_end cX7_end 2 none 0 := ⟨(inA2 88 rfl rfl), in_X7_end, cd_X7_end, pn_X7_end⟩
theorem pn_X1_mayHave : yX1_mayHave.cls ≠ "java/lang/invoke/MethodHandle" ∧ yX1_mayHave.cls ≠ "java/lang/invoke/VarHandle" ∧ (parseMethodDescriptor yX1_mayHave.desc).map (fun d => d.parameters.length) = some 4 := by decide +kernel
theorem cd_X1_mayHave : Cond.code yX1_mayHave cX1_mayHave 5 (some .boolean) ∈ wsA := (inA3 132 rfl rfl)
theorem in_X1_mayHave : Cond.initialized yX1_mayHave.cls ∈ wsA := (inA1 18 rfl rfl)
theorem st_X1_mayHave : Cond.static yX1_mayHave ∈ wsA := (inA3 131 rfl rfl)
theorem mk_X8_182 : MK RX8 182 yX1_mayHave cX1_mayHave 5 (some .boolean) 4 := ⟨(inA3 130 rfl rfl), in_X1_mayHave, cd_X1_mayHave, pn_X1_mayHave⟩
theorem cl_X8_183 : Cond.classLink RX8 183 "WatchServer$Item" ∈ wsA := (inA1 237 rfl rfl)
theorem nk_X8_183 : NK RX8 183 2 11 [.int 0, .null, .null, .int 0, .int 0, .long 0, .null, .int 0, .int 0, .long 0, .int 0] := ⟨RX1, TX1, tyX1, ci_X1, cl_X8_183, (inA3 134 rfl rfl), (inA1 18 rfl rfl), fun j hj => match j, hj with | 0, _ => rfl | 1, _ => rfl | 2, _ => rfl | 3, _ => rfl | 4, _ => rfl | 5, _ => rfl | 6, _ => rfl | 7, _ => rfl | 8, _ => rfl | 9, _ => rfl | 10, _ => rfl | j + 11, h => absurd h (Nat.not_lt.mpr (Nat.le_add_left _ _)), nrf_of rfl⟩
theorem cl_X8_187 : Cond.classLink RX8 187 "WatchServer$Queue" ∈ wsA := (inA3 135 rfl rfl)
theorem nk_X8_187 : NK RX8 187 5 3 [.int 0, .int 0, .null] := ⟨RX4, TX4, tyX4, ci_X4, cl_X8_187, (inA3 136 rfl rfl), (inA1 19 rfl rfl), fun j hj => match j, hj with | 0, _ => rfl | 1, _ => rfl | 2, _ => rfl | j + 3, h => absurd h (Nat.not_lt.mpr (Nat.le_add_left _ _)), nrf_of rfl⟩
theorem pn_X4_init : yX4_init.cls ≠ "java/lang/invoke/MethodHandle" ∧ yX4_init.cls ≠ "java/lang/invoke/VarHandle" ∧ (parseMethodDescriptor yX4_init.desc).map (fun d => d.parameters.length) = some 2 := by decide +kernel
theorem cd_X4_init : Cond.code yX4_init cX4_init 3 none ∈ wsA := (inA3 139 rfl rfl)
theorem in_X4_init : Cond.initialized yX4_init.cls ∈ wsA := (inA1 19 rfl rfl)
theorem ii_X4_init : yX4_init.name = "<init>" ∧ Cond.instanceMethod yX4_init ∈ wsA := ⟨rfl, (inA3 138 rfl rfl)⟩
theorem mk_X8_189 : MK RX8 189 yX4_init cX4_init 3 none 2 := ⟨(inA3 137 rfl rfl), in_X4_init, cd_X4_init, pn_X4_init⟩
theorem pn_X1_init : yX1_init.cls ≠ "java/lang/invoke/MethodHandle" ∧ yX1_init.cls ≠ "java/lang/invoke/VarHandle" ∧ (parseMethodDescriptor yX1_init.desc).map (fun d => d.parameters.length) = some 7 := by decide +kernel
theorem cd_X1_init : Cond.code yX1_init cX1_init 9 none ∈ wsA := (inA3 158 rfl rfl)
theorem in_X1_init : Cond.initialized yX1_init.cls ∈ wsA := (inA1 18 rfl rfl)
theorem ii_X1_init : yX1_init.name = "<init>" ∧ Cond.instanceMethod yX1_init ∈ wsA := ⟨rfl, (inA3 157 rfl rfl)⟩
theorem mk_X8_192 : MK RX8 192 yX1_init cX1_init 9 none 7 := ⟨(inA3 156 rfl rfl), in_X1_init, cd_X1_init, pn_X1_init⟩
theorem fk_X8_195 : FK RX8 195 8 1 true (.object "java/util/ArrayList") := ⟨RX7, TX7, 18, tyX7, "WatchServer$Subscription", ci_X7, by decide, (inA3 26 rfl rfl), Or.inl rfl, rfl, rfl⟩
theorem pn_X1_switchTo : yX1_switchTo.cls ≠ "java/lang/invoke/MethodHandle" ∧ yX1_switchTo.cls ≠ "java/lang/invoke/VarHandle" ∧ (parseMethodDescriptor yX1_switchTo.desc).map (fun d => d.parameters.length) = some 2 := by decide +kernel
theorem cd_X1_switchTo : Cond.code yX1_switchTo cX1_switchTo 4 none ∈ wsA := (inA3 208 rfl rfl)
theorem in_X1_switchTo : Cond.initialized yX1_switchTo.cls ∈ wsA := (inA1 18 rfl rfl)
theorem iv_X1_switchTo : Cond.instanceMethod yX1_switchTo ∈ wsA ∧ Cond.selects yX1_switchTo.cls yX1_switchTo yX1_switchTo ∈ wsA := ⟨(inA3 206 rfl rfl), (inA3 207 rfl rfl)⟩
theorem mk_X8_196 : MK RX8 196 yX1_switchTo cX1_switchTo 4 none 2 := ⟨(inA3 205 rfl rfl), in_X1_switchTo, cd_X1_switchTo, pn_X1_switchTo⟩
theorem fk_X8_199 : FK RX8 199 2 0 true (.int) := ⟨RX1, TX1, 11, tyX1, "WatchServer$Item", ci_X1, by decide, (inA3 161 rfl rfl), Or.inl rfl, rfl, rfl⟩
theorem pn_X8_itemOfClient : yX8_itemOfClient.cls ≠ "java/lang/invoke/MethodHandle" ∧ yX8_itemOfClient.cls ≠ "java/lang/invoke/VarHandle" ∧ (parseMethodDescriptor yX8_itemOfClient.desc).map (fun d => d.parameters.length) = some 2 := by decide +kernel
theorem cd_X8_itemOfClient : Cond.code yX8_itemOfClient cX8_itemOfClient 4 (some (.object "WatchServer$Item")) ∈ wsA := (inA3 218 rfl rfl)
theorem in_X8_itemOfClient : Cond.initialized yX8_itemOfClient.cls ∈ wsA := (inA1 1 rfl rfl)
theorem iv_X8_itemOfClient : Cond.instanceMethod yX8_itemOfClient ∈ wsA ∧ Cond.selects yX8_itemOfClient.cls yX8_itemOfClient yX8_itemOfClient ∈ wsA := ⟨(inA3 217 rfl rfl), (inQ 19 rfl rfl)⟩
theorem mk_X8_200 : MK RX8 200 yX8_itemOfClient cX8_itemOfClient 4 (some (.object "WatchServer$Item")) 2 := ⟨(inA3 215 rfl rfl), in_X8_itemOfClient, cd_X8_itemOfClient, pn_X8_itemOfClient⟩
theorem fk_X8_204 : FK RX8 204 2 7 false (.int) := ⟨RX1, TX1, 11, tyX1, "WatchServer$Item", ci_X1, by decide, (inA3 176 rfl rfl), Or.inl rfl, rfl, rfl⟩
theorem fk_X8_207 : FK RX8 207 2 1 true (.object "WatchServer$Subscription") := ⟨RX1, TX1, 11, tyX1, "WatchServer$Item", ci_X1, by decide, (inA3 163 rfl rfl), Or.inl rfl, rfl, rfl⟩
theorem fk_X8_210 : FK RX8 210 2 6 true (.object "WatchServer$Queue") := ⟨RX1, TX1, 11, tyX1, "WatchServer$Item", ci_X1, by decide, (inA3 173 rfl rfl), Or.inl rfl, rfl, rfl⟩
theorem fk_X8_214 : FK RX8 214 5 2 true (.object "java/util/ArrayList") := ⟨RX4, TX4, 3, tyX4, "WatchServer$Queue", ci_X4, by decide, (inA3 148 rfl rfl), Or.inl rfl, rfl, rfl⟩
theorem pn_X7_remove : yX7_remove.cls ≠ "java/lang/invoke/MethodHandle" ∧ yX7_remove.cls ≠ "java/lang/invoke/VarHandle" ∧ (parseMethodDescriptor yX7_remove.desc).map (fun d => d.parameters.length) = some 1 := by decide +kernel
theorem cd_X7_remove : Cond.code yX7_remove cX7_remove 3 none ∈ wsA := (inA3 230 rfl rfl)
theorem in_X7_remove : Cond.initialized yX7_remove.cls ∈ wsA := (inA1 17 rfl rfl)
theorem iv_X7_remove : Cond.instanceMethod yX7_remove ∈ wsA ∧ Cond.selects yX7_remove.cls yX7_remove yX7_remove ∈ wsA := ⟨(inA3 228 rfl rfl), (inA3 229 rfl rfl)⟩
theorem mk_X8_217 : MK RX8 217 yX7_remove cX7_remove 3 none 1 := ⟨(inA3 227 rfl rfl), in_X7_remove, cd_X7_remove, pn_X7_remove⟩
theorem pn_X8_countSubscriptions : yX8_countSubscriptions.cls ≠ "java/lang/invoke/MethodHandle" ∧ yX8_countSubscriptions.cls ≠ "java/lang/invoke/VarHandle" ∧ (parseMethodDescriptor yX8_countSubscriptions.desc).map (fun d => d.parameters.length) = some 1 := by decide +kernel
theorem cd_X8_countSubscriptions : Cond.code yX8_countSubscriptions cX8_countSubscriptions 5 (some .int) ∈ wsA := (inA3 238 rfl rfl)
theorem in_X8_countSubscriptions : Cond.initialized yX8_countSubscriptions.cls ∈ wsA := (inA1 1 rfl rfl)
theorem iv_X8_countSubscriptions : Cond.instanceMethod yX8_countSubscriptions ∈ wsA ∧ Cond.selects yX8_countSubscriptions.cls yX8_countSubscriptions yX8_countSubscriptions ∈ wsA := ⟨(inA3 237 rfl rfl), (inQ 21 rfl rfl)⟩
theorem mk_X8_221 : MK RX8 221 yX8_countSubscriptions cX8_countSubscriptions 5 (some .int) 1 := ⟨(inA3 235 rfl rfl), in_X8_countSubscriptions, cd_X8_countSubscriptions, pn_X8_countSubscriptions⟩
theorem fk_X8_224 : FK RX8 224 7 5 false (.int) := ⟨RX6, TX6, 6, tyX6, "WatchServer$Session", ci_X6, by decide, (inA2 182 rfl rfl), Or.inl rfl, rfl, rfl⟩
theorem pn_X8_acknowledge : yX8_acknowledge.cls ≠ "java/lang/invoke/MethodHandle" ∧ yX8_acknowledge.cls ≠ "java/lang/invoke/VarHandle" ∧ (parseMethodDescriptor yX8_acknowledge.desc).map (fun d => d.parameters.length) = some 3 := by decide +kernel
theorem cd_X8_acknowledge : Cond.code yX8_acknowledge cX8_acknowledge 5 (some .int) ∈ wsA := (inA4 2 rfl rfl)
theorem in_X8_acknowledge : Cond.initialized yX8_acknowledge.cls ∈ wsA := (inA1 1 rfl rfl)
theorem iv_X8_acknowledge : Cond.instanceMethod yX8_acknowledge ∈ wsA ∧ Cond.selects yX8_acknowledge.cls yX8_acknowledge yX8_acknowledge ∈ wsA := ⟨(inA4 1 rfl rfl), (inQ 22 rfl rfl)⟩
theorem mk_X8_227 : MK RX8 227 yX8_acknowledge cX8_acknowledge 5 (some .int) 3 := ⟨(inA3 239 rfl rfl), in_X8_acknowledge, cd_X8_acknowledge, pn_X8_acknowledge⟩
theorem pn_X8_longestLate : yX8_longestLate.cls ≠ "java/lang/invoke/MethodHandle" ∧ yX8_longestLate.cls ≠ "java/lang/invoke/VarHandle" ∧ (parseMethodDescriptor yX8_longestLate.desc).map (fun d => d.parameters.length) = some 1 := by decide +kernel
theorem cd_X8_longestLate : Cond.code yX8_longestLate cX8_longestLate 5 (some (.object "WatchServer$Subscription")) ∈ wsA := (inA4 10 rfl rfl)
theorem in_X8_longestLate : Cond.initialized yX8_longestLate.cls ∈ wsA := (inA1 1 rfl rfl)
theorem iv_X8_longestLate : Cond.instanceMethod yX8_longestLate ∈ wsA ∧ Cond.selects yX8_longestLate.cls yX8_longestLate yX8_longestLate ∈ wsA := ⟨(inA4 9 rfl rfl), (inQ 23 rfl rfl)⟩
theorem mk_X8_231 : MK RX8 231 yX8_longestLate cX8_longestLate 5 (some (.object "WatchServer$Subscription")) 1 := ⟨(inA4 7 rfl rfl), in_X8_longestLate, cd_X8_longestLate, pn_X8_longestLate⟩
theorem pn_X8_firstWithMore : yX8_firstWithMore.cls ≠ "java/lang/invoke/MethodHandle" ∧ yX8_firstWithMore.cls ≠ "java/lang/invoke/VarHandle" ∧ (parseMethodDescriptor yX8_firstWithMore.desc).map (fun d => d.parameters.length) = some 1 := by decide +kernel
theorem cd_X8_firstWithMore : Cond.code yX8_firstWithMore cX8_firstWithMore 4 (some (.object "WatchServer$Subscription")) ∈ wsA := (inA4 14 rfl rfl)
theorem in_X8_firstWithMore : Cond.initialized yX8_firstWithMore.cls ∈ wsA := (inA1 1 rfl rfl)
theorem iv_X8_firstWithMore : Cond.instanceMethod yX8_firstWithMore ∈ wsA ∧ Cond.selects yX8_firstWithMore.cls yX8_firstWithMore yX8_firstWithMore ∈ wsA := ⟨(inA4 13 rfl rfl), (inQ 24 rfl rfl)⟩
theorem mk_X8_235 : MK RX8 235 yX8_firstWithMore cX8_firstWithMore 4 (some (.object "WatchServer$Subscription")) 1 := ⟨(inA4 11 rfl rfl), in_X8_firstWithMore, cd_X8_firstWithMore, pn_X8_firstWithMore⟩
theorem pn_X8_send : yX8_send.cls ≠ "java/lang/invoke/MethodHandle" ∧ yX8_send.cls ≠ "java/lang/invoke/VarHandle" ∧ (parseMethodDescriptor yX8_send.desc).map (fun d => d.parameters.length) = some 1 := by decide +kernel
theorem cd_X8_send : Cond.code yX8_send cX8_send 4 none ∈ wsA := (inA2 100 rfl rfl)
theorem in_X8_send : Cond.initialized yX8_send.cls ∈ wsA := (inA1 1 rfl rfl)
theorem iv_X8_send : Cond.instanceMethod yX8_send ∈ wsA ∧ Cond.selects yX8_send.cls yX8_send yX8_send ∈ wsA := ⟨(inA2 99 rfl rfl), (inQ 11 rfl rfl)⟩
theorem mk_X8_238 : MK RX8 238 yX8_send cX8_send 4 none 1 := ⟨(inA2 97 rfl rfl), in_X8_send, cd_X8_send, pn_X8_send⟩
theorem pn_X7_keptOf : yX7_keptOf.cls ≠ "java/lang/invoke/MethodHandle" ∧ yX7_keptOf.cls ≠ "java/lang/invoke/VarHandle" ∧ (parseMethodDescriptor yX7_keptOf.desc).map (fun d => d.parameters.length) = some 1 := by decide +kernel
theorem cd_X7_keptOf : Cond.code yX7_keptOf cX7_keptOf 3 (some (.object "WatchServer$Message")) ∈ wsA := (inA4 26 rfl rfl)
theorem in_X7_keptOf : Cond.initialized yX7_keptOf.cls ∈ wsA := (inA1 17 rfl rfl)
theorem iv_X7_keptOf : Cond.instanceMethod yX7_keptOf ∈ wsA ∧ Cond.selects yX7_keptOf.cls yX7_keptOf yX7_keptOf ∈ wsA := ⟨(inA4 24 rfl rfl), (inA4 25 rfl rfl)⟩
theorem mk_X8_242 : MK RX8 242 yX7_keptOf cX7_keptOf 3 (some (.object "WatchServer$Message")) 1 := ⟨(inA4 23 rfl rfl), in_X7_keptOf, cd_X7_keptOf, pn_X7_keptOf⟩
theorem fk_X8_246 : FK RX8 246 7 2 true (.object "java/util/ArrayList") := ⟨RX6, TX6, 6, tyX6, "WatchServer$Session", ci_X6, by decide, (inA2 176 rfl rfl), Or.inl rfl, rfl, rfl⟩
theorem fk_X8_249 : FK RX8 249 3 0 true (.int) := ⟨RX2, TX2, 7, tyX2, "WatchServer$Message", ci_X2, by decide, (inA2 117 rfl rfl), Or.inl rfl, rfl, rfl⟩
theorem cl_X8_250 : Cond.classLink RX8 250 "WatchServer$Message" ∈ wsA := (inA2 102 rfl rfl)
theorem nk_X8_250 : NK RX8 250 3 7 [.int 0, .int 0, .int 0, .int 0, .null, .int 0, .int 0] := ⟨RX2, TX2, tyX2, ci_X2, cl_X8_250, (inA2 103 rfl rfl), (inA1 15 rfl rfl), fun j hj => match j, hj with | 0, _ => rfl | 1, _ => rfl | 2, _ => rfl | 3, _ => rfl | 4, _ => rfl | 5, _ => rfl | 6, _ => rfl | j + 7, h => absurd h (Nat.not_lt.mpr (Nat.le_add_left _ _)), nrf_of rfl⟩
theorem pn_X8_messageAt : yX8_messageAt.cls ≠ "java/lang/invoke/MethodHandle" ∧ yX8_messageAt.cls ≠ "java/lang/invoke/VarHandle" ∧ (parseMethodDescriptor yX8_messageAt.desc).map (fun d => d.parameters.length) = some 1 := by decide +kernel
theorem cd_X8_messageAt : Cond.code yX8_messageAt cX8_messageAt 2 (some (.object "WatchServer$Message")) ∈ wsA := (inA4 38 rfl rfl)
theorem in_X8_messageAt : Cond.initialized yX8_messageAt.cls ∈ wsA := (inA1 1 rfl rfl)
theorem iv_X8_messageAt : Cond.instanceMethod yX8_messageAt ∈ wsA ∧ Cond.selects yX8_messageAt.cls yX8_messageAt yX8_messageAt ∈ wsA := ⟨(inA4 37 rfl rfl), (inQ 25 rfl rfl)⟩
theorem mk_X8_254 : MK RX8 254 yX8_messageAt cX8_messageAt 2 (some (.object "WatchServer$Message")) 1 := ⟨(inA4 35 rfl rfl), in_X8_messageAt, cd_X8_messageAt, pn_X8_messageAt⟩
theorem fk_X8_257 : FK RX8 257 3 1 true (.int) := ⟨RX2, TX2, 7, tyX2, "WatchServer$Message", ci_X2, by decide, (inA2 119 rfl rfl), Or.inl rfl, rfl, rfl⟩
theorem fk_X8_260 : FK RX8 260 3 2 true (.int) := ⟨RX2, TX2, 7, tyX2, "WatchServer$Message", ci_X2, by decide, (inA2 122 rfl rfl), Or.inl rfl, rfl, rfl⟩
theorem fk_X8_261 : FK RX8 261 3 4 true (.array (.object "WatchServer$Entry")) := ⟨RX2, TX2, 7, tyX2, "WatchServer$Message", ci_X2, by decide, (inA2 126 rfl rfl), Or.inl rfl, rfl, rfl⟩
theorem fk_X8_264 : FK RX8 264 3 5 false (.boolean) := ⟨RX2, TX2, 7, tyX2, "WatchServer$Message", ci_X2, by decide, (inA2 128 rfl rfl), Or.inl rfl, rfl, rfl⟩
theorem fk_X8_267 : FK RX8 267 3 3 true (.int) := ⟨RX2, TX2, 7, tyX2, "WatchServer$Message", ci_X2, by decide, (inA2 124 rfl rfl), Or.inl rfl, rfl, rfl⟩
theorem fk_X8_268 : FK RX8 268 3 6 false (.boolean) := ⟨RX2, TX2, 7, tyX2, "WatchServer$Message", ci_X2, by decide, (inA2 131 rfl rfl), Or.inl rfl, rfl, rfl⟩
theorem kc_X8_271 : Cond.constantLong RX8 271 (-9 : Int64) ∈ wsA := (inA4 43 rfl rfl)
theorem fk_X8_273 : FK RX8 273 1 0 true (.long) := ⟨RX0, TX0, 4, tyX0, "WatchServer$Entry", ci_X0, by decide, (inA2 22 rfl rfl), Or.inl rfl, rfl, rfl⟩
theorem fk_X8_276 : FK RX8 276 1 1 true (.int) := ⟨RX0, TX0, 4, tyX0, "WatchServer$Entry", ci_X0, by decide, (inA2 24 rfl rfl), Or.inl rfl, rfl, rfl⟩
theorem fk_X8_279 : FK RX8 279 1 2 true (.int) := ⟨RX0, TX0, 4, tyX0, "WatchServer$Entry", ci_X0, by decide, (inA2 26 rfl rfl), Or.inl rfl, rfl, rfl⟩
theorem fk_X8_280 : FK RX8 280 1 3 false (.boolean) := ⟨RX0, TX0, 4, tyX0, "WatchServer$Entry", ci_X0, by decide, (inA2 29 rfl rfl), Or.inl rfl, rfl, rfl⟩
theorem fk_X8_283 : FK RX8 283 7 4 false (.int) := ⟨RX6, TX6, 6, tyX6, "WatchServer$Session", ci_X6, by decide, (inA2 180 rfl rfl), Or.inl rfl, rfl, rfl⟩
theorem fk_X8_285 : FK RX8 285 7 0 true (.int) := ⟨RX6, TX6, 6, tyX6, "WatchServer$Session", ci_X6, by decide, (inA2 173 rfl rfl), Or.inl rfl, rfl, rfl⟩
theorem fk_X8_286 : FK RX8 286 8 10 false (.int) := ⟨RX7, TX7, 18, tyX7, "WatchServer$Subscription", ci_X7, by decide, (inA3 43 rfl rfl), Or.inl rfl, rfl, rfl⟩
theorem fk_X8_289 : FK RX8 289 8 11 false (.int) := ⟨RX7, TX7, 18, tyX7, "WatchServer$Subscription", ci_X7, by decide, (inA3 45 rfl rfl), Or.inl rfl, rfl, rfl⟩
theorem fk_X8_292 : FK RX8 292 8 15 false (.boolean) := ⟨RX7, TX7, 18, tyX7, "WatchServer$Subscription", ci_X7, by decide, (inA3 53 rfl rfl), Or.inl rfl, rfl, rfl⟩
theorem fk_X8_295 : FK RX8 295 8 2 true (.object "java/util/ArrayList") := ⟨RX7, TX7, 18, tyX7, "WatchServer$Subscription", ci_X7, by decide, (inA3 28 rfl rfl), Or.inl rfl, rfl, rfl⟩
theorem mk_X8_297 : MK RX8 297 yX7_isReady cX7_isReady 1 (some .boolean) 0 := ⟨(inA2 101 rfl rfl), in_X7_isReady, cd_X7_isReady, pn_X7_isReady⟩
theorem pn_X8_itemAt : yX8_itemAt.cls ≠ "java/lang/invoke/MethodHandle" ∧ yX8_itemAt.cls ≠ "java/lang/invoke/VarHandle" ∧ (parseMethodDescriptor yX8_itemAt.desc).map (fun d => d.parameters.length) = some 1 := by decide +kernel
theorem cd_X8_itemAt : Cond.code yX8_itemAt cX8_itemAt 3 (some (.object "WatchServer$Item")) ∈ wsA := (inA3 222 rfl rfl)
theorem in_X8_itemAt : Cond.initialized yX8_itemAt.cls ∈ wsA := (inA1 1 rfl rfl)
theorem iv_X8_itemAt : Cond.instanceMethod yX8_itemAt ∈ wsA ∧ Cond.selects yX8_itemAt.cls yX8_itemAt yX8_itemAt ∈ wsA := ⟨(inA3 221 rfl rfl), (inQ 20 rfl rfl)⟩
theorem mk_X8_301 : MK RX8 301 yX8_itemAt cX8_itemAt 3 (some (.object "WatchServer$Item")) 1 := ⟨(inA3 219 rfl rfl), in_X8_itemAt, cd_X8_itemAt, pn_X8_itemAt⟩
theorem fk_X8_305 : FK RX8 305 2 2 true (.object "WatchServer$Node") := ⟨RX1, TX1, 11, tyX1, "WatchServer$Item", ci_X1, by decide, (inA3 165 rfl rfl), Or.inl rfl, rfl, rfl⟩
theorem fk_X8_309 : FK RX8 309 4 0 true (.int) := ⟨RX3, TX3, 3, tyX3, "WatchServer$Node", ci_X3, by decide, (inA1 111 rfl rfl), Or.inl rfl, rfl, rfl⟩
theorem pn_X4_firstHasBit : yX4_firstHasBit.cls ≠ "java/lang/invoke/MethodHandle" ∧ yX4_firstHasBit.cls ≠ "java/lang/invoke/VarHandle" ∧ (parseMethodDescriptor yX4_firstHasBit.desc).map (fun d => d.parameters.length) = some 0 := by decide +kernel
theorem cd_X4_firstHasBit : Cond.code yX4_firstHasBit cX4_firstHasBit 1 (some .boolean) ∈ wsA := (inA4 59 rfl rfl)
theorem in_X4_firstHasBit : Cond.initialized yX4_firstHasBit.cls ∈ wsA := (inA1 19 rfl rfl)
theorem iv_X4_firstHasBit : Cond.instanceMethod yX4_firstHasBit ∈ wsA ∧ Cond.selects yX4_firstHasBit.cls yX4_firstHasBit yX4_firstHasBit ∈ wsA := ⟨(inA4 57 rfl rfl), (inA4 58 rfl rfl)⟩
theorem mk_X8_310 : MK RX8 310 yX4_firstHasBit cX4_firstHasBit 1 (some .boolean) 0 := ⟨(inA4 56 rfl rfl), in_X4_firstHasBit, cd_X4_firstHasBit, pn_X4_firstHasBit⟩
theorem pn_X8_countOpenSessions : yX8_countOpenSessions.cls ≠ "java/lang/invoke/MethodHandle" ∧ yX8_countOpenSessions.cls ≠ "java/lang/invoke/VarHandle" ∧ (parseMethodDescriptor yX8_countOpenSessions.desc).map (fun d => d.parameters.length) = some 0 := by decide +kernel
theorem cd_X8_countOpenSessions : Cond.code yX8_countOpenSessions cX8_countOpenSessions 3 (some .int) ∈ wsA := (inA4 71 rfl rfl)
theorem in_X8_countOpenSessions : Cond.initialized yX8_countOpenSessions.cls ∈ wsA := (inA1 1 rfl rfl)
theorem iv_X8_countOpenSessions : Cond.instanceMethod yX8_countOpenSessions ∈ wsA ∧ Cond.selects yX8_countOpenSessions.cls yX8_countOpenSessions yX8_countOpenSessions ∈ wsA := ⟨(inA4 70 rfl rfl), (inQ 26 rfl rfl)⟩
theorem mk_X8_313 : MK RX8 313 yX8_countOpenSessions cX8_countOpenSessions 3 (some .int) 0 := ⟨(inA4 68 rfl rfl), in_X8_countOpenSessions, cd_X8_countOpenSessions, pn_X8_countOpenSessions⟩
theorem pn_X8_countItems : yX8_countItems.cls ≠ "java/lang/invoke/MethodHandle" ∧ yX8_countItems.cls ≠ "java/lang/invoke/VarHandle" ∧ (parseMethodDescriptor yX8_countItems.desc).map (fun d => d.parameters.length) = some 0 := by decide +kernel
theorem cd_X8_countItems : Cond.code yX8_countItems cX8_countItems 3 (some .int) ∈ wsA := (inA4 75 rfl rfl)
theorem in_X8_countItems : Cond.initialized yX8_countItems.cls ∈ wsA := (inA1 1 rfl rfl)
theorem iv_X8_countItems : Cond.instanceMethod yX8_countItems ∈ wsA ∧ Cond.selects yX8_countItems.cls yX8_countItems yX8_countItems ∈ wsA := ⟨(inA4 74 rfl rfl), (inQ 27 rfl rfl)⟩
theorem mk_X8_316 : MK RX8 316 yX8_countItems cX8_countItems 3 (some .int) 0 := ⟨(inA4 72 rfl rfl), in_X8_countItems, cd_X8_countItems, pn_X8_countItems⟩
theorem fk_X8_319 : FK RX8 319 8 17 false (.boolean) := ⟨RX7, TX7, 18, tyX7, "WatchServer$Subscription", ci_X7, by decide, (inA3 57 rfl rfl), Or.inl rfl, rfl, rfl⟩
theorem fk_X8_322 : FK RX8 322 2 10 false (.boolean) := ⟨RX1, TX1, 11, tyX1, "WatchServer$Item", ci_X1, by decide, (inA3 181 rfl rfl), Or.inl rfl, rfl, rfl⟩
theorem fk_X8_323 : FK RX8 323 2 3 true (.int) := ⟨RX1, TX1, 11, tyX1, "WatchServer$Item", ci_X1, by decide, (inA3 167 rfl rfl), Or.inl rfl, rfl, rfl⟩
theorem fk_X8_326 : FK RX8 326 2 4 true (.int) := ⟨RX1, TX1, 11, tyX1, "WatchServer$Item", ci_X1, by decide, (inA3 169 rfl rfl), Or.inl rfl, rfl, rfl⟩
theorem pn_X8_isMultiple : yX8_isMultiple.cls ≠ "java/lang/invoke/MethodHandle" ∧ yX8_isMultiple.cls ≠ "java/lang/invoke/VarHandle" ∧ (parseMethodDescriptor yX8_isMultiple.desc).map (fun d => d.parameters.length) = some 2 := by decide +kernel
theorem cd_X8_isMultiple : Cond.code yX8_isMultiple cX8_isMultiple 2 (some .boolean) ∈ wsA := (inA2 0 rfl rfl)
theorem in_X8_isMultiple : Cond.initialized yX8_isMultiple.cls ∈ wsA := (inA1 1 rfl rfl)
theorem st_X8_isMultiple : Cond.static yX8_isMultiple ∈ wsA := (inA1 239 rfl rfl)
theorem mk_X8_329 : MK RX8 329 yX8_isMultiple cX8_isMultiple 2 (some .boolean) 2 := ⟨(inA1 238 rfl rfl), in_X8_isMultiple, cd_X8_isMultiple, pn_X8_isMultiple⟩
theorem mk_X8_332 : MK RX8 332 yX1_sample cX1_sample 4 none 1 := ⟨(inA2 1 rfl rfl), in_X1_sample, cd_X1_sample, pn_X1_sample⟩
theorem fk_X8_335 : FK RX8 335 8 4 false (.int) := ⟨RX7, TX7, 18, tyX7, "WatchServer$Subscription", ci_X7, by decide, (inA3 32 rfl rfl), Or.inl rfl, rfl, rfl⟩
theorem fk_X8_336 : FK RX8 336 8 5 false (.int) := ⟨RX7, TX7, 18, tyX7, "WatchServer$Subscription", ci_X7, by decide, (inA3 34 rfl rfl), Or.inl rfl, rfl, rfl⟩
theorem pn_X7_wantsToSend : yX7_wantsToSend.cls ≠ "java/lang/invoke/MethodHandle" ∧ yX7_wantsToSend.cls ≠ "java/lang/invoke/VarHandle" ∧ (parseMethodDescriptor yX7_wantsToSend.desc).map (fun d => d.parameters.length) = some 0 := by decide +kernel
theorem cd_X7_wantsToSend : Cond.code yX7_wantsToSend cX7_wantsToSend 1 (some .boolean) ∈ wsA := (inA2 68 rfl rfl)
theorem in_X7_wantsToSend : Cond.initialized yX7_wantsToSend.cls ∈ wsA := (inA1 17 rfl rfl)
theorem iv_X7_wantsToSend : Cond.instanceMethod yX7_wantsToSend ∈ wsA ∧ Cond.selects yX7_wantsToSend.cls yX7_wantsToSend yX7_wantsToSend ∈ wsA := ⟨(inA2 66 rfl rfl), (inA2 67 rfl rfl)⟩
theorem mk_X8_339 : MK RX8 339 yX7_wantsToSend cX7_wantsToSend 1 (some .boolean) 0 := ⟨(inA2 65 rfl rfl), in_X7_wantsToSend, cd_X7_wantsToSend, pn_X7_wantsToSend⟩
theorem pn_X8_answerRequests : yX8_answerRequests.cls ≠ "java/lang/invoke/MethodHandle" ∧ yX8_answerRequests.cls ≠ "java/lang/invoke/VarHandle" ∧ (parseMethodDescriptor yX8_answerRequests.desc).map (fun d => d.parameters.length) = some 1 := by decide +kernel
theorem cd_X8_answerRequests : Cond.code yX8_answerRequests cX8_answerRequests 4 none ∈ wsA := (inA2 83 rfl rfl)
theorem in_X8_answerRequests : Cond.initialized yX8_answerRequests.cls ∈ wsA := (inA1 1 rfl rfl)
theorem iv_X8_answerRequests : Cond.instanceMethod yX8_answerRequests ∈ wsA ∧ Cond.selects yX8_answerRequests.cls yX8_answerRequests yX8_answerRequests ∈ wsA := ⟨(inA2 82 rfl rfl), (inQ 9 rfl rfl)⟩
theorem mk_X8_342 : MK RX8 342 yX8_answerRequests cX8_answerRequests 4 none 1 := ⟨(inA2 80 rfl rfl), in_X8_answerRequests, cd_X8_answerRequests, pn_X8_answerRequests⟩
theorem pn_X8_fallShort : yX8_fallShort.cls ≠ "java/lang/invoke/MethodHandle" ∧ yX8_fallShort.cls ≠ "java/lang/invoke/VarHandle" ∧ (parseMethodDescriptor yX8_fallShort.desc).map (fun d => d.parameters.length) = some 1 := by decide +kernel
theorem cd_X8_fallShort : Cond.code yX8_fallShort cX8_fallShort 2 none ∈ wsA := (inA2 87 rfl rfl)
theorem in_X8_fallShort : Cond.initialized yX8_fallShort.cls ∈ wsA := (inA1 1 rfl rfl)
theorem iv_X8_fallShort : Cond.instanceMethod yX8_fallShort ∈ wsA ∧ Cond.selects yX8_fallShort.cls yX8_fallShort yX8_fallShort ∈ wsA := ⟨(inA2 86 rfl rfl), (inQ 10 rfl rfl)⟩
theorem mk_X8_345 : MK RX8 345 yX8_fallShort cX8_fallShort 2 none 1 := ⟨(inA2 84 rfl rfl), in_X8_fallShort, cd_X8_fallShort, pn_X8_fallShort⟩
theorem fk_X8_348 : FK RX8 348 8 14 false (.boolean) := ⟨RX7, TX7, 18, tyX7, "WatchServer$Subscription", ci_X7, by decide, (inA3 51 rfl rfl), Or.inl rfl, rfl, rfl⟩
theorem fk_X8_349 : FK RX8 349 8 16 false (.int) := ⟨RX7, TX7, 18, tyX7, "WatchServer$Subscription", ci_X7, by decide, (inA3 55 rfl rfl), Or.inl rfl, rfl, rfl⟩
theorem pn_X7_takeEntries : yX7_takeEntries.cls ≠ "java/lang/invoke/MethodHandle" ∧ yX7_takeEntries.cls ≠ "java/lang/invoke/VarHandle" ∧ (parseMethodDescriptor yX7_takeEntries.desc).map (fun d => d.parameters.length) = some 0 := by decide +kernel
theorem cd_X7_takeEntries : Cond.code yX7_takeEntries cX7_takeEntries 10 (some (.array (.object "WatchServer$Entry"))) ∈ wsA := (inA2 107 rfl rfl)
theorem in_X7_takeEntries : Cond.initialized yX7_takeEntries.cls ∈ wsA := (inA1 17 rfl rfl)
theorem iv_X7_takeEntries : Cond.instanceMethod yX7_takeEntries ∈ wsA ∧ Cond.selects yX7_takeEntries.cls yX7_takeEntries yX7_takeEntries ∈ wsA := ⟨(inA2 105 rfl rfl), (inA2 106 rfl rfl)⟩
theorem mk_X8_352 : MK RX8 352 yX7_takeEntries cX7_takeEntries 10 (some (.array (.object "WatchServer$Entry"))) 0 := ⟨(inA2 104 rfl rfl), in_X7_takeEntries, cd_X7_takeEntries, pn_X7_takeEntries⟩
theorem pn_X2_init : yX2_init.cls ≠ "java/lang/invoke/MethodHandle" ∧ yX2_init.cls ≠ "java/lang/invoke/VarHandle" ∧ (parseMethodDescriptor yX2_init.desc).map (fun d => d.parameters.length) = some 5 := by decide +kernel
theorem cd_X2_init : Cond.code yX2_init cX2_init 6 none ∈ wsA := (inA2 114 rfl rfl)
theorem in_X2_init : Cond.initialized yX2_init.cls ∈ wsA := (inA1 15 rfl rfl)
theorem ii_X2_init : yX2_init.name = "<init>" ∧ Cond.instanceMethod yX2_init ∈ wsA := ⟨rfl, (inA2 113 rfl rfl)⟩
theorem mk_X8_356 : MK RX8 356 yX2_init cX2_init 6 none 5 := ⟨(inA2 112 rfl rfl), in_X2_init, cd_X2_init, pn_X2_init⟩
theorem pn_X7_keepMessage : yX7_keepMessage.cls ≠ "java/lang/invoke/MethodHandle" ∧ yX7_keepMessage.cls ≠ "java/lang/invoke/VarHandle" ∧ (parseMethodDescriptor yX7_keepMessage.desc).map (fun d => d.parameters.length) = some 1 := by decide +kernel
theorem cd_X7_keepMessage : Cond.code yX7_keepMessage cX7_keepMessage 2 none ∈ wsA := (inA2 150 rfl rfl)
theorem in_X7_keepMessage : Cond.initialized yX7_keepMessage.cls ∈ wsA := (inA1 17 rfl rfl)
theorem iv_X7_keepMessage : Cond.instanceMethod yX7_keepMessage ∈ wsA ∧ Cond.selects yX7_keepMessage.cls yX7_keepMessage yX7_keepMessage ∈ wsA := ⟨(inA2 148 rfl rfl), (inA2 149 rfl rfl)⟩
theorem mk_X8_359 : MK RX8 359 yX7_keepMessage cX7_keepMessage 2 none 1 := ⟨(inA2 147 rfl rfl), in_X7_keepMessage, cd_X7_keepMessage, pn_X7_keepMessage⟩
theorem fk_X8_363 : FK RX8 363 8 13 false (.boolean) := ⟨RX7, TX7, 18, tyX7, "WatchServer$Subscription", ci_X7, by decide, (inA3 49 rfl rfl), Or.inl rfl, rfl, rfl⟩
theorem fk_X8_366 : FK RX8 366 8 6 false (.int) := ⟨RX7, TX7, 18, tyX7, "WatchServer$Subscription", ci_X7, by decide, (inA3 36 rfl rfl), Or.inl rfl, rfl, rfl⟩
theorem pn_X7_forget : yX7_forget.cls ≠ "java/lang/invoke/MethodHandle" ∧ yX7_forget.cls ≠ "java/lang/invoke/VarHandle" ∧ (parseMethodDescriptor yX7_forget.desc).map (fun d => d.parameters.length) = some 1 := by decide +kernel
theorem cd_X7_forget : Cond.code yX7_forget cX7_forget 3 (some .boolean) ∈ wsA := (inA4 6 rfl rfl)
theorem in_X7_forget : Cond.initialized yX7_forget.cls ∈ wsA := (inA1 17 rfl rfl)
theorem iv_X7_forget : Cond.instanceMethod yX7_forget ∈ wsA ∧ Cond.selects yX7_forget.cls yX7_forget yX7_forget ∈ wsA := ⟨(inA4 4 rfl rfl), (inA4 5 rfl rfl)⟩
theorem mk_X8_369 : MK RX8 369 yX7_forget cX7_forget 3 (some .boolean) 1 := ⟨(inA4 3 rfl rfl), in_X7_forget, cd_X7_forget, pn_X7_forget⟩
theorem ol_X9_1 : Cond.methodLink RX9 1 Lib.objectInit ∈ wsA := (inA4 81 rfl rfl)
theorem fk_X9_7 : FK RX9 7 10 2 true (.array .int) := ⟨RX9, TX9, 62, tyX9, "WatchServerModel", ci_X9, by decide, (inA4 85 rfl rfl), Or.inl rfl, rfl, rfl⟩
theorem fp_X9_7 : FP RX9 7 10 2 (.array .int) := ⟨RX9, TX9, 62, tyX9, "WatchServerModel", ci_X9, by decide, (inA4 85 rfl rfl), Or.inl rfl, rfl, rfl, rfl⟩
theorem fk_X9_13 : FK RX9 13 10 3 true (.array .long) := ⟨RX9, TX9, 62, tyX9, "WatchServerModel", ci_X9, by decide, (inA4 86 rfl rfl), Or.inl rfl, rfl, rfl⟩
theorem fp_X9_13 : FP RX9 13 10 3 (.array .long) := ⟨RX9, TX9, 62, tyX9, "WatchServerModel", ci_X9, by decide, (inA4 86 rfl rfl), Or.inl rfl, rfl, rfl, rfl⟩
theorem fk_X9_17 : FK RX9 17 10 5 true (.array .int) := ⟨RX9, TX9, 62, tyX9, "WatchServerModel", ci_X9, by decide, (inA4 88 rfl rfl), Or.inl rfl, rfl, rfl⟩
theorem fp_X9_17 : FP RX9 17 10 5 (.array .int) := ⟨RX9, TX9, 62, tyX9, "WatchServerModel", ci_X9, by decide, (inA4 88 rfl rfl), Or.inl rfl, rfl, rfl, rfl⟩
theorem fk_X9_20 : FK RX9 20 10 6 true (.array .int) := ⟨RX9, TX9, 62, tyX9, "WatchServerModel", ci_X9, by decide, (inA4 89 rfl rfl), Or.inl rfl, rfl, rfl⟩
theorem fp_X9_20 : FP RX9 20 10 6 (.array .int) := ⟨RX9, TX9, 62, tyX9, "WatchServerModel", ci_X9, by decide, (inA4 89 rfl rfl), Or.inl rfl, rfl, rfl, rfl⟩
theorem fk_X9_23 : FK RX9 23 10 7 true (.array .int) := ⟨RX9, TX9, 62, tyX9, "WatchServerModel", ci_X9, by decide, (inA4 90 rfl rfl), Or.inl rfl, rfl, rfl⟩
theorem fp_X9_23 : FP RX9 23 10 7 (.array .int) := ⟨RX9, TX9, 62, tyX9, "WatchServerModel", ci_X9, by decide, (inA4 90 rfl rfl), Or.inl rfl, rfl, rfl, rfl⟩
theorem fk_X9_26 : FK RX9 26 10 9 true (.array .int) := ⟨RX9, TX9, 62, tyX9, "WatchServerModel", ci_X9, by decide, (inA4 92 rfl rfl), Or.inl rfl, rfl, rfl⟩
theorem fp_X9_26 : FP RX9 26 10 9 (.array .int) := ⟨RX9, TX9, 62, tyX9, "WatchServerModel", ci_X9, by decide, (inA4 92 rfl rfl), Or.inl rfl, rfl, rfl, rfl⟩
theorem fk_X9_29 : FK RX9 29 10 10 true (.array .int) := ⟨RX9, TX9, 62, tyX9, "WatchServerModel", ci_X9, by decide, (inA4 93 rfl rfl), Or.inl rfl, rfl, rfl⟩
theorem fp_X9_29 : FP RX9 29 10 10 (.array .int) := ⟨RX9, TX9, 62, tyX9, "WatchServerModel", ci_X9, by decide, (inA4 93 rfl rfl), Or.inl rfl, rfl, rfl, rfl⟩
theorem fk_X9_32 : FK RX9 32 10 11 true (.array .int) := ⟨RX9, TX9, 62, tyX9, "WatchServerModel", ci_X9, by decide, (inA4 94 rfl rfl), Or.inl rfl, rfl, rfl⟩
theorem fp_X9_32 : FP RX9 32 10 11 (.array .int) := ⟨RX9, TX9, 62, tyX9, "WatchServerModel", ci_X9, by decide, (inA4 94 rfl rfl), Or.inl rfl, rfl, rfl, rfl⟩
theorem fk_X9_35 : FK RX9 35 10 12 true (.array .int) := ⟨RX9, TX9, 62, tyX9, "WatchServerModel", ci_X9, by decide, (inA4 95 rfl rfl), Or.inl rfl, rfl, rfl⟩
theorem fp_X9_35 : FP RX9 35 10 12 (.array .int) := ⟨RX9, TX9, 62, tyX9, "WatchServerModel", ci_X9, by decide, (inA4 95 rfl rfl), Or.inl rfl, rfl, rfl, rfl⟩
theorem fk_X9_38 : FK RX9 38 10 13 true (.array .int) := ⟨RX9, TX9, 62, tyX9, "WatchServerModel", ci_X9, by decide, (inA4 96 rfl rfl), Or.inl rfl, rfl, rfl⟩
theorem fp_X9_38 : FP RX9 38 10 13 (.array .int) := ⟨RX9, TX9, 62, tyX9, "WatchServerModel", ci_X9, by decide, (inA4 96 rfl rfl), Or.inl rfl, rfl, rfl, rfl⟩
theorem fk_X9_41 : FK RX9 41 10 14 true (.array .int) := ⟨RX9, TX9, 62, tyX9, "WatchServerModel", ci_X9, by decide, (inA4 97 rfl rfl), Or.inl rfl, rfl, rfl⟩
theorem fp_X9_41 : FP RX9 41 10 14 (.array .int) := ⟨RX9, TX9, 62, tyX9, "WatchServerModel", ci_X9, by decide, (inA4 97 rfl rfl), Or.inl rfl, rfl, rfl, rfl⟩
theorem fk_X9_44 : FK RX9 44 10 16 true (.array .boolean) := ⟨RX9, TX9, 62, tyX9, "WatchServerModel", ci_X9, by decide, (inA4 99 rfl rfl), Or.inl rfl, rfl, rfl⟩
theorem fp_X9_44 : FP RX9 44 10 16 (.array .boolean) := ⟨RX9, TX9, 62, tyX9, "WatchServerModel", ci_X9, by decide, (inA4 99 rfl rfl), Or.inl rfl, rfl, rfl, rfl⟩
theorem fk_X9_48 : FK RX9 48 10 17 true (.array .int) := ⟨RX9, TX9, 62, tyX9, "WatchServerModel", ci_X9, by decide, (inA4 100 rfl rfl), Or.inl rfl, rfl, rfl⟩
theorem fp_X9_48 : FP RX9 48 10 17 (.array .int) := ⟨RX9, TX9, 62, tyX9, "WatchServerModel", ci_X9, by decide, (inA4 100 rfl rfl), Or.inl rfl, rfl, rfl, rfl⟩
theorem fk_X9_51 : FK RX9 51 10 18 true (.array .int) := ⟨RX9, TX9, 62, tyX9, "WatchServerModel", ci_X9, by decide, (inA4 101 rfl rfl), Or.inl rfl, rfl, rfl⟩
theorem fp_X9_51 : FP RX9 51 10 18 (.array .int) := ⟨RX9, TX9, 62, tyX9, "WatchServerModel", ci_X9, by decide, (inA4 101 rfl rfl), Or.inl rfl, rfl, rfl, rfl⟩
theorem fk_X9_54 : FK RX9 54 10 19 true (.array .int) := ⟨RX9, TX9, 62, tyX9, "WatchServerModel", ci_X9, by decide, (inA4 102 rfl rfl), Or.inl rfl, rfl, rfl⟩
theorem fp_X9_54 : FP RX9 54 10 19 (.array .int) := ⟨RX9, TX9, 62, tyX9, "WatchServerModel", ci_X9, by decide, (inA4 102 rfl rfl), Or.inl rfl, rfl, rfl, rfl⟩
theorem fk_X9_57 : FK RX9 57 10 20 true (.array .int) := ⟨RX9, TX9, 62, tyX9, "WatchServerModel", ci_X9, by decide, (inA4 103 rfl rfl), Or.inl rfl, rfl, rfl⟩
theorem fp_X9_57 : FP RX9 57 10 20 (.array .int) := ⟨RX9, TX9, 62, tyX9, "WatchServerModel", ci_X9, by decide, (inA4 103 rfl rfl), Or.inl rfl, rfl, rfl, rfl⟩
theorem fk_X9_60 : FK RX9 60 10 21 true (.array .int) := ⟨RX9, TX9, 62, tyX9, "WatchServerModel", ci_X9, by decide, (inA4 104 rfl rfl), Or.inl rfl, rfl, rfl⟩
theorem fp_X9_60 : FP RX9 60 10 21 (.array .int) := ⟨RX9, TX9, 62, tyX9, "WatchServerModel", ci_X9, by decide, (inA4 104 rfl rfl), Or.inl rfl, rfl, rfl, rfl⟩
theorem fk_X9_63 : FK RX9 63 10 22 true (.array .int) := ⟨RX9, TX9, 62, tyX9, "WatchServerModel", ci_X9, by decide, (inA4 105 rfl rfl), Or.inl rfl, rfl, rfl⟩
theorem fp_X9_63 : FP RX9 63 10 22 (.array .int) := ⟨RX9, TX9, 62, tyX9, "WatchServerModel", ci_X9, by decide, (inA4 105 rfl rfl), Or.inl rfl, rfl, rfl, rfl⟩
theorem fk_X9_66 : FK RX9 66 10 23 true (.array .boolean) := ⟨RX9, TX9, 62, tyX9, "WatchServerModel", ci_X9, by decide, (inA4 106 rfl rfl), Or.inl rfl, rfl, rfl⟩
theorem fp_X9_66 : FP RX9 66 10 23 (.array .boolean) := ⟨RX9, TX9, 62, tyX9, "WatchServerModel", ci_X9, by decide, (inA4 106 rfl rfl), Or.inl rfl, rfl, rfl, rfl⟩
theorem fk_X9_69 : FK RX9 69 10 24 true (.array .int) := ⟨RX9, TX9, 62, tyX9, "WatchServerModel", ci_X9, by decide, (inA4 107 rfl rfl), Or.inl rfl, rfl, rfl⟩
theorem fp_X9_69 : FP RX9 69 10 24 (.array .int) := ⟨RX9, TX9, 62, tyX9, "WatchServerModel", ci_X9, by decide, (inA4 107 rfl rfl), Or.inl rfl, rfl, rfl, rfl⟩
theorem fk_X9_72 : FK RX9 72 10 25 true (.array .int) := ⟨RX9, TX9, 62, tyX9, "WatchServerModel", ci_X9, by decide, (inA4 108 rfl rfl), Or.inl rfl, rfl, rfl⟩
theorem fp_X9_72 : FP RX9 72 10 25 (.array .int) := ⟨RX9, TX9, 62, tyX9, "WatchServerModel", ci_X9, by decide, (inA4 108 rfl rfl), Or.inl rfl, rfl, rfl, rfl⟩
theorem fk_X9_75 : FK RX9 75 10 26 true (.array .int) := ⟨RX9, TX9, 62, tyX9, "WatchServerModel", ci_X9, by decide, (inA4 109 rfl rfl), Or.inl rfl, rfl, rfl⟩
theorem fp_X9_75 : FP RX9 75 10 26 (.array .int) := ⟨RX9, TX9, 62, tyX9, "WatchServerModel", ci_X9, by decide, (inA4 109 rfl rfl), Or.inl rfl, rfl, rfl, rfl⟩
theorem fk_X9_78 : FK RX9 78 10 27 true (.array .boolean) := ⟨RX9, TX9, 62, tyX9, "WatchServerModel", ci_X9, by decide, (inA4 110 rfl rfl), Or.inl rfl, rfl, rfl⟩
theorem fp_X9_78 : FP RX9 78 10 27 (.array .boolean) := ⟨RX9, TX9, 62, tyX9, "WatchServerModel", ci_X9, by decide, (inA4 110 rfl rfl), Or.inl rfl, rfl, rfl, rfl⟩
theorem fk_X9_81 : FK RX9 81 10 28 true (.array .boolean) := ⟨RX9, TX9, 62, tyX9, "WatchServerModel", ci_X9, by decide, (inA4 111 rfl rfl), Or.inl rfl, rfl, rfl⟩
theorem fp_X9_81 : FP RX9 81 10 28 (.array .boolean) := ⟨RX9, TX9, 62, tyX9, "WatchServerModel", ci_X9, by decide, (inA4 111 rfl rfl), Or.inl rfl, rfl, rfl, rfl⟩
theorem fk_X9_84 : FK RX9 84 10 29 true (.array .int) := ⟨RX9, TX9, 62, tyX9, "WatchServerModel", ci_X9, by decide, (inA4 112 rfl rfl), Or.inl rfl, rfl, rfl⟩
theorem fp_X9_84 : FP RX9 84 10 29 (.array .int) := ⟨RX9, TX9, 62, tyX9, "WatchServerModel", ci_X9, by decide, (inA4 112 rfl rfl), Or.inl rfl, rfl, rfl, rfl⟩
theorem fk_X9_87 : FK RX9 87 10 31 true (.array .boolean) := ⟨RX9, TX9, 62, tyX9, "WatchServerModel", ci_X9, by decide, (inA4 114 rfl rfl), Or.inl rfl, rfl, rfl⟩
theorem fp_X9_87 : FP RX9 87 10 31 (.array .boolean) := ⟨RX9, TX9, 62, tyX9, "WatchServerModel", ci_X9, by decide, (inA4 114 rfl rfl), Or.inl rfl, rfl, rfl, rfl⟩
theorem fk_X9_90 : FK RX9 90 10 33 true (.array .boolean) := ⟨RX9, TX9, 62, tyX9, "WatchServerModel", ci_X9, by decide, (inA4 116 rfl rfl), Or.inl rfl, rfl, rfl⟩
theorem fp_X9_90 : FP RX9 90 10 33 (.array .boolean) := ⟨RX9, TX9, 62, tyX9, "WatchServerModel", ci_X9, by decide, (inA4 116 rfl rfl), Or.inl rfl, rfl, rfl, rfl⟩
theorem fk_X9_93 : FK RX9 93 10 34 true (.array .int) := ⟨RX9, TX9, 62, tyX9, "WatchServerModel", ci_X9, by decide, (inA4 117 rfl rfl), Or.inl rfl, rfl, rfl⟩
theorem fp_X9_93 : FP RX9 93 10 34 (.array .int) := ⟨RX9, TX9, 62, tyX9, "WatchServerModel", ci_X9, by decide, (inA4 117 rfl rfl), Or.inl rfl, rfl, rfl, rfl⟩
theorem fk_X9_96 : FK RX9 96 10 35 true (.array .int) := ⟨RX9, TX9, 62, tyX9, "WatchServerModel", ci_X9, by decide, (inA4 118 rfl rfl), Or.inl rfl, rfl, rfl⟩
theorem fp_X9_96 : FP RX9 96 10 35 (.array .int) := ⟨RX9, TX9, 62, tyX9, "WatchServerModel", ci_X9, by decide, (inA4 118 rfl rfl), Or.inl rfl, rfl, rfl, rfl⟩
theorem fk_X9_99 : FK RX9 99 10 36 true (.array .int) := ⟨RX9, TX9, 62, tyX9, "WatchServerModel", ci_X9, by decide, (inA4 119 rfl rfl), Or.inl rfl, rfl, rfl⟩
theorem fp_X9_99 : FP RX9 99 10 36 (.array .int) := ⟨RX9, TX9, 62, tyX9, "WatchServerModel", ci_X9, by decide, (inA4 119 rfl rfl), Or.inl rfl, rfl, rfl, rfl⟩
theorem fk_X9_102 : FK RX9 102 10 37 true (.array .int) := ⟨RX9, TX9, 62, tyX9, "WatchServerModel", ci_X9, by decide, (inA4 120 rfl rfl), Or.inl rfl, rfl, rfl⟩
theorem fp_X9_102 : FP RX9 102 10 37 (.array .int) := ⟨RX9, TX9, 62, tyX9, "WatchServerModel", ci_X9, by decide, (inA4 120 rfl rfl), Or.inl rfl, rfl, rfl, rfl⟩
theorem fk_X9_105 : FK RX9 105 10 38 true (.array .int) := ⟨RX9, TX9, 62, tyX9, "WatchServerModel", ci_X9, by decide, (inA4 121 rfl rfl), Or.inl rfl, rfl, rfl⟩
theorem fp_X9_105 : FP RX9 105 10 38 (.array .int) := ⟨RX9, TX9, 62, tyX9, "WatchServerModel", ci_X9, by decide, (inA4 121 rfl rfl), Or.inl rfl, rfl, rfl, rfl⟩
theorem fk_X9_108 : FK RX9 108 10 39 true (.array .boolean) := ⟨RX9, TX9, 62, tyX9, "WatchServerModel", ci_X9, by decide, (inA4 122 rfl rfl), Or.inl rfl, rfl, rfl⟩
theorem fp_X9_108 : FP RX9 108 10 39 (.array .boolean) := ⟨RX9, TX9, 62, tyX9, "WatchServerModel", ci_X9, by decide, (inA4 122 rfl rfl), Or.inl rfl, rfl, rfl, rfl⟩
theorem fk_X9_111 : FK RX9 111 10 40 true (.array .int) := ⟨RX9, TX9, 62, tyX9, "WatchServerModel", ci_X9, by decide, (inA4 123 rfl rfl), Or.inl rfl, rfl, rfl⟩
theorem fp_X9_111 : FP RX9 111 10 40 (.array .int) := ⟨RX9, TX9, 62, tyX9, "WatchServerModel", ci_X9, by decide, (inA4 123 rfl rfl), Or.inl rfl, rfl, rfl, rfl⟩
theorem fk_X9_114 : FK RX9 114 10 41 true (.array .long) := ⟨RX9, TX9, 62, tyX9, "WatchServerModel", ci_X9, by decide, (inA4 124 rfl rfl), Or.inl rfl, rfl, rfl⟩
theorem fp_X9_114 : FP RX9 114 10 41 (.array .long) := ⟨RX9, TX9, 62, tyX9, "WatchServerModel", ci_X9, by decide, (inA4 124 rfl rfl), Or.inl rfl, rfl, rfl, rfl⟩
theorem fk_X9_117 : FK RX9 117 10 42 true (.array .boolean) := ⟨RX9, TX9, 62, tyX9, "WatchServerModel", ci_X9, by decide, (inA4 125 rfl rfl), Or.inl rfl, rfl, rfl⟩
theorem fp_X9_117 : FP RX9 117 10 42 (.array .boolean) := ⟨RX9, TX9, 62, tyX9, "WatchServerModel", ci_X9, by decide, (inA4 125 rfl rfl), Or.inl rfl, rfl, rfl, rfl⟩
theorem fk_X9_120 : FK RX9 120 10 43 true (.array .long) := ⟨RX9, TX9, 62, tyX9, "WatchServerModel", ci_X9, by decide, (inA4 126 rfl rfl), Or.inl rfl, rfl, rfl⟩
theorem fp_X9_120 : FP RX9 120 10 43 (.array .long) := ⟨RX9, TX9, 62, tyX9, "WatchServerModel", ci_X9, by decide, (inA4 126 rfl rfl), Or.inl rfl, rfl, rfl, rfl⟩
theorem fk_X9_123 : FK RX9 123 10 44 true (.array .int) := ⟨RX9, TX9, 62, tyX9, "WatchServerModel", ci_X9, by decide, (inA4 127 rfl rfl), Or.inl rfl, rfl, rfl⟩
theorem fp_X9_123 : FP RX9 123 10 44 (.array .int) := ⟨RX9, TX9, 62, tyX9, "WatchServerModel", ci_X9, by decide, (inA4 127 rfl rfl), Or.inl rfl, rfl, rfl, rfl⟩
theorem fk_X9_126 : FK RX9 126 10 45 true (.array .long) := ⟨RX9, TX9, 62, tyX9, "WatchServerModel", ci_X9, by decide, (inA4 128 rfl rfl), Or.inl rfl, rfl, rfl⟩
theorem fp_X9_126 : FP RX9 126 10 45 (.array .long) := ⟨RX9, TX9, 62, tyX9, "WatchServerModel", ci_X9, by decide, (inA4 128 rfl rfl), Or.inl rfl, rfl, rfl, rfl⟩
theorem fk_X9_129 : FK RX9 129 10 46 true (.array .int) := ⟨RX9, TX9, 62, tyX9, "WatchServerModel", ci_X9, by decide, (inA4 129 rfl rfl), Or.inl rfl, rfl, rfl⟩
theorem fp_X9_129 : FP RX9 129 10 46 (.array .int) := ⟨RX9, TX9, 62, tyX9, "WatchServerModel", ci_X9, by decide, (inA4 129 rfl rfl), Or.inl rfl, rfl, rfl, rfl⟩
theorem fk_X9_132 : FK RX9 132 10 47 true (.array .int) := ⟨RX9, TX9, 62, tyX9, "WatchServerModel", ci_X9, by decide, (inA4 130 rfl rfl), Or.inl rfl, rfl, rfl⟩
theorem fp_X9_132 : FP RX9 132 10 47 (.array .int) := ⟨RX9, TX9, 62, tyX9, "WatchServerModel", ci_X9, by decide, (inA4 130 rfl rfl), Or.inl rfl, rfl, rfl, rfl⟩
theorem fk_X9_135 : FK RX9 135 10 49 true (.array .int) := ⟨RX9, TX9, 62, tyX9, "WatchServerModel", ci_X9, by decide, (inA4 132 rfl rfl), Or.inl rfl, rfl, rfl⟩
theorem fp_X9_135 : FP RX9 135 10 49 (.array .int) := ⟨RX9, TX9, 62, tyX9, "WatchServerModel", ci_X9, by decide, (inA4 132 rfl rfl), Or.inl rfl, rfl, rfl, rfl⟩
theorem fk_X9_138 : FK RX9 138 10 50 true (.array .int) := ⟨RX9, TX9, 62, tyX9, "WatchServerModel", ci_X9, by decide, (inA4 133 rfl rfl), Or.inl rfl, rfl, rfl⟩
theorem fp_X9_138 : FP RX9 138 10 50 (.array .int) := ⟨RX9, TX9, 62, tyX9, "WatchServerModel", ci_X9, by decide, (inA4 133 rfl rfl), Or.inl rfl, rfl, rfl, rfl⟩
theorem fk_X9_141 : FK RX9 141 10 51 true (.array .int) := ⟨RX9, TX9, 62, tyX9, "WatchServerModel", ci_X9, by decide, (inA4 134 rfl rfl), Or.inl rfl, rfl, rfl⟩
theorem fp_X9_141 : FP RX9 141 10 51 (.array .int) := ⟨RX9, TX9, 62, tyX9, "WatchServerModel", ci_X9, by decide, (inA4 134 rfl rfl), Or.inl rfl, rfl, rfl, rfl⟩
theorem fk_X9_144 : FK RX9 144 10 52 true (.array .boolean) := ⟨RX9, TX9, 62, tyX9, "WatchServerModel", ci_X9, by decide, (inA4 135 rfl rfl), Or.inl rfl, rfl, rfl⟩
theorem fp_X9_144 : FP RX9 144 10 52 (.array .boolean) := ⟨RX9, TX9, 62, tyX9, "WatchServerModel", ci_X9, by decide, (inA4 135 rfl rfl), Or.inl rfl, rfl, rfl, rfl⟩
theorem fk_X9_147 : FK RX9 147 10 53 true (.array .int) := ⟨RX9, TX9, 62, tyX9, "WatchServerModel", ci_X9, by decide, (inA4 136 rfl rfl), Or.inl rfl, rfl, rfl⟩
theorem fp_X9_147 : FP RX9 147 10 53 (.array .int) := ⟨RX9, TX9, 62, tyX9, "WatchServerModel", ci_X9, by decide, (inA4 136 rfl rfl), Or.inl rfl, rfl, rfl, rfl⟩
theorem fk_X9_150 : FK RX9 150 10 54 true (.array .boolean) := ⟨RX9, TX9, 62, tyX9, "WatchServerModel", ci_X9, by decide, (inA4 137 rfl rfl), Or.inl rfl, rfl, rfl⟩
theorem fp_X9_150 : FP RX9 150 10 54 (.array .boolean) := ⟨RX9, TX9, 62, tyX9, "WatchServerModel", ci_X9, by decide, (inA4 137 rfl rfl), Or.inl rfl, rfl, rfl, rfl⟩
theorem kc_X9_153 : Cond.constant RX9 153 (36000 : Int32) ∈ wsA := (inA4 82 rfl rfl)
theorem fk_X9_154 : FK RX9 154 10 55 true (.array .long) := ⟨RX9, TX9, 62, tyX9, "WatchServerModel", ci_X9, by decide, (inA4 138 rfl rfl), Or.inl rfl, rfl, rfl⟩
theorem fp_X9_154 : FP RX9 154 10 55 (.array .long) := ⟨RX9, TX9, 62, tyX9, "WatchServerModel", ci_X9, by decide, (inA4 138 rfl rfl), Or.inl rfl, rfl, rfl, rfl⟩
theorem fk_X9_157 : FK RX9 157 10 56 true (.array .int) := ⟨RX9, TX9, 62, tyX9, "WatchServerModel", ci_X9, by decide, (inA4 139 rfl rfl), Or.inl rfl, rfl, rfl⟩
theorem fp_X9_157 : FP RX9 157 10 56 (.array .int) := ⟨RX9, TX9, 62, tyX9, "WatchServerModel", ci_X9, by decide, (inA4 139 rfl rfl), Or.inl rfl, rfl, rfl, rfl⟩
theorem fk_X9_160 : FK RX9 160 10 57 true (.array .int) := ⟨RX9, TX9, 62, tyX9, "WatchServerModel", ci_X9, by decide, (inA4 140 rfl rfl), Or.inl rfl, rfl, rfl⟩
theorem fp_X9_160 : FP RX9 160 10 57 (.array .int) := ⟨RX9, TX9, 62, tyX9, "WatchServerModel", ci_X9, by decide, (inA4 140 rfl rfl), Or.inl rfl, rfl, rfl, rfl⟩
theorem fk_X9_163 : FK RX9 163 10 58 true (.array .int) := ⟨RX9, TX9, 62, tyX9, "WatchServerModel", ci_X9, by decide, (inA4 141 rfl rfl), Or.inl rfl, rfl, rfl⟩
theorem fp_X9_163 : FP RX9 163 10 58 (.array .int) := ⟨RX9, TX9, 62, tyX9, "WatchServerModel", ci_X9, by decide, (inA4 141 rfl rfl), Or.inl rfl, rfl, rfl, rfl⟩
theorem fk_X9_166 : FK RX9 166 10 61 true (.array .int) := ⟨RX9, TX9, 62, tyX9, "WatchServerModel", ci_X9, by decide, (inA4 144 rfl rfl), Or.inl rfl, rfl, rfl⟩
theorem fp_X9_166 : FP RX9 166 10 61 (.array .int) := ⟨RX9, TX9, 62, tyX9, "WatchServerModel", ci_X9, by decide, (inA4 144 rfl rfl), Or.inl rfl, rfl, rfl, rfl⟩
theorem kc_X9_169 : Cond.constantLong RX9 169 (2 : Int64) ∈ wsA := (inA5 36 rfl rfl)
theorem pn_X9_in : yX9_in.cls ≠ "java/lang/invoke/MethodHandle" ∧ yX9_in.cls ≠ "java/lang/invoke/VarHandle" ∧ (parseMethodDescriptor yX9_in.desc).map (fun d => d.parameters.length) = some 3 := by decide +kernel
theorem cd_X9_in : Cond.code yX9_in cX9_in 6 (some .boolean) ∈ wsA := (inA5 39 rfl rfl)
theorem in_X9_in : Cond.initialized yX9_in.cls ∈ wsA := (inA1 5 rfl rfl)
theorem st_X9_in : Cond.static yX9_in ∈ wsA := (inA5 38 rfl rfl)
theorem mk_X9_171 : MK RX9 171 yX9_in cX9_in 6 (some .boolean) 3 := ⟨(inA5 37 rfl rfl), in_X9_in, cd_X9_in, pn_X9_in⟩
theorem pn_X9_refuse : yX9_refuse.cls ≠ "java/lang/invoke/MethodHandle" ∧ yX9_refuse.cls ≠ "java/lang/invoke/VarHandle" ∧ (parseMethodDescriptor yX9_refuse.desc).map (fun d => d.parameters.length) = some 1 := by decide +kernel
theorem cd_X9_refuse : Cond.code yX9_refuse cX9_refuse 2 (some .int) ∈ wsA := (inA5 43 rfl rfl)
theorem in_X9_refuse : Cond.initialized yX9_refuse.cls ∈ wsA := (inA1 5 rfl rfl)
theorem iv_X9_refuse : Cond.instanceMethod yX9_refuse ∈ wsA ∧ Cond.selects yX9_refuse.cls yX9_refuse yX9_refuse ∈ wsA := ⟨(inA5 42 rfl rfl), (inQ 28 rfl rfl)⟩
theorem mk_X9_175 : MK RX9 175 yX9_refuse cX9_refuse 2 (some .int) 1 := ⟨(inA5 40 rfl rfl), in_X9_refuse, cd_X9_refuse, pn_X9_refuse⟩
theorem fk_X9_179 : FK RX9 179 10 1 false (.int) := ⟨RX9, TX9, 62, tyX9, "WatchServerModel", ci_X9, by decide, (inA4 84 rfl rfl), Or.inl rfl, rfl, rfl⟩
theorem pn_X9_isNode : yX9_isNode.cls ≠ "java/lang/invoke/MethodHandle" ∧ yX9_isNode.cls ≠ "java/lang/invoke/VarHandle" ∧ (parseMethodDescriptor yX9_isNode.desc).map (fun d => d.parameters.length) = some 1 := by decide +kernel
theorem cd_X9_isNode : Cond.code yX9_isNode cX9_isNode 2 (some .boolean) ∈ wsA := (inA5 51 rfl rfl)
theorem in_X9_isNode : Cond.initialized yX9_isNode.cls ∈ wsA := (inA1 5 rfl rfl)
theorem iv_X9_isNode : Cond.instanceMethod yX9_isNode ∈ wsA ∧ Cond.selects yX9_isNode.cls yX9_isNode yX9_isNode ∈ wsA := ⟨(inA5 50 rfl rfl), (inQ 29 rfl rfl)⟩
theorem mk_X9_183 : MK RX9 183 yX9_isNode cX9_isNode 2 (some .boolean) 1 := ⟨(inA5 48 rfl rfl), in_X9_isNode, cd_X9_isNode, pn_X9_isNode⟩
theorem kc_X9_187 : Cond.constantLong RX9 187 (7 : Int64) ∈ wsA := (inA5 52 rfl rfl)
theorem fk_X9_189 : FK RX9 189 10 4 false (.int) := ⟨RX9, TX9, 62, tyX9, "WatchServerModel", ci_X9, by decide, (inA4 87 rfl rfl), Or.inl rfl, rfl, rfl⟩
theorem pn_X9_isVariable : yX9_isVariable.cls ≠ "java/lang/invoke/MethodHandle" ∧ yX9_isVariable.cls ≠ "java/lang/invoke/VarHandle" ∧ (parseMethodDescriptor yX9_isVariable.desc).map (fun d => d.parameters.length) = some 1 := by decide +kernel
theorem cd_X9_isVariable : Cond.code yX9_isVariable cX9_isVariable 2 (some .boolean) ∈ wsA := (inA5 60 rfl rfl)
theorem in_X9_isVariable : Cond.initialized yX9_isVariable.cls ∈ wsA := (inA1 5 rfl rfl)
theorem iv_X9_isVariable : Cond.instanceMethod yX9_isVariable ∈ wsA ∧ Cond.selects yX9_isVariable.cls yX9_isVariable yX9_isVariable ∈ wsA := ⟨(inA5 59 rfl rfl), (inQ 30 rfl rfl)⟩
theorem mk_X9_192 : MK RX9 192 yX9_isVariable cX9_isVariable 2 (some .boolean) 1 := ⟨(inA5 57 rfl rfl), in_X9_isVariable, cd_X9_isVariable, pn_X9_isVariable⟩
theorem pn_X9_shift : yX9_shift.cls ≠ "java/lang/invoke/MethodHandle" ∧ yX9_shift.cls ≠ "java/lang/invoke/VarHandle" ∧ (parseMethodDescriptor yX9_shift.desc).map (fun d => d.parameters.length) = some 1 := by decide +kernel
theorem cd_X9_shift : Cond.code yX9_shift cX9_shift 3 none ∈ wsA := (inA5 78 rfl rfl)
theorem in_X9_shift : Cond.initialized yX9_shift.cls ∈ wsA := (inA1 5 rfl rfl)
theorem iv_X9_shift : Cond.instanceMethod yX9_shift ∈ wsA ∧ Cond.selects yX9_shift.cls yX9_shift yX9_shift ∈ wsA := ⟨(inA5 77 rfl rfl), (inQ 33 rfl rfl)⟩
theorem mk_X9_195 : MK RX9 195 yX9_shift cX9_shift 3 none 1 := ⟨(inA5 75 rfl rfl), in_X9_shift, cd_X9_shift, pn_X9_shift⟩
theorem fk_X9_199 : FK RX9 199 10 0 false (.int) := ⟨RX9, TX9, 62, tyX9, "WatchServerModel", ci_X9, by decide, (inA4 83 rfl rfl), Or.inl rfl, rfl, rfl⟩
theorem fk_X9_202 : FK RX9 202 10 32 false (.int) := ⟨RX9, TX9, 62, tyX9, "WatchServerModel", ci_X9, by decide, (inA4 115 rfl rfl), Or.inl rfl, rfl, rfl⟩
theorem fk_X9_205 : FK RX9 205 10 48 false (.int) := ⟨RX9, TX9, 62, tyX9, "WatchServerModel", ci_X9, by decide, (inA4 131 rfl rfl), Or.inl rfl, rfl, rfl⟩
theorem pn_X9_isReady : yX9_isReady.cls ≠ "java/lang/invoke/MethodHandle" ∧ yX9_isReady.cls ≠ "java/lang/invoke/VarHandle" ∧ (parseMethodDescriptor yX9_isReady.desc).map (fun d => d.parameters.length) = some 1 := by decide +kernel
theorem cd_X9_isReady : Cond.code yX9_isReady cX9_isReady 4 (some .boolean) ∈ wsA := (inA5 86 rfl rfl)
theorem in_X9_isReady : Cond.initialized yX9_isReady.cls ∈ wsA := (inA1 5 rfl rfl)
theorem iv_X9_isReady : Cond.instanceMethod yX9_isReady ∈ wsA ∧ Cond.selects yX9_isReady.cls yX9_isReady yX9_isReady ∈ wsA := ⟨(inA5 85 rfl rfl), (inQ 35 rfl rfl)⟩
theorem mk_X9_208 : MK RX9 208 yX9_isReady cX9_isReady 4 (some .boolean) 1 := ⟨(inA5 83 rfl rfl), in_X9_isReady, cd_X9_isReady, pn_X9_isReady⟩
theorem pn_X9_keptOf : yX9_keptOf.cls ≠ "java/lang/invoke/MethodHandle" ∧ yX9_keptOf.cls ≠ "java/lang/invoke/VarHandle" ∧ (parseMethodDescriptor yX9_keptOf.desc).map (fun d => d.parameters.length) = some 1 := by decide +kernel
theorem cd_X9_keptOf : Cond.code yX9_keptOf cX9_keptOf 4 (some .int) ∈ wsA := (inA5 110 rfl rfl)
theorem in_X9_keptOf : Cond.initialized yX9_keptOf.cls ∈ wsA := (inA1 5 rfl rfl)
theorem iv_X9_keptOf : Cond.instanceMethod yX9_keptOf ∈ wsA ∧ Cond.selects yX9_keptOf.cls yX9_keptOf yX9_keptOf ∈ wsA := ⟨(inA5 109 rfl rfl), (inQ 41 rfl rfl)⟩
theorem mk_X9_211 : MK RX9 211 yX9_keptOf cX9_keptOf 4 (some .int) 1 := ⟨(inA5 107 rfl rfl), in_X9_keptOf, cd_X9_keptOf, pn_X9_keptOf⟩
theorem pn_X9_leftOf : yX9_leftOf.cls ≠ "java/lang/invoke/MethodHandle" ∧ yX9_leftOf.cls ≠ "java/lang/invoke/VarHandle" ∧ (parseMethodDescriptor yX9_leftOf.desc).map (fun d => d.parameters.length) = some 1 := by decide +kernel
theorem cd_X9_leftOf : Cond.code yX9_leftOf cX9_leftOf 4 (some .boolean) ∈ wsA := (inA5 114 rfl rfl)
theorem in_X9_leftOf : Cond.initialized yX9_leftOf.cls ∈ wsA := (inA1 5 rfl rfl)
theorem iv_X9_leftOf : Cond.instanceMethod yX9_leftOf ∈ wsA ∧ Cond.selects yX9_leftOf.cls yX9_leftOf yX9_leftOf ∈ wsA := ⟨(inA5 113 rfl rfl), (inQ 42 rfl rfl)⟩
theorem mk_X9_214 : MK RX9 214 yX9_leftOf cX9_leftOf 4 (some .boolean) 1 := ⟨(inA5 111 rfl rfl), in_X9_leftOf, cd_X9_leftOf, pn_X9_leftOf⟩
theorem pn_X9_toMail : yX9_toMail.cls ≠ "java/lang/invoke/MethodHandle" ∧ yX9_toMail.cls ≠ "java/lang/invoke/VarHandle" ∧ (parseMethodDescriptor yX9_toMail.desc).map (fun d => d.parameters.length) = some 2 := by decide +kernel
theorem cd_X9_toMail : Cond.code yX9_toMail cX9_toMail 3 none ∈ wsA := (inA5 118 rfl rfl)
theorem in_X9_toMail : Cond.initialized yX9_toMail.cls ∈ wsA := (inA1 5 rfl rfl)
theorem iv_X9_toMail : Cond.instanceMethod yX9_toMail ∈ wsA ∧ Cond.selects yX9_toMail.cls yX9_toMail yX9_toMail ∈ wsA := ⟨(inA5 117 rfl rfl), (inQ 43 rfl rfl)⟩
theorem mk_X9_217 : MK RX9 217 yX9_toMail cX9_toMail 3 none 2 := ⟨(inA5 115 rfl rfl), in_X9_toMail, cd_X9_toMail, pn_X9_toMail⟩
theorem pn_X9_dropKept : yX9_dropKept.cls ≠ "java/lang/invoke/MethodHandle" ∧ yX9_dropKept.cls ≠ "java/lang/invoke/VarHandle" ∧ (parseMethodDescriptor yX9_dropKept.desc).map (fun d => d.parameters.length) = some 2 := by decide +kernel
theorem cd_X9_dropKept : Cond.code yX9_dropKept cX9_dropKept 4 none ∈ wsA := (inA5 102 rfl rfl)
theorem in_X9_dropKept : Cond.initialized yX9_dropKept.cls ∈ wsA := (inA1 5 rfl rfl)
theorem iv_X9_dropKept : Cond.instanceMethod yX9_dropKept ∈ wsA ∧ Cond.selects yX9_dropKept.cls yX9_dropKept yX9_dropKept ∈ wsA := ⟨(inA5 101 rfl rfl), (inQ 39 rfl rfl)⟩
theorem mk_X9_221 : MK RX9 221 yX9_dropKept cX9_dropKept 4 none 2 := ⟨(inA5 99 rfl rfl), in_X9_dropKept, cd_X9_dropKept, pn_X9_dropKept⟩
theorem fk_X9_224 : FK RX9 224 10 15 false (.int) := ⟨RX9, TX9, 62, tyX9, "WatchServerModel", ci_X9, by decide, (inA4 98 rfl rfl), Or.inl rfl, rfl, rfl⟩
theorem pn_X9_removeSub : yX9_removeSub.cls ≠ "java/lang/invoke/MethodHandle" ∧ yX9_removeSub.cls ≠ "java/lang/invoke/VarHandle" ∧ (parseMethodDescriptor yX9_removeSub.desc).map (fun d => d.parameters.length) = some 1 := by decide +kernel
theorem cd_X9_removeSub : Cond.code yX9_removeSub cX9_removeSub 3 none ∈ wsA := (inA5 98 rfl rfl)
theorem in_X9_removeSub : Cond.initialized yX9_removeSub.cls ∈ wsA := (inA1 5 rfl rfl)
theorem iv_X9_removeSub : Cond.instanceMethod yX9_removeSub ∈ wsA ∧ Cond.selects yX9_removeSub.cls yX9_removeSub yX9_removeSub ∈ wsA := ⟨(inA5 97 rfl rfl), (inQ 38 rfl rfl)⟩
theorem mk_X9_227 : MK RX9 227 yX9_removeSub cX9_removeSub 3 none 1 := ⟨(inA5 95 rfl rfl), in_X9_removeSub, cd_X9_removeSub, pn_X9_removeSub⟩
theorem fk_X9_230 : FK RX9 230 10 30 false (.int) := ⟨RX9, TX9, 62, tyX9, "WatchServerModel", ci_X9, by decide, (inA4 113 rfl rfl), Or.inl rfl, rfl, rfl⟩
theorem pn_X9_mayMake : yX9_mayMake.cls ≠ "java/lang/invoke/MethodHandle" ∧ yX9_mayMake.cls ≠ "java/lang/invoke/VarHandle" ∧ (parseMethodDescriptor yX9_mayMake.desc).map (fun d => d.parameters.length) = some 1 := by decide +kernel
theorem cd_X9_mayMake : Cond.code yX9_mayMake cX9_mayMake 2 (some .boolean) ∈ wsA := (inA5 90 rfl rfl)
theorem in_X9_mayMake : Cond.initialized yX9_mayMake.cls ∈ wsA := (inA1 5 rfl rfl)
theorem iv_X9_mayMake : Cond.instanceMethod yX9_mayMake ∈ wsA ∧ Cond.selects yX9_mayMake.cls yX9_mayMake yX9_mayMake ∈ wsA := ⟨(inA5 89 rfl rfl), (inQ 36 rfl rfl)⟩
theorem mk_X9_233 : MK RX9 233 yX9_mayMake cX9_mayMake 2 (some .boolean) 1 := ⟨(inA5 87 rfl rfl), in_X9_mayMake, cd_X9_mayMake, pn_X9_mayMake⟩
theorem pn_X9_isShort : yX9_isShort.cls ≠ "java/lang/invoke/MethodHandle" ∧ yX9_isShort.cls ≠ "java/lang/invoke/VarHandle" ∧ (parseMethodDescriptor yX9_isShort.desc).map (fun d => d.parameters.length) = some 1 := by decide +kernel
theorem cd_X9_isShort : Cond.code yX9_isShort cX9_isShort 2 none ∈ wsA := (inA5 94 rfl rfl)
theorem in_X9_isShort : Cond.initialized yX9_isShort.cls ∈ wsA := (inA1 5 rfl rfl)
theorem iv_X9_isShort : Cond.instanceMethod yX9_isShort ∈ wsA ∧ Cond.selects yX9_isShort.cls yX9_isShort yX9_isShort ∈ wsA := ⟨(inA5 93 rfl rfl), (inQ 37 rfl rfl)⟩
theorem mk_X9_236 : MK RX9 236 yX9_isShort cX9_isShort 2 none 1 := ⟨(inA5 91 rfl rfl), in_X9_isShort, cd_X9_isShort, pn_X9_isShort⟩
theorem pn_X9_make : yX9_make.cls ≠ "java/lang/invoke/MethodHandle" ∧ yX9_make.cls ≠ "java/lang/invoke/VarHandle" ∧ (parseMethodDescriptor yX9_make.desc).map (fun d => d.parameters.length) = some 1 := by decide +kernel
theorem cd_X9_make : Cond.code yX9_make cX9_make 8 none ∈ wsA := (inA5 106 rfl rfl)
theorem in_X9_make : Cond.initialized yX9_make.cls ∈ wsA := (inA1 5 rfl rfl)
theorem iv_X9_make : Cond.instanceMethod yX9_make ∈ wsA ∧ Cond.selects yX9_make.cls yX9_make yX9_make ∈ wsA := ⟨(inA5 105 rfl rfl), (inQ 40 rfl rfl)⟩
theorem mk_X9_239 : MK RX9 239 yX9_make cX9_make 8 none 1 := ⟨(inA5 103 rfl rfl), in_X9_make, cd_X9_make, pn_X9_make⟩
theorem pn_X9_sample : yX9_sample.cls ≠ "java/lang/invoke/MethodHandle" ∧ yX9_sample.cls ≠ "java/lang/invoke/VarHandle" ∧ (parseMethodDescriptor yX9_sample.desc).map (fun d => d.parameters.length) = some 1 := by decide +kernel
theorem cd_X9_sample : Cond.code yX9_sample cX9_sample 8 none ∈ wsA := (inA5 74 rfl rfl)
theorem in_X9_sample : Cond.initialized yX9_sample.cls ∈ wsA := (inA1 5 rfl rfl)
theorem iv_X9_sample : Cond.instanceMethod yX9_sample ∈ wsA ∧ Cond.selects yX9_sample.cls yX9_sample yX9_sample ∈ wsA := ⟨(inA5 73 rfl rfl), (inQ 32 rfl rfl)⟩
theorem mk_X9_242 : MK RX9 242 yX9_sample cX9_sample 8 none 1 := ⟨(inA5 71 rfl rfl), in_X9_sample, cd_X9_sample, pn_X9_sample⟩
theorem pn_X9_cycle : yX9_cycle.cls ≠ "java/lang/invoke/MethodHandle" ∧ yX9_cycle.cls ≠ "java/lang/invoke/VarHandle" ∧ (parseMethodDescriptor yX9_cycle.desc).map (fun d => d.parameters.length) = some 1 := by decide +kernel
theorem cd_X9_cycle : Cond.code yX9_cycle cX9_cycle 3 none ∈ wsA := (inA5 82 rfl rfl)
theorem in_X9_cycle : Cond.initialized yX9_cycle.cls ∈ wsA := (inA1 5 rfl rfl)
theorem iv_X9_cycle : Cond.instanceMethod yX9_cycle ∈ wsA ∧ Cond.selects yX9_cycle.cls yX9_cycle yX9_cycle ∈ wsA := ⟨(inA5 81 rfl rfl), (inQ 34 rfl rfl)⟩
theorem mk_X9_245 : MK RX9 245 yX9_cycle cX9_cycle 3 none 1 := ⟨(inA5 79 rfl rfl), in_X9_cycle, cd_X9_cycle, pn_X9_cycle⟩
theorem fk_X9_248 : FK RX9 248 10 8 false (.int) := ⟨RX9, TX9, 62, tyX9, "WatchServerModel", ci_X9, by decide, (inA4 91 rfl rfl), Or.inl rfl, rfl, rfl⟩
theorem pn_X9_shut : yX9_shut.cls ≠ "java/lang/invoke/MethodHandle" ∧ yX9_shut.cls ≠ "java/lang/invoke/VarHandle" ∧ (parseMethodDescriptor yX9_shut.desc).map (fun d => d.parameters.length) = some 1 := by decide +kernel
theorem cd_X9_shut : Cond.code yX9_shut cX9_shut 4 (some .int) ∈ wsA := (inA5 122 rfl rfl)
theorem in_X9_shut : Cond.initialized yX9_shut.cls ∈ wsA := (inA1 5 rfl rfl)
theorem iv_X9_shut : Cond.instanceMethod yX9_shut ∈ wsA ∧ Cond.selects yX9_shut.cls yX9_shut yX9_shut ∈ wsA := ⟨(inA5 121 rfl rfl), (inQ 44 rfl rfl)⟩
theorem mk_X9_251 : MK RX9 251 yX9_shut cX9_shut 4 (some .int) 1 := ⟨(inA5 119 rfl rfl), in_X9_shut, cd_X9_shut, pn_X9_shut⟩
theorem kc_X9_254 : Cond.constantLong RX9 254 (1000 : Int64) ∈ wsA := (inA5 65 rfl rfl)
theorem kc_X9_256 : Cond.constant RX9 256 (100000 : Int32) ∈ wsA := (inA5 66 rfl rfl)
theorem pn_X9_step : yX9_step.cls ≠ "java/lang/invoke/MethodHandle" ∧ yX9_step.cls ≠ "java/lang/invoke/VarHandle" ∧ (parseMethodDescriptor yX9_step.desc).map (fun d => d.parameters.length) = some 0 := by decide +kernel
theorem cd_X9_step : Cond.code yX9_step cX9_step 3 none ∈ wsA := (inA5 70 rfl rfl)
theorem in_X9_step : Cond.initialized yX9_step.cls ∈ wsA := (inA1 5 rfl rfl)
theorem iv_X9_step : Cond.instanceMethod yX9_step ∈ wsA ∧ Cond.selects yX9_step.cls yX9_step yX9_step ∈ wsA := ⟨(inA5 69 rfl rfl), (inQ 31 rfl rfl)⟩
theorem mk_X9_257 : MK RX9 257 yX9_step cX9_step 3 none 0 := ⟨(inA5 67 rfl rfl), in_X9_step, cd_X9_step, pn_X9_step⟩
theorem pn_X9_lacks : yX9_lacks.cls ≠ "java/lang/invoke/MethodHandle" ∧ yX9_lacks.cls ≠ "java/lang/invoke/VarHandle" ∧ (parseMethodDescriptor yX9_lacks.desc).map (fun d => d.parameters.length) = some 1 := by decide +kernel
theorem cd_X9_lacks : Cond.code yX9_lacks cX9_lacks 2 (some .int) ∈ wsA := (inA5 138 rfl rfl)
theorem in_X9_lacks : Cond.initialized yX9_lacks.cls ∈ wsA := (inA1 5 rfl rfl)
theorem iv_X9_lacks : Cond.instanceMethod yX9_lacks ∈ wsA ∧ Cond.selects yX9_lacks.cls yX9_lacks yX9_lacks ∈ wsA := ⟨(inA5 137 rfl rfl), (inQ 45 rfl rfl)⟩
theorem mk_X9_260 : MK RX9 260 yX9_lacks cX9_lacks 2 (some .int) 1 := ⟨(inA5 135 rfl rfl), in_X9_lacks, cd_X9_lacks, pn_X9_lacks⟩
theorem fk_X9_263 : FK RX9 263 10 59 false (.long) := ⟨RX9, TX9, 62, tyX9, "WatchServerModel", ci_X9, by decide, (inA4 142 rfl rfl), Or.inl rfl, rfl, rfl⟩
theorem kc_X9_267 : Cond.constantLong RX9 267 (100 : Int64) ∈ wsA := (inA5 162 rfl rfl)
theorem kc_X9_269 : Cond.constantLong RX9 269 (20 : Int64) ∈ wsA := (inA5 163 rfl rfl)
theorem kc_X9_271 : Cond.constantLong RX9 271 (3 : Int64) ∈ wsA := (inA5 164 rfl rfl)
theorem kc_X9_273 : Cond.constantLong RX9 273 (10 : Int64) ∈ wsA := (inA5 165 rfl rfl)
theorem pn_X9_areRight : yX9_areRight.cls ≠ "java/lang/invoke/MethodHandle" ∧ yX9_areRight.cls ≠ "java/lang/invoke/VarHandle" ∧ (parseMethodDescriptor yX9_areRight.desc).map (fun d => d.parameters.length) = some 4 := by decide +kernel
theorem cd_X9_areRight : Cond.code yX9_areRight cX9_areRight 4 (some .boolean) ∈ wsA := (inA5 161 rfl rfl)
theorem in_X9_areRight : Cond.initialized yX9_areRight.cls ∈ wsA := (inA1 5 rfl rfl)
theorem st_X9_areRight : Cond.static yX9_areRight ∈ wsA := (inA5 160 rfl rfl)
theorem mk_X9_275 : MK RX9 275 yX9_areRight cX9_areRight 4 (some .boolean) 4 := ⟨(inA5 159 rfl rfl), in_X9_areRight, cd_X9_areRight, pn_X9_areRight⟩
theorem pn_X9_set : yX9_set.cls ≠ "java/lang/invoke/MethodHandle" ∧ yX9_set.cls ≠ "java/lang/invoke/VarHandle" ∧ (parseMethodDescriptor yX9_set.desc).map (fun d => d.parameters.length) = some 5 := by decide +kernel
theorem cd_X9_set : Cond.code yX9_set cX9_set 6 none ∈ wsA := (inA5 169 rfl rfl)
theorem in_X9_set : Cond.initialized yX9_set.cls ∈ wsA := (inA1 5 rfl rfl)
theorem iv_X9_set : Cond.instanceMethod yX9_set ∈ wsA ∧ Cond.selects yX9_set.cls yX9_set yX9_set ∈ wsA := ⟨(inA5 168 rfl rfl), (inQ 46 rfl rfl)⟩
theorem mk_X9_279 : MK RX9 279 yX9_set cX9_set 6 none 5 := ⟨(inA5 166 rfl rfl), in_X9_set, cd_X9_set, pn_X9_set⟩
theorem pn_X9_lacksSub : yX9_lacksSub.cls ≠ "java/lang/invoke/MethodHandle" ∧ yX9_lacksSub.cls ≠ "java/lang/invoke/VarHandle" ∧ (parseMethodDescriptor yX9_lacksSub.desc).map (fun d => d.parameters.length) = some 2 := by decide +kernel
theorem cd_X9_lacksSub : Cond.code yX9_lacksSub cX9_lacksSub 4 (some .int) ∈ wsA := (inA5 177 rfl rfl)
theorem in_X9_lacksSub : Cond.initialized yX9_lacksSub.cls ∈ wsA := (inA1 5 rfl rfl)
theorem iv_X9_lacksSub : Cond.instanceMethod yX9_lacksSub ∈ wsA ∧ Cond.selects yX9_lacksSub.cls yX9_lacksSub yX9_lacksSub ∈ wsA := ⟨(inA5 176 rfl rfl), (inQ 47 rfl rfl)⟩
theorem mk_X9_283 : MK RX9 283 yX9_lacksSub cX9_lacksSub 4 (some .int) 2 := ⟨(inA5 174 rfl rfl), in_X9_lacksSub, cd_X9_lacksSub, pn_X9_lacksSub⟩
theorem kc_X9_287 : Cond.constantLong RX9 287 (8 : Int64) ∈ wsA := (inA5 194 rfl rfl)
theorem pn_X9_lacksItem : yX9_lacksItem.cls ≠ "java/lang/invoke/MethodHandle" ∧ yX9_lacksItem.cls ≠ "java/lang/invoke/VarHandle" ∧ (parseMethodDescriptor yX9_lacksItem.desc).map (fun d => d.parameters.length) = some 2 := by decide +kernel
theorem cd_X9_lacksItem : Cond.code yX9_lacksItem cX9_lacksItem 4 (some .int) ∈ wsA := (inA5 202 rfl rfl)
theorem in_X9_lacksItem : Cond.initialized yX9_lacksItem.cls ∈ wsA := (inA1 5 rfl rfl)
theorem iv_X9_lacksItem : Cond.instanceMethod yX9_lacksItem ∈ wsA ∧ Cond.selects yX9_lacksItem.cls yX9_lacksItem yX9_lacksItem ∈ wsA := ⟨(inA5 201 rfl rfl), (inQ 48 rfl rfl)⟩
theorem mk_X9_289 : MK RX9 289 yX9_lacksItem cX9_lacksItem 4 (some .int) 2 := ⟨(inA5 199 rfl rfl), in_X9_lacksItem, cd_X9_lacksItem, pn_X9_lacksItem⟩
theorem pn_X9_findKept : yX9_findKept.cls ≠ "java/lang/invoke/MethodHandle" ∧ yX9_findKept.cls ≠ "java/lang/invoke/VarHandle" ∧ (parseMethodDescriptor yX9_findKept.desc).map (fun d => d.parameters.length) = some 2 := by decide +kernel
theorem cd_X9_findKept : Cond.code yX9_findKept cX9_findKept 4 (some .int) ∈ wsA := (inA5 218 rfl rfl)
theorem in_X9_findKept : Cond.initialized yX9_findKept.cls ∈ wsA := (inA1 5 rfl rfl)
theorem iv_X9_findKept : Cond.instanceMethod yX9_findKept ∈ wsA ∧ Cond.selects yX9_findKept.cls yX9_findKept yX9_findKept ∈ wsA := ⟨(inA5 217 rfl rfl), (inQ 50 rfl rfl)⟩
theorem mk_X9_292 : MK RX9 292 yX9_findKept cX9_findKept 4 (some .int) 2 := ⟨(inA5 215 rfl rfl), in_X9_findKept, cd_X9_findKept, pn_X9_findKept⟩
theorem pn_X9_acknowledge : yX9_acknowledge.cls ≠ "java/lang/invoke/MethodHandle" ∧ yX9_acknowledge.cls ≠ "java/lang/invoke/VarHandle" ∧ (parseMethodDescriptor yX9_acknowledge.desc).map (fun d => d.parameters.length) = some 3 := by decide +kernel
theorem cd_X9_acknowledge : Cond.code yX9_acknowledge cX9_acknowledge 5 (some .int) ∈ wsA := (inA5 214 rfl rfl)
theorem in_X9_acknowledge : Cond.initialized yX9_acknowledge.cls ∈ wsA := (inA1 5 rfl rfl)
theorem iv_X9_acknowledge : Cond.instanceMethod yX9_acknowledge ∈ wsA ∧ Cond.selects yX9_acknowledge.cls yX9_acknowledge yX9_acknowledge ∈ wsA := ⟨(inA5 213 rfl rfl), (inQ 49 rfl rfl)⟩
theorem mk_X9_295 : MK RX9 295 yX9_acknowledge cX9_acknowledge 5 (some .int) 3 := ⟨(inA5 211 rfl rfl), in_X9_acknowledge, cd_X9_acknowledge, pn_X9_acknowledge⟩
theorem fk_X9_299 : FK RX9 299 10 60 false (.int) := ⟨RX9, TX9, 62, tyX9, "WatchServerModel", ci_X9, by decide, (inA4 143 rfl rfl), Or.inl rfl, rfl, rfl⟩
theorem kc_X9_302 : Cond.constantLong RX9 302 (-9 : Int64) ∈ wsA := (inA5 239 rfl rfl)
theorem kc_X9_304 : Cond.constantLong RX9 304 (11 : Int64) ∈ wsA := (inA6 16 rfl rfl)
theorem kc_X9_306 : Cond.constantLong RX9 306 (19 : Int64) ∈ wsA := (inA6 17 rfl rfl)
theorem ob_i : Cond.instanceMethod Lib.objectInit ∈ wsA := (inA1 26 rfl rfl)
theorem ob_c : Cond.code Lib.objectInit ⟨#[0xb1]⟩ 1 none ∈ wsA := (inA1 27 rfl rfl)
theorem ar_int : Cond.arrayClass .int ∈ wsA := (inA1 88 rfl rfl)
theorem ar_long : Cond.arrayClass .long ∈ wsA := (inA5 30 rfl rfl)
theorem ar_boolean : Cond.arrayClass .boolean ∈ wsA := (inA5 31 rfl rfl)
theorem cw_X0 : vwCl[1]? = some (RX0, TX0, 4) := rfl
