/-! each class's words are among the words -/
theorem mz_cl0 : ∀ w ∈ u_ws RX0 TX0 13, w ∈ mz_WS := by decide +kernel
theorem mz_cl1 : ∀ w ∈ u_ws RX1 TX1 18, w ∈ mz_WS := by decide +kernel
theorem mz_cl2 : ∀ w ∈ u_ws RX2 TX2 1, w ∈ mz_WS := by decide +kernel
theorem mz_cl3 : ∀ w ∈ u_ws RX3 TX3 7, w ∈ mz_WS := by decide +kernel
theorem mz_cl4 : ∀ w ∈ u_ws RX4 TX4 6, w ∈ mz_WS := by decide +kernel
theorem mz_cl5 : ∀ w ∈ u_ws RX5 TX5 6, w ∈ mz_WS := by decide +kernel
theorem mz_cl6 : ∀ w ∈ u_ws RX6 TX6 7, w ∈ mz_WS := by decide +kernel
theorem mz_cl7 : ∀ w ∈ u_ws RX7 TX7 3, w ∈ mz_WS := by decide +kernel
theorem mz_cl8 : ∀ w ∈ u_ws RX8 TX8 2, w ∈ mz_WS := by decide +kernel
theorem mz_cl9 : ∀ w ∈ u_ws RX9 TX9 3, w ∈ mz_WS := by decide +kernel
theorem mz_cl10 : ∀ w ∈ u_ws RX10 TX10 9, w ∈ mz_WS := by decide +kernel
theorem mz_cl11 : ∀ w ∈ u_ws RX11 TX11 32, w ∈ mz_WS := by decide +kernel
theorem mz_cl (ci : Nat) (C : String) (T : u_T) (N : Nat) (h : vwCl[ci]? = some (C, T, N)) : ∀ w ∈ u_ws C T N, w ∈ mz_WS := by
  match ci, h with
  | 0, h => cases h; exact mz_cl0
  | 1, h => cases h; exact mz_cl1
  | 2, h => cases h; exact mz_cl2
  | 3, h => cases h; exact mz_cl3
  | 4, h => cases h; exact mz_cl4
  | 5, h => cases h; exact mz_cl5
  | 6, h => cases h; exact mz_cl6
  | 7, h => cases h; exact mz_cl7
  | 8, h => cases h; exact mz_cl8
  | 9, h => cases h; exact mz_cl9
  | 10, h => cases h; exact mz_cl10
  | 11, h => cases h; exact mz_cl11
  | k + 12, h => simp [vwCl] at h
def mz_t0 (ci : Nat) : Nat → FieldType := match ci with
  | 0 => tyX0
  | 1 => tyX1
  | 2 => tyX2
  | 3 => tyX3
  | 4 => tyX4
  | 5 => tyX5
  | 6 => tyX6
  | 7 => tyX7
  | 8 => tyX8
  | 9 => tyX9
  | 10 => tyX10
  | 11 => tyX11
  | _ => fun _ => .int
theorem mz_tyok (ci : Nat) (C : String) (T : u_T) (N : Nat) (h : vwCl[ci]? = some (C, T, N)) : ∀ k, k < N → parseFieldDescriptor (T k).2.2.1 = some (mz_t0 ci k) := by
  match ci, h with
  | 0, h => cases h; exact tyX0_ok
  | 1, h => cases h; exact tyX1_ok
  | 2, h => cases h; exact tyX2_ok
  | 3, h => cases h; exact tyX3_ok
  | 4, h => cases h; exact tyX4_ok
  | 5, h => cases h; exact tyX5_ok
  | 6, h => cases h; exact tyX6_ok
  | 7, h => cases h; exact tyX7_ok
  | 8, h => cases h; exact tyX8_ok
  | 9, h => cases h; exact tyX9_ok
  | 10, h => cases h; exact tyX10_ok
  | 11, h => cases h; exact tyX11_ok
  | k + 12, h => simp [vwCl] at h
theorem mz_nmok (ci : Nat) (C : String) (T : u_T) (N : Nat) (h : vwCl[ci]? = some (C, T, N)) : ∀ a, a < N → ∀ b, b < N → a ≠ b → (T a).2.1 ≠ (T b).2.1 := by
  match ci, h with
  | 0, h => cases h; exact nmX0
  | 1, h => cases h; exact nmX1
  | 2, h => cases h; exact nmX2
  | 3, h => cases h; exact nmX3
  | 4, h => cases h; exact nmX4
  | 5, h => cases h; exact nmX5
  | 6, h => cases h; exact nmX6
  | 7, h => cases h; exact nmX7
  | 8, h => cases h; exact nmX8
  | 9, h => cases h; exact nmX9
  | 10, h => cases h; exact nmX10
  | 11, h => cases h; exact nmX11
  | k + 12, h => simp [vwCl] at h
theorem mz_dfok (ci : Nat) (C : String) (T : u_T) (N : Nat) (h : vwCl[ci]? = some (C, T, N)) : (mz_def ci).length = N ∧ ∀ j, j < N → defaultValue (mz_t0 ci j) = vp_V (mz_def ci) j := by
  match ci, h with
  | 0, h => cases h; exact ⟨rfl, by decide +kernel⟩
  | 1, h => cases h; exact ⟨rfl, by decide +kernel⟩
  | 2, h => cases h; exact ⟨rfl, by decide +kernel⟩
  | 3, h => cases h; exact ⟨rfl, by decide +kernel⟩
  | 4, h => cases h; exact ⟨rfl, by decide +kernel⟩
  | 5, h => cases h; exact ⟨rfl, by decide +kernel⟩
  | 6, h => cases h; exact ⟨rfl, by decide +kernel⟩
  | 7, h => cases h; exact ⟨rfl, by decide +kernel⟩
  | 8, h => cases h; exact ⟨rfl, by decide +kernel⟩
  | 9, h => cases h; exact ⟨rfl, by decide +kernel⟩
  | 10, h => cases h; exact ⟨rfl, by decide +kernel⟩
  | 11, h => cases h; exact ⟨rfl, by decide +kernel⟩
  | k + 12, h => simp [vwCl] at h
theorem mz_inst (ci : Nat) (C : String) (T : u_T) (N : Nat) (h : vwCl[ci]? = some (C, T, N)) : Cond.instantiable C N ∈ mz_WS ∧ Cond.initialized C ∈ mz_WS := by
  match ci, h with
  | 0, h => cases h; exact ⟨by decide +kernel, by decide +kernel⟩
  | 1, h => cases h; exact ⟨by decide +kernel, by decide +kernel⟩
  | 2, h => cases h; exact ⟨by decide +kernel, by decide +kernel⟩
  | 3, h => cases h; exact ⟨by decide +kernel, by decide +kernel⟩
  | 4, h => cases h; exact ⟨by decide +kernel, by decide +kernel⟩
  | 5, h => cases h; exact ⟨by decide +kernel, by decide +kernel⟩
  | 6, h => cases h; exact ⟨by decide +kernel, by decide +kernel⟩
  | 7, h => cases h; exact ⟨by decide +kernel, by decide +kernel⟩
  | 8, h => cases h; exact ⟨by decide +kernel, by decide +kernel⟩
  | 9, h => cases h; exact ⟨by decide +kernel, by decide +kernel⟩
  | 10, h => cases h; exact ⟨by decide +kernel, by decide +kernel⟩
  | 11, h => cases h; exact ⟨by decide +kernel, by decide +kernel⟩
  | k + 12, h => simp [vwCl] at h
theorem mz_ac_int : Cond.arrayClass .int ∈ mz_WS := by decide +kernel
theorem mz_ac_long : Cond.arrayClass .long ∈ mz_WS := by decide +kernel
theorem mz_ac_byte : Cond.arrayClass .byte ∈ mz_WS := by decide +kernel
theorem mz_ac_boolean : Cond.arrayClass .boolean ∈ mz_WS := by decide +kernel
theorem mz_oi : Cond.instanceMethod objectInit ∈ mz_WS ∧ Cond.code objectInit ⟨#[0xb1]⟩ 1 none ∈ mz_WS := by decide +kernel
theorem mz_cpw : Cond.native arraycopyName ∈ mz_WS ∧ Cond.static arraycopyName ∈ mz_WS ∧ Cond.initialized "java/lang/System" ∈ mz_WS := by decide +kernel
