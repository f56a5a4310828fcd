/-- the type of a class's field, by numbers; how many there are -/
def qty (c k : Nat) : FieldType := match c with
  | 0 => tyX0 k | 1 => tyX1 k | 2 => tyX2 k | 3 => tyX3 k | 4 => tyX4 k | 5 => tyX5 k | _ => tyX6 k
def qnf (c : Nat) : Nat := match c with
  | 0 => 5 | 1 => 4 | 2 => 3 | 3 => 4 | 4 => 13 | 5 => 11 | _ => 13
/-- a class, by its number -/
def qCok (ci : Nat) (C : String) (T : u_T) (N : Nat) : Prop := vwCl[ci]? = some (C, T, N) ∧ N = qnf ci ∧ (∀ w ∈ u_ws C T N, w ∈ qtb) ∧ (∀ k, k < N → parseFieldDescriptor (T k).2.2.1 = some (qty ci k)) ∧ (∀ a, a < N → ∀ b, b < N → a ≠ b → (T a).2.1 ≠ (T b).2.1)
theorem q_inl {ws : List Cond} {is : List Nat} (h : ws.map some = is.map (fun i => lw_tbl[i]?)) (hg : ws.all goodWord = true) : ∀ w ∈ ws, w ∈ qtb := by
  intro w hw
  have h1 : some w ∈ ws.map some := List.mem_map.mpr ⟨w, hw, rfl⟩
  rw [h] at h1
  obtain ⟨i, -, hi⟩ := List.mem_map.mp h1
  exact qtb_in i hi (List.all_eq_true.mp hg w hw)
theorem cu_0 : ∀ w ∈ u_ws RX0 TX0 5, w ∈ qtb := by
  have h : (u_ws RX0 TX0 5).map some = [181, 183, 185, 187, 189].map (fun i => lw_tbl[i]?) := by decide +kernel
  have hg : (u_ws RX0 TX0 5).all goodWord = true := by decide +kernel
  exact fun w hw => q_inl h hg w hw
theorem ck_0 : qCok 0 RX0 TX0 5 := ⟨rfl, rfl, cu_0, tyX0_ok, nmX0⟩
theorem cu_1 : ∀ w ∈ u_ws RX1 TX1 4, w ∈ qtb := by
  have h : (u_ws RX1 TX1 4).map some = [162, 164, 166, 168].map (fun i => lw_tbl[i]?) := by decide +kernel
  have hg : (u_ws RX1 TX1 4).all goodWord = true := by decide +kernel
  exact fun w hw => q_inl h hg w hw
theorem ck_1 : qCok 1 RX1 TX1 4 := ⟨rfl, rfl, cu_1, tyX1_ok, nmX1⟩
theorem cu_2 : ∀ w ∈ u_ws RX2 TX2 3, w ∈ qtb := by
  have h : (u_ws RX2 TX2 3).map some = [203, 205, 207].map (fun i => lw_tbl[i]?) := by decide +kernel
  have hg : (u_ws RX2 TX2 3).all goodWord = true := by decide +kernel
  exact fun w hw => q_inl h hg w hw
theorem ck_2 : qCok 2 RX2 TX2 3 := ⟨rfl, rfl, cu_2, tyX2_ok, nmX2⟩
theorem cu_3 : ∀ w ∈ u_ws RX3 TX3 4, w ∈ qtb := by
  have h : (u_ws RX3 TX3 4).map some = [223, 225, 227, 229].map (fun i => lw_tbl[i]?) := by decide +kernel
  have hg : (u_ws RX3 TX3 4).all goodWord = true := by decide +kernel
  exact fun w hw => q_inl h hg w hw
theorem ck_3 : qCok 3 RX3 TX3 4 := ⟨rfl, rfl, cu_3, tyX3_ok, nmX3⟩
theorem cu_4 : ∀ w ∈ u_ws RX4 TX4 13, w ∈ qtb := by
  have h : (u_ws RX4 TX4 13).map some = [126, 128, 130, 132, 134, 136, 138, 140, 142, 144, 146, 148, 150].map (fun i => lw_tbl[i]?) := by decide +kernel
  have hg : (u_ws RX4 TX4 13).all goodWord = true := by decide +kernel
  exact fun w hw => q_inl h hg w hw
theorem ck_4 : qCok 4 RX4 TX4 13 := ⟨rfl, rfl, cu_4, tyX4_ok, nmX4⟩
theorem cu_5 : ∀ w ∈ u_ws RX5 TX5 11, w ∈ qtb := by
  have h : (u_ws RX5 TX5 11).map some = [71, 73, 75, 77, 79, 81, 83, 85, 87, 89, 91].map (fun i => lw_tbl[i]?) := by decide +kernel
  have hg : (u_ws RX5 TX5 11).all goodWord = true := by decide +kernel
  exact fun w hw => q_inl h hg w hw
theorem ck_5 : qCok 5 RX5 TX5 11 := ⟨rfl, rfl, cu_5, tyX5_ok, nmX5⟩
theorem cu_6 : ∀ w ∈ u_ws RX6 TX6 13, w ∈ qtb := by
  have h : (u_ws RX6 TX6 13).map some = [244, 246, 248, 250, 252, 254, 256, 258, 260, 262, 264, 266, 268].map (fun i => lw_tbl[i]?) := by decide +kernel
  have hg : (u_ws RX6 TX6 13).all goodWord = true := by decide +kernel
  exact fun w hw => q_inl h hg w hw
theorem ck_6 : qCok 6 RX6 TX6 13 := ⟨rfl, rfl, cu_6, tyX6_ok, nmX6⟩
