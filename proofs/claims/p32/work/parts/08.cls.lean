/-! ===== fields and arrays ===== -/
theorem lw_good_of {w : Cond} (h : w ∈ lw_tbl) (hg : goodWord w = true) : w ∈ lw_good := List.mem_filter.mpr ⟨h, hg⟩
theorem lw_at {i : Nat} {w : Cond} (h : lw_tbl[i]? = some w) (hg : goodWord w = true) : w ∈ lw_good := lw_good_of (List.mem_of_getElem? h) hg
/-- what a type says of the values that a field of it takes -/
def qTyOk (t : Nat) (ty : FieldType) : Bool := match t, ty with
  | 0, .int => true
  | 1, .boolean => true
  | 3, .object _ => true
  | 3, .array _ => true
  | _, _ => false
def qClsOk (ci : Nat) (q : vw_C) (ty0 : Nat → FieldType) : Prop := (∀ w ∈ u_ws q.1 q.2.1 q.2.2, w ∈ lw_good) ∧ qNf ci = q.2.2 ∧ (∀ k, k < q.2.2 → parseFieldDescriptor (q.2.1 k).2.2.1 = some (ty0 k)) ∧ (∀ a, a < q.2.2 → ∀ b, b < q.2.2 → a ≠ b → (q.2.1 a).2.1 ≠ (q.2.1 b).2.1) ∧ ∀ k, k < q.2.2 → qTyOk (qFt ci k) (ty0 k) = true
theorem qCls_0 : qClsOk 0 (RX0, TX0, 6) tyX0 := ⟨fun w h => lw_good_of ((by decide +kernel : ∀ w ∈ u_ws RX0 TX0 6, w ∈ lw_tbl) w h) ((by decide +kernel : ∀ w ∈ u_ws RX0 TX0 6, goodWord w = true) w h), by decide +kernel, tyX0_ok, nmX0, by decide +kernel⟩
theorem qCls_1 : qClsOk 1 (RX1, TX1, 15) tyX1 := ⟨fun w h => lw_good_of ((by decide +kernel : ∀ w ∈ u_ws RX1 TX1 15, w ∈ lw_tbl) w h) ((by decide +kernel : ∀ w ∈ u_ws RX1 TX1 15, goodWord w = true) w h), by decide +kernel, tyX1_ok, nmX1, by decide +kernel⟩
theorem qCls_2 : qClsOk 2 (RX2, TX2, 15) tyX2 := ⟨fun w h => lw_good_of ((by decide +kernel : ∀ w ∈ u_ws RX2 TX2 15, w ∈ lw_tbl) w h) ((by decide +kernel : ∀ w ∈ u_ws RX2 TX2 15, goodWord w = true) w h), by decide +kernel, tyX2_ok, nmX2, by decide +kernel⟩
theorem qCls_3 : qClsOk 3 (RX3, TX3, 4) tyX3 := ⟨fun w h => lw_good_of ((by decide +kernel : ∀ w ∈ u_ws RX3 TX3 4, w ∈ lw_tbl) w h) ((by decide +kernel : ∀ w ∈ u_ws RX3 TX3 4, goodWord w = true) w h), by decide +kernel, tyX3_ok, nmX3, by decide +kernel⟩
theorem qCls_4 : qClsOk 4 (RX4, TX4, 9) tyX4 := ⟨fun w h => lw_good_of ((by decide +kernel : ∀ w ∈ u_ws RX4 TX4 9, w ∈ lw_tbl) w h) ((by decide +kernel : ∀ w ∈ u_ws RX4 TX4 9, goodWord w = true) w h), by decide +kernel, tyX4_ok, nmX4, by decide +kernel⟩
theorem qCls_5 : qClsOk 5 (RX5, TX5, 5) tyX5 := ⟨fun w h => lw_good_of ((by decide +kernel : ∀ w ∈ u_ws RX5 TX5 5, w ∈ lw_tbl) w h) ((by decide +kernel : ∀ w ∈ u_ws RX5 TX5 5, goodWord w = true) w h), by decide +kernel, tyX5_ok, nmX5, by decide +kernel⟩
theorem qCls_6 : qClsOk 6 (RX6, TX6, 3) tyX6 := ⟨fun w h => lw_good_of ((by decide +kernel : ∀ w ∈ u_ws RX6 TX6 3, w ∈ lw_tbl) w h) ((by decide +kernel : ∀ w ∈ u_ws RX6 TX6 3, goodWord w = true) w h), by decide +kernel, tyX6_ok, nmX6, by decide +kernel⟩
theorem qCls_7 : qClsOk 7 (RX7, TX7, 2) tyX7 := ⟨fun w h => lw_good_of ((by decide +kernel : ∀ w ∈ u_ws RX7 TX7 2, w ∈ lw_tbl) w h) ((by decide +kernel : ∀ w ∈ u_ws RX7 TX7 2, goodWord w = true) w h), by decide +kernel, tyX7_ok, nmX7, by decide +kernel⟩
theorem qCls_8 : qClsOk 8 (RX8, TX8, 2) tyX8 := ⟨fun w h => lw_good_of ((by decide +kernel : ∀ w ∈ u_ws RX8 TX8 2, w ∈ lw_tbl) w h) ((by decide +kernel : ∀ w ∈ u_ws RX8 TX8 2, goodWord w = true) w h), by decide +kernel, tyX8_ok, nmX8, by decide +kernel⟩
theorem qCls_9 : qClsOk 9 (RX9, TX9, 6) tyX9 := ⟨fun w h => lw_good_of ((by decide +kernel : ∀ w ∈ u_ws RX9 TX9 6, w ∈ lw_tbl) w h) ((by decide +kernel : ∀ w ∈ u_ws RX9 TX9 6, goodWord w = true) w h), by decide +kernel, tyX9_ok, nmX9, by decide +kernel⟩
theorem qCls_10 : qClsOk 10 (RX10, TX10, 3) tyX10 := ⟨fun w h => lw_good_of ((by decide +kernel : ∀ w ∈ u_ws RX10 TX10 3, w ∈ lw_tbl) w h) ((by decide +kernel : ∀ w ∈ u_ws RX10 TX10 3, goodWord w = true) w h), by decide +kernel, tyX10_ok, nmX10, by decide +kernel⟩
theorem qCls_11 : qClsOk 11 (RX11, TX11, 12) tyX11 := ⟨fun w h => lw_good_of ((by decide +kernel : ∀ w ∈ u_ws RX11 TX11 12, w ∈ lw_tbl) w h) ((by decide +kernel : ∀ w ∈ u_ws RX11 TX11 12, goodWord w = true) w h), by decide +kernel, tyX11_ok, nmX11, by decide +kernel⟩
theorem qCls_12 : qClsOk 12 (RX12, TX12, 74) tyX12 := ⟨fun w h => lw_good_of ((by decide +kernel : ∀ w ∈ u_ws RX12 TX12 74, w ∈ lw_tbl) w h) ((by decide +kernel : ∀ w ∈ u_ws RX12 TX12 74, goodWord w = true) w h), by decide +kernel, tyX12_ok, nmX12, by decide +kernel⟩
theorem qCls {ci : Nat} {q : vw_C} (h : vwCl[ci]? = some q) : ∃ ty0 : Nat → FieldType, qClsOk ci q ty0 := by
  match ci, h with
  | 0, h => cases h; exact ⟨tyX0, qCls_0⟩
  | 1, h => cases h; exact ⟨tyX1, qCls_1⟩
  | 2, h => cases h; exact ⟨tyX2, qCls_2⟩
  | 3, h => cases h; exact ⟨tyX3, qCls_3⟩
  | 4, h => cases h; exact ⟨tyX4, qCls_4⟩
  | 5, h => cases h; exact ⟨tyX5, qCls_5⟩
  | 6, h => cases h; exact ⟨tyX6, qCls_6⟩
  | 7, h => cases h; exact ⟨tyX7, qCls_7⟩
  | 8, h => cases h; exact ⟨tyX8, qCls_8⟩
  | 9, h => cases h; exact ⟨tyX9, qCls_9⟩
  | 10, h => cases h; exact ⟨tyX10, qCls_10⟩
  | 11, h => cases h; exact ⟨tyX11, qCls_11⟩
  | 12, h => cases h; exact ⟨tyX12, qCls_12⟩
  | n + 13, h => simp [vwCl] at h
