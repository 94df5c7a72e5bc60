/-! PRINTED (lawnames.py): the words of the five throws -/
theorem tg_RX4_54 : ∀ w ∈ (vx_atS RX4 54 E_S nms).filter goodWord, w ∈ ab_G := by
  intro w hw
  have h : ((vx_atS RX4 54 E_S nms).filter goodWord).all (fun w => decide (w ∈ lw_tbl)) = true := by decide +kernel
  exact List.mem_filter.mpr ⟨of_decide_eq_true (List.all_eq_true.mp h w hw), (List.mem_filter.mp hw).2⟩
theorem tw_RX4_54 : ab_TW RX4 50 54 E_S := ⟨by decide +kernel, kl_RX4_50, ki_S, tg_RX4_54, by decide +kernel, by decide +kernel⟩
theorem tg_RX4_61 : ∀ w ∈ (vx_atS RX4 61 E_A nms).filter goodWord, w ∈ ab_G := by
  intro w hw
  have h : ((vx_atS RX4 61 E_A nms).filter goodWord).all (fun w => decide (w ∈ lw_tbl)) = true := by decide +kernel
  exact List.mem_filter.mpr ⟨of_decide_eq_true (List.all_eq_true.mp h w hw), (List.mem_filter.mp hw).2⟩
theorem tw_RX4_61 : ab_TW RX4 57 61 E_A := ⟨by decide +kernel, kl_RX4_57, ki_A, tg_RX4_61, by decide +kernel, by decide +kernel⟩
theorem tg_RX4_66 : ∀ w ∈ (vx_atS RX4 66 E_U nms).filter goodWord, w ∈ ab_G := by
  intro w hw
  have h : ((vx_atS RX4 66 E_U nms).filter goodWord).all (fun w => decide (w ∈ lw_tbl)) = true := by decide +kernel
  exact List.mem_filter.mpr ⟨of_decide_eq_true (List.all_eq_true.mp h w hw), (List.mem_filter.mp hw).2⟩
theorem tw_RX4_66 : ab_TW RX4 62 66 E_U := ⟨by decide +kernel, kl_RX4_62, ki_U, tg_RX4_66, by decide +kernel, by decide +kernel⟩
theorem tg_RX9_289 : ∀ w ∈ (vx_atS RX9 289 E_A nms).filter goodWord, w ∈ ab_G := by
  intro w hw
  have h : ((vx_atS RX9 289 E_A nms).filter goodWord).all (fun w => decide (w ∈ lw_tbl)) = true := by decide +kernel
  exact List.mem_filter.mpr ⟨of_decide_eq_true (List.all_eq_true.mp h w hw), (List.mem_filter.mp hw).2⟩
theorem tw_RX9_289 : ab_TW RX9 285 289 E_A := ⟨by decide +kernel, kl_RX9_285, ki_A, tg_RX9_289, by decide +kernel, by decide +kernel⟩
theorem tg_RX9_303 : ∀ w ∈ (vx_atS RX9 303 E_S nms).filter goodWord, w ∈ ab_G := by
  intro w hw
  have h : ((vx_atS RX9 303 E_S nms).filter goodWord).all (fun w => decide (w ∈ lw_tbl)) = true := by decide +kernel
  exact List.mem_filter.mpr ⟨of_decide_eq_true (List.all_eq_true.mp h w hw), (List.mem_filter.mp hw).2⟩
theorem tw_RX9_303 : ab_TW RX9 299 303 E_S := ⟨by decide +kernel, kl_RX9_299, ki_S, tg_RX9_303, by decide +kernel, by decide +kernel⟩
