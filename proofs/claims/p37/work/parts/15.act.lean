/-! any act: its refusal, what it does, what it answers -/
def k_ref (σ : zS) (kd w1 w2 w3 w4 : Int32) : Nat := if kd = 0 then r_X8_refusalOf_0 σ w1 w2 w3 w4 else if kd = 1 then r_X8_refusalOf_1 σ w1 w2 w3 w4 else if kd = 2 then r_X8_refusalOf_2 σ w1 w2 w3 w4 else if kd = 3 then r_X8_refusalOf_3 σ w1 w2 w3 w4 else if kd = 4 then r_X8_refusalOf_4 σ w1 w2 w3 w4 else if kd = 5 then r_X8_refusalOf_5 σ w1 w2 w3 w4 else if kd = 6 then r_X8_refusalOf_6 σ w1 w2 w3 w4 else if kd = 7 then r_X8_refusalOf_7 σ w1 w2 w3 w4 else if kd = 8 then r_X8_refusalOf_8 σ w1 w2 w3 w4 else if kd = 9 then r_X8_refusalOf_9 σ w1 w2 w3 w4 else if kd = 10 then r_X8_refusalOf_10 σ w1 w2 w3 w4 else if kd = 11 then r_X8_refusalOf_11 σ w1 w2 w3 w4 else if kd = 12 then r_X8_refusalOf_12 σ w1 w2 w3 w4 else if kd = 13 then r_X8_refusalOf_13 σ w1 w2 w3 w4 else if kd = 14 then r_X8_refusalOf_14 σ w1 w2 w3 w4 else if kd = 15 then r_X8_refusalOf_15 σ w1 w2 w3 w4 else if kd = 16 then r_X8_refusalOf_16 σ w1 w2 w3 w4 else if kd = 17 then r_X8_refusalOf_17 σ w1 w2 w3 w4 else if kd = 18 then r_X8_refusalOf_18 σ w1 w2 w3 w4 else if kd = 19 then r_X8_refusalOf_19 σ w1 w2 w3 w4 else 2
def k_pf (σ : zS) (kd w1 w2 w3 w4 : Int32) : zS := if kd = 0 then f_X5_perform_0 σ w1 w2 w3 w4 else if kd = 1 then f_X5_perform_1 σ w1 w2 w3 w4 else if kd = 2 then f_X5_perform_2 σ w1 w2 w3 w4 else if kd = 3 then f_X5_perform_3 σ w1 w2 w3 w4 else if kd = 4 then f_X5_perform_4 σ w1 w2 w3 w4 else if kd = 5 then f_X5_perform_5 σ w1 w2 w3 w4 else if kd = 6 then f_X5_perform_6 σ w1 w2 w3 w4 else if kd = 7 then f_X5_perform_7 σ w1 w2 w3 w4 else if kd = 8 then f_X5_perform_8 σ w1 w2 w3 w4 else if kd = 9 then f_X5_perform_9 σ w1 w2 w3 w4 else if kd = 10 then f_X5_perform_10 σ w1 w2 w3 w4 else if kd = 11 then f_X5_perform_11 σ w1 w2 w3 w4 else if kd = 12 then f_X5_perform_12 σ w1 w2 w3 w4 else if kd = 13 then f_X5_perform_13 σ w1 w2 w3 w4 else if kd = 14 then f_X5_perform_14 σ w1 w2 w3 w4 else if kd = 15 then f_X5_perform_15 σ w1 w2 w3 w4 else if kd = 16 then f_X5_perform_16 σ w1 w2 w3 w4 else if kd = 17 then f_X5_perform_17 σ w1 w2 w3 w4 else if kd = 18 then f_X5_perform_18 σ w1 w2 w3 w4 else if kd = 19 then f_X5_perform_19 σ w1 w2 w3 w4 else σ
def k_pr (σ : zS) (kd w1 w2 w3 w4 : Int32) : Int32 := if kd = 0 then r_X5_perform_0 σ w1 w2 w3 w4 else if kd = 1 then r_X5_perform_1 σ w1 w2 w3 w4 else if kd = 2 then r_X5_perform_2 σ w1 w2 w3 w4 else if kd = 3 then r_X5_perform_3 σ w1 w2 w3 w4 else if kd = 4 then r_X5_perform_4 σ w1 w2 w3 w4 else if kd = 5 then r_X5_perform_5 σ w1 w2 w3 w4 else if kd = 6 then r_X5_perform_6 σ w1 w2 w3 w4 else if kd = 7 then r_X5_perform_7 σ w1 w2 w3 w4 else if kd = 8 then r_X5_perform_8 σ w1 w2 w3 w4 else if kd = 9 then r_X5_perform_9 σ w1 w2 w3 w4 else if kd = 10 then r_X5_perform_10 σ w1 w2 w3 w4 else if kd = 11 then r_X5_perform_11 σ w1 w2 w3 w4 else if kd = 12 then r_X5_perform_12 σ w1 w2 w3 w4 else if kd = 13 then r_X5_perform_13 σ w1 w2 w3 w4 else if kd = 14 then r_X5_perform_14 σ w1 w2 w3 w4 else if kd = 15 then r_X5_perform_15 σ w1 w2 w3 w4 else if kd = 16 then r_X5_perform_16 σ w1 w2 w3 w4 else if kd = 17 then r_X5_perform_17 σ w1 w2 w3 w4 else if kd = 18 then r_X5_perform_18 σ w1 w2 w3 w4 else if kd = 19 then r_X5_perform_19 σ w1 w2 w3 w4 else 0
theorem k_ref_0 (σ : zS) (w1 w2 w3 w4 : Int32) : k_ref σ 0 w1 w2 w3 w4 = r_X8_refusalOf_0 σ w1 w2 w3 w4 := by rw [k_ref, if_pos rfl]
theorem k_pf_0 (σ : zS) (w1 w2 w3 w4 : Int32) : k_pf σ 0 w1 w2 w3 w4 = f_X5_perform_0 σ w1 w2 w3 w4 := by rw [k_pf, if_pos rfl]
theorem k_pr_0 (σ : zS) (w1 w2 w3 w4 : Int32) : k_pr σ 0 w1 w2 w3 w4 = r_X5_perform_0 σ w1 w2 w3 w4 := by rw [k_pr, if_pos rfl]
theorem k_ref_1 (σ : zS) (w1 w2 w3 w4 : Int32) : k_ref σ 1 w1 w2 w3 w4 = r_X8_refusalOf_1 σ w1 w2 w3 w4 := by rw [k_ref, if_neg (by decide), if_pos rfl]
theorem k_pf_1 (σ : zS) (w1 w2 w3 w4 : Int32) : k_pf σ 1 w1 w2 w3 w4 = f_X5_perform_1 σ w1 w2 w3 w4 := by rw [k_pf, if_neg (by decide), if_pos rfl]
theorem k_pr_1 (σ : zS) (w1 w2 w3 w4 : Int32) : k_pr σ 1 w1 w2 w3 w4 = r_X5_perform_1 σ w1 w2 w3 w4 := by rw [k_pr, if_neg (by decide), if_pos rfl]
theorem k_ref_2 (σ : zS) (w1 w2 w3 w4 : Int32) : k_ref σ 2 w1 w2 w3 w4 = r_X8_refusalOf_2 σ w1 w2 w3 w4 := by rw [k_ref, if_neg (by decide), if_neg (by decide), if_pos rfl]
theorem k_pf_2 (σ : zS) (w1 w2 w3 w4 : Int32) : k_pf σ 2 w1 w2 w3 w4 = f_X5_perform_2 σ w1 w2 w3 w4 := by rw [k_pf, if_neg (by decide), if_neg (by decide), if_pos rfl]
theorem k_pr_2 (σ : zS) (w1 w2 w3 w4 : Int32) : k_pr σ 2 w1 w2 w3 w4 = r_X5_perform_2 σ w1 w2 w3 w4 := by rw [k_pr, if_neg (by decide), if_neg (by decide), if_pos rfl]
theorem k_ref_3 (σ : zS) (w1 w2 w3 w4 : Int32) : k_ref σ 3 w1 w2 w3 w4 = r_X8_refusalOf_3 σ w1 w2 w3 w4 := by rw [k_ref, if_neg (by decide), if_neg (by decide), if_neg (by decide), if_pos rfl]
theorem k_pf_3 (σ : zS) (w1 w2 w3 w4 : Int32) : k_pf σ 3 w1 w2 w3 w4 = f_X5_perform_3 σ w1 w2 w3 w4 := by rw [k_pf, if_neg (by decide), if_neg (by decide), if_neg (by decide), if_pos rfl]
theorem k_pr_3 (σ : zS) (w1 w2 w3 w4 : Int32) : k_pr σ 3 w1 w2 w3 w4 = r_X5_perform_3 σ w1 w2 w3 w4 := by rw [k_pr, if_neg (by decide), if_neg (by decide), if_neg (by decide), if_pos rfl]
theorem k_ref_4 (σ : zS) (w1 w2 w3 w4 : Int32) : k_ref σ 4 w1 w2 w3 w4 = r_X8_refusalOf_4 σ w1 w2 w3 w4 := by rw [k_ref, if_neg (by decide), if_neg (by decide), if_neg (by decide), if_neg (by decide), if_pos rfl]
theorem k_pf_4 (σ : zS) (w1 w2 w3 w4 : Int32) : k_pf σ 4 w1 w2 w3 w4 = f_X5_perform_4 σ w1 w2 w3 w4 := by rw [k_pf, if_neg (by decide), if_neg (by decide), if_neg (by decide), if_neg (by decide), if_pos rfl]
theorem k_pr_4 (σ : zS) (w1 w2 w3 w4 : Int32) : k_pr σ 4 w1 w2 w3 w4 = r_X5_perform_4 σ w1 w2 w3 w4 := by rw [k_pr, if_neg (by decide), if_neg (by decide), if_neg (by decide), if_neg (by decide), if_pos rfl]
theorem k_ref_5 (σ : zS) (w1 w2 w3 w4 : Int32) : k_ref σ 5 w1 w2 w3 w4 = r_X8_refusalOf_5 σ w1 w2 w3 w4 := by rw [k_ref, if_neg (by decide), if_neg (by decide), if_neg (by decide), if_neg (by decide), if_neg (by decide), if_pos rfl]
theorem k_pf_5 (σ : zS) (w1 w2 w3 w4 : Int32) : k_pf σ 5 w1 w2 w3 w4 = f_X5_perform_5 σ w1 w2 w3 w4 := by rw [k_pf, if_neg (by decide), if_neg (by decide), if_neg (by decide), if_neg (by decide), if_neg (by decide), if_pos rfl]
theorem k_pr_5 (σ : zS) (w1 w2 w3 w4 : Int32) : k_pr σ 5 w1 w2 w3 w4 = r_X5_perform_5 σ w1 w2 w3 w4 := by rw [k_pr, if_neg (by decide), if_neg (by decide), if_neg (by decide), if_neg (by decide), if_neg (by decide), if_pos rfl]
theorem k_ref_6 (σ : zS) (w1 w2 w3 w4 : Int32) : k_ref σ 6 w1 w2 w3 w4 = r_X8_refusalOf_6 σ w1 w2 w3 w4 := by rw [k_ref, if_neg (by decide), if_neg (by decide), if_neg (by decide), if_neg (by decide), if_neg (by decide), if_neg (by decide), if_pos rfl]
theorem k_pf_6 (σ : zS) (w1 w2 w3 w4 : Int32) : k_pf σ 6 w1 w2 w3 w4 = f_X5_perform_6 σ w1 w2 w3 w4 := by rw [k_pf, if_neg (by decide), if_neg (by decide), if_neg (by decide), if_neg (by decide), if_neg (by decide), if_neg (by decide), if_pos rfl]
theorem k_pr_6 (σ : zS) (w1 w2 w3 w4 : Int32) : k_pr σ 6 w1 w2 w3 w4 = r_X5_perform_6 σ w1 w2 w3 w4 := by rw [k_pr, if_neg (by decide), if_neg (by decide), if_neg (by decide), if_neg (by decide), if_neg (by decide), if_neg (by decide), if_pos rfl]
theorem k_ref_7 (σ : zS) (w1 w2 w3 w4 : Int32) : k_ref σ 7 w1 w2 w3 w4 = r_X8_refusalOf_7 σ w1 w2 w3 w4 := by rw [k_ref, if_neg (by decide), if_neg (by decide), if_neg (by decide), if_neg (by decide), if_neg (by decide), if_neg (by decide), if_neg (by decide), if_pos rfl]
theorem k_pf_7 (σ : zS) (w1 w2 w3 w4 : Int32) : k_pf σ 7 w1 w2 w3 w4 = f_X5_perform_7 σ w1 w2 w3 w4 := by rw [k_pf, if_neg (by decide), if_neg (by decide), if_neg (by decide), if_neg (by decide), if_neg (by decide), if_neg (by decide), if_neg (by decide), if_pos rfl]
theorem k_pr_7 (σ : zS) (w1 w2 w3 w4 : Int32) : k_pr σ 7 w1 w2 w3 w4 = r_X5_perform_7 σ w1 w2 w3 w4 := by rw [k_pr, if_neg (by decide), if_neg (by decide), if_neg (by decide), if_neg (by decide), if_neg (by decide), if_neg (by decide), if_neg (by decide), if_pos rfl]
theorem k_ref_8 (σ : zS) (w1 w2 w3 w4 : Int32) : k_ref σ 8 w1 w2 w3 w4 = r_X8_refusalOf_8 σ w1 w2 w3 w4 := by rw [k_ref, if_neg (by decide), if_neg (by decide), if_neg (by decide), if_neg (by decide), if_neg (by decide), if_neg (by decide), if_neg (by decide), if_neg (by decide), if_pos rfl]
theorem k_pf_8 (σ : zS) (w1 w2 w3 w4 : Int32) : k_pf σ 8 w1 w2 w3 w4 = f_X5_perform_8 σ w1 w2 w3 w4 := by rw [k_pf, if_neg (by decide), if_neg (by decide), if_neg (by decide), if_neg (by decide), if_neg (by decide), if_neg (by decide), if_neg (by decide), if_neg (by decide), if_pos rfl]
theorem k_pr_8 (σ : zS) (w1 w2 w3 w4 : Int32) : k_pr σ 8 w1 w2 w3 w4 = r_X5_perform_8 σ w1 w2 w3 w4 := by rw [k_pr, if_neg (by decide), if_neg (by decide), if_neg (by decide), if_neg (by decide), if_neg (by decide), if_neg (by decide), if_neg (by decide), if_neg (by decide), if_pos rfl]
theorem k_ref_9 (σ : zS) (w1 w2 w3 w4 : Int32) : k_ref σ 9 w1 w2 w3 w4 = r_X8_refusalOf_9 σ w1 w2 w3 w4 := by rw [k_ref, if_neg (by decide), if_neg (by decide), if_neg (by decide), if_neg (by decide), if_neg (by decide), if_neg (by decide), if_neg (by decide), if_neg (by decide), if_neg (by decide), if_pos rfl]
theorem k_pf_9 (σ : zS) (w1 w2 w3 w4 : Int32) : k_pf σ 9 w1 w2 w3 w4 = f_X5_perform_9 σ w1 w2 w3 w4 := by rw [k_pf, if_neg (by decide), if_neg (by decide), if_neg (by decide), if_neg (by decide), if_neg (by decide), if_neg (by decide), if_neg (by decide), if_neg (by decide), if_neg (by decide), if_pos rfl]
theorem k_pr_9 (σ : zS) (w1 w2 w3 w4 : Int32) : k_pr σ 9 w1 w2 w3 w4 = r_X5_perform_9 σ w1 w2 w3 w4 := by rw [k_pr, if_neg (by decide), if_neg (by decide), if_neg (by decide), if_neg (by decide), if_neg (by decide), if_neg (by decide), if_neg (by decide), if_neg (by decide), if_neg (by decide), if_pos rfl]
theorem k_ref_10 (σ : zS) (w1 w2 w3 w4 : Int32) : k_ref σ 10 w1 w2 w3 w4 = r_X8_refusalOf_10 σ w1 w2 w3 w4 := by rw [k_ref, if_neg (by decide), if_neg (by decide), if_neg (by decide), if_neg (by decide), if_neg (by decide), if_neg (by decide), if_neg (by decide), if_neg (by decide), if_neg (by decide), if_neg (by decide), if_pos rfl]
theorem k_pf_10 (σ : zS) (w1 w2 w3 w4 : Int32) : k_pf σ 10 w1 w2 w3 w4 = f_X5_perform_10 σ w1 w2 w3 w4 := by rw [k_pf, if_neg (by decide), if_neg (by decide), if_neg (by decide), if_neg (by decide), if_neg (by decide), if_neg (by decide), if_neg (by decide), if_neg (by decide), if_neg (by decide), if_neg (by decide), if_pos rfl]
theorem k_pr_10 (σ : zS) (w1 w2 w3 w4 : Int32) : k_pr σ 10 w1 w2 w3 w4 = r_X5_perform_10 σ w1 w2 w3 w4 := by rw [k_pr, if_neg (by decide), if_neg (by decide), if_neg (by decide), if_neg (by decide), if_neg (by decide), if_neg (by decide), if_neg (by decide), if_neg (by decide), if_neg (by decide), if_neg (by decide), if_pos rfl]
theorem k_ref_11 (σ : zS) (w1 w2 w3 w4 : Int32) : k_ref σ 11 w1 w2 w3 w4 = r_X8_refusalOf_11 σ w1 w2 w3 w4 := by rw [k_ref, if_neg (by decide), if_neg (by decide), if_neg (by decide), if_neg (by decide), if_neg (by decide), if_neg (by decide), if_neg (by decide), if_neg (by decide), if_neg (by decide), if_neg (by decide), if_neg (by decide), if_pos rfl]
theorem k_pf_11 (σ : zS) (w1 w2 w3 w4 : Int32) : k_pf σ 11 w1 w2 w3 w4 = f_X5_perform_11 σ w1 w2 w3 w4 := by rw [k_pf, if_neg (by decide), if_neg (by decide), if_neg (by decide), if_neg (by decide), if_neg (by decide), if_neg (by decide), if_neg (by decide), if_neg (by decide), if_neg (by decide), if_neg (by decide), if_neg (by decide), if_pos rfl]
theorem k_pr_11 (σ : zS) (w1 w2 w3 w4 : Int32) : k_pr σ 11 w1 w2 w3 w4 = r_X5_perform_11 σ w1 w2 w3 w4 := by rw [k_pr, if_neg (by decide), if_neg (by decide), if_neg (by decide), if_neg (by decide), if_neg (by decide), if_neg (by decide), if_neg (by decide), if_neg (by decide), if_neg (by decide), if_neg (by decide), if_neg (by decide), if_pos rfl]
theorem k_ref_12 (σ : zS) (w1 w2 w3 w4 : Int32) : k_ref σ 12 w1 w2 w3 w4 = r_X8_refusalOf_12 σ w1 w2 w3 w4 := by rw [k_ref, if_neg (by decide), if_neg (by decide), if_neg (by decide), if_neg (by decide), if_neg (by decide), if_neg (by decide), if_neg (by decide), if_neg (by decide), if_neg (by decide), if_neg (by decide), if_neg (by decide), if_neg (by decide), if_pos rfl]
theorem k_pf_12 (σ : zS) (w1 w2 w3 w4 : Int32) : k_pf σ 12 w1 w2 w3 w4 = f_X5_perform_12 σ w1 w2 w3 w4 := by rw [k_pf, if_neg (by decide), if_neg (by decide), if_neg (by decide), if_neg (by decide), if_neg (by decide), if_neg (by decide), if_neg (by decide), if_neg (by decide), if_neg (by decide), if_neg (by decide), if_neg (by decide), if_neg (by decide), if_pos rfl]
theorem k_pr_12 (σ : zS) (w1 w2 w3 w4 : Int32) : k_pr σ 12 w1 w2 w3 w4 = r_X5_perform_12 σ w1 w2 w3 w4 := by rw [k_pr, if_neg (by decide), if_neg (by decide), if_neg (by decide), if_neg (by decide), if_neg (by decide), if_neg (by decide), if_neg (by decide), if_neg (by decide), if_neg (by decide), if_neg (by decide), if_neg (by decide), if_neg (by decide), if_pos rfl]
theorem k_ref_13 (σ : zS) (w1 w2 w3 w4 : Int32) : k_ref σ 13 w1 w2 w3 w4 = r_X8_refusalOf_13 σ w1 w2 w3 w4 := by rw [k_ref, if_neg (by decide), if_neg (by decide), if_neg (by decide), if_neg (by decide), if_neg (by decide), if_neg (by decide), if_neg (by decide), if_neg (by decide), if_neg (by decide), if_neg (by decide), if_neg (by decide), if_neg (by decide), if_neg (by decide), if_pos rfl]
theorem k_pf_13 (σ : zS) (w1 w2 w3 w4 : Int32) : k_pf σ 13 w1 w2 w3 w4 = f_X5_perform_13 σ w1 w2 w3 w4 := by rw [k_pf, if_neg (by decide), if_neg (by decide), if_neg (by decide), if_neg (by decide), if_neg (by decide), if_neg (by decide), if_neg (by decide), if_neg (by decide), if_neg (by decide), if_neg (by decide), if_neg (by decide), if_neg (by decide), if_neg (by decide), if_pos rfl]
theorem k_pr_13 (σ : zS) (w1 w2 w3 w4 : Int32) : k_pr σ 13 w1 w2 w3 w4 = r_X5_perform_13 σ w1 w2 w3 w4 := by rw [k_pr, if_neg (by decide), if_neg (by decide), if_neg (by decide), if_neg (by decide), if_neg (by decide), if_neg (by decide), if_neg (by decide), if_neg (by decide), if_neg (by decide), if_neg (by decide), if_neg (by decide), if_neg (by decide), if_neg (by decide), if_pos rfl]
theorem k_ref_14 (σ : zS) (w1 w2 w3 w4 : Int32) : k_ref σ 14 w1 w2 w3 w4 = r_X8_refusalOf_14 σ w1 w2 w3 w4 := by rw [k_ref, if_neg (by decide), if_neg (by decide), if_neg (by decide), if_neg (by decide), if_neg (by decide), if_neg (by decide), if_neg (by decide), if_neg (by decide), if_neg (by decide), if_neg (by decide), if_neg (by decide), if_neg (by decide), if_neg (by decide), if_neg (by decide), if_pos rfl]
theorem k_pf_14 (σ : zS) (w1 w2 w3 w4 : Int32) : k_pf σ 14 w1 w2 w3 w4 = f_X5_perform_14 σ w1 w2 w3 w4 := by rw [k_pf, if_neg (by decide), if_neg (by decide), if_neg (by decide), if_neg (by decide), if_neg (by decide), if_neg (by decide), if_neg (by decide), if_neg (by decide), if_neg (by decide), if_neg (by decide), if_neg (by decide), if_neg (by decide), if_neg (by decide), if_neg (by decide), if_pos rfl]
theorem k_pr_14 (σ : zS) (w1 w2 w3 w4 : Int32) : k_pr σ 14 w1 w2 w3 w4 = r_X5_perform_14 σ w1 w2 w3 w4 := by rw [k_pr, if_neg (by decide), if_neg (by decide), if_neg (by decide), if_neg (by decide), if_neg (by decide), if_neg (by decide), if_neg (by decide), if_neg (by decide), if_neg (by decide), if_neg (by decide), if_neg (by decide), if_neg (by decide), if_neg (by decide), if_neg (by decide), if_pos rfl]
theorem k_ref_15 (σ : zS) (w1 w2 w3 w4 : Int32) : k_ref σ 15 w1 w2 w3 w4 = r_X8_refusalOf_15 σ w1 w2 w3 w4 := by rw [k_ref, if_neg (by decide), if_neg (by decide), if_neg (by decide), if_neg (by decide), if_neg (by decide), if_neg (by decide), if_neg (by decide), if_neg (by decide), if_neg (by decide), if_neg (by decide), if_neg (by decide), if_neg (by decide), if_neg (by decide), if_neg (by decide), if_neg (by decide), if_pos rfl]
theorem k_pf_15 (σ : zS) (w1 w2 w3 w4 : Int32) : k_pf σ 15 w1 w2 w3 w4 = f_X5_perform_15 σ w1 w2 w3 w4 := by rw [k_pf, if_neg (by decide), if_neg (by decide), if_neg (by decide), if_neg (by decide), if_neg (by decide), if_neg (by decide), if_neg (by decide), if_neg (by decide), if_neg (by decide), if_neg (by decide), if_neg (by decide), if_neg (by decide), if_neg (by decide), if_neg (by decide), if_neg (by decide), if_pos rfl]
theorem k_pr_15 (σ : zS) (w1 w2 w3 w4 : Int32) : k_pr σ 15 w1 w2 w3 w4 = r_X5_perform_15 σ w1 w2 w3 w4 := by rw [k_pr, if_neg (by decide), if_neg (by decide), if_neg (by decide), if_neg (by decide), if_neg (by decide), if_neg (by decide), if_neg (by decide), if_neg (by decide), if_neg (by decide), if_neg (by decide), if_neg (by decide), if_neg (by decide), if_neg (by decide), if_neg (by decide), if_neg (by decide), if_pos rfl]
theorem k_ref_16 (σ : zS) (w1 w2 w3 w4 : Int32) : k_ref σ 16 w1 w2 w3 w4 = r_X8_refusalOf_16 σ w1 w2 w3 w4 := by rw [k_ref, if_neg (by decide), if_neg (by decide), if_neg (by decide), if_neg (by decide), if_neg (by decide), if_neg (by decide), if_neg (by decide), if_neg (by decide), if_neg (by decide), if_neg (by decide), if_neg (by decide), if_neg (by decide), if_neg (by decide), if_neg (by decide), if_neg (by decide), if_neg (by decide), if_pos rfl]
theorem k_pf_16 (σ : zS) (w1 w2 w3 w4 : Int32) : k_pf σ 16 w1 w2 w3 w4 = f_X5_perform_16 σ w1 w2 w3 w4 := by rw [k_pf, if_neg (by decide), if_neg (by decide), if_neg (by decide), if_neg (by decide), if_neg (by decide), if_neg (by decide), if_neg (by decide), if_neg (by decide), if_neg (by decide), if_neg (by decide), if_neg (by decide), if_neg (by decide), if_neg (by decide), if_neg (by decide), if_neg (by decide), if_neg (by decide), if_pos rfl]
theorem k_pr_16 (σ : zS) (w1 w2 w3 w4 : Int32) : k_pr σ 16 w1 w2 w3 w4 = r_X5_perform_16 σ w1 w2 w3 w4 := by rw [k_pr, if_neg (by decide), if_neg (by decide), if_neg (by decide), if_neg (by decide), if_neg (by decide), if_neg (by decide), if_neg (by decide), if_neg (by decide), if_neg (by decide), if_neg (by decide), if_neg (by decide), if_neg (by decide), if_neg (by decide), if_neg (by decide), if_neg (by decide), if_neg (by decide), if_pos rfl]
theorem k_ref_17 (σ : zS) (w1 w2 w3 w4 : Int32) : k_ref σ 17 w1 w2 w3 w4 = r_X8_refusalOf_17 σ w1 w2 w3 w4 := by rw [k_ref, if_neg (by decide), if_neg (by decide), if_neg (by decide), if_neg (by decide), if_neg (by decide), if_neg (by decide), if_neg (by decide), if_neg (by decide), if_neg (by decide), if_neg (by decide), if_neg (by decide), if_neg (by decide), if_neg (by decide), if_neg (by decide), if_neg (by decide), if_neg (by decide), if_neg (by decide), if_pos rfl]
theorem k_pf_17 (σ : zS) (w1 w2 w3 w4 : Int32) : k_pf σ 17 w1 w2 w3 w4 = f_X5_perform_17 σ w1 w2 w3 w4 := by rw [k_pf, if_neg (by decide), if_neg (by decide), if_neg (by decide), if_neg (by decide), if_neg (by decide), if_neg (by decide), if_neg (by decide), if_neg (by decide), if_neg (by decide), if_neg (by decide), if_neg (by decide), if_neg (by decide), if_neg (by decide), if_neg (by decide), if_neg (by decide), if_neg (by decide), if_neg (by decide), if_pos rfl]
theorem k_pr_17 (σ : zS) (w1 w2 w3 w4 : Int32) : k_pr σ 17 w1 w2 w3 w4 = r_X5_perform_17 σ w1 w2 w3 w4 := by rw [k_pr, if_neg (by decide), if_neg (by decide), if_neg (by decide), if_neg (by decide), if_neg (by decide), if_neg (by decide), if_neg (by decide), if_neg (by decide), if_neg (by decide), if_neg (by decide), if_neg (by decide), if_neg (by decide), if_neg (by decide), if_neg (by decide), if_neg (by decide), if_neg (by decide), if_neg (by decide), if_pos rfl]
theorem k_ref_18 (σ : zS) (w1 w2 w3 w4 : Int32) : k_ref σ 18 w1 w2 w3 w4 = r_X8_refusalOf_18 σ w1 w2 w3 w4 := by rw [k_ref, if_neg (by decide), if_neg (by decide), if_neg (by decide), if_neg (by decide), if_neg (by decide), if_neg (by decide), if_neg (by decide), if_neg (by decide), if_neg (by decide), if_neg (by decide), if_neg (by decide), if_neg (by decide), if_neg (by decide), if_neg (by decide), if_neg (by decide), if_neg (by decide), if_neg (by decide), if_neg (by decide), if_pos rfl]
theorem k_pf_18 (σ : zS) (w1 w2 w3 w4 : Int32) : k_pf σ 18 w1 w2 w3 w4 = f_X5_perform_18 σ w1 w2 w3 w4 := by rw [k_pf, if_neg (by decide), if_neg (by decide), if_neg (by decide), if_neg (by decide), if_neg (by decide), if_neg (by decide), if_neg (by decide), if_neg (by decide), if_neg (by decide), if_neg (by decide), if_neg (by decide), if_neg (by decide), if_neg (by decide), if_neg (by decide), if_neg (by decide), if_neg (by decide), if_neg (by decide), if_neg (by decide), if_pos rfl]
theorem k_pr_18 (σ : zS) (w1 w2 w3 w4 : Int32) : k_pr σ 18 w1 w2 w3 w4 = r_X5_perform_18 σ w1 w2 w3 w4 := by rw [k_pr, if_neg (by decide), if_neg (by decide), if_neg (by decide), if_neg (by decide), if_neg (by decide), if_neg (by decide), if_neg (by decide), if_neg (by decide), if_neg (by decide), if_neg (by decide), if_neg (by decide), if_neg (by decide), if_neg (by decide), if_neg (by decide), if_neg (by decide), if_neg (by decide), if_neg (by decide), if_neg (by decide), if_pos rfl]
theorem k_ref_19 (σ : zS) (w1 w2 w3 w4 : Int32) : k_ref σ 19 w1 w2 w3 w4 = r_X8_refusalOf_19 σ w1 w2 w3 w4 := by rw [k_ref, if_neg (by decide), if_neg (by decide), if_neg (by decide), if_neg (by decide), if_neg (by decide), if_neg (by decide), if_neg (by decide), if_neg (by decide), if_neg (by decide), if_neg (by decide), if_neg (by decide), if_neg (by decide), if_neg (by decide), if_neg (by decide), if_neg (by decide), if_neg (by decide), if_neg (by decide), if_neg (by decide), if_neg (by decide), if_pos rfl]
theorem k_pf_19 (σ : zS) (w1 w2 w3 w4 : Int32) : k_pf σ 19 w1 w2 w3 w4 = f_X5_perform_19 σ w1 w2 w3 w4 := by rw [k_pf, if_neg (by decide), if_neg (by decide), if_neg (by decide), if_neg (by decide), if_neg (by decide), if_neg (by decide), if_neg (by decide), if_neg (by decide), if_neg (by decide), if_neg (by decide), if_neg (by decide), if_neg (by decide), if_neg (by decide), if_neg (by decide), if_neg (by decide), if_neg (by decide), if_neg (by decide), if_neg (by decide), if_neg (by decide), if_pos rfl]
theorem k_pr_19 (σ : zS) (w1 w2 w3 w4 : Int32) : k_pr σ 19 w1 w2 w3 w4 = r_X5_perform_19 σ w1 w2 w3 w4 := by rw [k_pr, if_neg (by decide), if_neg (by decide), if_neg (by decide), if_neg (by decide), if_neg (by decide), if_neg (by decide), if_neg (by decide), if_neg (by decide), if_neg (by decide), if_neg (by decide), if_neg (by decide), if_neg (by decide), if_neg (by decide), if_neg (by decide), if_neg (by decide), if_neg (by decide), if_neg (by decide), if_neg (by decide), if_neg (by decide), if_pos rfl]
theorem k_ref_lt (σ : zS) {n : Nat} (hn : n < 20) (w1 w2 w3 w4 : Int32) : k_ref σ (nI n) w1 w2 w3 w4 < 5 := by
  rcases (show n = 0 ∨ n = 1 ∨ n = 2 ∨ n = 3 ∨ n = 4 ∨ n = 5 ∨ n = 6 ∨ n = 7 ∨ n = 8 ∨ n = 9 ∨ n = 10 ∨ n = 11 ∨ n = 12 ∨ n = 13 ∨ n = 14 ∨ n = 15 ∨ n = 16 ∨ n = 17 ∨ n = 18 ∨ n = 19 by omega) with rfl | rfl | rfl | rfl | rfl | rfl | rfl | rfl | rfl | rfl | rfl | rfl | rfl | rfl | rfl | rfl | rfl | rfl | rfl | rfl
  · rw [show nI 0 = 0 from rfl, k_ref_0]; exact r_X8_refusalOf_0_lt σ w1 w2 w3 w4
  · rw [show nI 1 = 1 from rfl, k_ref_1]; exact r_X8_refusalOf_1_lt σ w1 w2 w3 w4
  · rw [show nI 2 = 2 from rfl, k_ref_2]; exact r_X8_refusalOf_2_lt σ w1 w2 w3 w4
  · rw [show nI 3 = 3 from rfl, k_ref_3]; exact r_X8_refusalOf_3_lt σ w1 w2 w3 w4
  · rw [show nI 4 = 4 from rfl, k_ref_4]; exact r_X8_refusalOf_4_lt σ w1 w2 w3 w4
  · rw [show nI 5 = 5 from rfl, k_ref_5]; exact r_X8_refusalOf_5_lt σ w1 w2 w3 w4
  · rw [show nI 6 = 6 from rfl, k_ref_6]; exact r_X8_refusalOf_6_lt σ w1 w2 w3 w4
  · rw [show nI 7 = 7 from rfl, k_ref_7]; exact r_X8_refusalOf_7_lt σ w1 w2 w3 w4
  · rw [show nI 8 = 8 from rfl, k_ref_8]; exact r_X8_refusalOf_8_lt σ w1 w2 w3 w4
  · rw [show nI 9 = 9 from rfl, k_ref_9]; exact r_X8_refusalOf_9_lt σ w1 w2 w3 w4
  · rw [show nI 10 = 10 from rfl, k_ref_10]; exact r_X8_refusalOf_10_lt σ w1 w2 w3 w4
  · rw [show nI 11 = 11 from rfl, k_ref_11]; exact r_X8_refusalOf_11_lt σ w1 w2 w3 w4
  · rw [show nI 12 = 12 from rfl, k_ref_12]; exact r_X8_refusalOf_12_lt σ w1 w2 w3 w4
  · rw [show nI 13 = 13 from rfl, k_ref_13]; exact r_X8_refusalOf_13_lt σ w1 w2 w3 w4
  · rw [show nI 14 = 14 from rfl, k_ref_14]; exact r_X8_refusalOf_14_lt σ w1 w2 w3 w4
  · rw [show nI 15 = 15 from rfl, k_ref_15]; exact r_X8_refusalOf_15_lt σ w1 w2 w3 w4
  · rw [show nI 16 = 16 from rfl, k_ref_16]; exact r_X8_refusalOf_16_lt σ w1 w2 w3 w4
  · rw [show nI 17 = 17 from rfl, k_ref_17]; exact r_X8_refusalOf_17_lt σ w1 w2 w3 w4
  · rw [show nI 18 = 18 from rfl, k_ref_18]; exact r_X8_refusalOf_18_lt σ w1 w2 w3 w4
  · rw [show nI 19 = 19 from rfl, k_ref_19]; exact r_X8_refusalOf_19_lt σ w1 w2 w3 w4
theorem ctX8_refusalOf (l : Launch) (D : va_G) (cy : Nat → ClassId) (rf : Nat → Nat) (ad : Nat → Nat → Nat) (σ : zS) (n : Nat) (hn : n < 20) (w1 w2 w3 w4 : Int32) (hV : zV σ) : Met l yX8_refusalOf (zw yX8_refusalOf cX8_refusalOf 6 (some (.object "Silkloft$Refusal"))) (zrm 6) (va_Pc [.ref (ad 0 0), .int (nI n), .int w1, .int w2, .int w3, .int w4] (zBE D cy rf (zW D cy ad zsL σ))) (zqR (.ref (rf (k_ref σ (nI n) w1 w2 w3 w4)))) 0 0 (fun _ => False) := by
  rcases (show n = 0 ∨ n = 1 ∨ n = 2 ∨ n = 3 ∨ n = 4 ∨ n = 5 ∨ n = 6 ∨ n = 7 ∨ n = 8 ∨ n = 9 ∨ n = 10 ∨ n = 11 ∨ n = 12 ∨ n = 13 ∨ n = 14 ∨ n = 15 ∨ n = 16 ∨ n = 17 ∨ n = 18 ∨ n = 19 by omega) with rfl | rfl | rfl | rfl | rfl | rfl | rfl | rfl | rfl | rfl | rfl | rfl | rfl | rfl | rfl | rfl | rfl | rfl | rfl | rfl
  · rw [show nI 0 = 0 from rfl, k_ref_0]; exact ctX8_refusalOf_0 l D cy rf ad σ w1 w2 w3 w4 hV
  · rw [show nI 1 = 1 from rfl, k_ref_1]; exact ctX8_refusalOf_1 l D cy rf ad σ w1 w2 w3 w4 hV
  · rw [show nI 2 = 2 from rfl, k_ref_2]; exact ctX8_refusalOf_2 l D cy rf ad σ w1 w2 w3 w4 hV
  · rw [show nI 3 = 3 from rfl, k_ref_3]; exact ctX8_refusalOf_3 l D cy rf ad σ w1 w2 w3 w4 hV
  · rw [show nI 4 = 4 from rfl, k_ref_4]; exact ctX8_refusalOf_4 l D cy rf ad σ w1 w2 w3 w4 hV
  · rw [show nI 5 = 5 from rfl, k_ref_5]; exact ctX8_refusalOf_5 l D cy rf ad σ w1 w2 w3 w4 hV
  · rw [show nI 6 = 6 from rfl, k_ref_6]; exact ctX8_refusalOf_6 l D cy rf ad σ w1 w2 w3 w4 hV
  · rw [show nI 7 = 7 from rfl, k_ref_7]; exact ctX8_refusalOf_7 l D cy rf ad σ w1 w2 w3 w4 hV
  · rw [show nI 8 = 8 from rfl, k_ref_8]; exact ctX8_refusalOf_8 l D cy rf ad σ w1 w2 w3 w4 hV
  · rw [show nI 9 = 9 from rfl, k_ref_9]; exact ctX8_refusalOf_9 l D cy rf ad σ w1 w2 w3 w4 hV
  · rw [show nI 10 = 10 from rfl, k_ref_10]; exact ctX8_refusalOf_10 l D cy rf ad σ w1 w2 w3 w4 hV
  · rw [show nI 11 = 11 from rfl, k_ref_11]; exact ctX8_refusalOf_11 l D cy rf ad σ w1 w2 w3 w4 hV
  · rw [show nI 12 = 12 from rfl, k_ref_12]; exact ctX8_refusalOf_12 l D cy rf ad σ w1 w2 w3 w4 hV
  · rw [show nI 13 = 13 from rfl, k_ref_13]; exact ctX8_refusalOf_13 l D cy rf ad σ w1 w2 w3 w4 hV
  · rw [show nI 14 = 14 from rfl, k_ref_14]; exact ctX8_refusalOf_14 l D cy rf ad σ w1 w2 w3 w4 hV
  · rw [show nI 15 = 15 from rfl, k_ref_15]; exact ctX8_refusalOf_15 l D cy rf ad σ w1 w2 w3 w4 hV
  · rw [show nI 16 = 16 from rfl, k_ref_16]; exact ctX8_refusalOf_16 l D cy rf ad σ w1 w2 w3 w4 hV
  · rw [show nI 17 = 17 from rfl, k_ref_17]; exact ctX8_refusalOf_17 l D cy rf ad σ w1 w2 w3 w4 hV
  · rw [show nI 18 = 18 from rfl, k_ref_18]; exact ctX8_refusalOf_18 l D cy rf ad σ w1 w2 w3 w4 hV
  · rw [show nI 19 = 19 from rfl, k_ref_19]; exact ctX8_refusalOf_19 l D cy rf ad σ w1 w2 w3 w4 hV
theorem zvc {σ : zS} {f N : Nat} (hb : zbd σ f N) (hN : N < 2 ^ 31) (h : ¬ nI N ≤ zI σ f 0) : vp_in (zI σ f 0) N := by
  have h2 := hb.2
  rw [hb.1] at h ⊢
  exact vp_in_nI (znlt (by omega) (by omega) h) hN
theorem zload {σ : zS} (hV : zV σ) {x : Int32} (h : k_has σ 507 x = true) : ∃ a, a ≤ 6 ∧ zI σ 400 x.toNatClampNeg = nI a ∧ ∀ i, i < a → vp_in (zA σ 14 x.toNatClampNeg i) 24 ∧ vp_in (zA σ 15 x.toNatClampNeg i) 24 := by
  obtain ⟨q, hq, rfl⟩ := zhas_lt hV.2.2.1 (by decide) h
  have := hV.2.2.1.2
  rw [nI_clamp (by omega)]
  exact hV.2.2.2.2.2.2 q hq
theorem zstep5 {x : Int32} (h : k_in x 0 4 = true) : vp_in x 5 := by
  simp only [k_in, Bool.and_eq_true, Bool.not_eq_true', decide_eq_false_iff_not] at h
  obtain ⟨j, hj, rfl⟩ := nI_of h.1
  refine vp_in_nI ?_ (by decide)
  have := h.2
  rcases Nat.lt_or_ge j 5 with q | q
  · exact q
  · exact absurd ((nI_ltI (a := 4) (by decide) hj).mpr (by omega)) this
set_option maxHeartbeats 4000000 in
theorem cpX5_perform_0 (l : Launch) (D : va_G) (cy : Nat → ClassId) (ad : Nat → Nat → Nat) (σ : zS) (hj : zinj ad zsL) (w1 w2 w3 w4 : Int32) (hV : zV σ) (h : r_X8_refusalOf_0 σ w1 w2 w3 w4 = 0) : Met l yX5_perform (zw yX5_perform cX5_perform 6 (some .int)) (zrm 4) (va_Pc [.ref (ad 0 0), .int 0, .int w1, .int w2, .int w3, .int w4] (zB D cy (zW D cy ad zsL σ))) (zqM (some (.int (r_X5_perform_0 σ w1 w2 w3 w4))) (zW D cy ad zsL (f_X5_perform_0 σ w1 w2 w3 w4)) (zrg ad zsL)) 0 0 (zrg ad zsL) := by
  have h1 : ¬ (8 : Int32) ≤ zI σ 505 0 := by
    clear hV
    unfold r_X8_refusalOf_0 r_X8_ofAddRigger at h
    (repeat' split at h) <;> first | (exact absurd h (by decide)) | assumption | (simp_all; done)
  exact ctX5_perform_0 l D cy ad σ hj w1 w2 w3 w4 (zvc hV.1 (by decide) h1)
set_option maxHeartbeats 4000000 in
theorem cpX5_perform_1 (l : Launch) (D : va_G) (cy : Nat → ClassId) (ad : Nat → Nat → Nat) (σ : zS) (hj : zinj ad zsL) (w1 w2 w3 w4 : Int32) (hV : zV σ) (h : r_X8_refusalOf_1 σ w1 w2 w3 w4 = 0) : Met l yX5_perform (zw yX5_perform cX5_perform 6 (some .int)) (zrm 4) (va_Pc [.ref (ad 0 0), .int 1, .int w1, .int w2, .int w3, .int w4] (zB D cy (zW D cy ad zsL σ))) (zqM (some (.int (r_X5_perform_1 σ w1 w2 w3 w4))) (zW D cy ad zsL (f_X5_perform_1 σ w1 w2 w3 w4)) (zrg ad zsL)) 0 0 (zrg ad zsL) := by
  have h1 : k_has σ 505 w1 = true := by
    clear hV
    unfold r_X8_refusalOf_1 r_X8_ofSetLicences at h
    (repeat' split at h) <;> first | (exact absurd h (by decide)) | assumption | (simp_all; done)
  exact ctX5_perform_1 l D cy ad σ hj w1 w2 w3 w4 (zhas_in hV.1 (by decide) h1)
set_option maxHeartbeats 4000000 in
theorem cpX5_perform_2 (l : Launch) (D : va_G) (cy : Nat → ClassId) (ad : Nat → Nat → Nat) (σ : zS) (hj : zinj ad zsL) (w1 w2 w3 w4 : Int32) (hV : zV σ) (h : r_X8_refusalOf_2 σ w1 w2 w3 w4 = 0) : Met l yX5_perform (zw yX5_perform cX5_perform 6 (some .int)) (zrm 4) (va_Pc [.ref (ad 0 0), .int 2, .int w1, .int w2, .int w3, .int w4] (zB D cy (zW D cy ad zsL σ))) (zqM (some (.int (r_X5_perform_2 σ w1 w2 w3 w4))) (zW D cy ad zsL (f_X5_perform_2 σ w1 w2 w3 w4)) (zrg ad zsL)) 0 0 (zrg ad zsL) := by
  have h1 : ¬ (24 : Int32) ≤ zI σ 506 0 := by
    clear hV
    unfold r_X8_refusalOf_2 r_X8_ofAddCanopy at h
    (repeat' split at h) <;> first | (exact absurd h (by decide)) | assumption | (simp_all; done)
  exact ctX5_perform_2 l D cy ad σ hj w1 w2 w3 w4 (zvc hV.2.1 (by decide) h1)
set_option maxHeartbeats 4000000 in
theorem cpX5_perform_3 (l : Launch) (D : va_G) (cy : Nat → ClassId) (ad : Nat → Nat → Nat) (σ : zS) (hj : zinj ad zsL) (w1 w2 w3 w4 : Int32) (hV : zV σ) (h : r_X8_refusalOf_3 σ w1 w2 w3 w4 = 0) : Met l yX5_perform (zw yX5_perform cX5_perform 6 (some .int)) (zrm 4) (va_Pc [.ref (ad 0 0), .int 3, .int w1, .int w2, .int w3, .int w4] (zB D cy (zW D cy ad zsL σ))) (zqM (some (.int (r_X5_perform_3 σ w1 w2 w3 w4))) (zW D cy ad zsL (f_X5_perform_3 σ w1 w2 w3 w4)) (zrg ad zsL)) 0 0 (zrg ad zsL) := by
  clear h
  exact ctX5_perform_3 l D cy ad σ hj w1 w2 w3 w4 
set_option maxHeartbeats 4000000 in
theorem cpX5_perform_4 (l : Launch) (D : va_G) (cy : Nat → ClassId) (ad : Nat → Nat → Nat) (σ : zS) (hj : zinj ad zsL) (w1 w2 w3 w4 : Int32) (hV : zV σ) (h : r_X8_refusalOf_4 σ w1 w2 w3 w4 = 0) : Met l yX5_perform (zw yX5_perform cX5_perform 6 (some .int)) (zrm 4) (va_Pc [.ref (ad 0 0), .int 4, .int w1, .int w2, .int w3, .int w4] (zB D cy (zW D cy ad zsL σ))) (zqM (some (.int (r_X5_perform_4 σ w1 w2 w3 w4))) (zW D cy ad zsL (f_X5_perform_4 σ w1 w2 w3 w4)) (zrg ad zsL)) 0 0 (zrg ad zsL) := by
  clear h
  exact ctX5_perform_4 l D cy ad σ hj w1 w2 w3 w4 
set_option maxHeartbeats 4000000 in
theorem cpX5_perform_5 (l : Launch) (D : va_G) (cy : Nat → ClassId) (ad : Nat → Nat → Nat) (σ : zS) (hj : zinj ad zsL) (w1 w2 w3 w4 : Int32) (hV : zV σ) (h : r_X8_refusalOf_5 σ w1 w2 w3 w4 = 0) : Met l yX5_perform (zw yX5_perform cX5_perform 6 (some .int)) (zrm 4) (va_Pc [.ref (ad 0 0), .int 5, .int w1, .int w2, .int w3, .int w4] (zB D cy (zW D cy ad zsL σ))) (zqM (some (.int (r_X5_perform_5 σ w1 w2 w3 w4))) (zW D cy ad zsL (f_X5_perform_5 σ w1 w2 w3 w4)) (zrg ad zsL)) 0 0 (zrg ad zsL) := by
  have h1 : k_has σ 506 w1 = true := by
    clear hV
    unfold r_X8_refusalOf_5 r_X8_ofHang at h
    (repeat' split at h) <;> first | (exact absurd h (by decide)) | assumption | (simp_all; done)
  exact ctX5_perform_5 l D cy ad σ hj w1 w2 w3 w4 (zhas_in hV.2.1 (by decide) h1) hV.2.1
set_option maxHeartbeats 4000000 in
theorem cpX5_perform_6 (l : Launch) (D : va_G) (cy : Nat → ClassId) (ad : Nat → Nat → Nat) (σ : zS) (hj : zinj ad zsL) (w1 w2 w3 w4 : Int32) (hV : zV σ) (h : r_X8_refusalOf_6 σ w1 w2 w3 w4 = 0) : Met l yX5_perform (zw yX5_perform cX5_perform 6 (some .int)) (zrm 4) (va_Pc [.ref (ad 0 0), .int 6, .int w1, .int w2, .int w3, .int w4] (zB D cy (zW D cy ad zsL σ))) (zqM (some (.int (r_X5_perform_6 σ w1 w2 w3 w4))) (zW D cy ad zsL (f_X5_perform_6 σ w1 w2 w3 w4)) (zrg ad zsL)) 0 0 (zrg ad zsL) := by
  have h1 : k_has σ 506 w1 = true := by
    clear hV
    unfold r_X8_refusalOf_6 r_X8_ofStep at h
    (repeat' split at h) <;> first | (exact absurd h (by decide)) | assumption | (simp_all; done)
  have h2 : k_in (zI σ 107 w1.toNatClampNeg) 0 4 = true := by
    clear hV
    unfold r_X8_refusalOf_6 r_X8_ofStep at h
    (repeat' split at h) <;> first | (exact absurd h (by decide)) | assumption | (simp_all; done)
  exact ctX5_perform_6 l D cy ad σ hj w1 w2 w3 w4 (zhas_in hV.2.1 (by decide) h1) (zstep5 h2) hV.2.2.2.2.1
set_option maxHeartbeats 4000000 in
theorem cpX5_perform_7 (l : Launch) (D : va_G) (cy : Nat → ClassId) (ad : Nat → Nat → Nat) (σ : zS) (hj : zinj ad zsL) (w1 w2 w3 w4 : Int32) (hV : zV σ) (h : r_X8_refusalOf_7 σ w1 w2 w3 w4 = 0) : Met l yX5_perform (zw yX5_perform cX5_perform 6 (some .int)) (zrm 4) (va_Pc [.ref (ad 0 0), .int 7, .int w1, .int w2, .int w3, .int w4] (zB D cy (zW D cy ad zsL σ))) (zqM (some (.int (r_X5_perform_7 σ w1 w2 w3 w4))) (zW D cy ad zsL (f_X5_perform_7 σ w1 w2 w3 w4)) (zrg ad zsL)) 0 0 (zrg ad zsL) := by
  have h1 : k_has σ 506 w1 = true := by
    clear hV
    unfold r_X8_refusalOf_7 r_X8_ofCanopyIn at h
    (repeat' split at h) <;> first | (exact absurd h (by decide)) | assumption | (simp_all; done)
  exact ctX5_perform_7 l D cy ad σ hj w1 w2 w3 w4 (zhas_in hV.2.1 (by decide) h1)
set_option maxHeartbeats 4000000 in
theorem cpX5_perform_8 (l : Launch) (D : va_G) (cy : Nat → ClassId) (ad : Nat → Nat → Nat) (σ : zS) (hj : zinj ad zsL) (w1 w2 w3 w4 : Int32) (hV : zV σ) (h : r_X8_refusalOf_8 σ w1 w2 w3 w4 = 0) : Met l yX5_perform (zw yX5_perform cX5_perform 6 (some .int)) (zrm 4) (va_Pc [.ref (ad 0 0), .int 8, .int w1, .int w2, .int w3, .int w4] (zB D cy (zW D cy ad zsL σ))) (zqM (some (.int (r_X5_perform_8 σ w1 w2 w3 w4))) (zW D cy ad zsL (f_X5_perform_8 σ w1 w2 w3 w4)) (zrg ad zsL)) 0 0 (zrg ad zsL) := by
  have h1 : ¬ (30 : Int32) ≤ zI σ 507 0 := by
    clear hV
    unfold r_X8_refusalOf_8 at h
    (repeat' split at h) <;> first | (exact absurd h (by decide)) | assumption | (simp_all; done)
  exact ctX5_perform_8 l D cy ad σ hj w1 w2 w3 w4 (zvc hV.2.2.1 (by decide) h1)
set_option maxHeartbeats 4000000 in
theorem cpX5_perform_9 (l : Launch) (D : va_G) (cy : Nat → ClassId) (ad : Nat → Nat → Nat) (σ : zS) (hj : zinj ad zsL) (w1 w2 w3 w4 : Int32) (hV : zV σ) (h : r_X8_refusalOf_9 σ w1 w2 w3 w4 = 0) : Met l yX5_perform (zw yX5_perform cX5_perform 6 (some .int)) (zrm 4) (va_Pc [.ref (ad 0 0), .int 9, .int w1, .int w2, .int w3, .int w4] (zB D cy (zW D cy ad zsL σ))) (zqM (some (.int (r_X5_perform_9 σ w1 w2 w3 w4))) (zW D cy ad zsL (f_X5_perform_9 σ w1 w2 w3 w4)) (zrg ad zsL)) 0 0 (zrg ad zsL) := by
  have h0 : k_has σ 507 w1 = true := by
    clear hV
    unfold r_X8_refusalOf_9 r_X8_ofBoard at h
    (repeat' split at h) <;> first | (exact absurd h (by decide)) | assumption | (simp_all; done)
  have h1 : k_has σ 506 w2 = true := by
    clear hV
    unfold r_X8_refusalOf_9 r_X8_ofBoard at h
    (repeat' split at h) <;> first | (exact absurd h (by decide)) | assumption | (simp_all; done)
  have h2 : k_has σ 506 w3 = true := by
    clear hV
    unfold r_X8_refusalOf_9 r_X8_ofBoard at h
    (repeat' split at h) <;> first | (exact absurd h (by decide)) | assumption | (simp_all; done)
  have h3 : ¬ (6 : Int32) ≤ zI σ 400 w1.toNatClampNeg := by
    clear hV
    unfold r_X8_refusalOf_9 r_X8_ofBoard at h
    (repeat' split at h) <;> first | (exact absurd h (by decide)) | assumption | (simp_all; done)
  obtain ⟨a, ha6, ha, -⟩ := zload hV h0
  exact ctX5_perform_9 l D cy ad σ hj w1 w2 w3 w4 (zhas_in hV.2.2.1 (by decide) h0) (by rw [ha] at h3 ⊢; exact vp_in_nI (zlt_c (N := 6) (by decide) ha6 h3) (by decide)) (zhas_in hV.2.1 (by decide) h1) (zhas_in hV.2.1 (by decide) h2)
set_option maxHeartbeats 4000000 in
theorem cpX5_perform_10 (l : Launch) (D : va_G) (cy : Nat → ClassId) (ad : Nat → Nat → Nat) (σ : zS) (hj : zinj ad zsL) (w1 w2 w3 w4 : Int32) (hV : zV σ) (h : r_X8_refusalOf_10 σ w1 w2 w3 w4 = 0) : Met l yX5_perform (zw yX5_perform cX5_perform 6 (some .int)) (zrm 4) (va_Pc [.ref (ad 0 0), .int 10, .int w1, .int w2, .int w3, .int w4] (zB D cy (zW D cy ad zsL σ))) (zqM (some (.int (r_X5_perform_10 σ w1 w2 w3 w4))) (zW D cy ad zsL (f_X5_perform_10 σ w1 w2 w3 w4)) (zrg ad zsL)) 0 0 (zrg ad zsL) := by
  have h0 : k_has σ 507 w1 = true := by
    clear hV
    unfold r_X8_refusalOf_10 r_X8_ofLeave at h
    (repeat' split at h) <;> first | (exact absurd h (by decide)) | assumption | (simp_all; done)
  have h3 : ¬ zI σ 400 w1.toNatClampNeg = 0 := by
    clear hV
    unfold r_X8_refusalOf_10 r_X8_ofLeave at h
    (repeat' split at h) <;> first | (exact absurd h (by decide)) | assumption | (simp_all; done)
  obtain ⟨a, ha6, ha, hin⟩ := zload hV h0
  obtain ⟨a0, rfl⟩ : ∃ a0, a = a0 + 1 := by
    cases a with
    | zero => exact absurd ha h3
    | succ a0 => exact ⟨a0, rfl⟩
  exact ctX5_perform_10 l D cy ad σ hj w1 w2 w3 w4 (zhas_in hV.2.2.1 (by decide) h0) a0 ha (by omega) (hin a0 (by omega)).1 (hin a0 (by omega)).2
set_option maxHeartbeats 4000000 in
theorem cpX5_perform_11 (l : Launch) (D : va_G) (cy : Nat → ClassId) (ad : Nat → Nat → Nat) (σ : zS) (hj : zinj ad zsL) (w1 w2 w3 w4 : Int32) (hV : zV σ) (h : r_X8_refusalOf_11 σ w1 w2 w3 w4 = 0) : Met l yX5_perform (zw yX5_perform cX5_perform 6 (some .int)) (zrm 4) (va_Pc [.ref (ad 0 0), .int 11, .int w1, .int w2, .int w3, .int w4] (zB D cy (zW D cy ad zsL σ))) (zqM (some (.int (r_X5_perform_11 σ w1 w2 w3 w4))) (zW D cy ad zsL (f_X5_perform_11 σ w1 w2 w3 w4)) (zrg ad zsL)) 0 0 (zrg ad zsL) := by
  have h0 : k_has σ 507 w1 = true := by
    unfold r_X8_refusalOf_11 r_X8_ofJump at h
    refine zleave_has ?_
    clear hV
    (repeat' split at h) <;> first | (exact absurd h (by decide)) | assumption | (simp_all; done)
  obtain ⟨a, ha6, ha, hin⟩ := zload hV h0
  exact ctX5_perform_11 l D cy ad σ hj w1 w2 w3 w4 (zhas_in hV.2.2.1 (by decide) h0) a ha ha6 hin
set_option maxHeartbeats 4000000 in
theorem cpX5_perform_12 (l : Launch) (D : va_G) (cy : Nat → ClassId) (ad : Nat → Nat → Nat) (σ : zS) (hj : zinj ad zsL) (w1 w2 w3 w4 : Int32) (hV : zV σ) (h : r_X8_refusalOf_12 σ w1 w2 w3 w4 = 0) : Met l yX5_perform (zw yX5_perform cX5_perform 6 (some .int)) (zrm 4) (va_Pc [.ref (ad 0 0), .int 12, .int w1, .int w2, .int w3, .int w4] (zB D cy (zW D cy ad zsL σ))) (zqM (some (.int (r_X5_perform_12 σ w1 w2 w3 w4))) (zW D cy ad zsL (f_X5_perform_12 σ w1 w2 w3 w4)) (zrg ad zsL)) 0 0 (zrg ad zsL) := by
  have h1 : k_has σ 506 w1 = true := by
    clear hV
    unfold r_X8_refusalOf_12 r_X8_ofFind at h
    (repeat' split at h) <;> first | (exact absurd h (by decide)) | assumption | (simp_all; done)
  have h2 : ¬ (12 : Int32) ≤ zI σ 508 0 := by
    clear hV
    unfold r_X8_refusalOf_12 r_X8_ofFind at h
    (repeat' split at h) <;> first | (exact absurd h (by decide)) | assumption | (simp_all; done)
  exact ctX5_perform_12 l D cy ad σ hj w1 w2 w3 w4 (zhas_in hV.2.1 (by decide) h1) (zvc hV.2.2.2.1 (by decide) h2)
set_option maxHeartbeats 4000000 in
theorem cpX5_perform_13 (l : Launch) (D : va_G) (cy : Nat → ClassId) (ad : Nat → Nat → Nat) (σ : zS) (hj : zinj ad zsL) (w1 w2 w3 w4 : Int32) (hV : zV σ) (h : r_X8_refusalOf_13 σ w1 w2 w3 w4 = 0) : Met l yX5_perform (zw yX5_perform cX5_perform 6 (some .int)) (zrm 4) (va_Pc [.ref (ad 0 0), .int 13, .int w1, .int w2, .int w3, .int w4] (zB D cy (zW D cy ad zsL σ))) (zqM (some (.int (r_X5_perform_13 σ w1 w2 w3 w4))) (zW D cy ad zsL (f_X5_perform_13 σ w1 w2 w3 w4)) (zrg ad zsL)) 0 0 (zrg ad zsL) := by
  have h1 : k_has σ 508 w1 = true := by
    clear hV
    unfold r_X8_refusalOf_13 r_X8_ofWiden at h
    (repeat' split at h) <;> first | (exact absurd h (by decide)) | assumption | (simp_all; done)
  exact ctX5_perform_13 l D cy ad σ hj w1 w2 w3 w4 (zhas_in hV.2.2.2.1 (by decide) h1)
set_option maxHeartbeats 4000000 in
theorem cpX5_perform_14 (l : Launch) (D : va_G) (cy : Nat → ClassId) (ad : Nat → Nat → Nat) (σ : zS) (hj : zinj ad zsL) (w1 w2 w3 w4 : Int32) (hV : zV σ) (h : r_X8_refusalOf_14 σ w1 w2 w3 w4 = 0) : Met l yX5_perform (zw yX5_perform cX5_perform 6 (some .int)) (zrm 4) (va_Pc [.ref (ad 0 0), .int 14, .int w1, .int w2, .int w3, .int w4] (zB D cy (zW D cy ad zsL σ))) (zqM (some (.int (r_X5_perform_14 σ w1 w2 w3 w4))) (zW D cy ad zsL (f_X5_perform_14 σ w1 w2 w3 w4)) (zrg ad zsL)) 0 0 (zrg ad zsL) := by
  have h1 : k_has σ 508 w1 = true := by
    clear hV
    unfold r_X8_refusalOf_14 r_X8_ofTellCause at h
    (repeat' split at h) <;> first | (exact absurd h (by decide)) | assumption | (simp_all; done)
  exact ctX5_perform_14 l D cy ad σ hj w1 w2 w3 w4 (zhas_in hV.2.2.2.1 (by decide) h1)
set_option maxHeartbeats 4000000 in
theorem cpX5_perform_15 (l : Launch) (D : va_G) (cy : Nat → ClassId) (ad : Nat → Nat → Nat) (σ : zS) (hj : zinj ad zsL) (w1 w2 w3 w4 : Int32) (hV : zV σ) (h : r_X8_refusalOf_15 σ w1 w2 w3 w4 = 0) : Met l yX5_perform (zw yX5_perform cX5_perform 6 (some .int)) (zrm 4) (va_Pc [.ref (ad 0 0), .int 15, .int w1, .int w2, .int w3, .int w4] (zB D cy (zW D cy ad zsL σ))) (zqM (some (.int (r_X5_perform_15 σ w1 w2 w3 w4))) (zW D cy ad zsL (f_X5_perform_15 σ w1 w2 w3 w4)) (zrg ad zsL)) 0 0 (zrg ad zsL) := by
  have h1 : k_has σ 508 w1 = true := by
    clear hV
    unfold r_X8_refusalOf_15 at h
    (repeat' split at h) <;> first | (exact absurd h (by decide)) | assumption | (simp_all; done)
  exact ctX5_perform_15 l D cy ad σ hj w1 w2 w3 w4 (zhas_in hV.2.2.2.1 (by decide) h1)
set_option maxHeartbeats 4000000 in
theorem cpX5_perform_16 (l : Launch) (D : va_G) (cy : Nat → ClassId) (ad : Nat → Nat → Nat) (σ : zS) (hj : zinj ad zsL) (w1 w2 w3 w4 : Int32) (hV : zV σ) (h : r_X8_refusalOf_16 σ w1 w2 w3 w4 = 0) : Met l yX5_perform (zw yX5_perform cX5_perform 6 (some .int)) (zrm 4) (va_Pc [.ref (ad 0 0), .int 16, .int w1, .int w2, .int w3, .int w4] (zB D cy (zW D cy ad zsL σ))) (zqM (some (.int (r_X5_perform_16 σ w1 w2 w3 w4))) (zW D cy ad zsL (f_X5_perform_16 σ w1 w2 w3 w4)) (zrg ad zsL)) 0 0 (zrg ad zsL) := by
  have h1 : k_has σ 506 w1 = true := by
    clear hV
    unfold r_X8_refusalOf_16 r_X8_ofRepair at h
    (repeat' split at h) <;> first | (exact absurd h (by decide)) | assumption | (simp_all; done)
  exact ctX5_perform_16 l D cy ad σ hj w1 w2 w3 w4 (zhas_in hV.2.1 (by decide) h1) hV.2.2.2.1
set_option maxHeartbeats 4000000 in
theorem cpX5_perform_17 (l : Launch) (D : va_G) (cy : Nat → ClassId) (ad : Nat → Nat → Nat) (σ : zS) (hj : zinj ad zsL) (w1 w2 w3 w4 : Int32) (hV : zV σ) (h : r_X8_refusalOf_17 σ w1 w2 w3 w4 = 0) : Met l yX5_perform (zw yX5_perform cX5_perform 6 (some .int)) (zrm 4) (va_Pc [.ref (ad 0 0), .int 17, .int w1, .int w2, .int w3, .int w4] (zB D cy (zW D cy ad zsL σ))) (zqM (some (.int (r_X5_perform_17 σ w1 w2 w3 w4))) (zW D cy ad zsL (f_X5_perform_17 σ w1 w2 w3 w4)) (zrg ad zsL)) 0 0 (zrg ad zsL) := by
  have h1 : k_has σ 506 w1 = true := by
    clear hV
    unfold r_X8_refusalOf_17 r_X8_ofCanopyIn at h
    (repeat' split at h) <;> first | (exact absurd h (by decide)) | assumption | (simp_all; done)
  exact ctX5_perform_17 l D cy ad σ hj w1 w2 w3 w4 (zhas_in hV.2.1 (by decide) h1) hV.2.2.2.1
set_option maxHeartbeats 4000000 in
theorem cpX5_perform_18 (l : Launch) (D : va_G) (cy : Nat → ClassId) (ad : Nat → Nat → Nat) (σ : zS) (hj : zinj ad zsL) (w1 w2 w3 w4 : Int32) (hV : zV σ) (h : r_X8_refusalOf_18 σ w1 w2 w3 w4 = 0) : Met l yX5_perform (zw yX5_perform cX5_perform 6 (some .int)) (zrm 4) (va_Pc [.ref (ad 0 0), .int 18, .int w1, .int w2, .int w3, .int w4] (zB D cy (zW D cy ad zsL σ))) (zqM (some (.int (r_X5_perform_18 σ w1 w2 w3 w4))) (zW D cy ad zsL (f_X5_perform_18 σ w1 w2 w3 w4)) (zrg ad zsL)) 0 0 (zrg ad zsL) := by
  have h1 : k_has σ 506 w1 = true := by
    clear hV
    unfold r_X8_refusalOf_18 r_X8_ofHire at h
    (repeat' split at h) <;> first | (exact absurd h (by decide)) | assumption | (simp_all; done)
  exact ctX5_perform_18 l D cy ad σ hj w1 w2 w3 w4 (zhas_in hV.2.1 (by decide) h1)
set_option maxHeartbeats 4000000 in
theorem cpX5_perform_19 (l : Launch) (D : va_G) (cy : Nat → ClassId) (ad : Nat → Nat → Nat) (σ : zS) (hj : zinj ad zsL) (w1 w2 w3 w4 : Int32) (hV : zV σ) (h : r_X8_refusalOf_19 σ w1 w2 w3 w4 = 0) : Met l yX5_perform (zw yX5_perform cX5_perform 6 (some .int)) (zrm 4) (va_Pc [.ref (ad 0 0), .int 19, .int w1, .int w2, .int w3, .int w4] (zB D cy (zW D cy ad zsL σ))) (zqM (some (.int (r_X5_perform_19 σ w1 w2 w3 w4))) (zW D cy ad zsL (f_X5_perform_19 σ w1 w2 w3 w4)) (zrg ad zsL)) 0 0 (zrg ad zsL) := by
  have h1 : k_has σ 506 w1 = true := by
    clear hV
    unfold r_X8_refusalOf_19 r_X8_ofCanopyIn at h
    (repeat' split at h) <;> first | (exact absurd h (by decide)) | assumption | (simp_all; done)
  exact ctX5_perform_19 l D cy ad σ hj w1 w2 w3 w4 (zhas_in hV.2.1 (by decide) h1) hV.2.2.2.1
theorem ctX5_perform (l : Launch) (D : va_G) (cy : Nat → ClassId) (ad : Nat → Nat → Nat) (σ : zS) (hj : zinj ad zsL) (n : Nat) (hn : n < 20) (w1 w2 w3 w4 : Int32) (hV : zV σ) (h : k_ref σ (nI n) w1 w2 w3 w4 = 0) : Met l yX5_perform (zw yX5_perform cX5_perform 6 (some .int)) (zrm 4) (va_Pc [.ref (ad 0 0), .int (nI n), .int w1, .int w2, .int w3, .int w4] (zB D cy (zW D cy ad zsL σ))) (zqM (some (.int (k_pr σ (nI n) w1 w2 w3 w4))) (zW D cy ad zsL (k_pf σ (nI n) w1 w2 w3 w4)) (zrg ad zsL)) 0 0 (zrg ad zsL) := by
  rcases (show n = 0 ∨ n = 1 ∨ n = 2 ∨ n = 3 ∨ n = 4 ∨ n = 5 ∨ n = 6 ∨ n = 7 ∨ n = 8 ∨ n = 9 ∨ n = 10 ∨ n = 11 ∨ n = 12 ∨ n = 13 ∨ n = 14 ∨ n = 15 ∨ n = 16 ∨ n = 17 ∨ n = 18 ∨ n = 19 by omega) with rfl | rfl | rfl | rfl | rfl | rfl | rfl | rfl | rfl | rfl | rfl | rfl | rfl | rfl | rfl | rfl | rfl | rfl | rfl | rfl
  · rw [show nI 0 = 0 from rfl] at h ⊢; rw [k_ref_0] at h; rw [k_pf_0, k_pr_0]; exact cpX5_perform_0 l D cy ad σ hj w1 w2 w3 w4 hV h
  · rw [show nI 1 = 1 from rfl] at h ⊢; rw [k_ref_1] at h; rw [k_pf_1, k_pr_1]; exact cpX5_perform_1 l D cy ad σ hj w1 w2 w3 w4 hV h
  · rw [show nI 2 = 2 from rfl] at h ⊢; rw [k_ref_2] at h; rw [k_pf_2, k_pr_2]; exact cpX5_perform_2 l D cy ad σ hj w1 w2 w3 w4 hV h
  · rw [show nI 3 = 3 from rfl] at h ⊢; rw [k_ref_3] at h; rw [k_pf_3, k_pr_3]; exact cpX5_perform_3 l D cy ad σ hj w1 w2 w3 w4 hV h
  · rw [show nI 4 = 4 from rfl] at h ⊢; rw [k_ref_4] at h; rw [k_pf_4, k_pr_4]; exact cpX5_perform_4 l D cy ad σ hj w1 w2 w3 w4 hV h
  · rw [show nI 5 = 5 from rfl] at h ⊢; rw [k_ref_5] at h; rw [k_pf_5, k_pr_5]; exact cpX5_perform_5 l D cy ad σ hj w1 w2 w3 w4 hV h
  · rw [show nI 6 = 6 from rfl] at h ⊢; rw [k_ref_6] at h; rw [k_pf_6, k_pr_6]; exact cpX5_perform_6 l D cy ad σ hj w1 w2 w3 w4 hV h
  · rw [show nI 7 = 7 from rfl] at h ⊢; rw [k_ref_7] at h; rw [k_pf_7, k_pr_7]; exact cpX5_perform_7 l D cy ad σ hj w1 w2 w3 w4 hV h
  · rw [show nI 8 = 8 from rfl] at h ⊢; rw [k_ref_8] at h; rw [k_pf_8, k_pr_8]; exact cpX5_perform_8 l D cy ad σ hj w1 w2 w3 w4 hV h
  · rw [show nI 9 = 9 from rfl] at h ⊢; rw [k_ref_9] at h; rw [k_pf_9, k_pr_9]; exact cpX5_perform_9 l D cy ad σ hj w1 w2 w3 w4 hV h
  · rw [show nI 10 = 10 from rfl] at h ⊢; rw [k_ref_10] at h; rw [k_pf_10, k_pr_10]; exact cpX5_perform_10 l D cy ad σ hj w1 w2 w3 w4 hV h
  · rw [show nI 11 = 11 from rfl] at h ⊢; rw [k_ref_11] at h; rw [k_pf_11, k_pr_11]; exact cpX5_perform_11 l D cy ad σ hj w1 w2 w3 w4 hV h
  · rw [show nI 12 = 12 from rfl] at h ⊢; rw [k_ref_12] at h; rw [k_pf_12, k_pr_12]; exact cpX5_perform_12 l D cy ad σ hj w1 w2 w3 w4 hV h
  · rw [show nI 13 = 13 from rfl] at h ⊢; rw [k_ref_13] at h; rw [k_pf_13, k_pr_13]; exact cpX5_perform_13 l D cy ad σ hj w1 w2 w3 w4 hV h
  · rw [show nI 14 = 14 from rfl] at h ⊢; rw [k_ref_14] at h; rw [k_pf_14, k_pr_14]; exact cpX5_perform_14 l D cy ad σ hj w1 w2 w3 w4 hV h
  · rw [show nI 15 = 15 from rfl] at h ⊢; rw [k_ref_15] at h; rw [k_pf_15, k_pr_15]; exact cpX5_perform_15 l D cy ad σ hj w1 w2 w3 w4 hV h
  · rw [show nI 16 = 16 from rfl] at h ⊢; rw [k_ref_16] at h; rw [k_pf_16, k_pr_16]; exact cpX5_perform_16 l D cy ad σ hj w1 w2 w3 w4 hV h
  · rw [show nI 17 = 17 from rfl] at h ⊢; rw [k_ref_17] at h; rw [k_pf_17, k_pr_17]; exact cpX5_perform_17 l D cy ad σ hj w1 w2 w3 w4 hV h
  · rw [show nI 18 = 18 from rfl] at h ⊢; rw [k_ref_18] at h; rw [k_pf_18, k_pr_18]; exact cpX5_perform_18 l D cy ad σ hj w1 w2 w3 w4 hV h
  · rw [show nI 19 = 19 from rfl] at h ⊢; rw [k_ref_19] at h; rw [k_pf_19, k_pr_19]; exact cpX5_perform_19 l D cy ad σ hj w1 w2 w3 w4 hV h
