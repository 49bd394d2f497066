theorem ck1_347 : dx_chk1 ⟨XE, pd_X12_planLine, in_347, 347, dx_ist, sl_X12_planLine⟩ 3 4000 = true := by decide +kernel
theorem cks_347_0 : dx_chks ⟨XE, pd_X12_planLine, in_347, 347, dx_ist, sl_X12_planLine⟩ 4000 0 1 = true := by decide +kernel
theorem cks_347_1 : dx_chks ⟨XE, pd_X12_planLine, in_347, 347, dx_ist, sl_X12_planLine⟩ 4000 1 1 = true := by decide +kernel
theorem cks_347_2 : dx_chks ⟨XE, pd_X12_planLine, in_347, 347, dx_ist, sl_X12_planLine⟩ 4000 2 1 = true := by decide +kernel
theorem cks_347_3 : dx_chks ⟨XE, pd_X12_planLine, in_347, 347, dx_ist, sl_X12_planLine⟩ 4000 3 1 = true := by decide +kernel
theorem cks_347_4 : dx_chks ⟨XE, pd_X12_planLine, in_347, 347, dx_ist, sl_X12_planLine⟩ 4000 4 1 = true := by decide +kernel
theorem cks_347_5 : dx_chks ⟨XE, pd_X12_planLine, in_347, 347, dx_ist, sl_X12_planLine⟩ 4000 5 1 = true := by decide +kernel
theorem cks_347_6 : dx_chks ⟨XE, pd_X12_planLine, in_347, 347, dx_ist, sl_X12_planLine⟩ 4000 6 1 = true := by decide +kernel
theorem cks_347_7 : dx_chks ⟨XE, pd_X12_planLine, in_347, 347, dx_ist, sl_X12_planLine⟩ 4000 7 1 = true := by decide +kernel
theorem cks_347_8 : dx_chks ⟨XE, pd_X12_planLine, in_347, 347, dx_ist, sl_X12_planLine⟩ 4000 8 1 = true := by decide +kernel
theorem cks_347_9 : dx_chks ⟨XE, pd_X12_planLine, in_347, 347, dx_ist, sl_X12_planLine⟩ 4000 9 1 = true := by decide +kernel
theorem ck_347 : dx_chk ⟨XE, pd_X12_planLine, in_347, 347, dx_ist, sl_X12_planLine⟩ 3 4000 = true := dx_chk_parts ck1_347 (dx_chks_app cks_347_0 (dx_chks_app cks_347_1 (dx_chks_app cks_347_2 (dx_chks_app cks_347_3 (dx_chks_app cks_347_4 (dx_chks_app cks_347_5 (dx_chks_app cks_347_6 (dx_chks_app cks_347_7 (dx_chks_app cks_347_8 (dx_chks_app cks_347_9 (dx_chks_nil (by decide +kernel))))))))))))
