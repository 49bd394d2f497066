theorem ck1_306 : dx_chk1 ⟨XE, pd_X12_driest, in_306, 306, dx_ist, sl_X12_driest⟩ 9 4000 = true := by decide +kernel
theorem cks_306_0 : dx_chks ⟨XE, pd_X12_driest, in_306, 306, dx_ist, sl_X12_driest⟩ 4000 0 4 = true := by decide +kernel
theorem cks_306_4 : dx_chks ⟨XE, pd_X12_driest, in_306, 306, dx_ist, sl_X12_driest⟩ 4000 4 4 = true := by decide +kernel
theorem cks_306_8 : dx_chks ⟨XE, pd_X12_driest, in_306, 306, dx_ist, sl_X12_driest⟩ 4000 8 4 = true := by decide +kernel
theorem cks_306_12 : dx_chks ⟨XE, pd_X12_driest, in_306, 306, dx_ist, sl_X12_driest⟩ 4000 12 4 = true := by decide +kernel
theorem cks_306_16 : dx_chks ⟨XE, pd_X12_driest, in_306, 306, dx_ist, sl_X12_driest⟩ 4000 16 4 = true := by decide +kernel
theorem cks_306_20 : dx_chks ⟨XE, pd_X12_driest, in_306, 306, dx_ist, sl_X12_driest⟩ 4000 20 4 = true := by decide +kernel
theorem cks_306_24 : dx_chks ⟨XE, pd_X12_driest, in_306, 306, dx_ist, sl_X12_driest⟩ 4000 24 4 = true := by decide +kernel
theorem cks_306_28 : dx_chks ⟨XE, pd_X12_driest, in_306, 306, dx_ist, sl_X12_driest⟩ 4000 28 4 = true := by decide +kernel
theorem cks_306_32 : dx_chks ⟨XE, pd_X12_driest, in_306, 306, dx_ist, sl_X12_driest⟩ 4000 32 4 = true := by decide +kernel
theorem ck_306 : dx_chk ⟨XE, pd_X12_driest, in_306, 306, dx_ist, sl_X12_driest⟩ 9 4000 = true := dx_chk_parts ck1_306 (dx_chks_app cks_306_0 (dx_chks_app cks_306_4 (dx_chks_app cks_306_8 (dx_chks_app cks_306_12 (dx_chks_app cks_306_16 (dx_chks_app cks_306_20 (dx_chks_app cks_306_24 (dx_chks_app cks_306_28 (dx_chks_app cks_306_32 (dx_chks_nil (by decide +kernel)))))))))))
