theorem ck1_293 : dx_chk1 ⟨XE, pd_X12_driest, in_293, 293, dx_ist, sl_X12_driest⟩ 9 4000 = true := by decide +kernel
theorem cks_293_0 : dx_chks ⟨XE, pd_X12_driest, in_293, 293, dx_ist, sl_X12_driest⟩ 4000 0 4 = true := by decide +kernel
theorem cks_293_4 : dx_chks ⟨XE, pd_X12_driest, in_293, 293, dx_ist, sl_X12_driest⟩ 4000 4 4 = true := by decide +kernel
theorem cks_293_8 : dx_chks ⟨XE, pd_X12_driest, in_293, 293, dx_ist, sl_X12_driest⟩ 4000 8 4 = true := by decide +kernel
theorem cks_293_12 : dx_chks ⟨XE, pd_X12_driest, in_293, 293, dx_ist, sl_X12_driest⟩ 4000 12 4 = true := by decide +kernel
theorem cks_293_16 : dx_chks ⟨XE, pd_X12_driest, in_293, 293, dx_ist, sl_X12_driest⟩ 4000 16 4 = true := by decide +kernel
theorem cks_293_20 : dx_chks ⟨XE, pd_X12_driest, in_293, 293, dx_ist, sl_X12_driest⟩ 4000 20 4 = true := by decide +kernel
theorem cks_293_24 : dx_chks ⟨XE, pd_X12_driest, in_293, 293, dx_ist, sl_X12_driest⟩ 4000 24 4 = true := by decide +kernel
theorem cks_293_28 : dx_chks ⟨XE, pd_X12_driest, in_293, 293, dx_ist, sl_X12_driest⟩ 4000 28 4 = true := by decide +kernel
theorem cks_293_32 : dx_chks ⟨XE, pd_X12_driest, in_293, 293, dx_ist, sl_X12_driest⟩ 4000 32 4 = true := by decide +kernel
theorem ck_293 : dx_chk ⟨XE, pd_X12_driest, in_293, 293, dx_ist, sl_X12_driest⟩ 9 4000 = true := dx_chk_parts ck1_293 (dx_chks_app cks_293_0 (dx_chks_app cks_293_4 (dx_chks_app cks_293_8 (dx_chks_app cks_293_12 (dx_chks_app cks_293_16 (dx_chks_app cks_293_20 (dx_chks_app cks_293_24 (dx_chks_app cks_293_28 (dx_chks_app cks_293_32 (dx_chks_nil (by decide +kernel)))))))))))
