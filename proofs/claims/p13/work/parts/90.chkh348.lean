theorem ck1_348 : dx_chk1 ⟨XE, pd_X12_plan, in_348, 348, dx_ist, sl_X12_plan⟩ 2 4000 = true := by decide +kernel
theorem cks_348_0 : dx_chks ⟨XE, pd_X12_plan, in_348, 348, dx_ist, sl_X12_plan⟩ 4000 0 4 = true := by decide +kernel
theorem cks_348_4 : dx_chks ⟨XE, pd_X12_plan, in_348, 348, dx_ist, sl_X12_plan⟩ 4000 4 4 = true := by decide +kernel
theorem cks_348_8 : dx_chks ⟨XE, pd_X12_plan, in_348, 348, dx_ist, sl_X12_plan⟩ 4000 8 4 = true := by decide +kernel
theorem cks_348_12 : dx_chks ⟨XE, pd_X12_plan, in_348, 348, dx_ist, sl_X12_plan⟩ 4000 12 4 = true := by decide +kernel
theorem cks_348_16 : dx_chks ⟨XE, pd_X12_plan, in_348, 348, dx_ist, sl_X12_plan⟩ 4000 16 4 = true := by decide +kernel
theorem cks_348_20 : dx_chks ⟨XE, pd_X12_plan, in_348, 348, dx_ist, sl_X12_plan⟩ 4000 20 4 = true := by decide +kernel
theorem cks_348_24 : dx_chks ⟨XE, pd_X12_plan, in_348, 348, dx_ist, sl_X12_plan⟩ 4000 24 4 = true := by decide +kernel
theorem cks_348_28 : dx_chks ⟨XE, pd_X12_plan, in_348, 348, dx_ist, sl_X12_plan⟩ 4000 28 4 = true := by decide +kernel
theorem ck_348 : dx_chk ⟨XE, pd_X12_plan, in_348, 348, dx_ist, sl_X12_plan⟩ 2 4000 = true := dx_chk_parts ck1_348 (dx_chks_app cks_348_0 (dx_chks_app cks_348_4 (dx_chks_app cks_348_8 (dx_chks_app cks_348_12 (dx_chks_app cks_348_16 (dx_chks_app cks_348_20 (dx_chks_app cks_348_24 (dx_chks_app cks_348_28 (dx_chks_nil (by decide +kernel))))))))))
