theorem ck1_365 : dx_chk1 ⟨XE, pd_X12_plan, in_365, 365, dx_ist, sl_X12_plan⟩ 2 4000 = true := by decide +kernel
theorem cks_365_0 : dx_chks ⟨XE, pd_X12_plan, in_365, 365, dx_ist, sl_X12_plan⟩ 4000 0 4 = true := by decide +kernel
theorem cks_365_4 : dx_chks ⟨XE, pd_X12_plan, in_365, 365, dx_ist, sl_X12_plan⟩ 4000 4 4 = true := by decide +kernel
theorem cks_365_8 : dx_chks ⟨XE, pd_X12_plan, in_365, 365, dx_ist, sl_X12_plan⟩ 4000 8 4 = true := by decide +kernel
theorem cks_365_12 : dx_chks ⟨XE, pd_X12_plan, in_365, 365, dx_ist, sl_X12_plan⟩ 4000 12 4 = true := by decide +kernel
theorem cks_365_16 : dx_chks ⟨XE, pd_X12_plan, in_365, 365, dx_ist, sl_X12_plan⟩ 4000 16 4 = true := by decide +kernel
theorem cks_365_20 : dx_chks ⟨XE, pd_X12_plan, in_365, 365, dx_ist, sl_X12_plan⟩ 4000 20 4 = true := by decide +kernel
theorem cks_365_24 : dx_chks ⟨XE, pd_X12_plan, in_365, 365, dx_ist, sl_X12_plan⟩ 4000 24 4 = true := by decide +kernel
theorem cks_365_28 : dx_chks ⟨XE, pd_X12_plan, in_365, 365, dx_ist, sl_X12_plan⟩ 4000 28 4 = true := by decide +kernel
theorem cks_365_32 : dx_chks ⟨XE, pd_X12_plan, in_365, 365, dx_ist, sl_X12_plan⟩ 4000 32 4 = true := by decide +kernel
theorem cks_365_36 : dx_chks ⟨XE, pd_X12_plan, in_365, 365, dx_ist, sl_X12_plan⟩ 4000 36 4 = true := by decide +kernel
theorem cks_365_40 : dx_chks ⟨XE, pd_X12_plan, in_365, 365, dx_ist, sl_X12_plan⟩ 4000 40 4 = true := by decide +kernel
theorem cks_365_44 : dx_chks ⟨XE, pd_X12_plan, in_365, 365, dx_ist, sl_X12_plan⟩ 4000 44 4 = true := by decide +kernel
theorem cks_365_48 : dx_chks ⟨XE, pd_X12_plan, in_365, 365, dx_ist, sl_X12_plan⟩ 4000 48 4 = true := by decide +kernel
theorem cks_365_52 : dx_chks ⟨XE, pd_X12_plan, in_365, 365, dx_ist, sl_X12_plan⟩ 4000 52 4 = true := by decide +kernel
theorem cks_365_56 : dx_chks ⟨XE, pd_X12_plan, in_365, 365, dx_ist, sl_X12_plan⟩ 4000 56 4 = true := by decide +kernel
theorem cks_365_60 : dx_chks ⟨XE, pd_X12_plan, in_365, 365, dx_ist, sl_X12_plan⟩ 4000 60 4 = true := by decide +kernel
theorem ck_365 : dx_chk ⟨XE, pd_X12_plan, in_365, 365, dx_ist, sl_X12_plan⟩ 2 4000 = true := dx_chk_parts ck1_365 (dx_chks_app cks_365_0 (dx_chks_app cks_365_4 (dx_chks_app cks_365_8 (dx_chks_app cks_365_12 (dx_chks_app cks_365_16 (dx_chks_app cks_365_20 (dx_chks_app cks_365_24 (dx_chks_app cks_365_28 (dx_chks_app cks_365_32 (dx_chks_app cks_365_36 (dx_chks_app cks_365_40 (dx_chks_app cks_365_44 (dx_chks_app cks_365_48 (dx_chks_app cks_365_52 (dx_chks_app cks_365_56 (dx_chks_app cks_365_60 (dx_chks_nil (by decide +kernel))))))))))))))))))
