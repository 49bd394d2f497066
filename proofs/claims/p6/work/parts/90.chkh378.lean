theorem ck1_378 : dx_chk1 ⟨XE, pd_X12_plan, in_378, 378, dx_ist, sl_X12_plan⟩ 2 4000 = true := by decide +kernel
theorem cks_378_0 : dx_chks ⟨XE, pd_X12_plan, in_378, 378, dx_ist, sl_X12_plan⟩ 4000 0 4 = true := by decide +kernel
theorem cks_378_4 : dx_chks ⟨XE, pd_X12_plan, in_378, 378, dx_ist, sl_X12_plan⟩ 4000 4 4 = true := by decide +kernel
theorem cks_378_8 : dx_chks ⟨XE, pd_X12_plan, in_378, 378, dx_ist, sl_X12_plan⟩ 4000 8 4 = true := by decide +kernel
theorem cks_378_12 : dx_chks ⟨XE, pd_X12_plan, in_378, 378, dx_ist, sl_X12_plan⟩ 4000 12 4 = true := by decide +kernel
theorem cks_378_16 : dx_chks ⟨XE, pd_X12_plan, in_378, 378, dx_ist, sl_X12_plan⟩ 4000 16 4 = true := by decide +kernel
theorem cks_378_20 : dx_chks ⟨XE, pd_X12_plan, in_378, 378, dx_ist, sl_X12_plan⟩ 4000 20 4 = true := by decide +kernel
theorem cks_378_24 : dx_chks ⟨XE, pd_X12_plan, in_378, 378, dx_ist, sl_X12_plan⟩ 4000 24 4 = true := by decide +kernel
theorem cks_378_28 : dx_chks ⟨XE, pd_X12_plan, in_378, 378, dx_ist, sl_X12_plan⟩ 4000 28 4 = true := by decide +kernel
theorem cks_378_32 : dx_chks ⟨XE, pd_X12_plan, in_378, 378, dx_ist, sl_X12_plan⟩ 4000 32 4 = true := by decide +kernel
theorem cks_378_36 : dx_chks ⟨XE, pd_X12_plan, in_378, 378, dx_ist, sl_X12_plan⟩ 4000 36 4 = true := by decide +kernel
theorem cks_378_40 : dx_chks ⟨XE, pd_X12_plan, in_378, 378, dx_ist, sl_X12_plan⟩ 4000 40 4 = true := by decide +kernel
theorem cks_378_44 : dx_chks ⟨XE, pd_X12_plan, in_378, 378, dx_ist, sl_X12_plan⟩ 4000 44 4 = true := by decide +kernel
theorem cks_378_48 : dx_chks ⟨XE, pd_X12_plan, in_378, 378, dx_ist, sl_X12_plan⟩ 4000 48 4 = true := by decide +kernel
theorem cks_378_52 : dx_chks ⟨XE, pd_X12_plan, in_378, 378, dx_ist, sl_X12_plan⟩ 4000 52 4 = true := by decide +kernel
theorem cks_378_56 : dx_chks ⟨XE, pd_X12_plan, in_378, 378, dx_ist, sl_X12_plan⟩ 4000 56 4 = true := by decide +kernel
theorem cks_378_60 : dx_chks ⟨XE, pd_X12_plan, in_378, 378, dx_ist, sl_X12_plan⟩ 4000 60 4 = true := by decide +kernel
theorem ck_378 : dx_chk ⟨XE, pd_X12_plan, in_378, 378, dx_ist, sl_X12_plan⟩ 2 4000 = true := dx_chk_parts ck1_378 (dx_chks_app cks_378_0 (dx_chks_app cks_378_4 (dx_chks_app cks_378_8 (dx_chks_app cks_378_12 (dx_chks_app cks_378_16 (dx_chks_app cks_378_20 (dx_chks_app cks_378_24 (dx_chks_app cks_378_28 (dx_chks_app cks_378_32 (dx_chks_app cks_378_36 (dx_chks_app cks_378_40 (dx_chks_app cks_378_44 (dx_chks_app cks_378_48 (dx_chks_app cks_378_52 (dx_chks_app cks_378_56 (dx_chks_app cks_378_60 (dx_chks_nil (by decide +kernel))))))))))))))))))
