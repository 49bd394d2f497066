theorem l_isN_0 {K : dw_K} (h : K (some (.int 0)) (dw_si (435, SH1, IN1, JN1) 404 0 0)) : t_X12_isNight [.ref 404, .int 0] (dw_si (435, SH1, IN1, JN1) 404 0 0) K := by
  refine dw_enter rfl ?_
  refine rB_X12_isNight (fun B hB => ?_)
  refine hB _ _ _ _ _ _ ?_
  refine dw_okS rfl rfl rfl (by decide) rfl rfl ?_
  refine dw_enter rfl ?_
  refine rB_X12_isIn (fun B hB => ?_)
  refine rB_X12_isNight (fun B hB => ?_)
  exact h
theorem l_isN_1 {K : dw_K} (h : K (some (.int 0)) (dw_si (435, SH1, IN1, JN1) 404 0 0)) : t_X12_isNight [.ref 404, .int 1] (dw_si (435, SH1, IN1, JN1) 404 0 0) K := by
  refine dw_enter rfl ?_
  refine rB_X12_isNight (fun B hB => ?_)
  refine hB _ _ _ _ _ _ ?_
  refine dw_okS rfl rfl rfl (by decide) rfl rfl ?_
  refine dw_enter rfl ?_
  refine rB_X12_isIn (fun B hB => ?_)
  refine rB_X12_isNight (fun B hB => ?_)
  exact h
theorem l_isN_2 {K : dw_K} (h : K (some (.int 0)) (dw_si (435, SH1, IN1, JN1) 404 0 0)) : t_X12_isNight [.ref 404, .int 2] (dw_si (435, SH1, IN1, JN1) 404 0 0) K := by
  refine dw_enter rfl ?_
  refine rB_X12_isNight (fun B hB => ?_)
  refine hB _ _ _ _ _ _ ?_
  refine dw_okS rfl rfl rfl (by decide) rfl rfl ?_
  refine dw_enter rfl ?_
  refine rB_X12_isIn (fun B hB => ?_)
  refine rB_X12_isNight (fun B hB => ?_)
  exact h
theorem l_isN_3 {K : dw_K} (h : K (some (.int 0)) (dw_si (435, SH1, IN1, JN1) 404 0 0)) : t_X12_isNight [.ref 404, .int 3] (dw_si (435, SH1, IN1, JN1) 404 0 0) K := by
  refine dw_enter rfl ?_
  refine rB_X12_isNight (fun B hB => ?_)
  refine hB _ _ _ _ _ _ ?_
  refine dw_okS rfl rfl rfl (by decide) rfl rfl ?_
  refine dw_enter rfl ?_
  refine rB_X12_isIn (fun B hB => ?_)
  refine rB_X12_isNight (fun B hB => ?_)
  exact h
theorem l_isN_4 {K : dw_K} (h : K (some (.int 0)) (dw_si (435, SH1, IN1, JN1) 404 0 0)) : t_X12_isNight [.ref 404, .int 4] (dw_si (435, SH1, IN1, JN1) 404 0 0) K := by
  refine dw_enter rfl ?_
  refine rB_X12_isNight (fun B hB => ?_)
  refine hB _ _ _ _ _ _ ?_
  refine dw_okS rfl rfl rfl (by decide) rfl rfl ?_
  refine dw_enter rfl ?_
  refine rB_X12_isIn (fun B hB => ?_)
  refine rB_X12_isNight (fun B hB => ?_)
  exact h
theorem l_isN_5 {K : dw_K} (h : K (some (.int 0)) (dw_si (435, SH1, IN1, JN1) 404 0 0)) : t_X12_isNight [.ref 404, .int 5] (dw_si (435, SH1, IN1, JN1) 404 0 0) K := by
  refine dw_enter rfl ?_
  refine rB_X12_isNight (fun B hB => ?_)
  refine hB _ _ _ _ _ _ ?_
  refine dw_okS rfl rfl rfl (by decide) rfl rfl ?_
  refine dw_enter rfl ?_
  refine rB_X12_isIn (fun B hB => ?_)
  refine rB_X12_isNight (fun B hB => ?_)
  exact h
