/-! ===== the law's first steps, purely ===== -/
theorem dw_callV {B : dw_B} {bc bs : Nat} {ls : dw_L} {st : List Value} {μ : dw_S} {ci k mc ms nx a : Nat} {T : dw_T} {as rest : List Value} (h : dw_sp k st [] = (.ref a :: as, rest)) (h1 : (μ.2.1 a).1 = ci) (h2 : as.length + 1 = k) (h3 : dw_cats rest ≤ 8) (h4 : mc ≤ bc) (h5 : ms ≤ bs) (hT : T (.ref a :: as) μ (fun r μ' => B nx (bc - mc) (bs - ms) ls (r.toList ++ rest) μ')) : o_callV ci k mc ms T nx B bc bs ls st μ := by
  unfold o_callV
  rw [h]
  exact dw_itp ⟨h1, h2, h3, h4, h5⟩ hT
def SH0 : dw_Sh := fun _ => (999, 0, fun _ => none)
def SHa : dw_Sh := sh_nw 0 SH0 11 18
def SHb : dw_Sh := f_X11_init 1 SHa 0
def SHc : dw_Sh := sh_nw 404 SHb 12 57
def SHd : dw_Sh := f_X12_init 405 SHc 404
def SH1 : dw_Sh := sh_nw 434 SHd 17 1
def I00 : Nat → Nat → Int32 := fun _ _ => 0
def J00 : Nat → Nat → Int64 := fun _ _ => 0
def IN0 : Nat → Nat → Int32 := g_X11_init 1 I00 0
def IN1 : Nat → Nat → Int32 := g_X12_init 405 IN0 404
def JN1 : Nat → Nat → Int64 := j_X12_init 405 J00 404
def dw_l1 (i : Int32) (u v : Option Value) : dw_L := [some (.ref 1000000), some (.ref 0), some (.ref 404), some (.ref 434), some (.int i), u, v]
set_option maxRecDepth 20000 in
theorem law_a {L : Nat} {xs : Nat → Int32} (hK : dw_ok (pr_law L xs) 23 600589 7238097 (dw_l1 0 none none) [] (435, SH1, IN1, JN1)) : dw_ok (pr_law L xs) 0 601024 7293034 (dw_pad 7 (dw_inl [.ref 1000000])) [] (0, SH0, I00, J00) := by
  have z0 : dw_Z 0 I00 J00 := fun _ _ _ => ⟨rfl, rfl⟩
  have z1 : dw_Z 1 I00 J00 := fun _ _ _ => ⟨rfl, rfl⟩
  have z2 : dw_Z 404 IN0 J00 := z_X11_init (n := 1) (m := 404) (a := 0) z1 rfl (by omega)
  have z3 : dw_Z 405 IN0 J00 := dw_Z.up z2 (by omega)
  have z4 : dw_Z 434 IN1 JN1 := z_X12_init (n := 405) (m := 434) (a := 404) z3 rfl (by omega)
  refine dw_run 40 (fun pc => Nat.beq pc 4) ?_
  show dw_ok (pr_law L xs) 4 601023 7293016 [some (.ref 1000000), none, none, none, none, none, none] [.ref 0, .ref 0] (dw_nw (0, SH0, I00, J00) 11 18)
  rw [dw_nw_eq (n := 0) (m := 1) z0 rfl]
  refine dw_run 0 (fun _ => false) ?_
  show o_callV 11 1 403 26465 t_X11_init 7 (dw_ok (pr_law L xs)) 601023 7293016 [some (.ref 1000000), none, none, none, none, none, none] [.ref 0, .ref 0] (1, SHa, I00, J00)
  refine dw_callV (a := 0) (as := []) (rest := [.ref 0]) rfl sh_nw_at rfl (by decide) (by decide) (by decide) ?_
  refine e_X11_init (n := 1) (m := 404) (a := 0) z1 rfl (by omega) (by omega) sh_nw_at ?_
  show dw_ok (pr_law L xs) 7 600620 7266551 [some (.ref 1000000), none, none, none, none, none, none] [.ref 0] (404, SHb, IN0, J00)
  refine dw_run 40 (fun pc => Nat.beq pc 12) ?_
  show dw_ok (pr_law L xs) 12 600619 7266494 [some (.ref 1000000), some (.ref 0), none, none, none, none, none] [.ref 404, .ref 404] (dw_nw (404, SHb, IN0, J00) 12 57)
  rw [dw_nw_eq (n := 404) (m := 405) z2 rfl]
  refine dw_run 0 (fun _ => false) ?_
  show o_callV 12 1 29 28396 t_X12_init 15 (dw_ok (pr_law L xs)) 600619 7266494 [some (.ref 1000000), some (.ref 0), none, none, none, none, none] [.ref 404, .ref 404] (405, SHc, IN0, J00)
  refine dw_callV (a := 404) (as := []) (rest := [.ref 404]) rfl sh_nw_at rfl (by decide) (by decide) (by decide) ?_
  refine e_X12_init (n := 405) (m := 434) (a := 404) z3 rfl (by omega) (by omega) sh_nw_at ?_
  show dw_ok (pr_law L xs) 15 600590 7238098 [some (.ref 1000000), some (.ref 0), none, none, none, none, none] [.ref 404] (434, SHd, IN1, JN1)
  refine dw_run 40 (fun pc => Nat.beq pc 20) ?_
  show dw_ok (pr_law L xs) 20 600589 7238097 [some (.ref 1000000), some (.ref 0), some (.ref 404), some (.ref 434), none, none, none] [] (dw_nw (434, SHd, IN1, JN1) 17 (Int32.toNatClampNeg 1))
  rw [dw_nw_eq2 (n := 434) (m := 435) (N := Int32.toNatClampNeg 1) (N2 := 1) z4 rfl rfl]
  refine dw_run 40 (fun pc => Nat.beq pc 23) ?_
  exact hK
