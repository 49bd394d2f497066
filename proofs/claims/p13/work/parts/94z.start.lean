/-! ===== the law's start: from the pure law to the walk ===== -/
def dw_s0 : dw_S := (0, fun _ => (999, 0, fun _ => none), fun _ _ => 0, fun _ _ => 0)
theorem dw_R0 {D : va_G} {aC : Nat → ClassId} {ex : Nat → Nat} {H : Heap} : dw_R D aC H.size ex H dw_s0 H :=
  ⟨rfl, fun _ _ => rfl, fun _ _ => rfl, rfl, fun k hk => absurd hk (Nat.not_lt_zero k), fun _ _ => rfl⟩
theorem dw_start {p : Program} {e : Env} {s : State} {m : MethodId} {below : List Frame} {meth : Method} {c : Code} (l : Launch) (hflags : l.flags = flags0) {b L : Nat} {xs : Nat → Int32} (C0 : lw_At p s m meth c b L xs)
    (hok : dw_ok (pr_law L xs) 0 601024 7293034 (dw_pad 7 (dw_inl [.ref 1000000])) [] dw_s0) : W p l e room_1 s m #[Value.ref b] below meth c s.heap [] 0 0 (lw_Z below #[Value.ref b] s) (entryFrame m ([Value.ref b] : List Value).toArray 7) := by
  obtain ⟨h1, h2, h3, h4, h5, h6, h7, h8, h9, h10⟩ := C0
  obtain ⟨D, aC, ex, hE, hex⟩ := dw_env h6 h10
  have hst : l.stackTraces = false := by
    unfold Launch.stackTraces
    rw [hflags]
    decide
  have htb : ∀ w ∈ dw_Tb, w.before #[Value.ref b] s = true := fun w hw => h6 w (List.mem_filter.mp hw).1
  have hg := dw_ok.sound (sp_law (below := below) (e := e) hst ⟨h1, h2, h4, h5, htb⟩ hE h7 h8 hex h3 h9) hok
  have hl := dw_Lo.ini (b0 := s.heap.size) (ex := ex) (n := 7) [.ref 1000000] (by decide)
  have ht : dw_tr s.heap.size ex (.ref 1000000) = .ref b := by
    rw [← hex]
    rfl
  rw [lg_entry_eq]
  have := hg s.heap [] _ 0 0 dw_R0 (fun q h => by cases h) hl (Nat.zero_add _) (Nat.zero_add _)
  simp only [List.map_cons, List.map_nil, ht] at this
  exact this
