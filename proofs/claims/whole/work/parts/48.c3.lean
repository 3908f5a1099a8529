set_option maxHeartbeats 400000 in
set_option maxRecDepth 100000 in
theorem kX5_init (l : Launch) (dC : Nat → ClassId) (dI : Nat → Nat → Nat) (cI cJ cZ : ClassId) (h0 : Nat) (sz : Nat) : Met l yX5_init wsX5_init ({ frames := 1, cells := 1, slots := 52, locals := 64 }) (va_Pc [.ref h0] (fun U => U.heap.size = sz ∧ va_P (dC, dI) vwCl [(h0, .inr (5, [.null, .int 0]))] U.heap ∧ va_K (dC, dI) vwCl (tys cI cJ cZ) U ∧ va_D (fun _ => True) [(h0, .inr (5, [.null, .int 0]))])) (va_Qv (fun _ : Unit => True) (fun _ t => ∃ (q1 : Nat), va_P (dC, dI) vwCl [(h0, .inr (5, [.ref q1, .int 0])), (q1, .inl (cI, 52, .inl (fun _ => 0)))] t.heap ∧ va_D (va_A [(h0, .inr (5, [.null, .int 0]))] sz) [(h0, .inr (5, [.ref q1, .int 0])), (q1, .inl (cI, 52, .inl (fun _ => 0)))]) (va_A [(h0, .inr (5, [.null, .int 0]))] sz)) 1 52 (va_A [(h0, .inr (5, [.null, .int 0]))] sz) := by
  refine Met.ofW (cc := cX5_init) (maxL := 1) (ret := none) (by decide) rfl ?_
  intro p e s m args below meth c s₁ B hml hv
  obtain ⟨rfl, hsz, hP, hK, hD0⟩ := hv
  have hx := B.exec
  have hb := B.bytes
  have hr := B.returns
  have hts := atoms_spec (ws := wsX5_init) B.pre
  have hown : s.vm.findClass RX5 = some m.cls := findClass_of_methodNamed B.named
  have hlocks := B.notSynchronized
  have hin : meth.name = "<init>" := (name_of_methodNamed B.named B.method).1
  subst hsz
  have hD := hD0.self (sz := s.heap.size)
  generalize hAe : va_A [(h0, .inr (5, [.null, .int 0]))] s.heap.size = A at hD ⊢
  have hA : ∀ q : Nat, s.heap.size ≤ q → A q := fun q h => by rw [← hAe]; exact Or.inr h
  have hS : va_S A s.heap s.heap [] := va_S.rf
  have i5 : ∀ w ∈ wsX50, w ∈ wsX5_init := fun _ h => List.mem_cons_of_mem _ (List.mem_append_right _ h)
  have hl := lv_entry ([.ref h0]) (n := 1) (Nat.le_of_ble_eq_true rfl)
  rw [lg_entry_eq]
  generalize (lg_sl ([.ref h0]) ++ List.replicate (1 - (lg_sl ([.ref h0])).length) Slot.unset).toArray = ls at hl ⊢
  have hl : lv_has ls 1 [(0, .ref h0)] := hl
  refine lv_aload_n hx hb dX5_init_0 rfl (lv_at hl 0 rfl) ?_
  refine W.objInit hx hb hown (hts (.methodLink RX5 1 objectInit) (by decide +kernel)) (hts (.instanceMethod objectInit) (by decide +kernel)) (hts (.code objectInit ⟨#[0xb1]⟩ 1 none) (by decide +kernel)) rfl (by rw [hml]; exact hl.1) rfl dX5_init_1 (Nat.le_of_ble_eq_true rfl) (Nat.le_of_ble_eq_true rfl) ?_
  refine W.eq (g2 := F0 m 4 ls []) rfl ?_
  refine lv_aload_n hx hb dX5_init_4 rfl (lv_at hl 0 rfl) ?_
  refine lv_bipush (v := 52) hx hb dX5_init_5 (by decide) ?_
  refine va_newa (atype := .int) (ty := .int) (N' := 52) (a0 := (52, .inl (fun _ => 0))) hx hb (hts (.arrayClass .int) (by decide +kernel)) rfl hK hP hD hS hA (fun _ => rfl) (by decide) (by decide) (by decide) (Nat.le_of_ble_eq_true rfl) (Nat.le_of_ble_eq_true rfl) dX5_init_7 (fun q1 cA H hK9 hP hD hS => ?_)
  have ecA : cA = cI := Option.some.inj ((hK9.2 3 _ rfl).2.symm.trans (hK9.2 0 _ rfl).2)
  rw [ecA] at hP hD; clear hK9
  have hP : va_P (dC, dI) vwCl [(h0, .inr (5, [.null, .int 0])), (q1, .inl (cI, 52, .inl (fun _ => 0)))] H := hP
  have hD : va_D A [(h0, .inr (5, [.null, .int 0])), (q1, .inl (cI, 52, .inl (fun _ => 0)))] := hD
  refine W.widen (k := 1) (n := 52) (by omega) (by omega) ?_
  refine va_putF (D := (dC, dI)) (ci := 5) (v := .ref q1) (ty := .array .int) (C := RX5) (T := TX5) (N := 2) hx hb hts i5 tyX5 tyX5_ok nmX5 hown hK hP hD hS 0 rfl rfl 0 (by decide) (hts (.fieldLink RX5 11 "LightestRules$Slots" "kept" "[I") (by decide +kernel)) (fun _ h9 => h9) rfl hin rfl (by decide +kernel) rfl rfl (Nat.le_of_ble_eq_true rfl) dX5_init_9 (fun H locs hP hD hS => ?_)
  have hP : va_P (dC, dI) vwCl [(h0, .inr (5, [.ref q1, .int 0])), (q1, .inl (cI, 52, .inl (fun _ => 0)))] H := hP
  have hD : va_D A [(h0, .inr (5, [.ref q1, .int 0])), (q1, .inl (cI, 52, .inl (fun _ => 0)))] := hD
  refine lv_aload_n hx hb dX5_init_12 rfl (lv_at hl 0 rfl) ?_
  refine lv_iconst (v := 0) hx hb dX5_init_13 (by decide) ?_
  refine va_put (D := (dC, dI)) (ci := 5) (v := .int 0) (ty := .int) (C := RX5) (T := TX5) (N := 2) hx hb hts i5 tyX5 tyX5_ok nmX5 hown hK hP hD hS 0 rfl rfl 1 (by decide) (hts (.fieldLink RX5 15 "LightestRules$Slots" "filledBits" "I") (by decide +kernel)) (fun _ h9 => h9) rfl (by decide +kernel) rfl rfl (Nat.le_of_ble_eq_true rfl) dX5_init_14 (fun H locs hP hD hS => ?_)
  have hP : va_P (dC, dI) vwCl [(h0, .inr (5, [.ref q1, .int 0])), (q1, .inl (cI, 52, .inl (fun _ => 0)))] H := hP
  have hD : va_D A [(h0, .inr (5, [.ref q1, .int 0])), (q1, .inl (cI, 52, .inl (fun _ => 0)))] := hD
  have hP9 := hP.sub (ws' := [(h0, .inr (5, [.ref q1, .int 0])), (q1, .inl (cI, 52, .inl (fun _ => 0)))]) [0, 1] rfl
  have hD9 := hD.sub (ws' := [(h0, .inr (5, [.ref q1, .int 0])), (q1, .inl (cI, 52, .inl (fun _ => 0)))]) [0, 1] (by decide) rfl
  exact W.vret hx hb hr (fun t ht hW => ⟨⟨(), rfl, trivial, q1, by rw [ht]; exact hP9, hD9⟩, hS.F ht⟩) hS.2.2 dX5_init_17
