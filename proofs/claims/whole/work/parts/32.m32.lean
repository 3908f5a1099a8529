set_option maxHeartbeats 4000000 in
set_option maxRecDepth 100000 in
theorem tX2_copyFrom_2_13 {l : Launch} {dC : Nat → ClassId} {dI : Nat → Nat → Nat} {A : Nat → Nat} {t0 : Nat} {cI cJ cZ : ClassId} (hA : dst A) {p1 : Int32} {z : Mem} {ru : Unit} {z' : Mem} (hf : fX2_copyFrom_2_13 p1 z = some (ru, z')) : MV l dC dI A t0 cI cJ cZ yX2_copyFrom wsX2_copyFrom 1 [.ref (A 2), .ref (A 13), .int p1] z z' := by
  refine Met.ofW (cc := cX2_copyFrom) (maxL := 3) (ret := none) (by decide) rfl ?_
  intro p e s m args below meth c s₁ B hml hv
  obtain ⟨rfl, hP, hK, hZ⟩ := hv
  have hx := B.exec
  have hb := B.bytes
  have hr := B.returns
  have hts := atoms_spec (ws := wsX2_copyFrom) B.pre
  have hown : s.vm.findClass RX2 = some m.cls := findClass_of_methodNamed B.named
  have hlocks := B.notSynchronized
  have hS : va_S (fr A) s.heap s.heap [] := va_S.rf
  have i2 : ∀ w ∈ wsX20, w ∈ wsX2_copyFrom := fun _ h => List.mem_cons_of_mem _ (List.mem_append_right _ h)
  have hl := lv_entry ([.ref (A 2), .ref (A 13), .int p1]) (n := 3) (Nat.le_of_ble_eq_true rfl)
  rw [lg_entry_eq]
  generalize (lg_sl ([.ref (A 2), .ref (A 13), .int p1]) ++ List.replicate (3 - (lg_sl ([.ref (A 2), .ref (A 13), .int p1])).length) Slot.unset).toArray = ls at hl ⊢
  have hl : lv_has ls 3 [(0, .ref (A 2)), (1, .ref (A 13)), (2, .int p1)] := hl
  have hP : wIs dC dI A cI cJ cZ z s.heap := hP
  rw [fX2_copyFrom_2_13] at hf
  refine lv_iload_n hx hb dX2_copyFrom_0 rfl (lv_at hl 2 rfl) ?_
  refine lv_if_lt (tgt := 28) hx hb dX2_copyFrom_1 (by decide) (fun c_1 => ?_) (fun c_1 => ?_)
  · have hf := it_t c_1 hf
    exact retV hx hb hr hlocks hP hS hf dX2_copyFrom_28
  · have hf := it_f c_1 hf
    refine lv_iload_n hx hb dX2_copyFrom_4 rfl (lv_at hl 2 rfl) ?_
    refine lv_aload_n hx hb dX2_copyFrom_5 rfl (lv_at hl 1 rfl) ?_
    refine va_alen hx hb hK hP 13 0 (wc_13 A cI cJ cZ z) rfl (v := 52) rfl dX2_copyFrom_6 ?_
    refine lv_bipush (v := 26) hx hb dX2_copyFrom_7 (by decide) ?_
    obtain ⟨n_2, hf⟩ := nz_el hf
    refine lv_idiv hx hb dX2_copyFrom_9 n_2 ?_
    refine lv_icmp_ge (tgt := 28) hx hb dX2_copyFrom_10 (by decide) (fun c_3 => ?_) (fun c_3 => ?_)
    · have hf := it_t c_3 hf
      exact retV hx hb hr hlocks hP hS hf dX2_copyFrom_28
    · have hf := it_f c_3 hf
      refine lv_aload_n hx hb dX2_copyFrom_13 rfl (lv_at hl 1 rfl) ?_
      refine lv_iload_n hx hb dX2_copyFrom_14 rfl (lv_at hl 2 rfl) ?_
      refine lv_bipush (v := 26) hx hb dX2_copyFrom_15 (by decide) ?_
      refine lv_imul hx hb dX2_copyFrom_17 ?_
      refine lv_aload_n hx hb dX2_copyFrom_18 rfl (lv_at hl 0 rfl) ?_
      refine va_get (D := (dC, dI)) (ci := 2) (v := .ref (A 11)) (C := RX2) (T := TX2) (N := 4) hx hb hts i2 hown hK hP 2 (wc_2 A cI cJ cZ z) rfl 0 (by decide) (hts (.fieldLink RX2 11 "LightestRules$People" "cells" "[I") (by decide +kernel)) (fun _ h9 => h9) rfl dX2_copyFrom_19 ?_
      refine lv_iconst (v := 0) hx hb dX2_copyFrom_22 (by decide) ?_
      refine lv_bipush (v := 26) hx hb dX2_copyFrom_23 (by decide) ?_
      obtain ⟨n_4, hf⟩ := ac_el hf
      refine va_copyi hx hb (hml.trans hl.1.symm) hown (hts (.methodLink RX2 54 arraycopyName) (by decide +kernel)) (hts (.native arraycopyName) (by decide +kernel)) (hts (.static arraycopyName) (by decide +kernel)) (hts (.initialized "java/lang/System" ) (by decide +kernel)) hK hP (wD hA cI cJ cZ z) hS 13 11 0 0 (wc_13 A cI cJ cZ z) (wc_11 A cI cJ cZ z) rfl rfl rfl n_4.1 n_4.2.1 n_4.2.2.1 n_4.2.2.2.1 n_4.2.2.2.2 (fun _ _ => rfl) (Nat.le_of_ble_eq_true rfl) (Nat.le_of_ble_eq_true rfl) dX2_copyFrom_25 (fun H locs hP _ hS => ?_)
      rw [wr_11 A cI cJ cZ z (va_cpy (z.1 13) (z.1 11) (p1 * (26 : Int32)).toNatClampNeg (0 : Int32).toNatClampNeg (26 : Int32).toNatClampNeg)] at hP
      obtain ⟨z_5, hP, hf⟩ := lt_P (P := fun q => wIs dC dI A cI cJ cZ q H) hP hf
      exact retV hx hb hr hlocks hP hS hf dX2_copyFrom_28
set_option maxHeartbeats 4000000 in
set_option maxRecDepth 100000 in
theorem tX5_bring {l : Launch} {dC : Nat → ClassId} {dI : Nat → Nat → Nat} {A : Nat → Nat} {t0 : Nat} {cI cJ cZ : ClassId} (hA : dst A) {p0 : Int32} {z : Mem} {ru : Unit} {z' : Mem} (hf : fX5_bring p0 z = some (ru, z')) : MV l dC dI A t0 cI cJ cZ yX5_bring wsX5_bring 2 [.ref (A 4), .int p0, .ref (A 2)] z z' := by
  refine Met.ofW (cc := cX5_bring) (maxL := 3) (ret := none) (by decide) rfl ?_
  intro p e s m args below meth c s₁ B hml hv
  obtain ⟨rfl, hP, hK, hZ⟩ := hv
  have hx := B.exec
  have hb := B.bytes
  have hr := B.returns
  have hts := atoms_spec (ws := wsX5_bring) B.pre
  have hown : s.vm.findClass RX5 = some m.cls := findClass_of_methodNamed B.named
  have hlocks := B.notSynchronized
  have hS : va_S (fr A) s.heap s.heap [] := va_S.rf
  have i5 : ∀ w ∈ wsX50, w ∈ wsX5_bring := fun _ h => List.mem_cons_of_mem _ (List.mem_append_left _ (List.mem_append_right _ h))
  have hl := lv_entry ([.ref (A 4), .int p0, .ref (A 2)]) (n := 3) (Nat.le_of_ble_eq_true rfl)
  rw [lg_entry_eq]
  generalize (lg_sl ([.ref (A 4), .int p0, .ref (A 2)]) ++ List.replicate (3 - (lg_sl ([.ref (A 4), .int p0, .ref (A 2)])).length) Slot.unset).toArray = ls at hl ⊢
  have hl : lv_has ls 3 [(0, .ref (A 4)), (1, .int p0), (2, .ref (A 2))] := hl
  have hP : wIs dC dI A cI cJ cZ z s.heap := hP
  rw [fX5_bring] at hf
  refine lv_aload_n hx hb dX5_bring_0 rfl (lv_at hl 0 rfl) ?_
  refine lv_iload_n hx hb dX5_bring_1 rfl (lv_at hl 1 rfl) ?_
  obtain ⟨r_1, z_2, h_3, hf⟩ := cl_el hf
  refine callVI (As := [.int p0]) (rest := []) (ci := 5) (q0 := 4) ⟨hx, hb, hml, hown, hts⟩ (tX5_holds (l := l) (dC := dC) (dI := dI) (t0 := t0) (cI := cI) (cJ := cJ) (cZ := cZ) hA h_3) (cwV 1 hts gX5_bring_X5_holds rfl rfl rfl (by decide +kernel) ⟨Nat.le_of_ble_eq_true rfl, Nat.le_of_ble_eq_true rfl⟩) hK hZ hP hS rfl (wc_4 A cI cJ cZ z) rfl rfl rfl hl.1 (Nat.le_of_ble_eq_true rfl) ⟨Nat.zero_le _, Nat.zero_le _⟩ dX5_bring_2 (fun H locs hP hS => ?_)
  refine lv_if_eq (tgt := 17) hx hb dX5_bring_5 (by decide) (fun c_4 => ?_) (fun c_4 => ?_)
  · have hf := it_t c_4 hf
    exact retV hx hb hr hlocks hP hS hf dX5_bring_17
  · have hf := it_f c_4 hf
    refine lv_aload_n hx hb dX5_bring_8 rfl (lv_at hl 2 rfl) ?_
    refine lv_aload_n hx hb dX5_bring_9 rfl (lv_at hl 0 rfl) ?_
    refine va_get (D := (dC, dI)) (ci := 5) (v := .ref (A 13)) (C := RX5) (T := TX5) (N := 2) hx hb hts i5 hown hK hP 4 (wc_4 A cI cJ cZ z_2) rfl 0 (by decide) (hts (.fieldLink RX5 11 "LightestRules$Slots" "kept" "[I") (by decide +kernel)) (fun _ h9 => h9) rfl dX5_bring_10 ?_
    refine lv_iload_n hx hb dX5_bring_13 rfl (lv_at hl 1 rfl) ?_
    obtain ⟨r_5, z_6, h_7, hf⟩ := cl_el hf
    refine callVV (As := [.ref (A 13), .int p0]) (rest := []) (ci := 2) (q0 := 2) ⟨hx, hb, hml, hown, hts⟩ (tX2_copyFrom_2_13 (l := l) (dC := dC) (dI := dI) (t0 := t0) (cI := cI) (cJ := cJ) (cZ := cZ) hA h_7) (cwV 2 hts gX5_bring_X2_copyFrom rfl rfl rfl (by decide +kernel) ⟨Nat.le_of_ble_eq_true rfl, Nat.le_of_ble_eq_true rfl⟩) hK hZ hP hS rfl (wc_2 A cI cJ cZ z_2) rfl rfl rfl hl.1 (Nat.le_of_ble_eq_true rfl) ⟨Nat.zero_le _, Nat.zero_le _⟩ dX5_bring_14 (fun H locs hP hS => ?_)
    exact retV hx hb hr hlocks hP hS hf dX5_bring_17
set_option maxHeartbeats 4000000 in
set_option maxRecDepth 100000 in
theorem tX8_again {l : Launch} {dC : Nat → ClassId} {dI : Nat → Nat → Nat} {A : Nat → Nat} {t0 : Nat} {cI cJ cZ : ClassId} (hA : dst A) {p0 : Int32} {z : Mem} {r : Int32} {z' : Mem} (hf : fX8_again p0 z = some (r, z')) : MI l dC dI A t0 cI cJ cZ yX8_again wsX8_again 3 [.ref (A 0), .int p0] z r z' := by
  refine Met.ofW (cc := cX8_again) (maxL := 2) (ret := (some .int)) (by decide) rfl ?_
  intro p e s m args below meth c s₁ B hml hv
  obtain ⟨rfl, hP, hK, hZ⟩ := hv
  have hx := B.exec
  have hb := B.bytes
  have hr := B.returns
  have hts := atoms_spec (ws := wsX8_again) B.pre
  have hown : s.vm.findClass RX8 = some m.cls := findClass_of_methodNamed B.named
  have hlocks := B.notSynchronized
  have hS : va_S (fr A) s.heap s.heap [] := va_S.rf
  have i8 : ∀ w ∈ wsX80, w ∈ wsX8_again := fun _ h => List.mem_cons_of_mem _ (List.mem_append_left _ (List.mem_append_left _ (List.mem_append_left _ (List.mem_append_right _ h))))
  have hl := lv_entry ([.ref (A 0), .int p0]) (n := 2) (Nat.le_of_ble_eq_true rfl)
  rw [lg_entry_eq]
  generalize (lg_sl ([.ref (A 0), .int p0]) ++ List.replicate (2 - (lg_sl ([.ref (A 0), .int p0])).length) Slot.unset).toArray = ls at hl ⊢
  have hl : lv_has ls 2 [(0, .ref (A 0)), (1, .int p0)] := hl
  have hP : wIs dC dI A cI cJ cZ z s.heap := hP
  rw [fX8_again] at hf
  refine lv_iload_n hx hb dX8_again_0 rfl (lv_at hl 1 rfl) ?_
  obtain ⟨r_1, z_2, h_3, hf⟩ := cl_el hf
  refine callSI (As := [.int p0]) (rest := []) ⟨hx, hb, hml, hown, hts⟩ (tX5_isSlot (l := l) (dC := dC) (dI := dI) (t0 := t0) (cI := cI) (cJ := cJ) (cZ := cZ) hA h_3) (va_cwS 1 hts gX8_again_X5_isSlot rfl rfl rfl (by decide +kernel) ⟨Nat.le_of_ble_eq_true rfl, Nat.le_of_ble_eq_true rfl⟩) hK hZ hP hS rfl rfl hl.1 (Nat.le_of_ble_eq_true rfl) ⟨Nat.zero_le _, Nat.zero_le _⟩ dX8_again_1 (fun H locs hP hS => ?_)
  refine lv_if_ne (tgt := 9) hx hb dX8_again_4 (by decide) (fun c_4 => ?_) (fun c_4 => ?_)
  · have hf := it_f c_4 hf
    refine lv_aload_n hx hb dX8_again_9 rfl (lv_at hl 0 rfl) ?_
    refine va_get (D := (dC, dI)) (ci := 8) (v := .ref (A 4)) (C := RX8) (T := TX8) (N := 9) hx hb hts i8 hown hK hP 0 (wc_0 A cI cJ cZ z_2) rfl 3 (by decide) (hts (.fieldLink RX8 33 "LightestRules" "slots" "LLightestRules$Slots;") (by decide +kernel)) (fun _ h9 => h9) rfl dX8_again_10 ?_
    refine lv_iload_n hx hb dX8_again_13 rfl (lv_at hl 1 rfl) ?_
    obtain ⟨r_5, z_6, h_7, hf⟩ := cl_el hf
    refine callVI (As := [.int p0]) (rest := []) (ci := 5) (q0 := 4) ⟨hx, hb, hml, hown, hts⟩ (tX5_holds (l := l) (dC := dC) (dI := dI) (t0 := t0) (cI := cI) (cJ := cJ) (cZ := cZ) hA h_7) (cwV 1 hts gX8_again_X5_holds rfl rfl rfl (by decide +kernel) ⟨Nat.le_of_ble_eq_true rfl, Nat.le_of_ble_eq_true rfl⟩) hK hZ hP hS rfl (wc_4 A cI cJ cZ z_2) rfl rfl rfl hl.1 (Nat.le_of_ble_eq_true rfl) ⟨Nat.zero_le _, Nat.zero_le _⟩ dX8_again_14 (fun H locs hP hS => ?_)
    refine lv_if_ne (tgt := 23) hx hb dX8_again_17 (by decide) (fun c_8 => ?_) (fun c_8 => ?_)
    · have hf := it_f c_8 hf
      refine lv_aload_n hx hb dX8_again_23 rfl (lv_at hl 0 rfl) ?_
      refine va_get (D := (dC, dI)) (ci := 8) (v := .ref (A 4)) (C := RX8) (T := TX8) (N := 9) hx hb hts i8 hown hK hP 0 (wc_0 A cI cJ cZ z_6) rfl 3 (by decide) (hts (.fieldLink RX8 33 "LightestRules" "slots" "LLightestRules$Slots;") (by decide +kernel)) (fun _ h9 => h9) rfl dX8_again_24 ?_
      refine lv_iload_n hx hb dX8_again_27 rfl (lv_at hl 1 rfl) ?_
      refine lv_aload_n hx hb dX8_again_28 rfl (lv_at hl 0 rfl) ?_
      refine va_get (D := (dC, dI)) (ci := 8) (v := .ref (A 2)) (C := RX8) (T := TX8) (N := 9) hx hb hts i8 hown hK hP 0 (wc_0 A cI cJ cZ z_6) rfl 1 (by decide) (hts (.fieldLink RX8 19 "LightestRules" "folk" "LLightestRules$People;") (by decide +kernel)) (fun _ h9 => h9) rfl dX8_again_29 ?_
      obtain ⟨r_9, z_10, h_11, hf⟩ := cl_el hf
      refine callVV (As := [.int p0, .ref (A 2)]) (rest := []) (ci := 5) (q0 := 4) ⟨hx, hb, hml, hown, hts⟩ (tX5_bring (l := l) (dC := dC) (dI := dI) (t0 := t0) (cI := cI) (cJ := cJ) (cZ := cZ) hA h_11) (cwV 2 hts gX8_again_X5_bring rfl rfl rfl (by decide +kernel) ⟨Nat.le_of_ble_eq_true rfl, Nat.le_of_ble_eq_true rfl⟩) hK hZ hP hS rfl (wc_4 A cI cJ cZ z_6) rfl rfl rfl hl.1 (Nat.le_of_ble_eq_true rfl) ⟨Nat.zero_le _, Nat.zero_le _⟩ dX8_again_32 (fun H locs hP hS => ?_)
      refine lv_aload_n hx hb dX8_again_35 rfl (lv_at hl 0 rfl) ?_
      refine va_get (D := (dC, dI)) (ci := 8) (v := .ref (A 3)) (C := RX8) (T := TX8) (N := 9) hx hb hts i8 hown hK hP 0 (wc_0 A cI cJ cZ z_10) rfl 2 (by decide) (hts (.fieldLink RX8 26 "LightestRules" "acts" "LLightestRules$ActRow;") (by decide +kernel)) (fun _ h9 => h9) rfl dX8_again_36 ?_
      obtain ⟨r_12, z_13, h_14, hf⟩ := cl_el hf
      refine callVV (As := []) (rest := []) (ci := 0) (q0 := 3) ⟨hx, hb, hml, hown, hts⟩ (tX0_clear (l := l) (dC := dC) (dI := dI) (t0 := t0) (cI := cI) (cJ := cJ) (cZ := cZ) hA h_14) (cwV 0 hts gX8_again_X0_clear rfl rfl rfl (by decide +kernel) ⟨Nat.le_of_ble_eq_true rfl, Nat.le_of_ble_eq_true rfl⟩) hK hZ hP hS rfl (wc_3 A cI cJ cZ z_10) rfl rfl rfl hl.1 (Nat.le_of_ble_eq_true rfl) ⟨Nat.zero_le _, Nat.zero_le _⟩ dX8_again_39 (fun H locs hP hS => ?_)
      refine lv_aload_n hx hb dX8_again_42 rfl (lv_at hl 0 rfl) ?_
      refine va_get (D := (dC, dI)) (ci := 8) (v := .ref (A 2)) (C := RX8) (T := TX8) (N := 9) hx hb hts i8 hown hK hP 0 (wc_0 A cI cJ cZ z_13) rfl 1 (by decide) (hts (.fieldLink RX8 19 "LightestRules" "folk" "LLightestRules$People;") (by decide +kernel)) (fun _ h9 => h9) rfl dX8_again_43 ?_
      obtain ⟨r_15, z_16, h_17, hf⟩ := cl_el hf
      refine callVI (As := []) (rest := []) (ci := 2) (q0 := 2) ⟨hx, hb, hml, hown, hts⟩ (tX2_today (l := l) (dC := dC) (dI := dI) (t0 := t0) (cI := cI) (cJ := cJ) (cZ := cZ) hA h_17) (cwV 0 hts gX8_again_X2_today rfl rfl rfl (by decide +kernel) ⟨Nat.le_of_ble_eq_true rfl, Nat.le_of_ble_eq_true rfl⟩) hK hZ hP hS rfl (wc_2 A cI cJ cZ z_13) rfl rfl rfl hl.1 (Nat.le_of_ble_eq_true rfl) ⟨Nat.zero_le _, Nat.zero_le _⟩ dX8_again_46 (fun H locs hP hS => ?_)
      exact retI hx hb hr hlocks hP hS hf dX8_again_49
    · have hf := it_t c_8 hf
      refine lv_bipush (v := -3) hx hb dX8_again_20 (by decide) ?_
      exact retI hx hb hr hlocks hP hS hf dX8_again_22
  · have hf := it_t c_4 hf
    refine lv_iconst (v := -1) hx hb dX8_again_7 (by decide) ?_
    exact retI hx hb hr hlocks hP hS hf dX8_again_8
set_option maxHeartbeats 4000000 in
set_option maxRecDepth 100000 in
theorem tX9_again {l : Launch} {dC : Nat → ClassId} {dI : Nat → Nat → Nat} {A : Nat → Nat} {t0 : Nat} {cI cJ cZ : ClassId} (hA : dst A) {p0 : Int32} {z : Mem} {r : Int32} {z' : Mem} (hf : fX9_again p0 z = some (r, z')) : MI l dC dI A t0 cI cJ cZ yX9_again wsX9_again 1 [.ref (A 25), .int p0] z r z' := by
  refine Met.ofW (cc := cX9_again) (maxL := 3) (ret := (some .int)) (by decide) rfl ?_
  intro p e s m args below meth c s₁ B hml hv
  obtain ⟨rfl, hP, hK, hZ⟩ := hv
  have hx := B.exec
  have hb := B.bytes
  have hr := B.returns
  have hts := atoms_spec (ws := wsX9_again) B.pre
  have hown : s.vm.findClass RX9 = some m.cls := findClass_of_methodNamed B.named
  have hlocks := B.notSynchronized
  have hS : va_S (fr A) s.heap s.heap [] := va_S.rf
  have i9 : ∀ w ∈ wsX90, w ∈ wsX9_again := fun _ h => List.mem_cons_of_mem _ (List.mem_append_right _ h)
  have hl := lv_entry ([.ref (A 25), .int p0]) (n := 3) (Nat.le_of_ble_eq_true rfl)
  rw [lg_entry_eq]
  generalize (lg_sl ([.ref (A 25), .int p0]) ++ List.replicate (3 - (lg_sl ([.ref (A 25), .int p0])).length) Slot.unset).toArray = ls at hl ⊢
  have hl : lv_has ls 3 [(0, .ref (A 25)), (1, .int p0)] := hl
  have hP : wIs dC dI A cI cJ cZ z s.heap := hP
  rw [fX9_again] at hf
  refine lv_iload_n hx hb dX9_again_0 rfl (lv_at hl 1 rfl) ?_
  refine lv_i2l hx hb dX9_again_1 rfl ?_
  refine lv_lconst (v := 0) hx hb dX9_again_2 rfl ?_
  refine lv_lconst (v := 1) hx hb dX9_again_3 rfl ?_
  obtain ⟨r_1, z_2, h_3, hf⟩ := cl_el hf
  refine callSI (As := [.long (p0.toInt64), .long (0 : Int64), .long (1 : Int64)]) (rest := []) ⟨hx, hb, hml, hown, hts⟩ (tX9_in (l := l) (dC := dC) (dI := dI) (t0 := t0) (cI := cI) (cJ := cJ) (cZ := cZ) hA h_3) (va_cwS 3 hts gX9_again_X9_in rfl rfl rfl (by decide +kernel) ⟨Nat.le_of_ble_eq_true rfl, Nat.le_of_ble_eq_true rfl⟩) hK hZ hP hS rfl rfl hl.1 (Nat.le_of_ble_eq_true rfl) ⟨Nat.zero_le _, Nat.zero_le _⟩ dX9_again_4 (fun H locs hP hS => ?_)
  refine lv_if_ne (tgt := 12) hx hb dX9_again_7 (by decide) (fun c_4 => ?_) (fun c_4 => ?_)
  · have hf := it_f c_4 hf
    refine lv_aload_n hx hb dX9_again_12 rfl (lv_at hl 0 rfl) ?_
    refine va_get (D := (dC, dI)) (ci := 9) (v := .ref (A 41)) (C := RX9) (T := TX9) (N := 34) hx hb hts i9 hown hK hP 25 (wc_25 A cI cJ cZ z_2) rfl 32 (by decide) (hts (.fieldLink RX9 56 "LightestRulesModel" "isKept" "[Z") (by decide +kernel)) (fun _ h9 => h9) rfl dX9_again_13 ?_
    refine lv_iload_n hx hb dX9_again_16 rfl (lv_at hl 1 rfl) ?_
    obtain ⟨n_5, hf⟩ := rg_el hf
    refine va_zald hx hb hK hP 41 2 (wc_41 A cI cJ cZ z_2) rfl n_5 dX9_again_17 ?_
    refine lv_topi (fun a_6 ea_6 => ?_)
    have hf := lt_at ea_6 hf; clear ea_6
    refine lv_if_ne (tgt := 24) hx hb dX9_again_18 (by decide) (fun c_7 => ?_) (fun c_7 => ?_)
    · have hf := it_f c_7 hf
      refine lv_iconst (v := 0) hx hb dX9_again_24 (by decide) ?_
      refine lv_istore_n (lv' := [(2, .int (0 : Int32)), (0, .ref (A 25)), (1, .int p0)]) hx hb dX9_again_25 rfl hl (by decide) rfl (fun ls hl => ?_)
      obtain ⟨K_8, eK_8, hf⟩ := fX9_again_L26_g hf
      have hEK_8 : ∀ (x2_10 : Int32) (z_9 : Mem) (H : Heap) (locs : List Loc) (ls : Array Slot), K_8 x2_10 z_9 = some (r, z') → wIs dC dI A cI cJ cZ z_9 H → va_S (fr A) s.heap H locs → lv_has ls 3 [(0, .ref (A 25)), (1, .int p0), (2, .int x2_10)] → WI p l e wsX9_again 1 s m [.ref (A 25), .int p0] below meth c dC dI A cI cJ cZ r z' H locs (F0 m 55 ls []) := by
        intro x2_10 z_9 H locs ls hf hP hS hl
        have hf := ap2 eK_8 hf
        refine lv_aload_n hx hb dX9_again_55 rfl (lv_at hl 0 rfl) ?_
        refine lv_iconst (v := 0) hx hb dX9_again_56 (by decide) ?_
        refine va_put (D := (dC, dI)) (ci := 9) (v := .int (0 : Int32)) (ty := .int) (C := RX9) (T := TX9) (N := 34) hx hb hts i9 tyX9 tyX9_ok nmX9 hown hK hP (wD hA cI cJ cZ z_9) hS 25 (wc_25 A cI cJ cZ z_9) rfl 14 (by decide) (hts (.fieldLink RX9 113 "LightestRulesModel" "acts" "I") (by decide +kernel)) (fun _ h9 => h9) rfl (by decide +kernel) rfl rfl (Nat.le_of_ble_eq_true rfl) dX9_again_57 (fun H locs hP _ hS => ?_)
        rw [ws_25_14 A cI cJ cZ z_9 (0 : Int32)] at hP
        obtain ⟨z_11, hP, hf⟩ := lt_P (P := fun q => wIs dC dI A cI cJ cZ q H) hP hf
        refine lv_aload_n hx hb dX9_again_60 rfl (lv_at hl 0 rfl) ?_
        refine va_get (D := (dC, dI)) (ci := 9) (v := .ref (A 27)) (C := RX9) (T := TX9) (N := 34) hx hb hts i9 hown hK hP 25 (wc_25 A cI cJ cZ z_11) rfl 5 (by decide) (hts (.fieldLink RX9 13 "LightestRulesModel" "now" "[I") (by decide +kernel)) (fun _ h9 => h9) rfl dX9_again_61 ?_
        refine lv_bipush (v := 25) hx hb dX9_again_64 (by decide) ?_
        obtain ⟨n_12, hf⟩ := rg_el hf
        refine va_iald hx hb hK hP 27 0 (wc_27 A cI cJ cZ z_11) rfl n_12 dX9_again_66 ?_
        refine lv_topi (fun a_13 ea_13 => ?_)
        have hf := lt_at ea_13 hf; clear ea_13
        exact retI hx hb hr hlocks hP hS hf dX9_again_67
      have hLK_8 : ∀ (n_16 : Nat) (x2_15 : Int32) (z_14 : Mem) (H : Heap) (locs : List Loc) (ls : Array Slot), fX9_again_L26 K_8 p0 n_16 x2_15 z_14 = some (r, z') → wIs dC dI A cI cJ cZ z_14 H → va_S (fr A) s.heap H locs → lv_has ls 3 [(0, .ref (A 25)), (1, .int p0), (2, .int x2_15)] → WI p l e wsX9_again 1 s m [.ref (A 25), .int p0] below meth c dC dI A cI cJ cZ r z' H locs (F0 m 26 ls []) := by
        intro n_16
        induction n_16 with
        | zero => intro x2_15 z_14 H locs ls hf; rw [fX9_again_L26_0] at hf; cases hf
        | succ n_16 ihK_8 =>
          intro x2_15 z_14 H locs ls hf hP hS hl
          rw [fX9_again_L26_s] at hf
          refine lv_iload_n hx hb dX9_again_26 rfl (lv_at hl 2 rfl) ?_
          refine lv_bipush (v := 26) hx hb dX9_again_27 (by decide) ?_
          refine lv_icmp_ge (tgt := 55) hx hb dX9_again_29 (by decide) (fun c_17 => ?_) (fun c_17 => ?_)
          · have hf := it_t c_17 hf
            exact hEK_8 _ _ _ _ _ hf hP hS (lv_sub hl [0, 1, 2] rfl)
          · have hf := it_f c_17 hf
            refine lv_aload_n hx hb dX9_again_32 rfl (lv_at hl 0 rfl) ?_
            refine va_get (D := (dC, dI)) (ci := 9) (v := .ref (A 27)) (C := RX9) (T := TX9) (N := 34) hx hb hts i9 hown hK hP 25 (wc_25 A cI cJ cZ z_14) rfl 5 (by decide) (hts (.fieldLink RX9 13 "LightestRulesModel" "now" "[I") (by decide +kernel)) (fun _ h9 => h9) rfl dX9_again_33 ?_
            refine lv_iload_n hx hb dX9_again_36 rfl (lv_at hl 2 rfl) ?_
            refine lv_aload_n hx hb dX9_again_37 rfl (lv_at hl 0 rfl) ?_
            refine va_get (D := (dC, dI)) (ci := 9) (v := .ref (A 42)) (C := RX9) (T := TX9) (N := 34) hx hb hts i9 hown hK hP 25 (wc_25 A cI cJ cZ z_14) rfl 33 (by decide) (hts (.fieldLink RX9 60 "LightestRulesModel" "kept" "[I") (by decide +kernel)) (fun _ h9 => h9) rfl dX9_again_38 ?_
            refine lv_bipush (v := 26) hx hb dX9_again_41 (by decide) ?_
            refine lv_iload_n hx hb dX9_again_43 rfl (lv_at hl 1 rfl) ?_
            refine lv_imul hx hb dX9_again_44 ?_
            refine lv_iload_n hx hb dX9_again_45 rfl (lv_at hl 2 rfl) ?_
            refine lv_iadd hx hb dX9_again_46 ?_
            refine lv_topi (fun y_18 ey_18 => ?_)
            have hf := lt_at ey_18 hf; clear ey_18
            obtain ⟨n_19, hf⟩ := rg_el hf
            refine va_iald hx hb hK hP 42 0 (wc_42 A cI cJ cZ z_14) rfl n_19 dX9_again_47 ?_
            refine lv_topi (fun a_20 ea_20 => ?_)
            have hf := lt_at ea_20 hf; clear ea_20
            obtain ⟨n_21, hf⟩ := rg_el hf
            refine va_iast hx hb hK hP (wD hA cI cJ cZ z_14) hS 27 0 (wc_27 A cI cJ cZ z_14) rfl n_21 dX9_again_48 (fun H locs hP _ hS => ?_)
            rw [wa_27 A cI cJ cZ z_14 x2_15.toNatClampNeg a_20] at hP
            obtain ⟨z_22, hP, hf⟩ := lt_P (P := fun q => wIs dC dI A cI cJ cZ q H) hP hf
            obtain ⟨x2_23, ex2_23⟩ : ∃ q : Int32, q = x2_15 + (1 : Int32) := ⟨_, rfl⟩
            refine lv_iinc (v := x2_23) (lv' := [(2, .int x2_23), (0, .ref (A 25)), (1, .int p0)]) hx hb dX9_again_49 hl (k := 2) rfl (by rw [ex2_23]; rfl) (by decide) rfl (fun ls hl => ?_)
            have hf := lt_at ex2_23 hf; clear ex2_23
            refine lv_goto (tgt := 26) hx hb dX9_again_52 (by decide) ?_
            exact ihK_8 _ _ _ _ _ hf hP hS (lv_sub hl [1, 2, 0] rfl)
      exact hLK_8 FU _ _ _ _ _ hf hP hS (lv_sub hl [1, 2, 0] rfl)
    · have hf := it_t c_7 hf
      refine lv_bipush (v := -3) hx hb dX9_again_21 (by decide) ?_
      exact retI hx hb hr hlocks hP hS hf dX9_again_23
  · have hf := it_t c_4 hf
    refine lv_iconst (v := -1) hx hb dX9_again_10 (by decide) ?_
    exact retI hx hb hr hlocks hP hS hf dX9_again_11
set_option maxHeartbeats 4000000 in
set_option maxRecDepth 100000 in
theorem tX2_crownings {l : Launch} {dC : Nat → ClassId} {dI : Nat → Nat → Nat} {A : Nat → Nat} {t0 : Nat} {cI cJ cZ : ClassId} (hA : dst A)  {z : Mem} {r : Int32} {z' : Mem} (hf : fX2_crownings z = some (r, z')) : MI l dC dI A t0 cI cJ cZ yX2_crownings wsX2_crownings 1 [.ref (A 2)] z r z' := by
  refine Met.ofW (cc := cX2_crownings) (maxL := 3) (ret := (some .int)) (by decide) rfl ?_
  intro p e s m args below meth c s₁ B hml hv
  obtain ⟨rfl, hP, hK, hZ⟩ := hv
  have hx := B.exec
  have hb := B.bytes
  have hr := B.returns
  have hts := atoms_spec (ws := wsX2_crownings) B.pre
  have hown : s.vm.findClass RX2 = some m.cls := findClass_of_methodNamed B.named
  have hlocks := B.notSynchronized
  have hS : va_S (fr A) s.heap s.heap [] := va_S.rf
  have i2 : ∀ w ∈ wsX20, w ∈ wsX2_crownings := fun _ h => List.mem_cons_of_mem _ (List.mem_append_right _ h)
  have hl := lv_entry ([.ref (A 2)]) (n := 3) (Nat.le_of_ble_eq_true rfl)
  rw [lg_entry_eq]
  generalize (lg_sl ([.ref (A 2)]) ++ List.replicate (3 - (lg_sl ([.ref (A 2)])).length) Slot.unset).toArray = ls at hl ⊢
  have hl : lv_has ls 3 [(0, .ref (A 2))] := hl
  have hP : wIs dC dI A cI cJ cZ z s.heap := hP
  rw [fX2_crownings] at hf
  refine lv_iconst (v := 0) hx hb dX2_crownings_0 (by decide) ?_
  refine lv_istore_n (lv' := [(1, .int (0 : Int32)), (0, .ref (A 2))]) hx hb dX2_crownings_1 rfl hl (by decide) rfl (fun ls hl => ?_)
  refine lv_iconst (v := 0) hx hb dX2_crownings_2 (by decide) ?_
  refine lv_istore_n (lv' := [(2, .int (0 : Int32)), (1, .int (0 : Int32)), (0, .ref (A 2))]) hx hb dX2_crownings_3 rfl hl (by decide) rfl (fun ls hl => ?_)
  obtain ⟨K_1, eK_1, hf⟩ := fX2_crownings_L4_g hf
  have hEK_1 : ∀ (x1_3 : Int32) (x2_4 : Int32) (z_2 : Mem) (H : Heap) (locs : List Loc) (ls : Array Slot), K_1 x1_3 x2_4 z_2 = some (r, z') → wIs dC dI A cI cJ cZ z_2 H → va_S (fr A) s.heap H locs → lv_has ls 3 [(0, .ref (A 2)), (1, .int x1_3), (2, .int x2_4)] → WI p l e wsX2_crownings 1 s m [.ref (A 2)] below meth c dC dI A cI cJ cZ r z' H locs (F0 m 27 ls []) := by
    intro x1_3 x2_4 z_2 H locs ls hf hP hS hl
    have hf := ap3 eK_1 hf
    refine lv_iload_n hx hb dX2_crownings_27 rfl (lv_at hl 1 rfl) ?_
    exact retI hx hb hr hlocks hP hS hf dX2_crownings_28
  have hLK_1 : ∀ (n_8 : Nat) (x1_6 : Int32) (x2_7 : Int32) (z_5 : Mem) (H : Heap) (locs : List Loc) (ls : Array Slot), fX2_crownings_L4 K_1  n_8 x1_6 x2_7 z_5 = some (r, z') → wIs dC dI A cI cJ cZ z_5 H → va_S (fr A) s.heap H locs → lv_has ls 3 [(0, .ref (A 2)), (1, .int x1_6), (2, .int x2_7)] → WI p l e wsX2_crownings 1 s m [.ref (A 2)] below meth c dC dI A cI cJ cZ r z' H locs (F0 m 4 ls []) := by
    intro n_8
    induction n_8 with
    | zero => intro x1_6 x2_7 z_5 H locs ls hf; rw [fX2_crownings_L4_0] at hf; cases hf
    | succ n_8 ihK_1 =>
      intro x1_6 x2_7 z_5 H locs ls hf hP hS hl
      rw [fX2_crownings_L4_s] at hf
      refine lv_iload_n hx hb dX2_crownings_4 rfl (lv_at hl 2 rfl) ?_
      refine lv_aload_n hx hb dX2_crownings_5 rfl (lv_at hl 0 rfl) ?_
      refine va_get (D := (dC, dI)) (ci := 2) (v := .int (z_5.1 2 1)) (C := RX2) (T := TX2) (N := 4) hx hb hts i2 hown hK hP 2 (wc_2 A cI cJ cZ z_5) rfl 1 (by decide) (hts (.fieldLink RX2 15 "LightestRules$People" "size" "I") (by decide +kernel)) (fun _ h9 => h9) rfl dX2_crownings_6 ?_
      refine lv_icmp_ge (tgt := 27) hx hb dX2_crownings_9 (by decide) (fun c_9 => ?_) (fun c_9 => ?_)
      · have hf := it_t c_9 hf
        exact hEK_1 _ _ _ _ _ _ hf hP hS (lv_sub hl [0, 1, 2] rfl)
      · have hf := it_f c_9 hf
        refine lv_iload_n hx hb dX2_crownings_12 rfl (lv_at hl 1 rfl) ?_
        refine lv_aload_n hx hb dX2_crownings_13 rfl (lv_at hl 0 rfl) ?_
        refine lv_iload_n hx hb dX2_crownings_14 rfl (lv_at hl 2 rfl) ?_
        refine lv_iconst (v := 4) hx hb dX2_crownings_15 (by decide) ?_
        obtain ⟨r_10, z_11, h_12, hf⟩ := cl_el hf
        refine callVI (As := [.int x2_7, .int (4 : Int32)]) (rest := [.int x1_6]) (ci := 2) (q0 := 2) ⟨hx, hb, hml, hown, hts⟩ (tX2_get_2 (l := l) (dC := dC) (dI := dI) (t0 := t0) (cI := cI) (cJ := cJ) (cZ := cZ) hA h_12) (cwV 2 hts gX2_crownings_X2_get rfl rfl rfl (by decide +kernel) ⟨Nat.le_of_ble_eq_true rfl, Nat.le_of_ble_eq_true rfl⟩) hK hZ hP hS rfl (wc_2 A cI cJ cZ z_5) rfl rfl rfl hl.1 (Nat.le_of_ble_eq_true rfl) ⟨Nat.zero_le _, Nat.zero_le _⟩ dX2_crownings_16 (fun H locs hP hS => ?_)
        refine lv_iadd hx hb dX2_crownings_19 ?_
        refine lv_topi (fun x1_13 ex1_13 => ?_)
        have hf := lt_at ex1_13 hf; clear ex1_13
        refine lv_istore_n (lv' := [(1, .int x1_13), (0, .ref (A 2)), (2, .int x2_7)]) hx hb dX2_crownings_20 rfl hl (by decide) rfl (fun ls hl => ?_)
        obtain ⟨x2_14, ex2_14⟩ : ∃ q : Int32, q = x2_7 + (1 : Int32) := ⟨_, rfl⟩
        refine lv_iinc (v := x2_14) (lv' := [(2, .int x2_14), (1, .int x1_13), (0, .ref (A 2))]) hx hb dX2_crownings_21 hl (k := 2) rfl (by rw [ex2_14]; rfl) (by decide) rfl (fun ls hl => ?_)
        have hf := lt_at ex2_14 hf; clear ex2_14
        refine lv_goto (tgt := 4) hx hb dX2_crownings_24 (by decide) ?_
        exact ihK_1 _ _ _ _ _ _ hf hP hS (lv_sub hl [2, 1, 0] rfl)
  exact hLK_1 FU _ _ _ _ _ _ hf hP hS (lv_sub hl [2, 1, 0] rfl)
set_option maxHeartbeats 4000000 in
set_option maxRecDepth 100000 in
theorem tX8_count {l : Launch} {dC : Nat → ClassId} {dI : Nat → Nat → Nat} {A : Nat → Nat} {t0 : Nat} {cI cJ cZ : ClassId} (hA : dst A) {p0 : Int32} {z : Mem} {r : Int32} {z' : Mem} (hf : fX8_count p0 z = some (r, z')) : MI l dC dI A t0 cI cJ cZ yX8_count wsX8_count 3 [.ref (A 0), .int p0] z r z' := by
  refine Met.ofW (cc := cX8_count) (maxL := 2) (ret := (some .int)) (by decide) rfl ?_
  intro p e s m args below meth c s₁ B hml hv
  obtain ⟨rfl, hP, hK, hZ⟩ := hv
  have hx := B.exec
  have hb := B.bytes
  have hr := B.returns
  have hts := atoms_spec (ws := wsX8_count) B.pre
  have hown : s.vm.findClass RX8 = some m.cls := findClass_of_methodNamed B.named
  have hlocks := B.notSynchronized
  have hS : va_S (fr A) s.heap s.heap [] := va_S.rf
  have i8 : ∀ w ∈ wsX80, w ∈ wsX8_count := fun _ h => List.mem_cons_of_mem _ (List.mem_append_left _ (List.mem_append_left _ (List.mem_append_left _ (List.mem_append_left _ (List.mem_append_left _ (List.mem_append_left _ (List.mem_append_right _ h)))))))
  have hl := lv_entry ([.ref (A 0), .int p0]) (n := 2) (Nat.le_of_ble_eq_true rfl)
  rw [lg_entry_eq]
  generalize (lg_sl ([.ref (A 0), .int p0]) ++ List.replicate (2 - (lg_sl ([.ref (A 0), .int p0])).length) Slot.unset).toArray = ls at hl ⊢
  have hl : lv_has ls 2 [(0, .ref (A 0)), (1, .int p0)] := hl
  have hP : wIs dC dI A cI cJ cZ z s.heap := hP
  rw [fX8_count] at hf
  refine lv_iload_n hx hb dX8_count_0 rfl (lv_at hl 1 rfl) ?_
  by_cases c_1 : p0.toInt = 0
  · have hf := it_t c_1 hf
    refine lv_tableIn (off := 55) (tgt := 56) hx hb dX8_count_1 (by omega) (by omega) (by rw [c_1]; rfl) (by decide) ?_
    refine lv_aload_n hx hb dX8_count_56 rfl (lv_at hl 0 rfl) ?_
    refine va_get (D := (dC, dI)) (ci := 8) (v := .ref (A 1)) (C := RX8) (T := TX8) (N := 9) hx hb hts i8 hown hK hP 0 (wc_0 A cI cJ cZ z) rfl 0 (by decide) (hts (.fieldLink RX8 10 "LightestRules" "text" "LLightestRules$LandText;") (by decide +kernel)) (fun _ h9 => h9) rfl dX8_count_57 ?_
    obtain ⟨r_2, z_3, h_4, hf⟩ := cl_el hf
    refine callVI (As := []) (rest := []) (ci := 1) (q0 := 1) ⟨hx, hb, hml, hown, hts⟩ (tX1_length (l := l) (dC := dC) (dI := dI) (t0 := t0) (cI := cI) (cJ := cJ) (cZ := cZ) hA h_4) (cwV 0 hts gX8_count_X1_length rfl rfl rfl (by decide +kernel) ⟨Nat.le_of_ble_eq_true rfl, Nat.le_of_ble_eq_true rfl⟩) hK hZ hP hS rfl (wc_1 A cI cJ cZ z) rfl rfl rfl hl.1 (Nat.le_of_ble_eq_true rfl) ⟨Nat.zero_le _, Nat.zero_le _⟩ dX8_count_60 (fun H locs hP hS => ?_)
    exact retI hx hb hr hlocks hP hS hf dX8_count_63
  · have hf := it_f c_1 hf
    by_cases c_5 : p0.toInt = 1
    · have hf := it_t c_5 hf
      refine lv_tableIn (off := 63) (tgt := 64) hx hb dX8_count_1 (by omega) (by omega) (by rw [c_5]; rfl) (by decide) ?_
      refine lv_aload_n hx hb dX8_count_64 rfl (lv_at hl 0 rfl) ?_
      refine va_get (D := (dC, dI)) (ci := 8) (v := .ref (A 2)) (C := RX8) (T := TX8) (N := 9) hx hb hts i8 hown hK hP 0 (wc_0 A cI cJ cZ z) rfl 1 (by decide) (hts (.fieldLink RX8 19 "LightestRules" "folk" "LLightestRules$People;") (by decide +kernel)) (fun _ h9 => h9) rfl dX8_count_65 ?_
      obtain ⟨r_6, z_7, h_8, hf⟩ := cl_el hf
      refine callVI (As := []) (rest := []) (ci := 2) (q0 := 2) ⟨hx, hb, hml, hown, hts⟩ (tX2_size_2 (l := l) (dC := dC) (dI := dI) (t0 := t0) (cI := cI) (cJ := cJ) (cZ := cZ) hA h_8) (cwV 0 hts gX8_count_X2_size rfl rfl rfl (by decide +kernel) ⟨Nat.le_of_ble_eq_true rfl, Nat.le_of_ble_eq_true rfl⟩) hK hZ hP hS rfl (wc_2 A cI cJ cZ z) rfl rfl rfl hl.1 (Nat.le_of_ble_eq_true rfl) ⟨Nat.zero_le _, Nat.zero_le _⟩ dX8_count_68 (fun H locs hP hS => ?_)
      exact retI hx hb hr hlocks hP hS hf dX8_count_71
    · have hf := it_f c_5 hf
      by_cases c_9 : p0.toInt = 2
      · have hf := it_t c_9 hf
        refine lv_tableIn (off := 71) (tgt := 72) hx hb dX8_count_1 (by omega) (by omega) (by rw [c_9]; rfl) (by decide) ?_
        refine lv_aload_n hx hb dX8_count_72 rfl (lv_at hl 0 rfl) ?_
        refine va_get (D := (dC, dI)) (ci := 8) (v := .ref (A 2)) (C := RX8) (T := TX8) (N := 9) hx hb hts i8 hown hK hP 0 (wc_0 A cI cJ cZ z) rfl 1 (by decide) (hts (.fieldLink RX8 19 "LightestRules" "folk" "LLightestRules$People;") (by decide +kernel)) (fun _ h9 => h9) rfl dX8_count_73 ?_
        obtain ⟨r_10, z_11, h_12, hf⟩ := cl_el hf
        refine callVI (As := []) (rest := []) (ci := 2) (q0 := 2) ⟨hx, hb, hml, hown, hts⟩ (tX2_today (l := l) (dC := dC) (dI := dI) (t0 := t0) (cI := cI) (cJ := cJ) (cZ := cZ) hA h_12) (cwV 0 hts gX8_count_X2_today rfl rfl rfl (by decide +kernel) ⟨Nat.le_of_ble_eq_true rfl, Nat.le_of_ble_eq_true rfl⟩) hK hZ hP hS rfl (wc_2 A cI cJ cZ z) rfl rfl rfl hl.1 (Nat.le_of_ble_eq_true rfl) ⟨Nat.zero_le _, Nat.zero_le _⟩ dX8_count_76 (fun H locs hP hS => ?_)
        exact retI hx hb hr hlocks hP hS hf dX8_count_79
      · have hf := it_f c_9 hf
        by_cases c_13 : p0.toInt = 3
        · have hf := it_t c_13 hf
          refine lv_tableIn (off := 79) (tgt := 80) hx hb dX8_count_1 (by omega) (by omega) (by rw [c_13]; rfl) (by decide) ?_
          refine lv_aload_n hx hb dX8_count_80 rfl (lv_at hl 0 rfl) ?_
          refine va_get (D := (dC, dI)) (ci := 8) (v := .ref (A 3)) (C := RX8) (T := TX8) (N := 9) hx hb hts i8 hown hK hP 0 (wc_0 A cI cJ cZ z) rfl 2 (by decide) (hts (.fieldLink RX8 26 "LightestRules" "acts" "LLightestRules$ActRow;") (by decide +kernel)) (fun _ h9 => h9) rfl dX8_count_81 ?_
          obtain ⟨r_14, z_15, h_16, hf⟩ := cl_el hf
          refine callVI (As := []) (rest := []) (ci := 0) (q0 := 3) ⟨hx, hb, hml, hown, hts⟩ (tX0_length (l := l) (dC := dC) (dI := dI) (t0 := t0) (cI := cI) (cJ := cJ) (cZ := cZ) hA h_16) (cwV 0 hts gX8_count_X0_length rfl rfl rfl (by decide +kernel) ⟨Nat.le_of_ble_eq_true rfl, Nat.le_of_ble_eq_true rfl⟩) hK hZ hP hS rfl (wc_3 A cI cJ cZ z) rfl rfl rfl hl.1 (Nat.le_of_ble_eq_true rfl) ⟨Nat.zero_le _, Nat.zero_le _⟩ dX8_count_84 (fun H locs hP hS => ?_)
          exact retI hx hb hr hlocks hP hS hf dX8_count_87
        · have hf := it_f c_13 hf
          by_cases c_17 : p0.toInt = 4
          · have hf := it_t c_17 hf
            refine lv_tableIn (off := 87) (tgt := 88) hx hb dX8_count_1 (by omega) (by omega) (by rw [c_17]; rfl) (by decide) ?_
            refine lv_aload_n hx hb dX8_count_88 rfl (lv_at hl 0 rfl) ?_
            refine va_get (D := (dC, dI)) (ci := 8) (v := .ref (A 5)) (C := RX8) (T := TX8) (N := 9) hx hb hts i8 hown hK hP 0 (wc_0 A cI cJ cZ z) rfl 4 (by decide) (hts (.fieldLink RX8 40 "LightestRules" "weighings" "LLightestRules$Weighings;") (by decide +kernel)) (fun _ h9 => h9) rfl dX8_count_89 ?_
            obtain ⟨r_18, z_19, h_20, hf⟩ := cl_el hf
            refine callVI (As := []) (rest := []) (ci := 6) (q0 := 5) ⟨hx, hb, hml, hown, hts⟩ (tX6_length (l := l) (dC := dC) (dI := dI) (t0 := t0) (cI := cI) (cJ := cJ) (cZ := cZ) hA h_20) (cwV 0 hts gX8_count_X6_length rfl rfl rfl (by decide +kernel) ⟨Nat.le_of_ble_eq_true rfl, Nat.le_of_ble_eq_true rfl⟩) hK hZ hP hS rfl (wc_5 A cI cJ cZ z) rfl rfl rfl hl.1 (Nat.le_of_ble_eq_true rfl) ⟨Nat.zero_le _, Nat.zero_le _⟩ dX8_count_92 (fun H locs hP hS => ?_)
            exact retI hx hb hr hlocks hP hS hf dX8_count_95
          · have hf := it_f c_17 hf
            by_cases c_21 : p0.toInt = 5
            · have hf := it_t c_21 hf
              refine lv_tableIn (off := 95) (tgt := 96) hx hb dX8_count_1 (by omega) (by omega) (by rw [c_21]; rfl) (by decide) ?_
              refine lv_aload_n hx hb dX8_count_96 rfl (lv_at hl 0 rfl) ?_
              refine va_get (D := (dC, dI)) (ci := 8) (v := .ref (A 6)) (C := RX8) (T := TX8) (N := 9) hx hb hts i8 hown hK hP 0 (wc_0 A cI cJ cZ z) rfl 5 (by decide) (hts (.fieldLink RX8 47 "LightestRules" "searches" "LLightestRules$Searches;") (by decide +kernel)) (fun _ h9 => h9) rfl dX8_count_97 ?_
              obtain ⟨r_22, z_23, h_24, hf⟩ := cl_el hf
              refine callVI (As := []) (rest := []) (ci := 4) (q0 := 6) ⟨hx, hb, hml, hown, hts⟩ (tX4_length (l := l) (dC := dC) (dI := dI) (t0 := t0) (cI := cI) (cJ := cJ) (cZ := cZ) hA h_24) (cwV 0 hts gX8_count_X4_length rfl rfl rfl (by decide +kernel) ⟨Nat.le_of_ble_eq_true rfl, Nat.le_of_ble_eq_true rfl⟩) hK hZ hP hS rfl (wc_6 A cI cJ cZ z) rfl rfl rfl hl.1 (Nat.le_of_ble_eq_true rfl) ⟨Nat.zero_le _, Nat.zero_le _⟩ dX8_count_100 (fun H locs hP hS => ?_)
              exact retI hx hb hr hlocks hP hS hf dX8_count_103
            · have hf := it_f c_21 hf
              by_cases c_25 : p0.toInt = 6
              · have hf := it_t c_25 hf
                refine lv_tableIn (off := 103) (tgt := 104) hx hb dX8_count_1 (by omega) (by omega) (by rw [c_25]; rfl) (by decide) ?_
                refine lv_aload_n hx hb dX8_count_104 rfl (lv_at hl 0 rfl) ?_
                refine va_get (D := (dC, dI)) (ci := 8) (v := .ref (A 7)) (C := RX8) (T := TX8) (N := 9) hx hb hts i8 hown hK hP 0 (wc_0 A cI cJ cZ z) rfl 6 (by decide) (hts (.fieldLink RX8 54 "LightestRules" "told" "LLightestRules$RulersLine;") (by decide +kernel)) (fun _ h9 => h9) rfl dX8_count_105 ?_
                obtain ⟨r_26, z_27, h_28, hf⟩ := cl_el hf
                refine callVI (As := []) (rest := []) (ci := 3) (q0 := 7) ⟨hx, hb, hml, hown, hts⟩ (tX3_length (l := l) (dC := dC) (dI := dI) (t0 := t0) (cI := cI) (cJ := cJ) (cZ := cZ) hA h_28) (cwV 0 hts gX8_count_X3_length rfl rfl rfl (by decide +kernel) ⟨Nat.le_of_ble_eq_true rfl, Nat.le_of_ble_eq_true rfl⟩) hK hZ hP hS rfl (wc_7 A cI cJ cZ z) rfl rfl rfl hl.1 (Nat.le_of_ble_eq_true rfl) ⟨Nat.zero_le _, Nat.zero_le _⟩ dX8_count_108 (fun H locs hP hS => ?_)
                exact retI hx hb hr hlocks hP hS hf dX8_count_111
              · have hf := it_f c_25 hf
                by_cases c_29 : p0.toInt = 7
                · have hf := it_t c_29 hf
                  refine lv_tableIn (off := 111) (tgt := 112) hx hb dX8_count_1 (by omega) (by omega) (by rw [c_29]; rfl) (by decide) ?_
                  refine lv_aload_n hx hb dX8_count_112 rfl (lv_at hl 0 rfl) ?_
                  refine va_get (D := (dC, dI)) (ci := 8) (v := .int (z.1 0 8)) (C := RX8) (T := TX8) (N := 9) hx hb hts i8 hown hK hP 0 (wc_0 A cI cJ cZ z) rfl 8 (by decide) (hts (.fieldLink RX8 65 "LightestRules" "lawNow" "I") (by decide +kernel)) (fun _ h9 => h9) rfl dX8_count_113 ?_
                  exact retI hx hb hr hlocks hP hS hf dX8_count_116
                · have hf := it_f c_29 hf
                  by_cases c_30 : p0.toInt = 8
                  · have hf := it_t c_30 hf
                    refine lv_tableIn (off := 116) (tgt := 117) hx hb dX8_count_1 (by omega) (by omega) (by rw [c_30]; rfl) (by decide) ?_
                    refine lv_aload_n hx hb dX8_count_117 rfl (lv_at hl 0 rfl) ?_
                    refine va_get (D := (dC, dI)) (ci := 8) (v := .ref (A 2)) (C := RX8) (T := TX8) (N := 9) hx hb hts i8 hown hK hP 0 (wc_0 A cI cJ cZ z) rfl 1 (by decide) (hts (.fieldLink RX8 19 "LightestRules" "folk" "LLightestRules$People;") (by decide +kernel)) (fun _ h9 => h9) rfl dX8_count_118 ?_
                    obtain ⟨r_31, z_32, h_33, hf⟩ := cl_el hf
                    refine callVI (As := []) (rest := []) (ci := 2) (q0 := 2) ⟨hx, hb, hml, hown, hts⟩ (tX2_illBits_2 (l := l) (dC := dC) (dI := dI) (t0 := t0) (cI := cI) (cJ := cJ) (cZ := cZ) hA h_33) (cwV 0 hts gX8_count_X2_illBits rfl rfl rfl (by decide +kernel) ⟨Nat.le_of_ble_eq_true rfl, Nat.le_of_ble_eq_true rfl⟩) hK hZ hP hS rfl (wc_2 A cI cJ cZ z) rfl rfl rfl hl.1 (Nat.le_of_ble_eq_true rfl) ⟨Nat.zero_le _, Nat.zero_le _⟩ dX8_count_121 (fun H locs hP hS => ?_)
                    exact retI hx hb hr hlocks hP hS hf dX8_count_124
                  · have hf := it_f c_30 hf
                    by_cases c_34 : p0.toInt = 9
                    · have hf := it_t c_34 hf
                      refine lv_tableIn (off := 124) (tgt := 125) hx hb dX8_count_1 (by omega) (by omega) (by rw [c_34]; rfl) (by decide) ?_
                      refine lv_aload_n hx hb dX8_count_125 rfl (lv_at hl 0 rfl) ?_
                      refine va_get (D := (dC, dI)) (ci := 8) (v := .ref (A 2)) (C := RX8) (T := TX8) (N := 9) hx hb hts i8 hown hK hP 0 (wc_0 A cI cJ cZ z) rfl 1 (by decide) (hts (.fieldLink RX8 19 "LightestRules" "folk" "LLightestRules$People;") (by decide +kernel)) (fun _ h9 => h9) rfl dX8_count_126 ?_
                      obtain ⟨r_35, z_36, h_37, hf⟩ := cl_el hf
                      refine callVI (As := []) (rest := []) (ci := 2) (q0 := 2) ⟨hx, hb, hml, hown, hts⟩ (tX2_crownings (l := l) (dC := dC) (dI := dI) (t0 := t0) (cI := cI) (cJ := cJ) (cZ := cZ) hA h_37) (cwV 0 hts gX8_count_X2_crownings rfl rfl rfl (by decide +kernel) ⟨Nat.le_of_ble_eq_true rfl, Nat.le_of_ble_eq_true rfl⟩) hK hZ hP hS rfl (wc_2 A cI cJ cZ z) rfl rfl rfl hl.1 (Nat.le_of_ble_eq_true rfl) ⟨Nat.zero_le _, Nat.zero_le _⟩ dX8_count_129 (fun H locs hP hS => ?_)
                      exact retI hx hb hr hlocks hP hS hf dX8_count_132
                    · have hf := it_f c_34 hf
                      refine lv_tableOut (tgt := 133) hx hb dX8_count_1 (by omega) (by decide) ?_
                      refine lv_bipush (v := -2) hx hb dX8_count_133 (by decide) ?_
                      exact retI hx hb hr hlocks hP hS hf dX8_count_135
set_option maxHeartbeats 4000000 in
set_option maxRecDepth 100000 in
theorem tX9_count {l : Launch} {dC : Nat → ClassId} {dI : Nat → Nat → Nat} {A : Nat → Nat} {t0 : Nat} {cI cJ cZ : ClassId} (hA : dst A) {p0 : Int32} {z : Mem} {r : Int32} {z' : Mem} (hf : fX9_count p0 z = some (r, z')) : MI l dC dI A t0 cI cJ cZ yX9_count wsX9_count 1 [.ref (A 25), .int p0] z r z' := by
  refine Met.ofW (cc := cX9_count) (maxL := 5) (ret := (some .int)) (by decide) rfl ?_
  intro p e s m args below meth c s₁ B hml hv
  obtain ⟨rfl, hP, hK, hZ⟩ := hv
  have hx := B.exec
  have hb := B.bytes
  have hr := B.returns
  have hts := atoms_spec (ws := wsX9_count) B.pre
  have hown : s.vm.findClass RX9 = some m.cls := findClass_of_methodNamed B.named
  have hlocks := B.notSynchronized
  have hS : va_S (fr A) s.heap s.heap [] := va_S.rf
  have i9 : ∀ w ∈ wsX90, w ∈ wsX9_count := fun _ h => List.mem_cons_of_mem _ (List.mem_append_right _ h)
  have hl := lv_entry ([.ref (A 25), .int p0]) (n := 5) (Nat.le_of_ble_eq_true rfl)
  rw [lg_entry_eq]
  generalize (lg_sl ([.ref (A 25), .int p0]) ++ List.replicate (5 - (lg_sl ([.ref (A 25), .int p0])).length) Slot.unset).toArray = ls at hl ⊢
  have hl : lv_has ls 5 [(0, .ref (A 25)), (1, .int p0)] := hl
  have hP : wIs dC dI A cI cJ cZ z s.heap := hP
  rw [fX9_count] at hf
  refine lv_iconst (v := 0) hx hb dX9_count_0 (by decide) ?_
  refine lv_istore_n (lv' := [(2, .int (0 : Int32)), (0, .ref (A 25)), (1, .int p0)]) hx hb dX9_count_1 rfl hl (by decide) rfl (fun ls hl => ?_)
  refine lv_iconst (v := 0) hx hb dX9_count_2 (by decide) ?_
  refine lv_istore_n (lv' := [(3, .int (0 : Int32)), (2, .int (0 : Int32)), (0, .ref (A 25)), (1, .int p0)]) hx hb dX9_count_3 rfl hl (by decide) rfl (fun ls hl => ?_)
  refine lv_iconst (v := 0) hx hb dX9_count_4 (by decide) ?_
  refine lv_istore (lv' := [(4, .int (0 : Int32)), (3, .int (0 : Int32)), (2, .int (0 : Int32)), (0, .ref (A 25)), (1, .int p0)]) hx hb dX9_count_5 hl (by decide) rfl (fun ls hl => ?_)
  obtain ⟨K_1, eK_1, hf⟩ := fX9_count_L7_g hf
  have hEK_1 : ∀ (x2_3 : Int32) (x3_4 : Int32) (x4_5 : Int32) (z_2 : Mem) (H : Heap) (locs : List Loc) (ls : Array Slot), K_1 x2_3 x3_4 x4_5 z_2 = some (r, z') → wIs dC dI A cI cJ cZ z_2 H → va_S (fr A) s.heap H locs → lv_has ls 5 [(0, .ref (A 25)), (1, .int p0), (2, .int x2_3), (3, .int x3_4), (4, .int x4_5)] → WI p l e wsX9_count 1 s m [.ref (A 25), .int p0] below meth c dC dI A cI cJ cZ r z' H locs (F0 m 56 ls []) := by
    intro x2_3 x3_4 x4_5 z_2 H locs ls hf hP hS hl
    have hf := ap4 eK_1 hf
    refine lv_iload_n hx hb dX9_count_56 rfl (lv_at hl 1 rfl) ?_
    by_cases c_6 : p0.toInt = 0
    · have hf := it_t c_6 hf
      refine lv_tableIn (off := 55) (tgt := 112) hx hb dX9_count_57 (by omega) (by omega) (by rw [c_6]; rfl) (by decide) ?_
      refine lv_aload_n hx hb dX9_count_112 rfl (lv_at hl 0 rfl) ?_
      refine va_get (D := (dC, dI)) (ci := 9) (v := .int (z_2.1 25 11)) (C := RX9) (T := TX9) (N := 34) hx hb hts i9 hown hK hP 25 (wc_25 A cI cJ cZ z_2) rfl 11 (by decide) (hts (.fieldLink RX9 73 "LightestRulesModel" "length" "I") (by decide +kernel)) (fun _ h9 => h9) rfl dX9_count_113 ?_
      exact retI hx hb hr hlocks hP hS hf dX9_count_116
    · have hf := it_f c_6 hf
      by_cases c_7 : p0.toInt = 1
      · have hf := it_t c_7 hf
        refine lv_tableIn (off := 60) (tgt := 117) hx hb dX9_count_57 (by omega) (by omega) (by rw [c_7]; rfl) (by decide) ?_
        refine lv_aload_n hx hb dX9_count_117 rfl (lv_at hl 0 rfl) ?_
        refine va_get (D := (dC, dI)) (ci := 9) (v := .int (z_2.1 25 6)) (C := RX9) (T := TX9) (N := 34) hx hb hts i9 hown hK hP 25 (wc_25 A cI cJ cZ z_2) rfl 6 (by decide) (hts (.fieldLink RX9 104 "LightestRulesModel" "many" "I") (by decide +kernel)) (fun _ h9 => h9) rfl dX9_count_118 ?_
        exact retI hx hb hr hlocks hP hS hf dX9_count_121
      · have hf := it_f c_7 hf
        by_cases c_8 : p0.toInt = 2
        · have hf := it_t c_8 hf
          refine lv_tableIn (off := 65) (tgt := 122) hx hb dX9_count_57 (by omega) (by omega) (by rw [c_8]; rfl) (by decide) ?_
          refine lv_aload_n hx hb dX9_count_122 rfl (lv_at hl 0 rfl) ?_
          refine va_get (D := (dC, dI)) (ci := 9) (v := .ref (A 27)) (C := RX9) (T := TX9) (N := 34) hx hb hts i9 hown hK hP 25 (wc_25 A cI cJ cZ z_2) rfl 5 (by decide) (hts (.fieldLink RX9 13 "LightestRulesModel" "now" "[I") (by decide +kernel)) (fun _ h9 => h9) rfl dX9_count_123 ?_
          refine lv_bipush (v := 25) hx hb dX9_count_126 (by decide) ?_
          obtain ⟨n_9, hf⟩ := rg_el hf
          refine va_iald hx hb hK hP 27 0 (wc_27 A cI cJ cZ z_2) rfl n_9 dX9_count_128 ?_
          refine lv_topi (fun a_10 ea_10 => ?_)
          have hf := lt_at ea_10 hf; clear ea_10
          exact retI hx hb hr hlocks hP hS hf dX9_count_129
        · have hf := it_f c_8 hf
          by_cases c_11 : p0.toInt = 3
          · have hf := it_t c_11 hf
            refine lv_tableIn (off := 73) (tgt := 130) hx hb dX9_count_57 (by omega) (by omega) (by rw [c_11]; rfl) (by decide) ?_
            refine lv_aload_n hx hb dX9_count_130 rfl (lv_at hl 0 rfl) ?_
            refine va_get (D := (dC, dI)) (ci := 9) (v := .int (z_2.1 25 14)) (C := RX9) (T := TX9) (N := 34) hx hb hts i9 hown hK hP 25 (wc_25 A cI cJ cZ z_2) rfl 14 (by decide) (hts (.fieldLink RX9 113 "LightestRulesModel" "acts" "I") (by decide +kernel)) (fun _ h9 => h9) rfl dX9_count_131 ?_
            exact retI hx hb hr hlocks hP hS hf dX9_count_134
          · have hf := it_f c_11 hf
            by_cases c_12 : p0.toInt = 4
            · have hf := it_t c_12 hf
              refine lv_tableIn (off := 78) (tgt := 135) hx hb dX9_count_57 (by omega) (by omega) (by rw [c_12]; rfl) (by decide) ?_
              refine lv_aload_n hx hb dX9_count_135 rfl (lv_at hl 0 rfl) ?_
              refine va_get (D := (dC, dI)) (ci := 9) (v := .int (z_2.1 25 17)) (C := RX9) (T := TX9) (N := 34) hx hb hts i9 hown hK hP 25 (wc_25 A cI cJ cZ z_2) rfl 17 (by decide) (hts (.fieldLink RX9 164 "LightestRulesModel" "weighings" "I") (by decide +kernel)) (fun _ h9 => h9) rfl dX9_count_136 ?_
              exact retI hx hb hr hlocks hP hS hf dX9_count_139
            · have hf := it_f c_12 hf
              by_cases c_13 : p0.toInt = 5
              · have hf := it_t c_13 hf
                refine lv_tableIn (off := 83) (tgt := 140) hx hb dX9_count_57 (by omega) (by omega) (by rw [c_13]; rfl) (by decide) ?_
                refine lv_aload_n hx hb dX9_count_140 rfl (lv_at hl 0 rfl) ?_
                refine va_get (D := (dC, dI)) (ci := 9) (v := .int (z_2.1 25 21)) (C := RX9) (T := TX9) (N := 34) hx hb hts i9 hown hK hP 25 (wc_25 A cI cJ cZ z_2) rfl 21 (by decide) (hts (.fieldLink RX9 171 "LightestRulesModel" "searches" "I") (by decide +kernel)) (fun _ h9 => h9) rfl dX9_count_141 ?_
                exact retI hx hb hr hlocks hP hS hf dX9_count_144
              · have hf := it_f c_13 hf
                by_cases c_14 : p0.toInt = 6
                · have hf := it_t c_14 hf
                  refine lv_tableIn (off := 88) (tgt := 145) hx hb dX9_count_57 (by omega) (by omega) (by rw [c_14]; rfl) (by decide) ?_
                  refine lv_aload_n hx hb dX9_count_145 rfl (lv_at hl 0 rfl) ?_
                  refine va_get (D := (dC, dI)) (ci := 9) (v := .int (z_2.1 25 26)) (C := RX9) (T := TX9) (N := 34) hx hb hts i9 hown hK hP 25 (wc_25 A cI cJ cZ z_2) rfl 26 (by decide) (hts (.fieldLink RX9 186 "LightestRulesModel" "months" "I") (by decide +kernel)) (fun _ h9 => h9) rfl dX9_count_146 ?_
                  exact retI hx hb hr hlocks hP hS hf dX9_count_149
                · have hf := it_f c_14 hf
                  by_cases c_15 : p0.toInt = 7
                  · have hf := it_t c_15 hf
                    refine lv_tableIn (off := 93) (tgt := 150) hx hb dX9_count_57 (by omega) (by omega) (by rw [c_15]; rfl) (by decide) ?_
                    refine lv_aload_n hx hb dX9_count_150 rfl (lv_at hl 0 rfl) ?_
                    refine va_get (D := (dC, dI)) (ci := 9) (v := .int (z_2.1 25 7)) (C := RX9) (T := TX9) (N := 34) hx hb hts i9 hown hK hP 25 (wc_25 A cI cJ cZ z_2) rfl 7 (by decide) (hts (.fieldLink RX9 63 "LightestRulesModel" "rule" "I") (by decide +kernel)) (fun _ h9 => h9) rfl dX9_count_151 ?_
                    exact retI hx hb hr hlocks hP hS hf dX9_count_154
                  · have hf := it_f c_15 hf
                    by_cases c_16 : p0.toInt = 8
                    · have hf := it_t c_16 hf
                      refine lv_tableIn (off := 98) (tgt := 155) hx hb dX9_count_57 (by omega) (by omega) (by rw [c_16]; rfl) (by decide) ?_
                      refine lv_iload_n hx hb dX9_count_155 rfl (lv_at hl 2 rfl) ?_
                      exact retI hx hb hr hlocks hP hS hf dX9_count_156
                    · have hf := it_f c_16 hf
                      by_cases c_17 : p0.toInt = 9
                      · have hf := it_t c_17 hf
                        refine lv_tableIn (off := 100) (tgt := 157) hx hb dX9_count_57 (by omega) (by omega) (by rw [c_17]; rfl) (by decide) ?_
                        refine lv_iload_n hx hb dX9_count_157 rfl (lv_at hl 3 rfl) ?_
                        exact retI hx hb hr hlocks hP hS hf dX9_count_158
                      · have hf := it_f c_17 hf
                        refine lv_tableOut (tgt := 159) hx hb dX9_count_57 (by omega) (by decide) ?_
                        refine lv_bipush (v := -2) hx hb dX9_count_159 (by decide) ?_
                        exact retI hx hb hr hlocks hP hS hf dX9_count_161
  have hLK_1 : ∀ (n_22 : Nat) (x2_19 : Int32) (x3_20 : Int32) (x4_21 : Int32) (z_18 : Mem) (H : Heap) (locs : List Loc) (ls : Array Slot), fX9_count_L7 K_1  n_22 x2_19 x3_20 x4_21 z_18 = some (r, z') → wIs dC dI A cI cJ cZ z_18 H → va_S (fr A) s.heap H locs → lv_has ls 5 [(0, .ref (A 25)), (1, .int p0), (2, .int x2_19), (3, .int x3_20), (4, .int x4_21)] → WI p l e wsX9_count 1 s m [.ref (A 25), .int p0] below meth c dC dI A cI cJ cZ r z' H locs (F0 m 7 ls []) := by
    intro n_22
    induction n_22 with
    | zero => intro x2_19 x3_20 x4_21 z_18 H locs ls hf; rw [fX9_count_L7_0] at hf; cases hf
    | succ n_22 ihK_1 =>
      intro x2_19 x3_20 x4_21 z_18 H locs ls hf hP hS hl
      rw [fX9_count_L7_s] at hf
      refine lv_iload hx hb dX9_count_7 (lv_at hl 4 rfl) ?_
      refine lv_aload_n hx hb dX9_count_9 rfl (lv_at hl 0 rfl) ?_
      refine va_get (D := (dC, dI)) (ci := 9) (v := .int (z_18.1 25 6)) (C := RX9) (T := TX9) (N := 34) hx hb hts i9 hown hK hP 25 (wc_25 A cI cJ cZ z_18) rfl 6 (by decide) (hts (.fieldLink RX9 104 "LightestRulesModel" "many" "I") (by decide +kernel)) (fun _ h9 => h9) rfl dX9_count_10 ?_
      refine lv_icmp_ge (tgt := 56) hx hb dX9_count_13 (by decide) (fun c_23 => ?_) (fun c_23 => ?_)
      · have hf := it_t c_23 hf
        exact hEK_1 _ _ _ _ _ _ _ hf hP hS (lv_sub hl [0, 1, 2, 3, 4] rfl)
      · have hf := it_f c_23 hf
        refine lv_iload_n hx hb dX9_count_16 rfl (lv_at hl 2 rfl) ?_
        refine lv_aload_n hx hb dX9_count_17 rfl (lv_at hl 0 rfl) ?_
        refine lv_iload hx hb dX9_count_18 (lv_at hl 4 rfl) ?_
        obtain ⟨r_24, z_25, h_26, hf⟩ := cl_el hf
        refine callVI (As := [.int x4_21]) (rest := [.int x2_19]) (ci := 9) (q0 := 25) ⟨hx, hb, hml, hown, hts⟩ (tX9_isIll (l := l) (dC := dC) (dI := dI) (t0 := t0) (cI := cI) (cJ := cJ) (cZ := cZ) hA h_26) (cwV 1 hts gX9_count_X9_isIll rfl rfl rfl (by decide +kernel) ⟨Nat.le_of_ble_eq_true rfl, Nat.le_of_ble_eq_true rfl⟩) hK hZ hP hS rfl (wc_25 A cI cJ cZ z_18) rfl rfl rfl hl.1 (Nat.le_of_ble_eq_true rfl) ⟨Nat.zero_le _, Nat.zero_le _⟩ dX9_count_20 (fun H locs hP hS => ?_)
        obtain ⟨K_27, eK_27, hf⟩ := jn_el hf
        have hK_27 : ∀ (v_28 : Int32) (z_29 : Mem) (H : Heap) (locs : List Loc) (ls : Array Slot), K_27 v_28 z_29 = some (r, z') → wIs dC dI A cI cJ cZ z_29 H → va_S (fr A) s.heap H locs → lv_has ls 5 [(0, .ref (A 25)), (1, .int p0), (2, .int x2_19), (3, .int x3_20), (4, .int x4_21)] → WI p l e wsX9_count 1 s m [.ref (A 25), .int p0] below meth c dC dI A cI cJ cZ r z' H locs (F0 m 34 ls [.int v_28, .int x2_19]) := by
          intro v_28 z_29 H locs ls hf hP hS hl
          have hf := ap2 eK_27 hf
          refine lv_ior hx hb dX9_count_34 ?_
          refine lv_topi (fun x2_30 ex2_30 => ?_)
          have hf := lt_at ex2_30 hf; clear ex2_30
          refine lv_istore_n (lv' := [(2, .int x2_30), (0, .ref (A 25)), (1, .int p0), (3, .int x3_20), (4, .int x4_21)]) hx hb dX9_count_35 rfl hl (by decide) rfl (fun ls hl => ?_)
          refine lv_iload_n hx hb dX9_count_36 rfl (lv_at hl 3 rfl) ?_
          refine lv_aload_n hx hb dX9_count_37 rfl (lv_at hl 1 rfl) ?_
          refine va_get (D := (dC, dI)) (ci := 9) (v := .ref (A 27)) (C := RX9) (T := TX9) (N := 34) hx hb hts i9 hown hK hP 25 (wc_25 A cI cJ cZ z_29) rfl 5 (by decide) (hts (.fieldLink RX9 13 "LightestRulesModel" "now" "[I") (by decide +kernel)) (fun _ h9 => h9) rfl dX9_count_38 ?_
          refine lv_iconst (v := 5) hx hb dX9_count_41 (by decide) ?_
          refine lv_iload hx hb dX9_count_42 (lv_at hl 4 rfl) ?_
          refine lv_imul hx hb dX9_count_44 ?_
          refine lv_iconst (v := 4) hx hb dX9_count_45 (by decide) ?_
          refine lv_iadd hx hb dX9_count_46 ?_
          refine lv_topi (fun y_31 ey_31 => ?_)
          have hf := lt_at ey_31 hf; clear ey_31
          obtain ⟨n_32, hf⟩ := rg_el hf
          refine va_iald hx hb hK hP 27 0 (wc_27 A cI cJ cZ z_29) rfl n_32 dX9_count_47 ?_
          refine lv_topi (fun a_33 ea_33 => ?_)
          have hf := lt_at ea_33 hf; clear ea_33
          refine lv_iadd hx hb dX9_count_48 ?_
          refine lv_topi (fun x3_34 ex3_34 => ?_)
          have hf := lt_at ex3_34 hf; clear ex3_34
          refine lv_istore_n (lv' := [(3, .int x3_34), (2, .int x2_30), (0, .ref (A 25)), (1, .int p0), (4, .int x4_21)]) hx hb dX9_count_49 rfl hl (by decide) rfl (fun ls hl => ?_)
          obtain ⟨x4_35, ex4_35⟩ : ∃ q : Int32, q = x4_21 + (1 : Int32) := ⟨_, rfl⟩
          refine lv_iinc (v := x4_35) (lv' := [(4, .int x4_35), (3, .int x3_34), (2, .int x2_30), (0, .ref (A 25)), (1, .int p0)]) hx hb dX9_count_50 hl (k := 4) rfl (by rw [ex4_35]; rfl) (by decide) rfl (fun ls hl => ?_)
          have hf := lt_at ex4_35 hf; clear ex4_35
          refine lv_goto (tgt := 7) hx hb dX9_count_53 (by decide) ?_
          exact ihK_1 _ _ _ _ _ _ _ hf hP hS (lv_sub hl [3, 4, 2, 1, 0] rfl)
        refine lv_if_eq (tgt := 33) hx hb dX9_count_23 (by decide) (fun c_36 => ?_) (fun c_36 => ?_)
        · have hf := it_t c_36 hf
          refine lv_iconst (v := 0) hx hb dX9_count_33 (by decide) ?_
          exact hK_27 _ _ _ _ _ hf hP hS (lv_sub hl [0, 1, 2, 3, 4] rfl)
        · have hf := it_f c_36 hf
          refine lv_iconst (v := 1) hx hb dX9_count_26 (by decide) ?_
          refine lv_iload hx hb dX9_count_27 (lv_at hl 4 rfl) ?_
          refine lv_ishl hx hb dX9_count_29 ?_
          refine lv_goto (tgt := 34) hx hb dX9_count_30 (by decide) ?_
          exact hK_27 _ _ _ _ _ hf hP hS (lv_sub hl [0, 1, 2, 3, 4] rfl)
  exact hLK_1 FU _ _ _ _ _ _ _ hf hP hS (lv_sub hl [3, 4, 2, 1, 0] rfl)
