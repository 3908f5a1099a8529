set_option maxHeartbeats 4000000 in
set_option maxRecDepth 100000 in
theorem tX8_toil {l : Launch} {dC : Nat → ClassId} {dI : Nat → Nat → Nat} {A : Nat → Nat} {t0 : Nat} {cI cJ cZ : ClassId} (hA : dst A) {p0 : Int32} {p1 : Int32} {z : Mem} {r : Int32} {z' : Mem} (hf : fX8_toil p0 p1 z = some (r, z')) : MI l dC dI A t0 cI cJ cZ yX8_toil wsX8_toil 3 [.ref (A 0), .int p0, .int p1] z r z' := by
  refine Met.ofW (cc := cX8_toil) (maxL := 4) (ret := (some .int)) (by decide) rfl ?_
  intro p e s m args below meth c s₁ B hml hv
  obtain ⟨rfl, hP, hK, hZ⟩ := hv
  have hx := B.exec
  have hb := B.bytes
  have hr := B.returns
  have hts := atoms_spec (ws := wsX8_toil) B.pre
  have hown : s.vm.findClass RX8 = some m.cls := findClass_of_methodNamed B.named
  have hlocks := B.notSynchronized
  have hS : va_S (fr A) s.heap s.heap [] := va_S.rf
  have i8 : ∀ w ∈ wsX80, w ∈ wsX8_toil := fun _ h => List.mem_cons_of_mem _ (List.mem_append_left _ (List.mem_append_left _ (List.mem_append_right _ h)))
  have hl := lv_entry ([.ref (A 0), .int p0, .int p1]) (n := 4) (Nat.le_of_ble_eq_true rfl)
  rw [lg_entry_eq]
  generalize (lg_sl ([.ref (A 0), .int p0, .int p1]) ++ List.replicate (4 - (lg_sl ([.ref (A 0), .int p0, .int p1])).length) Slot.unset).toArray = ls at hl ⊢
  have hl : lv_has ls 4 [(0, .ref (A 0)), (1, .int p0), (2, .int p1)] := hl
  have hP : wIs dC dI A cI cJ cZ z s.heap := hP
  rw [fX8_toil] at hf
  refine lv_aload_n hx hb dX8_toil_0 rfl (lv_at hl 0 rfl) ?_
  refine lv_iload_n hx hb dX8_toil_1 rfl (lv_at hl 1 rfl) ?_
  refine lv_iload_n hx hb dX8_toil_2 rfl (lv_at hl 2 rfl) ?_
  obtain ⟨r_1, z_2, h_3, hf⟩ := cl_el hf
  refine callVI (As := [.int p0, .int p1]) (rest := []) (ci := 8) (q0 := 0) ⟨hx, hb, hml, hown, hts⟩ (tX8_refusalOf (l := l) (dC := dC) (dI := dI) (t0 := t0) (cI := cI) (cJ := cJ) (cZ := cZ) hA h_3) (cwV 2 hts gX8_toil_X8_refusalOf rfl rfl rfl (by decide +kernel) ⟨Nat.le_of_ble_eq_true rfl, Nat.le_of_ble_eq_true rfl⟩) hK hZ hP hS rfl (wc_0 A cI cJ cZ z) rfl rfl rfl hl.1 (Nat.le_of_ble_eq_true rfl) ⟨Nat.zero_le _, Nat.zero_le _⟩ dX8_toil_3 (fun H locs hP hS => ?_)
  refine lv_istore_n (lv' := [(3, .int r_1), (0, .ref (A 0)), (1, .int p0), (2, .int p1)]) hx hb dX8_toil_6 rfl hl (by decide) rfl (fun ls hl => ?_)
  refine lv_iload_n hx hb dX8_toil_7 rfl (lv_at hl 0 rfl) ?_
  refine lv_if_eq (tgt := 13) hx hb dX8_toil_8 (by decide) (fun c_4 => ?_) (fun c_4 => ?_)
  · have hf := it_t c_4 hf
    refine lv_aload_n hx hb dX8_toil_13 rfl (lv_at hl 1 rfl) ?_
    refine va_get (D := (dC, dI)) (ci := 8) (v := .ref (A 3)) (C := RX8) (T := TX8) (N := 9) hx hb hts i8 hown hK hP 0 (wc_0 A cI cJ cZ z_2) rfl 2 (by decide) (hts (.fieldLink RX8 26 "LightestRules" "acts" "LLightestRules$ActRow;") (by decide +kernel)) (fun _ h9 => h9) rfl dX8_toil_14 ?_
    refine lv_aload_n hx hb dX8_toil_17 rfl (lv_at hl 1 rfl) ?_
    refine va_get (D := (dC, dI)) (ci := 8) (v := .ref (A 2)) (C := RX8) (T := TX8) (N := 9) hx hb hts i8 hown hK hP 0 (wc_0 A cI cJ cZ z_2) rfl 1 (by decide) (hts (.fieldLink RX8 19 "LightestRules" "folk" "LLightestRules$People;") (by decide +kernel)) (fun _ h9 => h9) rfl dX8_toil_18 ?_
    obtain ⟨r_5, z_6, h_7, hf⟩ := cl_el hf
    refine callVV (As := [.ref (A 2)]) (rest := []) (ci := 0) (q0 := 3) ⟨hx, hb, hml, hown, hts⟩ (tX0_remember (l := l) (dC := dC) (dI := dI) (t0 := t0) (cI := cI) (cJ := cJ) (cZ := cZ) hA h_7) (cwV 1 hts gX8_toil_X0_remember rfl rfl rfl (by decide +kernel) ⟨Nat.le_of_ble_eq_true rfl, Nat.le_of_ble_eq_true rfl⟩) hK hZ hP hS rfl (wc_3 A cI cJ cZ z_2) rfl rfl rfl hl.1 (Nat.le_of_ble_eq_true rfl) ⟨Nat.zero_le _, Nat.zero_le _⟩ dX8_toil_21 (fun H locs hP hS => ?_)
    refine lv_aload_n hx hb dX8_toil_24 rfl (lv_at hl 1 rfl) ?_
    refine va_get (D := (dC, dI)) (ci := 8) (v := .ref (A 2)) (C := RX8) (T := TX8) (N := 9) hx hb hts i8 hown hK hP 0 (wc_0 A cI cJ cZ z_6) rfl 1 (by decide) (hts (.fieldLink RX8 19 "LightestRules" "folk" "LLightestRules$People;") (by decide +kernel)) (fun _ h9 => h9) rfl dX8_toil_25 ?_
    refine lv_iload_n hx hb dX8_toil_28 rfl (lv_at hl 2 rfl) ?_
    refine lv_bipush (v := -5) hx hb dX8_toil_29 (by decide) ?_
    refine lv_iload_n hx hb dX8_toil_31 rfl (lv_at hl 3 rfl) ?_
    refine lv_imul hx hb dX8_toil_32 ?_
    obtain ⟨r_8, z_9, h_10, hf⟩ := cl_el hf
    refine callVI (As := [.int p0, .int ((-5 : Int32) * p1)]) (rest := []) (ci := 2) (q0 := 2) ⟨hx, hb, hml, hown, hts⟩ (tX2_gain_2 (l := l) (dC := dC) (dI := dI) (t0 := t0) (cI := cI) (cJ := cJ) (cZ := cZ) hA h_10) (cwV 2 hts gX8_toil_X2_gain rfl rfl rfl (by decide +kernel) ⟨Nat.le_of_ble_eq_true rfl, Nat.le_of_ble_eq_true rfl⟩) hK hZ hP hS rfl (wc_2 A cI cJ cZ z_6) rfl rfl rfl hl.1 (Nat.le_of_ble_eq_true rfl) ⟨Nat.zero_le _, Nat.zero_le _⟩ dX8_toil_33 (fun H locs hP hS => ?_)
    exact retI hx hb hr hlocks hP hS hf dX8_toil_36
  · have hf := it_f c_4 hf
    refine lv_iload_n hx hb dX8_toil_11 rfl (lv_at hl 0 rfl) ?_
    exact retI hx hb hr hlocks hP hS hf dX8_toil_12
set_option maxHeartbeats 4000000 in
set_option maxRecDepth 100000 in
theorem tX9_left {l : Launch} {dC : Nat → ClassId} {dI : Nat → Nat → Nat} {A : Nat → Nat} {t0 : Nat} {cI cJ cZ : ClassId} (hA : dst A) {p0 : Int32} {z : Mem} {r : Int32} {z' : Mem} (hf : fX9_left p0 z = some (r, z')) : MI l dC dI A t0 cI cJ cZ yX9_left wsX9_left 0 [.int p0] z r z' := by
  refine Met.ofW (cc := cX9_left) (maxL := 1) (ret := (some .int)) (by decide) rfl ?_
  intro p e s m args below meth c s₁ B hml hv
  obtain ⟨rfl, hP, hK, hZ⟩ := hv
  have hx := B.exec
  have hb := B.bytes
  have hr := B.returns
  have hts := atoms_spec (ws := wsX9_left) B.pre
  have hown : s.vm.findClass RX9 = some m.cls := findClass_of_methodNamed B.named
  have hlocks := B.notSynchronized
  have hS : va_S (fr A) s.heap s.heap [] := va_S.rf
  have hl := lv_entry ([.int p0]) (n := 1) (Nat.le_of_ble_eq_true rfl)
  rw [lg_entry_eq]
  generalize (lg_sl ([.int p0]) ++ List.replicate (1 - (lg_sl ([.int p0])).length) Slot.unset).toArray = ls at hl ⊢
  have hl : lv_has ls 1 [(0, .int p0)] := hl
  have hP : wIs dC dI A cI cJ cZ z s.heap := hP
  rw [fX9_left] at hf
  refine lv_iload_n hx hb dX9_left_0 rfl (lv_at hl 0 rfl) ?_
  refine lv_iconst (v := 1) hx hb dX9_left_1 (by decide) ?_
  refine lv_icmp_ge (tgt := 9) hx hb dX9_left_2 (by decide) (fun c_1 => ?_) (fun c_1 => ?_)
  · have hf := it_t c_1 hf
    refine lv_iload_n hx hb dX9_left_9 rfl (lv_at hl 0 rfl) ?_
    exact retI hx hb hr hlocks hP hS hf dX9_left_10
  · have hf := it_f c_1 hf
    refine lv_iconst (v := 1) hx hb dX9_left_5 (by decide) ?_
    refine lv_goto (tgt := 10) hx hb dX9_left_6 (by decide) ?_
    exact retI hx hb hr hlocks hP hS hf dX9_left_10
set_option maxHeartbeats 4000000 in
set_option maxRecDepth 100000 in
theorem tX9_toil {l : Launch} {dC : Nat → ClassId} {dI : Nat → Nat → Nat} {A : Nat → Nat} {t0 : Nat} {cI cJ cZ : ClassId} (hA : dst A) {p0 : Int32} {p1 : Int32} {z : Mem} {r : Int32} {z' : Mem} (hf : fX9_toil p0 p1 z = some (r, z')) : MI l dC dI A t0 cI cJ cZ yX9_toil wsX9_toil 2 [.ref (A 25), .int p0, .int p1] z r z' := by
  refine Met.ofW (cc := cX9_toil) (maxL := 3) (ret := (some .int)) (by decide) rfl ?_
  intro p e s m args below meth c s₁ B hml hv
  obtain ⟨rfl, hP, hK, hZ⟩ := hv
  have hx := B.exec
  have hb := B.bytes
  have hr := B.returns
  have hts := atoms_spec (ws := wsX9_toil) B.pre
  have hown : s.vm.findClass RX9 = some m.cls := findClass_of_methodNamed B.named
  have hlocks := B.notSynchronized
  have hS : va_S (fr A) s.heap s.heap [] := va_S.rf
  have i9 : ∀ w ∈ wsX90, w ∈ wsX9_toil := fun _ h => List.mem_cons_of_mem _ (List.mem_append_right _ h)
  have hl := lv_entry ([.ref (A 25), .int p0, .int p1]) (n := 3) (Nat.le_of_ble_eq_true rfl)
  rw [lg_entry_eq]
  generalize (lg_sl ([.ref (A 25), .int p0, .int p1]) ++ List.replicate (3 - (lg_sl ([.ref (A 25), .int p0, .int p1])).length) Slot.unset).toArray = ls at hl ⊢
  have hl : lv_has ls 3 [(0, .ref (A 25)), (1, .int p0), (2, .int p1)] := hl
  have hP : wIs dC dI A cI cJ cZ z s.heap := hP
  rw [fX9_toil] at hf
  refine lv_aload_n hx hb dX9_toil_0 rfl (lv_at hl 0 rfl) ?_
  refine lv_iload_n hx hb dX9_toil_1 rfl (lv_at hl 1 rfl) ?_
  obtain ⟨r_1, z_2, h_3, hf⟩ := cl_el hf
  refine callVI (As := [.int p0]) (rest := []) (ci := 9) (q0 := 25) ⟨hx, hb, hml, hown, hts⟩ (tX9_isPerson (l := l) (dC := dC) (dI := dI) (t0 := t0) (cI := cI) (cJ := cJ) (cZ := cZ) hA h_3) (cwV 1 hts gX9_toil_X9_isPerson rfl rfl rfl (by decide +kernel) ⟨Nat.le_of_ble_eq_true rfl, Nat.le_of_ble_eq_true rfl⟩) hK hZ hP hS rfl (wc_25 A cI cJ cZ z) rfl rfl rfl hl.1 (Nat.le_of_ble_eq_true rfl) ⟨Nat.zero_le _, Nat.zero_le _⟩ dX9_toil_2 (fun H locs hP hS => ?_)
  refine lv_if_ne (tgt := 10) hx hb dX9_toil_5 (by decide) (fun c_4 => ?_) (fun c_4 => ?_)
  · have hf := it_f c_4 hf
    refine lv_iload_n hx hb dX9_toil_10 rfl (lv_at hl 2 rfl) ?_
    refine lv_i2l hx hb dX9_toil_11 rfl ?_
    refine lv_lconst (v := 1) hx hb dX9_toil_12 rfl ?_
    refine lv_ldc2 hx hb hown (hts (.constantLong RX9 132 (9)) (by decide +kernel)) dX9_toil_13 ?_
    obtain ⟨r_5, z_6, h_7, hf⟩ := cl_el hf
    refine callSI (As := [.long (p1.toInt64), .long (1 : Int64), .long (9 : Int64)]) (rest := []) ⟨hx, hb, hml, hown, hts⟩ (tX9_in (l := l) (dC := dC) (dI := dI) (t0 := t0) (cI := cI) (cJ := cJ) (cZ := cZ) hA h_7) (va_cwS 3 hts gX9_toil_X9_in rfl rfl rfl (by decide +kernel) ⟨Nat.le_of_ble_eq_true rfl, Nat.le_of_ble_eq_true rfl⟩) hK hZ hP hS rfl rfl hl.1 (Nat.le_of_ble_eq_true rfl) ⟨Nat.zero_le _, Nat.zero_le _⟩ dX9_toil_16 (fun H locs hP hS => ?_)
    refine lv_if_ne (tgt := 25) hx hb dX9_toil_19 (by decide) (fun c_8 => ?_) (fun c_8 => ?_)
    · have hf := it_f c_8 hf
      refine lv_aload_n hx hb dX9_toil_25 rfl (lv_at hl 0 rfl) ?_
      obtain ⟨r_9, z_10, h_11, hf⟩ := cl_el hf
      refine callVV (As := []) (rest := []) (ci := 9) (q0 := 25) ⟨hx, hb, hml, hown, hts⟩ (tX9_keepAct (l := l) (dC := dC) (dI := dI) (t0 := t0) (cI := cI) (cJ := cJ) (cZ := cZ) hA h_11) (cwV 0 hts gX9_toil_X9_keepAct rfl rfl rfl (by decide +kernel) ⟨Nat.le_of_ble_eq_true rfl, Nat.le_of_ble_eq_true rfl⟩) hK hZ hP hS rfl (wc_25 A cI cJ cZ z_6) rfl rfl rfl hl.1 (Nat.le_of_ble_eq_true rfl) ⟨Nat.zero_le _, Nat.zero_le _⟩ dX9_toil_26 (fun H locs hP hS => ?_)
      refine lv_aload_n hx hb dX9_toil_29 rfl (lv_at hl 0 rfl) ?_
      refine va_get (D := (dC, dI)) (ci := 9) (v := .ref (A 27)) (C := RX9) (T := TX9) (N := 34) hx hb hts i9 hown hK hP 25 (wc_25 A cI cJ cZ z_10) rfl 5 (by decide) (hts (.fieldLink RX9 13 "LightestRulesModel" "now" "[I") (by decide +kernel)) (fun _ h9 => h9) rfl dX9_toil_30 ?_
      refine lv_iconst (v := 5) hx hb dX9_toil_33 (by decide) ?_
      refine lv_iload_n hx hb dX9_toil_34 rfl (lv_at hl 1 rfl) ?_
      refine lv_imul hx hb dX9_toil_35 ?_
      refine lv_aload_n hx hb dX9_toil_36 rfl (lv_at hl 0 rfl) ?_
      refine va_get (D := (dC, dI)) (ci := 9) (v := .ref (A 27)) (C := RX9) (T := TX9) (N := 34) hx hb hts i9 hown hK hP 25 (wc_25 A cI cJ cZ z_10) rfl 5 (by decide) (hts (.fieldLink RX9 13 "LightestRulesModel" "now" "[I") (by decide +kernel)) (fun _ h9 => h9) rfl dX9_toil_37 ?_
      refine lv_iconst (v := 5) hx hb dX9_toil_40 (by decide) ?_
      refine lv_iload_n hx hb dX9_toil_41 rfl (lv_at hl 1 rfl) ?_
      refine lv_imul hx hb dX9_toil_42 ?_
      refine lv_topi (fun y_12 ey_12 => ?_)
      have hf := lt_at ey_12 hf; clear ey_12
      obtain ⟨n_13, hf⟩ := rg_el hf
      refine va_iald hx hb hK hP 27 0 (wc_27 A cI cJ cZ z_10) rfl n_13 dX9_toil_43 ?_
      refine lv_topi (fun a_14 ea_14 => ?_)
      have hf := lt_at ea_14 hf; clear ea_14
      refine lv_iconst (v := 5) hx hb dX9_toil_44 (by decide) ?_
      refine lv_iload_n hx hb dX9_toil_45 rfl (lv_at hl 2 rfl) ?_
      refine lv_imul hx hb dX9_toil_46 ?_
      refine lv_isub hx hb dX9_toil_47 ?_
      obtain ⟨r_15, z_16, h_17, hf⟩ := cl_el hf
      refine callSI (As := [.int (a_14 - ((5 : Int32) * p1))]) (rest := [.int ((5 : Int32) * p0), .ref (A 27)]) ⟨hx, hb, hml, hown, hts⟩ (tX9_left (l := l) (dC := dC) (dI := dI) (t0 := t0) (cI := cI) (cJ := cJ) (cZ := cZ) hA h_17) (va_cwS 1 hts gX9_toil_X9_left rfl rfl rfl (by decide +kernel) ⟨Nat.le_of_ble_eq_true rfl, Nat.le_of_ble_eq_true rfl⟩) hK hZ hP hS rfl rfl hl.1 (Nat.le_of_ble_eq_true rfl) ⟨Nat.zero_le _, Nat.zero_le _⟩ dX9_toil_48 (fun H locs hP hS => ?_)
      obtain ⟨n_18, hf⟩ := rg_el hf
      refine va_iast hx hb hK hP (wD hA cI cJ cZ z_16) hS 27 0 (wc_27 A cI cJ cZ z_16) rfl n_18 dX9_toil_51 (fun H locs hP _ hS => ?_)
      rw [wa_27 A cI cJ cZ z_16 ((5 : Int32) * p0).toNatClampNeg r_15] at hP
      obtain ⟨z_19, hP, hf⟩ := lt_P (P := fun q => wIs dC dI A cI cJ cZ q H) hP hf
      refine lv_aload_n hx hb dX9_toil_52 rfl (lv_at hl 0 rfl) ?_
      refine va_get (D := (dC, dI)) (ci := 9) (v := .ref (A 27)) (C := RX9) (T := TX9) (N := 34) hx hb hts i9 hown hK hP 25 (wc_25 A cI cJ cZ z_19) rfl 5 (by decide) (hts (.fieldLink RX9 13 "LightestRulesModel" "now" "[I") (by decide +kernel)) (fun _ h9 => h9) rfl dX9_toil_53 ?_
      refine lv_iconst (v := 5) hx hb dX9_toil_56 (by decide) ?_
      refine lv_iload_n hx hb dX9_toil_57 rfl (lv_at hl 1 rfl) ?_
      refine lv_imul hx hb dX9_toil_58 ?_
      refine lv_topi (fun y_20 ey_20 => ?_)
      have hf := lt_at ey_20 hf; clear ey_20
      obtain ⟨n_21, hf⟩ := rg_el hf
      refine va_iald hx hb hK hP 27 0 (wc_27 A cI cJ cZ z_19) rfl n_21 dX9_toil_59 ?_
      refine lv_topi (fun a_22 ea_22 => ?_)
      have hf := lt_at ea_22 hf; clear ea_22
      exact retI hx hb hr hlocks hP hS hf dX9_toil_60
    · have hf := it_t c_8 hf
      refine lv_bipush (v := -2) hx hb dX9_toil_22 (by decide) ?_
      exact retI hx hb hr hlocks hP hS hf dX9_toil_24
  · have hf := it_t c_4 hf
    refine lv_iconst (v := -1) hx hb dX9_toil_8 (by decide) ?_
    exact retI hx hb hr hlocks hP hS hf dX9_toil_9
set_option maxHeartbeats 4000000 in
set_option maxRecDepth 100000 in
theorem tX8_drink {l : Launch} {dC : Nat → ClassId} {dI : Nat → Nat → Nat} {A : Nat → Nat} {t0 : Nat} {cI cJ cZ : ClassId} (hA : dst A) {p0 : Int32} {p1 : Int32} {z : Mem} {r : Int32} {z' : Mem} (hf : fX8_drink p0 p1 z = some (r, z')) : MI l dC dI A t0 cI cJ cZ yX8_drink wsX8_drink 3 [.ref (A 0), .int p0, .int p1] z r z' := by
  refine Met.ofW (cc := cX8_drink) (maxL := 5) (ret := (some .int)) (by decide) rfl ?_
  intro p e s m args below meth c s₁ B hml hv
  obtain ⟨rfl, hP, hK, hZ⟩ := hv
  have hx := B.exec
  have hb := B.bytes
  have hr := B.returns
  have hts := atoms_spec (ws := wsX8_drink) B.pre
  have hown : s.vm.findClass RX8 = some m.cls := findClass_of_methodNamed B.named
  have hlocks := B.notSynchronized
  have hS : va_S (fr A) s.heap s.heap [] := va_S.rf
  have i8 : ∀ w ∈ wsX80, w ∈ wsX8_drink := fun _ h => List.mem_cons_of_mem _ (List.mem_append_left _ (List.mem_append_left _ (List.mem_append_right _ h)))
  have hl := lv_entry ([.ref (A 0), .int p0, .int p1]) (n := 5) (Nat.le_of_ble_eq_true rfl)
  rw [lg_entry_eq]
  generalize (lg_sl ([.ref (A 0), .int p0, .int p1]) ++ List.replicate (5 - (lg_sl ([.ref (A 0), .int p0, .int p1])).length) Slot.unset).toArray = ls at hl ⊢
  have hl : lv_has ls 5 [(0, .ref (A 0)), (1, .int p0), (2, .int p1)] := hl
  have hP : wIs dC dI A cI cJ cZ z s.heap := hP
  rw [fX8_drink] at hf
  refine lv_aload_n hx hb dX8_drink_0 rfl (lv_at hl 0 rfl) ?_
  refine lv_iload_n hx hb dX8_drink_1 rfl (lv_at hl 1 rfl) ?_
  refine lv_iload_n hx hb dX8_drink_2 rfl (lv_at hl 2 rfl) ?_
  obtain ⟨r_1, z_2, h_3, hf⟩ := cl_el hf
  refine callVI (As := [.int p0, .int p1]) (rest := []) (ci := 8) (q0 := 0) ⟨hx, hb, hml, hown, hts⟩ (tX8_refusalOf (l := l) (dC := dC) (dI := dI) (t0 := t0) (cI := cI) (cJ := cJ) (cZ := cZ) hA h_3) (cwV 2 hts gX8_drink_X8_refusalOf rfl rfl rfl (by decide +kernel) ⟨Nat.le_of_ble_eq_true rfl, Nat.le_of_ble_eq_true rfl⟩) hK hZ hP hS rfl (wc_0 A cI cJ cZ z) rfl rfl rfl hl.1 (Nat.le_of_ble_eq_true rfl) ⟨Nat.zero_le _, Nat.zero_le _⟩ dX8_drink_3 (fun H locs hP hS => ?_)
  refine lv_istore_n (lv' := [(3, .int r_1), (0, .ref (A 0)), (1, .int p0), (2, .int p1)]) hx hb dX8_drink_6 rfl hl (by decide) rfl (fun ls hl => ?_)
  refine lv_iload_n hx hb dX8_drink_7 rfl (lv_at hl 0 rfl) ?_
  refine lv_if_eq (tgt := 13) hx hb dX8_drink_8 (by decide) (fun c_4 => ?_) (fun c_4 => ?_)
  · have hf := it_t c_4 hf
    refine lv_iconst (v := 3) hx hb dX8_drink_13 (by decide) ?_
    refine lv_iload_n hx hb dX8_drink_14 rfl (lv_at hl 3 rfl) ?_
    refine lv_imul hx hb dX8_drink_15 ?_
    refine lv_topi (fun x4_5 ex4_5 => ?_)
    have hf := lt_at ex4_5 hf; clear ex4_5
    refine lv_istore (lv' := [(4, .int x4_5), (3, .int r_1), (0, .ref (A 0)), (1, .int p0), (2, .int p1)]) hx hb dX8_drink_16 hl (by decide) rfl (fun ls hl => ?_)
    refine lv_aload_n hx hb dX8_drink_18 rfl (lv_at hl 2 rfl) ?_
    refine va_get (D := (dC, dI)) (ci := 8) (v := .ref (A 2)) (C := RX8) (T := TX8) (N := 9) hx hb hts i8 hown hK hP 0 (wc_0 A cI cJ cZ z_2) rfl 1 (by decide) (hts (.fieldLink RX8 19 "LightestRules" "folk" "LLightestRules$People;") (by decide +kernel)) (fun _ h9 => h9) rfl dX8_drink_19 ?_
    refine lv_iload_n hx hb dX8_drink_22 rfl (lv_at hl 3 rfl) ?_
    refine lv_iconst (v := 3) hx hb dX8_drink_23 (by decide) ?_
    obtain ⟨r_6, z_7, h_8, hf⟩ := cl_el hf
    refine callVI (As := [.int p0, .int (3 : Int32)]) (rest := []) (ci := 2) (q0 := 2) ⟨hx, hb, hml, hown, hts⟩ (tX2_get_2 (l := l) (dC := dC) (dI := dI) (t0 := t0) (cI := cI) (cJ := cJ) (cZ := cZ) hA h_8) (cwV 2 hts gX8_drink_X2_get rfl rfl rfl (by decide +kernel) ⟨Nat.le_of_ble_eq_true rfl, Nat.le_of_ble_eq_true rfl⟩) hK hZ hP hS rfl (wc_2 A cI cJ cZ z_2) rfl rfl rfl hl.1 (Nat.le_of_ble_eq_true rfl) ⟨Nat.zero_le _, Nat.zero_le _⟩ dX8_drink_24 (fun H locs hP hS => ?_)
    refine lv_iload hx hb dX8_drink_27 (lv_at hl 0 rfl) ?_
    refine lv_iadd hx hb dX8_drink_29 ?_
    refine lv_bipush (v := 90) hx hb dX8_drink_30 (by decide) ?_
    refine lv_icmp_le (tgt := 38) hx hb dX8_drink_32 (by decide) (fun c_9 => ?_) (fun c_9 => ?_)
    · have hf := it_t c_9 hf
      refine lv_aload_n hx hb dX8_drink_38 rfl (lv_at hl 2 rfl) ?_
      refine va_get (D := (dC, dI)) (ci := 8) (v := .ref (A 3)) (C := RX8) (T := TX8) (N := 9) hx hb hts i8 hown hK hP 0 (wc_0 A cI cJ cZ z_7) rfl 2 (by decide) (hts (.fieldLink RX8 26 "LightestRules" "acts" "LLightestRules$ActRow;") (by decide +kernel)) (fun _ h9 => h9) rfl dX8_drink_39 ?_
      refine lv_aload_n hx hb dX8_drink_42 rfl (lv_at hl 2 rfl) ?_
      refine va_get (D := (dC, dI)) (ci := 8) (v := .ref (A 2)) (C := RX8) (T := TX8) (N := 9) hx hb hts i8 hown hK hP 0 (wc_0 A cI cJ cZ z_7) rfl 1 (by decide) (hts (.fieldLink RX8 19 "LightestRules" "folk" "LLightestRules$People;") (by decide +kernel)) (fun _ h9 => h9) rfl dX8_drink_43 ?_
      obtain ⟨r_10, z_11, h_12, hf⟩ := cl_el hf
      refine callVV (As := [.ref (A 2)]) (rest := []) (ci := 0) (q0 := 3) ⟨hx, hb, hml, hown, hts⟩ (tX0_remember (l := l) (dC := dC) (dI := dI) (t0 := t0) (cI := cI) (cJ := cJ) (cZ := cZ) hA h_12) (cwV 1 hts gX8_drink_X0_remember rfl rfl rfl (by decide +kernel) ⟨Nat.le_of_ble_eq_true rfl, Nat.le_of_ble_eq_true rfl⟩) hK hZ hP hS rfl (wc_3 A cI cJ cZ z_7) rfl rfl rfl hl.1 (Nat.le_of_ble_eq_true rfl) ⟨Nat.zero_le _, Nat.zero_le _⟩ dX8_drink_46 (fun H locs hP hS => ?_)
      refine lv_aload_n hx hb dX8_drink_49 rfl (lv_at hl 2 rfl) ?_
      refine va_get (D := (dC, dI)) (ci := 8) (v := .ref (A 2)) (C := RX8) (T := TX8) (N := 9) hx hb hts i8 hown hK hP 0 (wc_0 A cI cJ cZ z_11) rfl 1 (by decide) (hts (.fieldLink RX8 19 "LightestRules" "folk" "LLightestRules$People;") (by decide +kernel)) (fun _ h9 => h9) rfl dX8_drink_50 ?_
      refine lv_iload_n hx hb dX8_drink_53 rfl (lv_at hl 3 rfl) ?_
      refine lv_iconst (v := 3) hx hb dX8_drink_54 (by decide) ?_
      refine lv_iload hx hb dX8_drink_55 (lv_at hl 0 rfl) ?_
      obtain ⟨r_13, z_14, h_15, hf⟩ := cl_el hf
      refine callVV (As := [.int p0, .int (3 : Int32), .int x4_5]) (rest := []) (ci := 2) (q0 := 2) ⟨hx, hb, hml, hown, hts⟩ (tX2_add_2 (l := l) (dC := dC) (dI := dI) (t0 := t0) (cI := cI) (cJ := cJ) (cZ := cZ) hA h_15) (cwV 3 hts gX8_drink_X2_add rfl rfl rfl (by decide +kernel) ⟨Nat.le_of_ble_eq_true rfl, Nat.le_of_ble_eq_true rfl⟩) hK hZ hP hS rfl (wc_2 A cI cJ cZ z_11) rfl rfl rfl hl.1 (Nat.le_of_ble_eq_true rfl) ⟨Nat.zero_le _, Nat.zero_le _⟩ dX8_drink_57 (fun H locs hP hS => ?_)
      refine lv_aload_n hx hb dX8_drink_60 rfl (lv_at hl 2 rfl) ?_
      refine va_get (D := (dC, dI)) (ci := 8) (v := .ref (A 2)) (C := RX8) (T := TX8) (N := 9) hx hb hts i8 hown hK hP 0 (wc_0 A cI cJ cZ z_14) rfl 1 (by decide) (hts (.fieldLink RX8 19 "LightestRules" "folk" "LLightestRules$People;") (by decide +kernel)) (fun _ h9 => h9) rfl dX8_drink_61 ?_
      refine lv_iload_n hx hb dX8_drink_64 rfl (lv_at hl 3 rfl) ?_
      refine lv_iload hx hb dX8_drink_65 (lv_at hl 0 rfl) ?_
      obtain ⟨r_16, z_17, h_18, hf⟩ := cl_el hf
      refine callVI (As := [.int p0, .int x4_5]) (rest := []) (ci := 2) (q0 := 2) ⟨hx, hb, hml, hown, hts⟩ (tX2_gain_2 (l := l) (dC := dC) (dI := dI) (t0 := t0) (cI := cI) (cJ := cJ) (cZ := cZ) hA h_18) (cwV 2 hts gX8_drink_X2_gain rfl rfl rfl (by decide +kernel) ⟨Nat.le_of_ble_eq_true rfl, Nat.le_of_ble_eq_true rfl⟩) hK hZ hP hS rfl (wc_2 A cI cJ cZ z_14) rfl rfl rfl hl.1 (Nat.le_of_ble_eq_true rfl) ⟨Nat.zero_le _, Nat.zero_le _⟩ dX8_drink_67 (fun H locs hP hS => ?_)
      exact retI hx hb hr hlocks hP hS hf dX8_drink_70
    · have hf := it_f c_9 hf
      refine lv_bipush (v := -3) hx hb dX8_drink_35 (by decide) ?_
      exact retI hx hb hr hlocks hP hS hf dX8_drink_37
  · have hf := it_f c_4 hf
    refine lv_iload_n hx hb dX8_drink_11 rfl (lv_at hl 0 rfl) ?_
    exact retI hx hb hr hlocks hP hS hf dX8_drink_12
set_option maxHeartbeats 4000000 in
set_option maxRecDepth 100000 in
theorem tX9_drink {l : Launch} {dC : Nat → ClassId} {dI : Nat → Nat → Nat} {A : Nat → Nat} {t0 : Nat} {cI cJ cZ : ClassId} (hA : dst A) {p0 : Int32} {p1 : Int32} {z : Mem} {r : Int32} {z' : Mem} (hf : fX9_drink p0 p1 z = some (r, z')) : MI l dC dI A t0 cI cJ cZ yX9_drink wsX9_drink 2 [.ref (A 25), .int p0, .int p1] z r z' := by
  refine Met.ofW (cc := cX9_drink) (maxL := 3) (ret := (some .int)) (by decide) rfl ?_
  intro p e s m args below meth c s₁ B hml hv
  obtain ⟨rfl, hP, hK, hZ⟩ := hv
  have hx := B.exec
  have hb := B.bytes
  have hr := B.returns
  have hts := atoms_spec (ws := wsX9_drink) B.pre
  have hown : s.vm.findClass RX9 = some m.cls := findClass_of_methodNamed B.named
  have hlocks := B.notSynchronized
  have hS : va_S (fr A) s.heap s.heap [] := va_S.rf
  have i9 : ∀ w ∈ wsX90, w ∈ wsX9_drink := fun _ h => List.mem_cons_of_mem _ (List.mem_append_right _ h)
  have hl := lv_entry ([.ref (A 25), .int p0, .int p1]) (n := 3) (Nat.le_of_ble_eq_true rfl)
  rw [lg_entry_eq]
  generalize (lg_sl ([.ref (A 25), .int p0, .int p1]) ++ List.replicate (3 - (lg_sl ([.ref (A 25), .int p0, .int p1])).length) Slot.unset).toArray = ls at hl ⊢
  have hl : lv_has ls 3 [(0, .ref (A 25)), (1, .int p0), (2, .int p1)] := hl
  have hP : wIs dC dI A cI cJ cZ z s.heap := hP
  rw [fX9_drink] at hf
  refine lv_aload_n hx hb dX9_drink_0 rfl (lv_at hl 0 rfl) ?_
  refine lv_iload_n hx hb dX9_drink_1 rfl (lv_at hl 1 rfl) ?_
  obtain ⟨r_1, z_2, h_3, hf⟩ := cl_el hf
  refine callVI (As := [.int p0]) (rest := []) (ci := 9) (q0 := 25) ⟨hx, hb, hml, hown, hts⟩ (tX9_isPerson (l := l) (dC := dC) (dI := dI) (t0 := t0) (cI := cI) (cJ := cJ) (cZ := cZ) hA h_3) (cwV 1 hts gX9_drink_X9_isPerson rfl rfl rfl (by decide +kernel) ⟨Nat.le_of_ble_eq_true rfl, Nat.le_of_ble_eq_true rfl⟩) hK hZ hP hS rfl (wc_25 A cI cJ cZ z) rfl rfl rfl hl.1 (Nat.le_of_ble_eq_true rfl) ⟨Nat.zero_le _, Nat.zero_le _⟩ dX9_drink_2 (fun H locs hP hS => ?_)
  refine lv_if_ne (tgt := 10) hx hb dX9_drink_5 (by decide) (fun c_4 => ?_) (fun c_4 => ?_)
  · have hf := it_f c_4 hf
    refine lv_iload_n hx hb dX9_drink_10 rfl (lv_at hl 2 rfl) ?_
    refine lv_i2l hx hb dX9_drink_11 rfl ?_
    refine lv_lconst (v := 1) hx hb dX9_drink_12 rfl ?_
    refine lv_ldc2 hx hb hown (hts (.constantLong RX9 132 (9)) (by decide +kernel)) dX9_drink_13 ?_
    obtain ⟨r_5, z_6, h_7, hf⟩ := cl_el hf
    refine callSI (As := [.long (p1.toInt64), .long (1 : Int64), .long (9 : Int64)]) (rest := []) ⟨hx, hb, hml, hown, hts⟩ (tX9_in (l := l) (dC := dC) (dI := dI) (t0 := t0) (cI := cI) (cJ := cJ) (cZ := cZ) hA h_7) (va_cwS 3 hts gX9_drink_X9_in rfl rfl rfl (by decide +kernel) ⟨Nat.le_of_ble_eq_true rfl, Nat.le_of_ble_eq_true rfl⟩) hK hZ hP hS rfl rfl hl.1 (Nat.le_of_ble_eq_true rfl) ⟨Nat.zero_le _, Nat.zero_le _⟩ dX9_drink_16 (fun H locs hP hS => ?_)
    refine lv_if_ne (tgt := 25) hx hb dX9_drink_19 (by decide) (fun c_8 => ?_) (fun c_8 => ?_)
    · have hf := it_f c_8 hf
      refine lv_aload_n hx hb dX9_drink_25 rfl (lv_at hl 0 rfl) ?_
      refine va_get (D := (dC, dI)) (ci := 9) (v := .ref (A 27)) (C := RX9) (T := TX9) (N := 34) hx hb hts i9 hown hK hP 25 (wc_25 A cI cJ cZ z_6) rfl 5 (by decide) (hts (.fieldLink RX9 13 "LightestRulesModel" "now" "[I") (by decide +kernel)) (fun _ h9 => h9) rfl dX9_drink_26 ?_
      refine lv_iconst (v := 5) hx hb dX9_drink_29 (by decide) ?_
      refine lv_iload_n hx hb dX9_drink_30 rfl (lv_at hl 1 rfl) ?_
      refine lv_imul hx hb dX9_drink_31 ?_
      refine lv_iconst (v := 3) hx hb dX9_drink_32 (by decide) ?_
      refine lv_iadd hx hb dX9_drink_33 ?_
      refine lv_topi (fun y_9 ey_9 => ?_)
      have hf := lt_at ey_9 hf; clear ey_9
      obtain ⟨n_10, hf⟩ := rg_el hf
      refine va_iald hx hb hK hP 27 0 (wc_27 A cI cJ cZ z_6) rfl n_10 dX9_drink_34 ?_
      refine lv_topi (fun a_11 ea_11 => ?_)
      have hf := lt_at ea_11 hf; clear ea_11
      refine lv_iconst (v := 3) hx hb dX9_drink_35 (by decide) ?_
      refine lv_iload_n hx hb dX9_drink_36 rfl (lv_at hl 2 rfl) ?_
      refine lv_imul hx hb dX9_drink_37 ?_
      refine lv_iadd hx hb dX9_drink_38 ?_
      refine lv_bipush (v := 90) hx hb dX9_drink_39 (by decide) ?_
      refine lv_icmp_le (tgt := 47) hx hb dX9_drink_41 (by decide) (fun c_12 => ?_) (fun c_12 => ?_)
      · have hf := it_t c_12 hf
        refine lv_aload_n hx hb dX9_drink_47 rfl (lv_at hl 0 rfl) ?_
        obtain ⟨r_13, z_14, h_15, hf⟩ := cl_el hf
        refine callVV (As := []) (rest := []) (ci := 9) (q0 := 25) ⟨hx, hb, hml, hown, hts⟩ (tX9_keepAct (l := l) (dC := dC) (dI := dI) (t0 := t0) (cI := cI) (cJ := cJ) (cZ := cZ) hA h_15) (cwV 0 hts gX9_drink_X9_keepAct rfl rfl rfl (by decide +kernel) ⟨Nat.le_of_ble_eq_true rfl, Nat.le_of_ble_eq_true rfl⟩) hK hZ hP hS rfl (wc_25 A cI cJ cZ z_6) rfl rfl rfl hl.1 (Nat.le_of_ble_eq_true rfl) ⟨Nat.zero_le _, Nat.zero_le _⟩ dX9_drink_48 (fun H locs hP hS => ?_)
        refine lv_aload_n hx hb dX9_drink_51 rfl (lv_at hl 0 rfl) ?_
        refine va_get (D := (dC, dI)) (ci := 9) (v := .ref (A 27)) (C := RX9) (T := TX9) (N := 34) hx hb hts i9 hown hK hP 25 (wc_25 A cI cJ cZ z_14) rfl 5 (by decide) (hts (.fieldLink RX9 13 "LightestRulesModel" "now" "[I") (by decide +kernel)) (fun _ h9 => h9) rfl dX9_drink_52 ?_
        refine lv_iconst (v := 5) hx hb dX9_drink_55 (by decide) ?_
        refine lv_iload_n hx hb dX9_drink_56 rfl (lv_at hl 1 rfl) ?_
        refine lv_imul hx hb dX9_drink_57 ?_
        refine lv_topi (fun y_16 ey_16 => ?_)
        have hf := lt_at ey_16 hf; clear ey_16
        refine lv_dup2_11 hx hb dX9_drink_58 rfl rfl ?_
        obtain ⟨n_17, hf⟩ := rg_el hf
        refine va_iald hx hb hK hP 27 0 (wc_27 A cI cJ cZ z_14) rfl n_17 dX9_drink_59 ?_
        refine lv_topi (fun a_18 ea_18 => ?_)
        have hf := lt_at ea_18 hf; clear ea_18
        refine lv_iconst (v := 3) hx hb dX9_drink_60 (by decide) ?_
        refine lv_iload_n hx hb dX9_drink_61 rfl (lv_at hl 2 rfl) ?_
        refine lv_imul hx hb dX9_drink_62 ?_
        refine lv_iadd hx hb dX9_drink_63 ?_
        refine lv_topi (fun y_19 ey_19 => ?_)
        have hf := lt_at ey_19 hf; clear ey_19
        obtain ⟨n_20, hf⟩ := rg_el hf
        refine va_iast hx hb hK hP (wD hA cI cJ cZ z_14) hS 27 0 (wc_27 A cI cJ cZ z_14) rfl n_20 dX9_drink_64 (fun H locs hP _ hS => ?_)
        rw [wa_27 A cI cJ cZ z_14 y_16.toNatClampNeg y_19] at hP
        obtain ⟨z_21, hP, hf⟩ := lt_P (P := fun q => wIs dC dI A cI cJ cZ q H) hP hf
        refine lv_aload_n hx hb dX9_drink_65 rfl (lv_at hl 0 rfl) ?_
        refine va_get (D := (dC, dI)) (ci := 9) (v := .ref (A 27)) (C := RX9) (T := TX9) (N := 34) hx hb hts i9 hown hK hP 25 (wc_25 A cI cJ cZ z_21) rfl 5 (by decide) (hts (.fieldLink RX9 13 "LightestRulesModel" "now" "[I") (by decide +kernel)) (fun _ h9 => h9) rfl dX9_drink_66 ?_
        refine lv_iconst (v := 5) hx hb dX9_drink_69 (by decide) ?_
        refine lv_iload_n hx hb dX9_drink_70 rfl (lv_at hl 1 rfl) ?_
        refine lv_imul hx hb dX9_drink_71 ?_
        refine lv_iconst (v := 3) hx hb dX9_drink_72 (by decide) ?_
        refine lv_iadd hx hb dX9_drink_73 ?_
        refine lv_topi (fun y_22 ey_22 => ?_)
        have hf := lt_at ey_22 hf; clear ey_22
        refine lv_dup2_11 hx hb dX9_drink_74 rfl rfl ?_
        obtain ⟨n_23, hf⟩ := rg_el hf
        refine va_iald hx hb hK hP 27 0 (wc_27 A cI cJ cZ z_21) rfl n_23 dX9_drink_75 ?_
        refine lv_topi (fun a_24 ea_24 => ?_)
        have hf := lt_at ea_24 hf; clear ea_24
        refine lv_iconst (v := 3) hx hb dX9_drink_76 (by decide) ?_
        refine lv_iload_n hx hb dX9_drink_77 rfl (lv_at hl 2 rfl) ?_
        refine lv_imul hx hb dX9_drink_78 ?_
        refine lv_iadd hx hb dX9_drink_79 ?_
        refine lv_topi (fun y_25 ey_25 => ?_)
        have hf := lt_at ey_25 hf; clear ey_25
        obtain ⟨n_26, hf⟩ := rg_el hf
        refine va_iast hx hb hK hP (wD hA cI cJ cZ z_21) hS 27 0 (wc_27 A cI cJ cZ z_21) rfl n_26 dX9_drink_80 (fun H locs hP _ hS => ?_)
        rw [wa_27 A cI cJ cZ z_21 y_22.toNatClampNeg y_25] at hP
        obtain ⟨z_27, hP, hf⟩ := lt_P (P := fun q => wIs dC dI A cI cJ cZ q H) hP hf
        refine lv_aload_n hx hb dX9_drink_81 rfl (lv_at hl 0 rfl) ?_
        refine va_get (D := (dC, dI)) (ci := 9) (v := .ref (A 27)) (C := RX9) (T := TX9) (N := 34) hx hb hts i9 hown hK hP 25 (wc_25 A cI cJ cZ z_27) rfl 5 (by decide) (hts (.fieldLink RX9 13 "LightestRulesModel" "now" "[I") (by decide +kernel)) (fun _ h9 => h9) rfl dX9_drink_82 ?_
        refine lv_iconst (v := 5) hx hb dX9_drink_85 (by decide) ?_
        refine lv_iload_n hx hb dX9_drink_86 rfl (lv_at hl 1 rfl) ?_
        refine lv_imul hx hb dX9_drink_87 ?_
        refine lv_topi (fun y_28 ey_28 => ?_)
        have hf := lt_at ey_28 hf; clear ey_28
        obtain ⟨n_29, hf⟩ := rg_el hf
        refine va_iald hx hb hK hP 27 0 (wc_27 A cI cJ cZ z_27) rfl n_29 dX9_drink_88 ?_
        refine lv_topi (fun a_30 ea_30 => ?_)
        have hf := lt_at ea_30 hf; clear ea_30
        exact retI hx hb hr hlocks hP hS hf dX9_drink_89
      · have hf := it_f c_12 hf
        refine lv_bipush (v := -3) hx hb dX9_drink_44 (by decide) ?_
        exact retI hx hb hr hlocks hP hS hf dX9_drink_46
    · have hf := it_t c_8 hf
      refine lv_bipush (v := -2) hx hb dX9_drink_22 (by decide) ?_
      exact retI hx hb hr hlocks hP hS hf dX9_drink_24
  · have hf := it_t c_4 hf
    refine lv_iconst (v := -1) hx hb dX9_drink_8 (by decide) ?_
    exact retI hx hb hr hlocks hP hS hf dX9_drink_9
set_option maxHeartbeats 4000000 in
set_option maxRecDepth 100000 in
theorem tX8_hand {l : Launch} {dC : Nat → ClassId} {dI : Nat → Nat → Nat} {A : Nat → Nat} {t0 : Nat} {cI cJ cZ : ClassId} (hA : dst A) {p0 : Int32} {p1 : Int32} {p2 : Int32} {z : Mem} {r : Int32} {z' : Mem} (hf : fX8_hand p0 p1 p2 z = some (r, z')) : MI l dC dI A t0 cI cJ cZ yX8_hand wsX8_hand 3 [.ref (A 0), .int p0, .int p1, .int p2] z r z' := by
  refine Met.ofW (cc := cX8_hand) (maxL := 5) (ret := (some .int)) (by decide) rfl ?_
  intro p e s m args below meth c s₁ B hml hv
  obtain ⟨rfl, hP, hK, hZ⟩ := hv
  have hx := B.exec
  have hb := B.bytes
  have hr := B.returns
  have hts := atoms_spec (ws := wsX8_hand) B.pre
  have hown : s.vm.findClass RX8 = some m.cls := findClass_of_methodNamed B.named
  have hlocks := B.notSynchronized
  have hS : va_S (fr A) s.heap s.heap [] := va_S.rf
  have i8 : ∀ w ∈ wsX80, w ∈ wsX8_hand := fun _ h => List.mem_cons_of_mem _ (List.mem_append_left _ (List.mem_append_left _ (List.mem_append_right _ h)))
  have hl := lv_entry ([.ref (A 0), .int p0, .int p1, .int p2]) (n := 5) (Nat.le_of_ble_eq_true rfl)
  rw [lg_entry_eq]
  generalize (lg_sl ([.ref (A 0), .int p0, .int p1, .int p2]) ++ List.replicate (5 - (lg_sl ([.ref (A 0), .int p0, .int p1, .int p2])).length) Slot.unset).toArray = ls at hl ⊢
  have hl : lv_has ls 5 [(0, .ref (A 0)), (1, .int p0), (2, .int p1), (3, .int p2)] := hl
  have hP : wIs dC dI A cI cJ cZ z s.heap := hP
  rw [fX8_hand] at hf
  refine lv_aload_n hx hb dX8_hand_0 rfl (lv_at hl 0 rfl) ?_
  refine va_get (D := (dC, dI)) (ci := 8) (v := .ref (A 2)) (C := RX8) (T := TX8) (N := 9) hx hb hts i8 hown hK hP 0 (wc_0 A cI cJ cZ z) rfl 1 (by decide) (hts (.fieldLink RX8 19 "LightestRules" "folk" "LLightestRules$People;") (by decide +kernel)) (fun _ h9 => h9) rfl dX8_hand_1 ?_
  refine lv_iload_n hx hb dX8_hand_4 rfl (lv_at hl 1 rfl) ?_
  obtain ⟨r_1, z_2, h_3, hf⟩ := cl_el hf
  refine callVI (As := [.int p0]) (rest := []) (ci := 2) (q0 := 2) ⟨hx, hb, hml, hown, hts⟩ (tX2_has (l := l) (dC := dC) (dI := dI) (t0 := t0) (cI := cI) (cJ := cJ) (cZ := cZ) hA h_3) (cwV 1 hts gX8_hand_X2_has rfl rfl rfl (by decide +kernel) ⟨Nat.le_of_ble_eq_true rfl, Nat.le_of_ble_eq_true rfl⟩) hK hZ hP hS rfl (wc_2 A cI cJ cZ z) rfl rfl rfl hl.1 (Nat.le_of_ble_eq_true rfl) ⟨Nat.zero_le _, Nat.zero_le _⟩ dX8_hand_5 (fun H locs hP hS => ?_)
  refine lv_if_eq (tgt := 22) hx hb dX8_hand_8 (by decide) (fun c_4 => ?_) (fun c_4 => ?_)
  · have hf := it_t c_4 hf
    refine lv_iconst (v := -1) hx hb dX8_hand_22 (by decide) ?_
    exact retI hx hb hr hlocks hP hS hf dX8_hand_23
  · have hf := it_f c_4 hf
    refine lv_aload_n hx hb dX8_hand_11 rfl (lv_at hl 0 rfl) ?_
    refine va_get (D := (dC, dI)) (ci := 8) (v := .ref (A 2)) (C := RX8) (T := TX8) (N := 9) hx hb hts i8 hown hK hP 0 (wc_0 A cI cJ cZ z_2) rfl 1 (by decide) (hts (.fieldLink RX8 19 "LightestRules" "folk" "LLightestRules$People;") (by decide +kernel)) (fun _ h9 => h9) rfl dX8_hand_12 ?_
    refine lv_iload_n hx hb dX8_hand_15 rfl (lv_at hl 2 rfl) ?_
    obtain ⟨r_5, z_6, h_7, hf⟩ := cl_el hf
    refine callVI (As := [.int p1]) (rest := []) (ci := 2) (q0 := 2) ⟨hx, hb, hml, hown, hts⟩ (tX2_has (l := l) (dC := dC) (dI := dI) (t0 := t0) (cI := cI) (cJ := cJ) (cZ := cZ) hA h_7) (cwV 1 hts gX8_hand_X2_has rfl rfl rfl (by decide +kernel) ⟨Nat.le_of_ble_eq_true rfl, Nat.le_of_ble_eq_true rfl⟩) hK hZ hP hS rfl (wc_2 A cI cJ cZ z_2) rfl rfl rfl hl.1 (Nat.le_of_ble_eq_true rfl) ⟨Nat.zero_le _, Nat.zero_le _⟩ dX8_hand_16 (fun H locs hP hS => ?_)
    refine lv_if_ne (tgt := 24) hx hb dX8_hand_19 (by decide) (fun c_8 => ?_) (fun c_8 => ?_)
    · have hf := it_f c_8 hf
      refine lv_iload_n hx hb dX8_hand_24 rfl (lv_at hl 3 rfl) ?_
      obtain ⟨K_9, eK_9, hf⟩ := jn_el hf
      have hK_9 : ∀ (v_10 : Int32) (z_11 : Mem) (H : Heap) (locs : List Loc) (ls : Array Slot), K_9 v_10 z_11 = some (r, z') → wIs dC dI A cI cJ cZ z_11 H → va_S (fr A) s.heap H locs → lv_has ls 5 [(0, .ref (A 0)), (1, .int p0), (2, .int p1), (3, .int p2)] → WI p l e wsX8_hand 3 s m [.ref (A 0), .int p0, .int p1, .int p2] below meth c dC dI A cI cJ cZ r z' H locs (F0 m 33 ls [.int v_10]) := by
        intro v_10 z_11 H locs ls hf hP hS hl
        have hf := ap2 eK_9 hf
        refine lv_istore (lv' := [(4, .int v_10), (0, .ref (A 0)), (1, .int p0), (2, .int p1), (3, .int p2)]) hx hb dX8_hand_33 hl (by decide) rfl (fun ls hl => ?_)
        refine lv_iload_n hx hb dX8_hand_35 rfl (lv_at hl 2 rfl) ?_
        refine lv_iload_n hx hb dX8_hand_36 rfl (lv_at hl 3 rfl) ?_
        refine lv_icmp_eq (tgt := 53) hx hb dX8_hand_37 (by decide) (fun c_12 => ?_) (fun c_12 => ?_)
        · have hf := it_t c_12 hf
          refine lv_bipush (v := -3) hx hb dX8_hand_53 (by decide) ?_
          exact retI hx hb hr hlocks hP hS hf dX8_hand_55
        · have hf := it_f c_12 hf
          refine lv_aload_n hx hb dX8_hand_40 rfl (lv_at hl 1 rfl) ?_
          refine va_get (D := (dC, dI)) (ci := 8) (v := .ref (A 2)) (C := RX8) (T := TX8) (N := 9) hx hb hts i8 hown hK hP 0 (wc_0 A cI cJ cZ z_11) rfl 1 (by decide) (hts (.fieldLink RX8 19 "LightestRules" "folk" "LLightestRules$People;") (by decide +kernel)) (fun _ h9 => h9) rfl dX8_hand_41 ?_
          refine lv_iload_n hx hb dX8_hand_44 rfl (lv_at hl 2 rfl) ?_
          refine lv_iload hx hb dX8_hand_45 (lv_at hl 0 rfl) ?_
          obtain ⟨r_13, z_14, h_15, hf⟩ := cl_el hf
          refine callVI (As := [.int p0, .int v_10]) (rest := []) (ci := 2) (q0 := 2) ⟨hx, hb, hml, hown, hts⟩ (tX2_get_2 (l := l) (dC := dC) (dI := dI) (t0 := t0) (cI := cI) (cJ := cJ) (cZ := cZ) hA h_15) (cwV 2 hts gX8_hand_X2_get rfl rfl rfl (by decide +kernel) ⟨Nat.le_of_ble_eq_true rfl, Nat.le_of_ble_eq_true rfl⟩) hK hZ hP hS rfl (wc_2 A cI cJ cZ z_11) rfl rfl rfl hl.1 (Nat.le_of_ble_eq_true rfl) ⟨Nat.zero_le _, Nat.zero_le _⟩ dX8_hand_47 (fun H locs hP hS => ?_)
          refine lv_if_ne (tgt := 56) hx hb dX8_hand_50 (by decide) (fun c_16 => ?_) (fun c_16 => ?_)
          · have hf := it_f c_16 hf
            refine lv_aload_n hx hb dX8_hand_56 rfl (lv_at hl 1 rfl) ?_
            refine va_get (D := (dC, dI)) (ci := 8) (v := .ref (A 2)) (C := RX8) (T := TX8) (N := 9) hx hb hts i8 hown hK hP 0 (wc_0 A cI cJ cZ z_14) rfl 1 (by decide) (hts (.fieldLink RX8 19 "LightestRules" "folk" "LLightestRules$People;") (by decide +kernel)) (fun _ h9 => h9) rfl dX8_hand_57 ?_
            refine lv_iload_n hx hb dX8_hand_60 rfl (lv_at hl 3 rfl) ?_
            refine lv_iload hx hb dX8_hand_61 (lv_at hl 0 rfl) ?_
            obtain ⟨r_17, z_18, h_19, hf⟩ := cl_el hf
            refine callVI (As := [.int p1, .int v_10]) (rest := []) (ci := 2) (q0 := 2) ⟨hx, hb, hml, hown, hts⟩ (tX2_get_2 (l := l) (dC := dC) (dI := dI) (t0 := t0) (cI := cI) (cJ := cJ) (cZ := cZ) hA h_19) (cwV 2 hts gX8_hand_X2_get rfl rfl rfl (by decide +kernel) ⟨Nat.le_of_ble_eq_true rfl, Nat.le_of_ble_eq_true rfl⟩) hK hZ hP hS rfl (wc_2 A cI cJ cZ z_14) rfl rfl rfl hl.1 (Nat.le_of_ble_eq_true rfl) ⟨Nat.zero_le _, Nat.zero_le _⟩ dX8_hand_63 (fun H locs hP hS => ?_)
            refine lv_bipush (v := 9) hx hb dX8_hand_66 (by decide) ?_
            refine lv_icmp_lt (tgt := 74) hx hb dX8_hand_68 (by decide) (fun c_20 => ?_) (fun c_20 => ?_)
            · have hf := it_t c_20 hf
              refine lv_aload_n hx hb dX8_hand_74 rfl (lv_at hl 1 rfl) ?_
              refine va_get (D := (dC, dI)) (ci := 8) (v := .ref (A 3)) (C := RX8) (T := TX8) (N := 9) hx hb hts i8 hown hK hP 0 (wc_0 A cI cJ cZ z_18) rfl 2 (by decide) (hts (.fieldLink RX8 26 "LightestRules" "acts" "LLightestRules$ActRow;") (by decide +kernel)) (fun _ h9 => h9) rfl dX8_hand_75 ?_
              refine lv_aload_n hx hb dX8_hand_78 rfl (lv_at hl 1 rfl) ?_
              refine va_get (D := (dC, dI)) (ci := 8) (v := .ref (A 2)) (C := RX8) (T := TX8) (N := 9) hx hb hts i8 hown hK hP 0 (wc_0 A cI cJ cZ z_18) rfl 1 (by decide) (hts (.fieldLink RX8 19 "LightestRules" "folk" "LLightestRules$People;") (by decide +kernel)) (fun _ h9 => h9) rfl dX8_hand_79 ?_
              obtain ⟨r_21, z_22, h_23, hf⟩ := cl_el hf
              refine callVV (As := [.ref (A 2)]) (rest := []) (ci := 0) (q0 := 3) ⟨hx, hb, hml, hown, hts⟩ (tX0_remember (l := l) (dC := dC) (dI := dI) (t0 := t0) (cI := cI) (cJ := cJ) (cZ := cZ) hA h_23) (cwV 1 hts gX8_hand_X0_remember rfl rfl rfl (by decide +kernel) ⟨Nat.le_of_ble_eq_true rfl, Nat.le_of_ble_eq_true rfl⟩) hK hZ hP hS rfl (wc_3 A cI cJ cZ z_18) rfl rfl rfl hl.1 (Nat.le_of_ble_eq_true rfl) ⟨Nat.zero_le _, Nat.zero_le _⟩ dX8_hand_82 (fun H locs hP hS => ?_)
              refine lv_aload_n hx hb dX8_hand_85 rfl (lv_at hl 1 rfl) ?_
              refine va_get (D := (dC, dI)) (ci := 8) (v := .ref (A 2)) (C := RX8) (T := TX8) (N := 9) hx hb hts i8 hown hK hP 0 (wc_0 A cI cJ cZ z_22) rfl 1 (by decide) (hts (.fieldLink RX8 19 "LightestRules" "folk" "LLightestRules$People;") (by decide +kernel)) (fun _ h9 => h9) rfl dX8_hand_86 ?_
              refine lv_iload_n hx hb dX8_hand_89 rfl (lv_at hl 2 rfl) ?_
              refine lv_iload hx hb dX8_hand_90 (lv_at hl 0 rfl) ?_
              refine lv_iconst (v := -1) hx hb dX8_hand_92 (by decide) ?_
              obtain ⟨r_24, z_25, h_26, hf⟩ := cl_el hf
              refine callVV (As := [.int p0, .int v_10, .int (-1 : Int32)]) (rest := []) (ci := 2) (q0 := 2) ⟨hx, hb, hml, hown, hts⟩ (tX2_add_2 (l := l) (dC := dC) (dI := dI) (t0 := t0) (cI := cI) (cJ := cJ) (cZ := cZ) hA h_26) (cwV 3 hts gX8_hand_X2_add rfl rfl rfl (by decide +kernel) ⟨Nat.le_of_ble_eq_true rfl, Nat.le_of_ble_eq_true rfl⟩) hK hZ hP hS rfl (wc_2 A cI cJ cZ z_22) rfl rfl rfl hl.1 (Nat.le_of_ble_eq_true rfl) ⟨Nat.zero_le _, Nat.zero_le _⟩ dX8_hand_93 (fun H locs hP hS => ?_)
              refine lv_aload_n hx hb dX8_hand_96 rfl (lv_at hl 1 rfl) ?_
              refine va_get (D := (dC, dI)) (ci := 8) (v := .ref (A 2)) (C := RX8) (T := TX8) (N := 9) hx hb hts i8 hown hK hP 0 (wc_0 A cI cJ cZ z_25) rfl 1 (by decide) (hts (.fieldLink RX8 19 "LightestRules" "folk" "LLightestRules$People;") (by decide +kernel)) (fun _ h9 => h9) rfl dX8_hand_97 ?_
              refine lv_iload_n hx hb dX8_hand_100 rfl (lv_at hl 3 rfl) ?_
              refine lv_iload hx hb dX8_hand_101 (lv_at hl 0 rfl) ?_
              refine lv_iconst (v := 1) hx hb dX8_hand_103 (by decide) ?_
              obtain ⟨r_27, z_28, h_29, hf⟩ := cl_el hf
              refine callVV (As := [.int p1, .int v_10, .int (1 : Int32)]) (rest := []) (ci := 2) (q0 := 2) ⟨hx, hb, hml, hown, hts⟩ (tX2_add_2 (l := l) (dC := dC) (dI := dI) (t0 := t0) (cI := cI) (cJ := cJ) (cZ := cZ) hA h_29) (cwV 3 hts gX8_hand_X2_add rfl rfl rfl (by decide +kernel) ⟨Nat.le_of_ble_eq_true rfl, Nat.le_of_ble_eq_true rfl⟩) hK hZ hP hS rfl (wc_2 A cI cJ cZ z_25) rfl rfl rfl hl.1 (Nat.le_of_ble_eq_true rfl) ⟨Nat.zero_le _, Nat.zero_le _⟩ dX8_hand_104 (fun H locs hP hS => ?_)
              refine lv_aload_n hx hb dX8_hand_107 rfl (lv_at hl 1 rfl) ?_
              refine va_get (D := (dC, dI)) (ci := 8) (v := .ref (A 2)) (C := RX8) (T := TX8) (N := 9) hx hb hts i8 hown hK hP 0 (wc_0 A cI cJ cZ z_28) rfl 1 (by decide) (hts (.fieldLink RX8 19 "LightestRules" "folk" "LLightestRules$People;") (by decide +kernel)) (fun _ h9 => h9) rfl dX8_hand_108 ?_
              refine lv_iload_n hx hb dX8_hand_111 rfl (lv_at hl 3 rfl) ?_
              refine lv_iload hx hb dX8_hand_112 (lv_at hl 0 rfl) ?_
              obtain ⟨r_30, z_31, h_32, hf⟩ := cl_el hf
              refine callVI (As := [.int p1, .int v_10]) (rest := []) (ci := 2) (q0 := 2) ⟨hx, hb, hml, hown, hts⟩ (tX2_get_2 (l := l) (dC := dC) (dI := dI) (t0 := t0) (cI := cI) (cJ := cJ) (cZ := cZ) hA h_32) (cwV 2 hts gX8_hand_X2_get rfl rfl rfl (by decide +kernel) ⟨Nat.le_of_ble_eq_true rfl, Nat.le_of_ble_eq_true rfl⟩) hK hZ hP hS rfl (wc_2 A cI cJ cZ z_28) rfl rfl rfl hl.1 (Nat.le_of_ble_eq_true rfl) ⟨Nat.zero_le _, Nat.zero_le _⟩ dX8_hand_114 (fun H locs hP hS => ?_)
              exact retI hx hb hr hlocks hP hS hf dX8_hand_117
            · have hf := it_f c_20 hf
              refine lv_bipush (v := -4) hx hb dX8_hand_71 (by decide) ?_
              exact retI hx hb hr hlocks hP hS hf dX8_hand_73
          · have hf := it_t c_16 hf
            refine lv_bipush (v := -3) hx hb dX8_hand_53 (by decide) ?_
            exact retI hx hb hr hlocks hP hS hf dX8_hand_55
      refine lv_if_eq (tgt := 32) hx hb dX8_hand_25 (by decide) (fun c_33 => ?_) (fun c_33 => ?_)
      · have hf := it_t c_33 hf
        refine lv_iconst (v := 1) hx hb dX8_hand_32 (by decide) ?_
        exact hK_9 _ _ _ _ _ hf hP hS (lv_sub hl [0, 1, 2, 3] rfl)
      · have hf := it_f c_33 hf
        refine lv_iconst (v := 2) hx hb dX8_hand_28 (by decide) ?_
        refine lv_goto (tgt := 33) hx hb dX8_hand_29 (by decide) ?_
        exact hK_9 _ _ _ _ _ hf hP hS (lv_sub hl [0, 1, 2, 3] rfl)
    · have hf := it_t c_8 hf
      refine lv_iconst (v := -1) hx hb dX8_hand_22 (by decide) ?_
      exact retI hx hb hr hlocks hP hS hf dX8_hand_23
