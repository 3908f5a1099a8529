set_option maxHeartbeats 4000000 in
set_option maxRecDepth 100000 in
theorem tX9_rows {l : Launch} {dC : Nat → ClassId} {dI : Nat → Nat → Nat} {A : Nat → Nat} {t0 : Nat} {cI cJ cZ : ClassId} (hA : dst A)  {z : Mem} {r : Int32} {z' : Mem} (hf : fX9_rows z = some (r, z')) : MI l dC dI A t0 cI cJ cZ yX9_rows wsX9_rows 2 [.ref (A 25)] z r z' := by
  refine Met.ofW (cc := cX9_rows) (maxL := 1) (ret := (some .int)) (by decide) rfl ?_
  intro p e s m args below meth c s₁ B hml hv
  obtain ⟨rfl, hP, hK, hZ⟩ := hv
  have hx := B.exec
  have hb := B.bytes
  have hr := B.returns
  have hts := atoms_spec (ws := wsX9_rows) B.pre
  have hown : s.vm.findClass RX9 = some m.cls := findClass_of_methodNamed B.named
  have hlocks := B.notSynchronized
  have hS : va_S (fr A) s.heap s.heap [] := va_S.rf
  have hl := lv_entry ([.ref (A 25)]) (n := 1) (Nat.le_of_ble_eq_true rfl)
  rw [lg_entry_eq]
  generalize (lg_sl ([.ref (A 25)]) ++ List.replicate (1 - (lg_sl ([.ref (A 25)])).length) Slot.unset).toArray = ls at hl ⊢
  have hl : lv_has ls 1 [(0, .ref (A 25))] := hl
  have hP : wIs dC dI A cI cJ cZ z s.heap := hP
  rw [fX9_rows] at hf
  refine lv_aload_n hx hb dX9_rows_0 rfl (lv_at hl 0 rfl) ?_
  obtain ⟨r_1, z_2, h_3, hf⟩ := cl_el hf
  refine callVI (As := []) (rest := []) (ci := 9) (q0 := 25) ⟨hx, hb, hml, hown, hts⟩ (tX9_layRows (l := l) (dC := dC) (dI := dI) (t0 := t0) (cI := cI) (cJ := cJ) (cZ := cZ) hA h_3) (cwV 0 hts gX9_rows_X9_layRows rfl rfl rfl (by decide +kernel) ⟨Nat.le_of_ble_eq_true rfl, Nat.le_of_ble_eq_true rfl⟩) hK hZ hP hS rfl (wc_25 A cI cJ cZ z) rfl rfl rfl hl.1 (Nat.le_of_ble_eq_true rfl) ⟨Nat.zero_le _, Nat.zero_le _⟩ dX9_rows_1 (fun H locs hP hS => ?_)
  exact retI hx hb hr hlocks hP hS hf dX9_rows_4
set_option maxHeartbeats 4000000 in
set_option maxRecDepth 100000 in
theorem tX4_leastOf {l : Launch} {dC : Nat → ClassId} {dI : Nat → Nat → Nat} {A : Nat → Nat} {t0 : Nat} {cI cJ cZ : ClassId} (hA : dst A) {p0 : Int32} {z : Mem} {r : Int32} {z' : Mem} (hf : fX4_leastOf p0 z = some (r, z')) : MI l dC dI A t0 cI cJ cZ yX4_leastOf wsX4_leastOf 0 [.ref (A 6), .int p0] z r z' := by
  refine Met.ofW (cc := cX4_leastOf) (maxL := 2) (ret := (some .int)) (by decide) rfl ?_
  intro p e s m args below meth c s₁ B hml hv
  obtain ⟨rfl, hP, hK, hZ⟩ := hv
  have hx := B.exec
  have hb := B.bytes
  have hr := B.returns
  have hts := atoms_spec (ws := wsX4_leastOf) B.pre
  have hown : s.vm.findClass RX4 = some m.cls := findClass_of_methodNamed B.named
  have hlocks := B.notSynchronized
  have hS : va_S (fr A) s.heap s.heap [] := va_S.rf
  have i4 : ∀ w ∈ wsX40, w ∈ wsX4_leastOf := fun _ h => List.mem_cons_of_mem _ (List.mem_append_right _ h)
  have hl := lv_entry ([.ref (A 6), .int p0]) (n := 2) (Nat.le_of_ble_eq_true rfl)
  rw [lg_entry_eq]
  generalize (lg_sl ([.ref (A 6), .int p0]) ++ List.replicate (2 - (lg_sl ([.ref (A 6), .int p0])).length) Slot.unset).toArray = ls at hl ⊢
  have hl : lv_has ls 2 [(0, .ref (A 6)), (1, .int p0)] := hl
  have hP : wIs dC dI A cI cJ cZ z s.heap := hP
  rw [fX4_leastOf] at hf
  refine lv_iload_n hx hb dX4_leastOf_0 rfl (lv_at hl 1 rfl) ?_
  refine lv_if_lt (tgt := 9) hx hb dX4_leastOf_1 (by decide) (fun c_1 => ?_) (fun c_1 => ?_)
  · have hf := it_t c_1 hf
    refine lv_bipush (v := -9) hx hb dX4_leastOf_9 (by decide) ?_
    refine lv_goto (tgt := 20) hx hb dX4_leastOf_11 (by decide) ?_
    exact retI hx hb hr hlocks hP hS hf dX4_leastOf_20
  · have hf := it_f c_1 hf
    refine lv_iload_n hx hb dX4_leastOf_4 rfl (lv_at hl 1 rfl) ?_
    refine lv_iconst (v := 5) hx hb dX4_leastOf_5 (by decide) ?_
    refine lv_icmp_lt (tgt := 14) hx hb dX4_leastOf_6 (by decide) (fun c_2 => ?_) (fun c_2 => ?_)
    · have hf := it_t c_2 hf
      refine lv_aload_n hx hb dX4_leastOf_14 rfl (lv_at hl 0 rfl) ?_
      refine va_get (D := (dC, dI)) (ci := 4) (v := .ref (A 19)) (C := RX4) (T := TX4) (N := 7) hx hb hts i4 hown hK hP 6 (wc_6 A cI cJ cZ z) rfl 2 (by decide) (hts (.fieldLink RX4 20 "LightestRules$Searches" "least" "[I") (by decide +kernel)) (fun _ h9 => h9) rfl dX4_leastOf_15 ?_
      refine lv_iload_n hx hb dX4_leastOf_18 rfl (lv_at hl 1 rfl) ?_
      obtain ⟨n_3, hf⟩ := rg_el hf
      refine va_iald hx hb hK hP 19 0 (wc_19 A cI cJ cZ z) rfl n_3 dX4_leastOf_19 ?_
      refine lv_topi (fun a_4 ea_4 => ?_)
      have hf := lt_at ea_4 hf; clear ea_4
      exact retI hx hb hr hlocks hP hS hf dX4_leastOf_20
    · have hf := it_f c_2 hf
      refine lv_bipush (v := -9) hx hb dX4_leastOf_9 (by decide) ?_
      refine lv_goto (tgt := 20) hx hb dX4_leastOf_11 (by decide) ?_
      exact retI hx hb hr hlocks hP hS hf dX4_leastOf_20
set_option maxHeartbeats 4000000 in
set_option maxRecDepth 100000 in
theorem tX4_mostOf {l : Launch} {dC : Nat → ClassId} {dI : Nat → Nat → Nat} {A : Nat → Nat} {t0 : Nat} {cI cJ cZ : ClassId} (hA : dst A) {p0 : Int32} {z : Mem} {r : Int32} {z' : Mem} (hf : fX4_mostOf p0 z = some (r, z')) : MI l dC dI A t0 cI cJ cZ yX4_mostOf wsX4_mostOf 0 [.ref (A 6), .int p0] z r z' := by
  refine Met.ofW (cc := cX4_mostOf) (maxL := 2) (ret := (some .int)) (by decide) rfl ?_
  intro p e s m args below meth c s₁ B hml hv
  obtain ⟨rfl, hP, hK, hZ⟩ := hv
  have hx := B.exec
  have hb := B.bytes
  have hr := B.returns
  have hts := atoms_spec (ws := wsX4_mostOf) B.pre
  have hown : s.vm.findClass RX4 = some m.cls := findClass_of_methodNamed B.named
  have hlocks := B.notSynchronized
  have hS : va_S (fr A) s.heap s.heap [] := va_S.rf
  have i4 : ∀ w ∈ wsX40, w ∈ wsX4_mostOf := fun _ h => List.mem_cons_of_mem _ (List.mem_append_right _ h)
  have hl := lv_entry ([.ref (A 6), .int p0]) (n := 2) (Nat.le_of_ble_eq_true rfl)
  rw [lg_entry_eq]
  generalize (lg_sl ([.ref (A 6), .int p0]) ++ List.replicate (2 - (lg_sl ([.ref (A 6), .int p0])).length) Slot.unset).toArray = ls at hl ⊢
  have hl : lv_has ls 2 [(0, .ref (A 6)), (1, .int p0)] := hl
  have hP : wIs dC dI A cI cJ cZ z s.heap := hP
  rw [fX4_mostOf] at hf
  refine lv_iload_n hx hb dX4_mostOf_0 rfl (lv_at hl 1 rfl) ?_
  refine lv_if_lt (tgt := 9) hx hb dX4_mostOf_1 (by decide) (fun c_1 => ?_) (fun c_1 => ?_)
  · have hf := it_t c_1 hf
    refine lv_bipush (v := -9) hx hb dX4_mostOf_9 (by decide) ?_
    refine lv_goto (tgt := 20) hx hb dX4_mostOf_11 (by decide) ?_
    exact retI hx hb hr hlocks hP hS hf dX4_mostOf_20
  · have hf := it_f c_1 hf
    refine lv_iload_n hx hb dX4_mostOf_4 rfl (lv_at hl 1 rfl) ?_
    refine lv_iconst (v := 5) hx hb dX4_mostOf_5 (by decide) ?_
    refine lv_icmp_lt (tgt := 14) hx hb dX4_mostOf_6 (by decide) (fun c_2 => ?_) (fun c_2 => ?_)
    · have hf := it_t c_2 hf
      refine lv_aload_n hx hb dX4_mostOf_14 rfl (lv_at hl 0 rfl) ?_
      refine va_get (D := (dC, dI)) (ci := 4) (v := .ref (A 20)) (C := RX4) (T := TX4) (N := 7) hx hb hts i4 hown hK hP 6 (wc_6 A cI cJ cZ z) rfl 3 (by decide) (hts (.fieldLink RX4 23 "LightestRules$Searches" "most" "[I") (by decide +kernel)) (fun _ h9 => h9) rfl dX4_mostOf_15 ?_
      refine lv_iload_n hx hb dX4_mostOf_18 rfl (lv_at hl 1 rfl) ?_
      obtain ⟨n_3, hf⟩ := rg_el hf
      refine va_iald hx hb hK hP 20 0 (wc_20 A cI cJ cZ z) rfl n_3 dX4_mostOf_19 ?_
      refine lv_topi (fun a_4 ea_4 => ?_)
      have hf := lt_at ea_4 hf; clear ea_4
      exact retI hx hb hr hlocks hP hS hf dX4_mostOf_20
    · have hf := it_f c_2 hf
      refine lv_bipush (v := -9) hx hb dX4_mostOf_9 (by decide) ?_
      refine lv_goto (tgt := 20) hx hb dX4_mostOf_11 (by decide) ?_
      exact retI hx hb hr hlocks hP hS hf dX4_mostOf_20
set_option maxHeartbeats 4000000 in
set_option maxRecDepth 100000 in
theorem tX8_stones {l : Launch} {dC : Nat → ClassId} {dI : Nat → Nat → Nat} {A : Nat → Nat} {t0 : Nat} {cI cJ cZ : ClassId} (hA : dst A) {p0 : Int32} {p1 : Int32} {z : Mem} {r : Int32} {z' : Mem} (hf : fX8_stones p0 p1 z = some (r, z')) : MI l dC dI A t0 cI cJ cZ yX8_stones wsX8_stones 9 [.ref (A 0), .int p0, .int p1] z r z' := by
  refine Met.ofW (cc := cX8_stones) (maxL := 3) (ret := (some .int)) (by decide) rfl ?_
  intro p e s m args below meth c s₁ B hml hv
  obtain ⟨rfl, hP, hK, hZ⟩ := hv
  have hx := B.exec
  have hb := B.bytes
  have hr := B.returns
  have hts := atoms_spec (ws := wsX8_stones) B.pre
  have hown : s.vm.findClass RX8 = some m.cls := findClass_of_methodNamed B.named
  have hlocks := B.notSynchronized
  have hS : va_S (fr A) s.heap s.heap [] := va_S.rf
  have i8 : ∀ w ∈ wsX80, w ∈ wsX8_stones := fun _ h => List.mem_cons_of_mem _ (List.mem_append_left _ (List.mem_append_right _ h))
  have hl := lv_entry ([.ref (A 0), .int p0, .int p1]) (n := 3) (Nat.le_of_ble_eq_true rfl)
  rw [lg_entry_eq]
  generalize (lg_sl ([.ref (A 0), .int p0, .int p1]) ++ List.replicate (3 - (lg_sl ([.ref (A 0), .int p0, .int p1])).length) Slot.unset).toArray = ls at hl ⊢
  have hl : lv_has ls 3 [(0, .ref (A 0)), (1, .int p0), (2, .int p1)] := hl
  have hP : wIs dC dI A cI cJ cZ z s.heap := hP
  rw [fX8_stones] at hf
  refine lv_iload_n hx hb dX8_stones_0 rfl (lv_at hl 1 rfl) ?_
  refine lv_if_lt (tgt := 9) hx hb dX8_stones_1 (by decide) (fun c_1 => ?_) (fun c_1 => ?_)
  · have hf := it_t c_1 hf
    refine lv_bipush (v := -2) hx hb dX8_stones_9 (by decide) ?_
    exact retI hx hb hr hlocks hP hS hf dX8_stones_11
  · have hf := it_f c_1 hf
    refine lv_iload_n hx hb dX8_stones_4 rfl (lv_at hl 1 rfl) ?_
    refine lv_iconst (v := 5) hx hb dX8_stones_5 (by decide) ?_
    refine lv_icmp_lt (tgt := 12) hx hb dX8_stones_6 (by decide) (fun c_2 => ?_) (fun c_2 => ?_)
    · have hf := it_t c_2 hf
      refine lv_aload_n hx hb dX8_stones_12 rfl (lv_at hl 0 rfl) ?_
      refine va_get (D := (dC, dI)) (ci := 8) (v := .ref (A 6)) (C := RX8) (T := TX8) (N := 9) hx hb hts i8 hown hK hP 0 (wc_0 A cI cJ cZ z) rfl 5 (by decide) (hts (.fieldLink RX8 47 "LightestRules" "searches" "LLightestRules$Searches;") (by decide +kernel)) (fun _ h9 => h9) rfl dX8_stones_13 ?_
      obtain ⟨r_3, z_4, h_5, hf⟩ := cl_el hf
      refine callVI (As := []) (rest := []) (ci := 4) (q0 := 6) ⟨hx, hb, hml, hown, hts⟩ (tX4_fittingRows (l := l) (dC := dC) (dI := dI) (t0 := t0) (cI := cI) (cJ := cJ) (cZ := cZ) hA h_5) (cwV 0 hts gX8_stones_X4_fittingRows rfl rfl rfl (by decide +kernel) ⟨Nat.le_of_ble_eq_true rfl, Nat.le_of_ble_eq_true rfl⟩) hK hZ hP hS rfl (wc_6 A cI cJ cZ z) rfl rfl rfl hl.1 (Nat.le_of_ble_eq_true rfl) ⟨Nat.zero_le _, Nat.zero_le _⟩ dX8_stones_16 (fun H locs hP hS => ?_)
      refine lv_if_ne (tgt := 25) hx hb dX8_stones_19 (by decide) (fun c_6 => ?_) (fun c_6 => ?_)
      · have hf := it_f c_6 hf
        refine lv_iload_n hx hb dX8_stones_25 rfl (lv_at hl 2 rfl) ?_
        refine lv_if_eq (tgt := 40) hx hb dX8_stones_26 (by decide) (fun c_7 => ?_) (fun c_7 => ?_)
        · have hf := it_t c_7 hf
          refine lv_aload_n hx hb dX8_stones_40 rfl (lv_at hl 0 rfl) ?_
          refine va_get (D := (dC, dI)) (ci := 8) (v := .ref (A 6)) (C := RX8) (T := TX8) (N := 9) hx hb hts i8 hown hK hP 0 (wc_0 A cI cJ cZ z_4) rfl 5 (by decide) (hts (.fieldLink RX8 47 "LightestRules" "searches" "LLightestRules$Searches;") (by decide +kernel)) (fun _ h9 => h9) rfl dX8_stones_41 ?_
          refine lv_iload_n hx hb dX8_stones_44 rfl (lv_at hl 1 rfl) ?_
          obtain ⟨r_8, z_9, h_10, hf⟩ := cl_el hf
          refine callVI (As := [.int p0]) (rest := []) (ci := 4) (q0 := 6) ⟨hx, hb, hml, hown, hts⟩ (tX4_leastOf (l := l) (dC := dC) (dI := dI) (t0 := t0) (cI := cI) (cJ := cJ) (cZ := cZ) hA h_10) (cwV 1 hts gX8_stones_X4_leastOf rfl rfl rfl (by decide +kernel) ⟨Nat.le_of_ble_eq_true rfl, Nat.le_of_ble_eq_true rfl⟩) hK hZ hP hS rfl (wc_6 A cI cJ cZ z_4) rfl rfl rfl hl.1 (Nat.le_of_ble_eq_true rfl) ⟨Nat.zero_le _, Nat.zero_le _⟩ dX8_stones_45 (fun H locs hP hS => ?_)
          exact retI hx hb hr hlocks hP hS hf dX8_stones_48
        · have hf := it_f c_7 hf
          refine lv_aload_n hx hb dX8_stones_29 rfl (lv_at hl 0 rfl) ?_
          refine va_get (D := (dC, dI)) (ci := 8) (v := .ref (A 6)) (C := RX8) (T := TX8) (N := 9) hx hb hts i8 hown hK hP 0 (wc_0 A cI cJ cZ z_4) rfl 5 (by decide) (hts (.fieldLink RX8 47 "LightestRules" "searches" "LLightestRules$Searches;") (by decide +kernel)) (fun _ h9 => h9) rfl dX8_stones_30 ?_
          refine lv_iload_n hx hb dX8_stones_33 rfl (lv_at hl 1 rfl) ?_
          obtain ⟨r_11, z_12, h_13, hf⟩ := cl_el hf
          refine callVI (As := [.int p0]) (rest := []) (ci := 4) (q0 := 6) ⟨hx, hb, hml, hown, hts⟩ (tX4_mostOf (l := l) (dC := dC) (dI := dI) (t0 := t0) (cI := cI) (cJ := cJ) (cZ := cZ) hA h_13) (cwV 1 hts gX8_stones_X4_mostOf rfl rfl rfl (by decide +kernel) ⟨Nat.le_of_ble_eq_true rfl, Nat.le_of_ble_eq_true rfl⟩) hK hZ hP hS rfl (wc_6 A cI cJ cZ z_4) rfl rfl rfl hl.1 (Nat.le_of_ble_eq_true rfl) ⟨Nat.zero_le _, Nat.zero_le _⟩ dX8_stones_34 (fun H locs hP hS => ?_)
          refine lv_goto (tgt := 48) hx hb dX8_stones_37 (by decide) ?_
          exact retI hx hb hr hlocks hP hS hf dX8_stones_48
      · have hf := it_t c_6 hf
        refine lv_bipush (v := -9) hx hb dX8_stones_22 (by decide) ?_
        exact retI hx hb hr hlocks hP hS hf dX8_stones_24
    · have hf := it_f c_2 hf
      refine lv_bipush (v := -2) hx hb dX8_stones_9 (by decide) ?_
      exact retI hx hb hr hlocks hP hS hf dX8_stones_11
set_option maxHeartbeats 4000000 in
set_option maxRecDepth 100000 in
theorem tX9_stones {l : Launch} {dC : Nat → ClassId} {dI : Nat → Nat → Nat} {A : Nat → Nat} {t0 : Nat} {cI cJ cZ : ClassId} (hA : dst A) {p0 : Int32} {p1 : Int32} {z : Mem} {r : Int32} {z' : Mem} (hf : fX9_stones p0 p1 z = some (r, z')) : MI l dC dI A t0 cI cJ cZ yX9_stones wsX9_stones 2 [.ref (A 25), .int p0, .int p1] z r z' := by
  refine Met.ofW (cc := cX9_stones) (maxL := 3) (ret := (some .int)) (by decide) rfl ?_
  intro p e s m args below meth c s₁ B hml hv
  obtain ⟨rfl, hP, hK, hZ⟩ := hv
  have hx := B.exec
  have hb := B.bytes
  have hr := B.returns
  have hts := atoms_spec (ws := wsX9_stones) B.pre
  have hown : s.vm.findClass RX9 = some m.cls := findClass_of_methodNamed B.named
  have hlocks := B.notSynchronized
  have hS : va_S (fr A) s.heap s.heap [] := va_S.rf
  have i9 : ∀ w ∈ wsX90, w ∈ wsX9_stones := fun _ h => List.mem_cons_of_mem _ (List.mem_append_right _ h)
  have hl := lv_entry ([.ref (A 25), .int p0, .int p1]) (n := 3) (Nat.le_of_ble_eq_true rfl)
  rw [lg_entry_eq]
  generalize (lg_sl ([.ref (A 25), .int p0, .int p1]) ++ List.replicate (3 - (lg_sl ([.ref (A 25), .int p0, .int p1])).length) Slot.unset).toArray = ls at hl ⊢
  have hl : lv_has ls 3 [(0, .ref (A 25)), (1, .int p0), (2, .int p1)] := hl
  have hP : wIs dC dI A cI cJ cZ z s.heap := hP
  rw [fX9_stones] at hf
  refine lv_iload_n hx hb dX9_stones_0 rfl (lv_at hl 1 rfl) ?_
  refine lv_i2l hx hb dX9_stones_1 rfl ?_
  refine lv_lconst (v := 0) hx hb dX9_stones_2 rfl ?_
  refine lv_ldc2 hx hb hown (hts (.constantLong RX9 184 (4)) (by decide +kernel)) dX9_stones_3 ?_
  obtain ⟨r_1, z_2, h_3, hf⟩ := cl_el hf
  refine callSI (As := [.long (p0.toInt64), .long (0 : Int64), .long (4 : Int64)]) (rest := []) ⟨hx, hb, hml, hown, hts⟩ (tX9_in (l := l) (dC := dC) (dI := dI) (t0 := t0) (cI := cI) (cJ := cJ) (cZ := cZ) hA h_3) (va_cwS 3 hts gX9_stones_X9_in rfl rfl rfl (by decide +kernel) ⟨Nat.le_of_ble_eq_true rfl, Nat.le_of_ble_eq_true rfl⟩) hK hZ hP hS rfl rfl hl.1 (Nat.le_of_ble_eq_true rfl) ⟨Nat.zero_le _, Nat.zero_le _⟩ dX9_stones_6 (fun H locs hP hS => ?_)
  refine lv_if_ne (tgt := 15) hx hb dX9_stones_9 (by decide) (fun c_4 => ?_) (fun c_4 => ?_)
  · have hf := it_f c_4 hf
    refine lv_aload_n hx hb dX9_stones_15 rfl (lv_at hl 0 rfl) ?_
    obtain ⟨r_5, z_6, h_7, hf⟩ := cl_el hf
    refine callVI (As := []) (rest := []) (ci := 9) (q0 := 25) ⟨hx, hb, hml, hown, hts⟩ (tX9_layRows (l := l) (dC := dC) (dI := dI) (t0 := t0) (cI := cI) (cJ := cJ) (cZ := cZ) hA h_7) (cwV 0 hts gX9_stones_X9_layRows rfl rfl rfl (by decide +kernel) ⟨Nat.le_of_ble_eq_true rfl, Nat.le_of_ble_eq_true rfl⟩) hK hZ hP hS rfl (wc_25 A cI cJ cZ z_2) rfl rfl rfl hl.1 (Nat.le_of_ble_eq_true rfl) ⟨Nat.zero_le _, Nat.zero_le _⟩ dX9_stones_16 (fun H locs hP hS => ?_)
    refine lv_if_ne (tgt := 27) hx hb dX9_stones_19 (by decide) (fun c_8 => ?_) (fun c_8 => ?_)
    · have hf := it_f c_8 hf
      refine lv_iload_n hx hb dX9_stones_27 rfl (lv_at hl 2 rfl) ?_
      refine lv_if_eq (tgt := 40) hx hb dX9_stones_28 (by decide) (fun c_9 => ?_) (fun c_9 => ?_)
      · have hf := it_t c_9 hf
        refine lv_aload_n hx hb dX9_stones_40 rfl (lv_at hl 0 rfl) ?_
        refine va_get (D := (dC, dI)) (ci := 9) (v := .ref (A 35)) (C := RX9) (T := TX9) (N := 34) hx hb hts i9 hown hK hP 25 (wc_25 A cI cJ cZ z_6) rfl 24 (by decide) (hts (.fieldLink RX9 37 "LightestRulesModel" "leastOf" "[I") (by decide +kernel)) (fun _ h9 => h9) rfl dX9_stones_41 ?_
        refine lv_iload_n hx hb dX9_stones_44 rfl (lv_at hl 1 rfl) ?_
        obtain ⟨n_10, hf⟩ := rg_el hf
        refine va_iald hx hb hK hP 35 0 (wc_35 A cI cJ cZ z_6) rfl n_10 dX9_stones_45 ?_
        refine lv_topi (fun a_11 ea_11 => ?_)
        have hf := lt_at ea_11 hf; clear ea_11
        exact retI hx hb hr hlocks hP hS hf dX9_stones_46
      · have hf := it_f c_9 hf
        refine lv_aload_n hx hb dX9_stones_31 rfl (lv_at hl 0 rfl) ?_
        refine va_get (D := (dC, dI)) (ci := 9) (v := .ref (A 36)) (C := RX9) (T := TX9) (N := 34) hx hb hts i9 hown hK hP 25 (wc_25 A cI cJ cZ z_6) rfl 25 (by decide) (hts (.fieldLink RX9 40 "LightestRulesModel" "mostOf" "[I") (by decide +kernel)) (fun _ h9 => h9) rfl dX9_stones_32 ?_
        refine lv_iload_n hx hb dX9_stones_35 rfl (lv_at hl 1 rfl) ?_
        obtain ⟨n_12, hf⟩ := rg_el hf
        refine va_iald hx hb hK hP 36 0 (wc_36 A cI cJ cZ z_6) rfl n_12 dX9_stones_36 ?_
        refine lv_topi (fun a_13 ea_13 => ?_)
        have hf := lt_at ea_13 hf; clear ea_13
        refine lv_goto (tgt := 46) hx hb dX9_stones_37 (by decide) ?_
        exact retI hx hb hr hlocks hP hS hf dX9_stones_46
    · have hf := it_t c_8 hf
      refine lv_bipush (v := -9) hx hb dX9_stones_22 (by decide) ?_
      refine lv_goto (tgt := 46) hx hb dX9_stones_24 (by decide) ?_
      exact retI hx hb hr hlocks hP hS hf dX9_stones_46
  · have hf := it_t c_4 hf
    refine lv_bipush (v := -2) hx hb dX9_stones_12 (by decide) ?_
    exact retI hx hb hr hlocks hP hS hf dX9_stones_14
set_option maxHeartbeats 4000000 in
set_option maxRecDepth 100000 in
theorem tX3_append {l : Launch} {dC : Nat → ClassId} {dI : Nat → Nat → Nat} {A : Nat → Nat} {t0 : Nat} {cI cJ cZ : ClassId} (hA : dst A) {p0 : Int32} {z : Mem} {r : Int32} {z' : Mem} (hf : fX3_append p0 z = some (r, z')) : MI l dC dI A t0 cI cJ cZ yX3_append wsX3_append 0 [.ref (A 7), .int p0] z r z' := by
  refine Met.ofW (cc := cX3_append) (maxL := 2) (ret := (some .boolean)) (by decide) rfl ?_
  intro p e s m args below meth c s₁ B hml hv
  obtain ⟨rfl, hP, hK, hZ⟩ := hv
  have hx := B.exec
  have hb := B.bytes
  have hr := B.returns
  have hts := atoms_spec (ws := wsX3_append) B.pre
  have hown : s.vm.findClass RX3 = some m.cls := findClass_of_methodNamed B.named
  have hlocks := B.notSynchronized
  have hS : va_S (fr A) s.heap s.heap [] := va_S.rf
  have i3 : ∀ w ∈ wsX30, w ∈ wsX3_append := fun _ h => List.mem_cons_of_mem _ (List.mem_append_right _ h)
  have hl := lv_entry ([.ref (A 7), .int p0]) (n := 2) (Nat.le_of_ble_eq_true rfl)
  rw [lg_entry_eq]
  generalize (lg_sl ([.ref (A 7), .int p0]) ++ List.replicate (2 - (lg_sl ([.ref (A 7), .int p0])).length) Slot.unset).toArray = ls at hl ⊢
  have hl : lv_has ls 2 [(0, .ref (A 7)), (1, .int p0)] := hl
  have hP : wIs dC dI A cI cJ cZ z s.heap := hP
  rw [fX3_append] at hf
  refine lv_aload_n hx hb dX3_append_0 rfl (lv_at hl 0 rfl) ?_
  refine va_get (D := (dC, dI)) (ci := 3) (v := .int (z.1 7 3)) (C := RX3) (T := TX3) (N := 4) hx hb hts i3 hown hK hP 7 (wc_7 A cI cJ cZ z) rfl 3 (by decide) (hts (.fieldLink RX3 22 "LightestRules$RulersLine" "length" "I") (by decide +kernel)) (fun _ h9 => h9) rfl dX3_append_1 ?_
  refine lv_iconst (v := 4) hx hb dX3_append_4 (by decide) ?_
  refine lv_icmp_ne (tgt := 10) hx hb dX3_append_5 (by decide) (fun c_1 => ?_) (fun c_1 => ?_)
  · have hf := it_f c_1 hf
    refine lv_aload_n hx hb dX3_append_10 rfl (lv_at hl 0 rfl) ?_
    refine va_get (D := (dC, dI)) (ci := 3) (v := .ref (A 21)) (C := RX3) (T := TX3) (N := 4) hx hb hts i3 hown hK hP 7 (wc_7 A cI cJ cZ z) rfl 0 (by decide) (hts (.fieldLink RX3 11 "LightestRules$RulersLine" "rulers" "[I") (by decide +kernel)) (fun _ h9 => h9) rfl dX3_append_11 ?_
    refine lv_aload_n hx hb dX3_append_14 rfl (lv_at hl 0 rfl) ?_
    refine va_get (D := (dC, dI)) (ci := 3) (v := .int (z.1 7 3)) (C := RX3) (T := TX3) (N := 4) hx hb hts i3 hown hK hP 7 (wc_7 A cI cJ cZ z) rfl 3 (by decide) (hts (.fieldLink RX3 22 "LightestRules$RulersLine" "length" "I") (by decide +kernel)) (fun _ h9 => h9) rfl dX3_append_15 ?_
    refine lv_iload_n hx hb dX3_append_18 rfl (lv_at hl 1 rfl) ?_
    obtain ⟨n_2, hf⟩ := rg_el hf
    refine va_iast hx hb hK hP (wD hA cI cJ cZ z) hS 21 0 (wc_21 A cI cJ cZ z) rfl n_2 dX3_append_19 (fun H locs hP _ hS => ?_)
    rw [wa_21 A cI cJ cZ z (z.1 7 3).toNatClampNeg p0] at hP
    obtain ⟨z_3, hP, hf⟩ := lt_P (P := fun q => wIs dC dI A cI cJ cZ q H) hP hf
    refine lv_aload_n hx hb dX3_append_20 rfl (lv_at hl 0 rfl) ?_
    refine lv_dup hx hb dX3_append_21 rfl ?_
    refine va_get (D := (dC, dI)) (ci := 3) (v := .int (z_3.1 7 3)) (C := RX3) (T := TX3) (N := 4) hx hb hts i3 hown hK hP 7 (wc_7 A cI cJ cZ z_3) rfl 3 (by decide) (hts (.fieldLink RX3 22 "LightestRules$RulersLine" "length" "I") (by decide +kernel)) (fun _ h9 => h9) rfl dX3_append_22 ?_
    refine lv_iconst (v := 1) hx hb dX3_append_25 (by decide) ?_
    refine lv_iadd hx hb dX3_append_26 ?_
    refine lv_topi (fun y_4 ey_4 => ?_)
    have hf := lt_at ey_4 hf; clear ey_4
    refine va_put (D := (dC, dI)) (ci := 3) (v := .int y_4) (ty := .int) (C := RX3) (T := TX3) (N := 4) hx hb hts i3 tyX3 tyX3_ok nmX3 hown hK hP (wD hA cI cJ cZ z_3) hS 7 (wc_7 A cI cJ cZ z_3) rfl 3 (by decide) (hts (.fieldLink RX3 22 "LightestRules$RulersLine" "length" "I") (by decide +kernel)) (fun _ h9 => h9) rfl (by decide +kernel) rfl rfl (Nat.le_of_ble_eq_true rfl) dX3_append_27 (fun H locs hP _ hS => ?_)
    rw [ws_7_3 A cI cJ cZ z_3 y_4] at hP
    obtain ⟨z_5, hP, hf⟩ := lt_P (P := fun q => wIs dC dI A cI cJ cZ q H) hP hf
    refine lv_iconst (v := 1) hx hb dX3_append_30 (by decide) ?_
    exact retZ hx hb hr hlocks rfl hP hS hf dX3_append_31
  · have hf := it_t c_1 hf
    refine lv_iconst (v := 0) hx hb dX3_append_8 (by decide) ?_
    exact retZ hx hb hr hlocks rfl hP hS hf dX3_append_9
set_option maxHeartbeats 4000000 in
set_option maxRecDepth 100000 in
theorem tX3_length {l : Launch} {dC : Nat → ClassId} {dI : Nat → Nat → Nat} {A : Nat → Nat} {t0 : Nat} {cI cJ cZ : ClassId} (hA : dst A)  {z : Mem} {r : Int32} {z' : Mem} (hf : fX3_length z = some (r, z')) : MI l dC dI A t0 cI cJ cZ yX3_length wsX3_length 0 [.ref (A 7)] z r z' := by
  refine Met.ofW (cc := cX3_length) (maxL := 1) (ret := (some .int)) (by decide) rfl ?_
  intro p e s m args below meth c s₁ B hml hv
  obtain ⟨rfl, hP, hK, hZ⟩ := hv
  have hx := B.exec
  have hb := B.bytes
  have hr := B.returns
  have hts := atoms_spec (ws := wsX3_length) B.pre
  have hown : s.vm.findClass RX3 = some m.cls := findClass_of_methodNamed B.named
  have hlocks := B.notSynchronized
  have hS : va_S (fr A) s.heap s.heap [] := va_S.rf
  have i3 : ∀ w ∈ wsX30, w ∈ wsX3_length := fun _ h => List.mem_cons_of_mem _ (List.mem_append_right _ h)
  have hl := lv_entry ([.ref (A 7)]) (n := 1) (Nat.le_of_ble_eq_true rfl)
  rw [lg_entry_eq]
  generalize (lg_sl ([.ref (A 7)]) ++ List.replicate (1 - (lg_sl ([.ref (A 7)])).length) Slot.unset).toArray = ls at hl ⊢
  have hl : lv_has ls 1 [(0, .ref (A 7))] := hl
  have hP : wIs dC dI A cI cJ cZ z s.heap := hP
  rw [fX3_length] at hf
  refine lv_aload_n hx hb dX3_length_0 rfl (lv_at hl 0 rfl) ?_
  refine va_get (D := (dC, dI)) (ci := 3) (v := .int (z.1 7 3)) (C := RX3) (T := TX3) (N := 4) hx hb hts i3 hown hK hP 7 (wc_7 A cI cJ cZ z) rfl 3 (by decide) (hts (.fieldLink RX3 22 "LightestRules$RulersLine" "length" "I") (by decide +kernel)) (fun _ h9 => h9) rfl dX3_length_1 ?_
  exact retI hx hb hr hlocks hP hS hf dX3_length_4
set_option maxHeartbeats 4000000 in
set_option maxRecDepth 100000 in
theorem tX8_ruled {l : Launch} {dC : Nat → ClassId} {dI : Nat → Nat → Nat} {A : Nat → Nat} {t0 : Nat} {cI cJ cZ : ClassId} (hA : dst A) {p0 : Int32} {z : Mem} {r : Int32} {z' : Mem} (hf : fX8_ruled p0 z = some (r, z')) : MI l dC dI A t0 cI cJ cZ yX8_ruled wsX8_ruled 1 [.ref (A 0), .int p0] z r z' := by
  refine Met.ofW (cc := cX8_ruled) (maxL := 2) (ret := (some .int)) (by decide) rfl ?_
  intro p e s m args below meth c s₁ B hml hv
  obtain ⟨rfl, hP, hK, hZ⟩ := hv
  have hx := B.exec
  have hb := B.bytes
  have hr := B.returns
  have hts := atoms_spec (ws := wsX8_ruled) B.pre
  have hown : s.vm.findClass RX8 = some m.cls := findClass_of_methodNamed B.named
  have hlocks := B.notSynchronized
  have hS : va_S (fr A) s.heap s.heap [] := va_S.rf
  have i8 : ∀ w ∈ wsX80, w ∈ wsX8_ruled := fun _ h => List.mem_cons_of_mem _ (List.mem_append_left _ (List.mem_append_left _ (List.mem_append_right _ h)))
  have hl := lv_entry ([.ref (A 0), .int p0]) (n := 2) (Nat.le_of_ble_eq_true rfl)
  rw [lg_entry_eq]
  generalize (lg_sl ([.ref (A 0), .int p0]) ++ List.replicate (2 - (lg_sl ([.ref (A 0), .int p0])).length) Slot.unset).toArray = ls at hl ⊢
  have hl : lv_has ls 2 [(0, .ref (A 0)), (1, .int p0)] := hl
  have hP : wIs dC dI A cI cJ cZ z s.heap := hP
  rw [fX8_ruled] at hf
  refine lv_aload_n hx hb dX8_ruled_0 rfl (lv_at hl 0 rfl) ?_
  refine va_get (D := (dC, dI)) (ci := 8) (v := .ref (A 2)) (C := RX8) (T := TX8) (N := 9) hx hb hts i8 hown hK hP 0 (wc_0 A cI cJ cZ z) rfl 1 (by decide) (hts (.fieldLink RX8 19 "LightestRules" "folk" "LLightestRules$People;") (by decide +kernel)) (fun _ h9 => h9) rfl dX8_ruled_1 ?_
  refine lv_iload_n hx hb dX8_ruled_4 rfl (lv_at hl 1 rfl) ?_
  obtain ⟨r_1, z_2, h_3, hf⟩ := cl_el hf
  refine callVI (As := [.int p0]) (rest := []) (ci := 2) (q0 := 2) ⟨hx, hb, hml, hown, hts⟩ (tX2_has (l := l) (dC := dC) (dI := dI) (t0 := t0) (cI := cI) (cJ := cJ) (cZ := cZ) hA h_3) (cwV 1 hts gX8_ruled_X2_has rfl rfl rfl (by decide +kernel) ⟨Nat.le_of_ble_eq_true rfl, Nat.le_of_ble_eq_true rfl⟩) hK hZ hP hS rfl (wc_2 A cI cJ cZ z) rfl rfl rfl hl.1 (Nat.le_of_ble_eq_true rfl) ⟨Nat.zero_le _, Nat.zero_le _⟩ dX8_ruled_5 (fun H locs hP hS => ?_)
  refine lv_if_ne (tgt := 13) hx hb dX8_ruled_8 (by decide) (fun c_4 => ?_) (fun c_4 => ?_)
  · have hf := it_f c_4 hf
    refine lv_aload_n hx hb dX8_ruled_13 rfl (lv_at hl 0 rfl) ?_
    refine va_get (D := (dC, dI)) (ci := 8) (v := .ref (A 7)) (C := RX8) (T := TX8) (N := 9) hx hb hts i8 hown hK hP 0 (wc_0 A cI cJ cZ z_2) rfl 6 (by decide) (hts (.fieldLink RX8 54 "LightestRules" "told" "LLightestRules$RulersLine;") (by decide +kernel)) (fun _ h9 => h9) rfl dX8_ruled_14 ?_
    refine lv_iload_n hx hb dX8_ruled_17 rfl (lv_at hl 1 rfl) ?_
    obtain ⟨r_5, z_6, h_7, hf⟩ := cl_el hf
    refine callVI (As := [.int p0]) (rest := []) (ci := 3) (q0 := 7) ⟨hx, hb, hml, hown, hts⟩ (tX3_append (l := l) (dC := dC) (dI := dI) (t0 := t0) (cI := cI) (cJ := cJ) (cZ := cZ) hA h_7) (cwV 1 hts gX8_ruled_X3_append rfl rfl rfl (by decide +kernel) ⟨Nat.le_of_ble_eq_true rfl, Nat.le_of_ble_eq_true rfl⟩) hK hZ hP hS rfl (wc_7 A cI cJ cZ z_2) rfl rfl rfl hl.1 (Nat.le_of_ble_eq_true rfl) ⟨Nat.zero_le _, Nat.zero_le _⟩ dX8_ruled_18 (fun H locs hP hS => ?_)
    refine lv_if_eq (tgt := 34) hx hb dX8_ruled_21 (by decide) (fun c_8 => ?_) (fun c_8 => ?_)
    · have hf := it_t c_8 hf
      refine lv_bipush (v := -4) hx hb dX8_ruled_34 (by decide) ?_
      exact retI hx hb hr hlocks hP hS hf dX8_ruled_36
    · have hf := it_f c_8 hf
      refine lv_aload_n hx hb dX8_ruled_24 rfl (lv_at hl 0 rfl) ?_
      refine va_get (D := (dC, dI)) (ci := 8) (v := .ref (A 7)) (C := RX8) (T := TX8) (N := 9) hx hb hts i8 hown hK hP 0 (wc_0 A cI cJ cZ z_6) rfl 6 (by decide) (hts (.fieldLink RX8 54 "LightestRules" "told" "LLightestRules$RulersLine;") (by decide +kernel)) (fun _ h9 => h9) rfl dX8_ruled_25 ?_
      obtain ⟨r_9, z_10, h_11, hf⟩ := cl_el hf
      refine callVI (As := []) (rest := []) (ci := 3) (q0 := 7) ⟨hx, hb, hml, hown, hts⟩ (tX3_length (l := l) (dC := dC) (dI := dI) (t0 := t0) (cI := cI) (cJ := cJ) (cZ := cZ) hA h_11) (cwV 0 hts gX8_ruled_X3_length rfl rfl rfl (by decide +kernel) ⟨Nat.le_of_ble_eq_true rfl, Nat.le_of_ble_eq_true rfl⟩) hK hZ hP hS rfl (wc_7 A cI cJ cZ z_6) rfl rfl rfl hl.1 (Nat.le_of_ble_eq_true rfl) ⟨Nat.zero_le _, Nat.zero_le _⟩ dX8_ruled_28 (fun H locs hP hS => ?_)
      refine lv_goto (tgt := 36) hx hb dX8_ruled_31 (by decide) ?_
      exact retI hx hb hr hlocks hP hS hf dX8_ruled_36
  · have hf := it_t c_4 hf
    refine lv_iconst (v := -1) hx hb dX8_ruled_11 (by decide) ?_
    exact retI hx hb hr hlocks hP hS hf dX8_ruled_12
set_option maxHeartbeats 4000000 in
set_option maxRecDepth 100000 in
theorem tX9_ruled {l : Launch} {dC : Nat → ClassId} {dI : Nat → Nat → Nat} {A : Nat → Nat} {t0 : Nat} {cI cJ cZ : ClassId} (hA : dst A) {p0 : Int32} {z : Mem} {r : Int32} {z' : Mem} (hf : fX9_ruled p0 z = some (r, z')) : MI l dC dI A t0 cI cJ cZ yX9_ruled wsX9_ruled 2 [.ref (A 25), .int p0] z r z' := by
  refine Met.ofW (cc := cX9_ruled) (maxL := 2) (ret := (some .int)) (by decide) rfl ?_
  intro p e s m args below meth c s₁ B hml hv
  obtain ⟨rfl, hP, hK, hZ⟩ := hv
  have hx := B.exec
  have hb := B.bytes
  have hr := B.returns
  have hts := atoms_spec (ws := wsX9_ruled) B.pre
  have hown : s.vm.findClass RX9 = some m.cls := findClass_of_methodNamed B.named
  have hlocks := B.notSynchronized
  have hS : va_S (fr A) s.heap s.heap [] := va_S.rf
  have i9 : ∀ w ∈ wsX90, w ∈ wsX9_ruled := fun _ h => List.mem_cons_of_mem _ (List.mem_append_right _ h)
  have hl := lv_entry ([.ref (A 25), .int p0]) (n := 2) (Nat.le_of_ble_eq_true rfl)
  rw [lg_entry_eq]
  generalize (lg_sl ([.ref (A 25), .int p0]) ++ List.replicate (2 - (lg_sl ([.ref (A 25), .int p0])).length) Slot.unset).toArray = ls at hl ⊢
  have hl : lv_has ls 2 [(0, .ref (A 25)), (1, .int p0)] := hl
  have hP : wIs dC dI A cI cJ cZ z s.heap := hP
  rw [fX9_ruled] at hf
  refine lv_aload_n hx hb dX9_ruled_0 rfl (lv_at hl 0 rfl) ?_
  refine lv_iload_n hx hb dX9_ruled_1 rfl (lv_at hl 1 rfl) ?_
  obtain ⟨r_1, z_2, h_3, hf⟩ := cl_el hf
  refine callVI (As := [.int p0]) (rest := []) (ci := 9) (q0 := 25) ⟨hx, hb, hml, hown, hts⟩ (tX9_isPerson (l := l) (dC := dC) (dI := dI) (t0 := t0) (cI := cI) (cJ := cJ) (cZ := cZ) hA h_3) (cwV 1 hts gX9_ruled_X9_isPerson rfl rfl rfl (by decide +kernel) ⟨Nat.le_of_ble_eq_true rfl, Nat.le_of_ble_eq_true rfl⟩) hK hZ hP hS rfl (wc_25 A cI cJ cZ z) rfl rfl rfl hl.1 (Nat.le_of_ble_eq_true rfl) ⟨Nat.zero_le _, Nat.zero_le _⟩ dX9_ruled_2 (fun H locs hP hS => ?_)
  refine lv_if_ne (tgt := 10) hx hb dX9_ruled_5 (by decide) (fun c_4 => ?_) (fun c_4 => ?_)
  · have hf := it_f c_4 hf
    refine lv_aload_n hx hb dX9_ruled_10 rfl (lv_at hl 0 rfl) ?_
    refine va_get (D := (dC, dI)) (ci := 9) (v := .int (z_2.1 25 26)) (C := RX9) (T := TX9) (N := 34) hx hb hts i9 hown hK hP 25 (wc_25 A cI cJ cZ z_2) rfl 26 (by decide) (hts (.fieldLink RX9 186 "LightestRulesModel" "months" "I") (by decide +kernel)) (fun _ h9 => h9) rfl dX9_ruled_11 ?_
    refine lv_iconst (v := 4) hx hb dX9_ruled_14 (by decide) ?_
    refine lv_icmp_ne (tgt := 21) hx hb dX9_ruled_15 (by decide) (fun c_5 => ?_) (fun c_5 => ?_)
    · have hf := it_f c_5 hf
      refine lv_aload_n hx hb dX9_ruled_21 rfl (lv_at hl 0 rfl) ?_
      refine va_get (D := (dC, dI)) (ci := 9) (v := .ref (A 37)) (C := RX9) (T := TX9) (N := 34) hx hb hts i9 hown hK hP 25 (wc_25 A cI cJ cZ z_2) rfl 27 (by decide) (hts (.fieldLink RX9 43 "LightestRulesModel" "rulers" "[I") (by decide +kernel)) (fun _ h9 => h9) rfl dX9_ruled_22 ?_
      refine lv_aload_n hx hb dX9_ruled_25 rfl (lv_at hl 0 rfl) ?_
      refine va_get (D := (dC, dI)) (ci := 9) (v := .int (z_2.1 25 26)) (C := RX9) (T := TX9) (N := 34) hx hb hts i9 hown hK hP 25 (wc_25 A cI cJ cZ z_2) rfl 26 (by decide) (hts (.fieldLink RX9 186 "LightestRulesModel" "months" "I") (by decide +kernel)) (fun _ h9 => h9) rfl dX9_ruled_26 ?_
      refine lv_iload_n hx hb dX9_ruled_29 rfl (lv_at hl 1 rfl) ?_
      obtain ⟨n_6, hf⟩ := rg_el hf
      refine va_iast hx hb hK hP (wD hA cI cJ cZ z_2) hS 37 0 (wc_37 A cI cJ cZ z_2) rfl n_6 dX9_ruled_30 (fun H locs hP _ hS => ?_)
      rw [wa_37 A cI cJ cZ z_2 (z_2.1 25 26).toNatClampNeg p0] at hP
      obtain ⟨z_7, hP, hf⟩ := lt_P (P := fun q => wIs dC dI A cI cJ cZ q H) hP hf
      refine lv_aload_n hx hb dX9_ruled_31 rfl (lv_at hl 0 rfl) ?_
      refine lv_dup hx hb dX9_ruled_32 rfl ?_
      refine va_get (D := (dC, dI)) (ci := 9) (v := .int (z_7.1 25 26)) (C := RX9) (T := TX9) (N := 34) hx hb hts i9 hown hK hP 25 (wc_25 A cI cJ cZ z_7) rfl 26 (by decide) (hts (.fieldLink RX9 186 "LightestRulesModel" "months" "I") (by decide +kernel)) (fun _ h9 => h9) rfl dX9_ruled_33 ?_
      refine lv_iconst (v := 1) hx hb dX9_ruled_36 (by decide) ?_
      refine lv_iadd hx hb dX9_ruled_37 ?_
      refine lv_topi (fun y_8 ey_8 => ?_)
      have hf := lt_at ey_8 hf; clear ey_8
      refine va_put (D := (dC, dI)) (ci := 9) (v := .int y_8) (ty := .int) (C := RX9) (T := TX9) (N := 34) hx hb hts i9 tyX9 tyX9_ok nmX9 hown hK hP (wD hA cI cJ cZ z_7) hS 25 (wc_25 A cI cJ cZ z_7) rfl 26 (by decide) (hts (.fieldLink RX9 186 "LightestRulesModel" "months" "I") (by decide +kernel)) (fun _ h9 => h9) rfl (by decide +kernel) rfl rfl (Nat.le_of_ble_eq_true rfl) dX9_ruled_38 (fun H locs hP _ hS => ?_)
      rw [ws_25_26 A cI cJ cZ z_7 y_8] at hP
      obtain ⟨z_9, hP, hf⟩ := lt_P (P := fun q => wIs dC dI A cI cJ cZ q H) hP hf
      refine lv_aload_n hx hb dX9_ruled_41 rfl (lv_at hl 0 rfl) ?_
      refine va_get (D := (dC, dI)) (ci := 9) (v := .int (z_9.1 25 26)) (C := RX9) (T := TX9) (N := 34) hx hb hts i9 hown hK hP 25 (wc_25 A cI cJ cZ z_9) rfl 26 (by decide) (hts (.fieldLink RX9 186 "LightestRulesModel" "months" "I") (by decide +kernel)) (fun _ h9 => h9) rfl dX9_ruled_42 ?_
      exact retI hx hb hr hlocks hP hS hf dX9_ruled_45
    · have hf := it_t c_5 hf
      refine lv_bipush (v := -4) hx hb dX9_ruled_18 (by decide) ?_
      exact retI hx hb hr hlocks hP hS hf dX9_ruled_20
  · have hf := it_t c_4 hf
    refine lv_iconst (v := -1) hx hb dX9_ruled_8 (by decide) ?_
    exact retI hx hb hr hlocks hP hS hf dX9_ruled_9
set_option maxHeartbeats 4000000 in
set_option maxRecDepth 100000 in
theorem tX3_clear {l : Launch} {dC : Nat → ClassId} {dI : Nat → Nat → Nat} {A : Nat → Nat} {t0 : Nat} {cI cJ cZ : ClassId} (hA : dst A)  {z : Mem} {ru : Unit} {z' : Mem} (hf : fX3_clear z = some (ru, z')) : MV l dC dI A t0 cI cJ cZ yX3_clear wsX3_clear 0 [.ref (A 7)] z z' := by
  refine Met.ofW (cc := cX3_clear) (maxL := 1) (ret := none) (by decide) rfl ?_
  intro p e s m args below meth c s₁ B hml hv
  obtain ⟨rfl, hP, hK, hZ⟩ := hv
  have hx := B.exec
  have hb := B.bytes
  have hr := B.returns
  have hts := atoms_spec (ws := wsX3_clear) B.pre
  have hown : s.vm.findClass RX3 = some m.cls := findClass_of_methodNamed B.named
  have hlocks := B.notSynchronized
  have hS : va_S (fr A) s.heap s.heap [] := va_S.rf
  have i3 : ∀ w ∈ wsX30, w ∈ wsX3_clear := fun _ h => List.mem_cons_of_mem _ (List.mem_append_right _ h)
  have hl := lv_entry ([.ref (A 7)]) (n := 1) (Nat.le_of_ble_eq_true rfl)
  rw [lg_entry_eq]
  generalize (lg_sl ([.ref (A 7)]) ++ List.replicate (1 - (lg_sl ([.ref (A 7)])).length) Slot.unset).toArray = ls at hl ⊢
  have hl : lv_has ls 1 [(0, .ref (A 7))] := hl
  have hP : wIs dC dI A cI cJ cZ z s.heap := hP
  rw [fX3_clear] at hf
  refine lv_aload_n hx hb dX3_clear_0 rfl (lv_at hl 0 rfl) ?_
  refine lv_iconst (v := 0) hx hb dX3_clear_1 (by decide) ?_
  refine va_put (D := (dC, dI)) (ci := 3) (v := .int (0 : Int32)) (ty := .int) (C := RX3) (T := TX3) (N := 4) hx hb hts i3 tyX3 tyX3_ok nmX3 hown hK hP (wD hA cI cJ cZ z) hS 7 (wc_7 A cI cJ cZ z) rfl 3 (by decide) (hts (.fieldLink RX3 22 "LightestRules$RulersLine" "length" "I") (by decide +kernel)) (fun _ h9 => h9) rfl (by decide +kernel) rfl rfl (Nat.le_of_ble_eq_true rfl) dX3_clear_2 (fun H locs hP _ hS => ?_)
  rw [ws_7_3 A cI cJ cZ z (0 : Int32)] at hP
  obtain ⟨z_1, hP, hf⟩ := lt_P (P := fun q => wIs dC dI A cI cJ cZ q H) hP hf
  exact retV hx hb hr hlocks hP hS hf dX3_clear_5
set_option maxHeartbeats 4000000 in
set_option maxRecDepth 100000 in
theorem tX8_unrule {l : Launch} {dC : Nat → ClassId} {dI : Nat → Nat → Nat} {A : Nat → Nat} {t0 : Nat} {cI cJ cZ : ClassId} (hA : dst A)  {z : Mem} {r : Int32} {z' : Mem} (hf : fX8_unrule z = some (r, z')) : MI l dC dI A t0 cI cJ cZ yX8_unrule wsX8_unrule 1 [.ref (A 0)] z r z' := by
  refine Met.ofW (cc := cX8_unrule) (maxL := 2) (ret := (some .int)) (by decide) rfl ?_
  intro p e s m args below meth c s₁ B hml hv
  obtain ⟨rfl, hP, hK, hZ⟩ := hv
  have hx := B.exec
  have hb := B.bytes
  have hr := B.returns
  have hts := atoms_spec (ws := wsX8_unrule) B.pre
  have hown : s.vm.findClass RX8 = some m.cls := findClass_of_methodNamed B.named
  have hlocks := B.notSynchronized
  have hS : va_S (fr A) s.heap s.heap [] := va_S.rf
  have i8 : ∀ w ∈ wsX80, w ∈ wsX8_unrule := fun _ h => List.mem_cons_of_mem _ (List.mem_append_left _ (List.mem_append_right _ h))
  have hl := lv_entry ([.ref (A 0)]) (n := 2) (Nat.le_of_ble_eq_true rfl)
  rw [lg_entry_eq]
  generalize (lg_sl ([.ref (A 0)]) ++ List.replicate (2 - (lg_sl ([.ref (A 0)])).length) Slot.unset).toArray = ls at hl ⊢
  have hl : lv_has ls 2 [(0, .ref (A 0))] := hl
  have hP : wIs dC dI A cI cJ cZ z s.heap := hP
  rw [fX8_unrule] at hf
  refine lv_aload_n hx hb dX8_unrule_0 rfl (lv_at hl 0 rfl) ?_
  refine va_get (D := (dC, dI)) (ci := 8) (v := .ref (A 7)) (C := RX8) (T := TX8) (N := 9) hx hb hts i8 hown hK hP 0 (wc_0 A cI cJ cZ z) rfl 6 (by decide) (hts (.fieldLink RX8 54 "LightestRules" "told" "LLightestRules$RulersLine;") (by decide +kernel)) (fun _ h9 => h9) rfl dX8_unrule_1 ?_
  obtain ⟨r_1, z_2, h_3, hf⟩ := cl_el hf
  refine callVI (As := []) (rest := []) (ci := 3) (q0 := 7) ⟨hx, hb, hml, hown, hts⟩ (tX3_length (l := l) (dC := dC) (dI := dI) (t0 := t0) (cI := cI) (cJ := cJ) (cZ := cZ) hA h_3) (cwV 0 hts gX8_unrule_X3_length rfl rfl rfl (by decide +kernel) ⟨Nat.le_of_ble_eq_true rfl, Nat.le_of_ble_eq_true rfl⟩) hK hZ hP hS rfl (wc_7 A cI cJ cZ z) rfl rfl rfl hl.1 (Nat.le_of_ble_eq_true rfl) ⟨Nat.zero_le _, Nat.zero_le _⟩ dX8_unrule_4 (fun H locs hP hS => ?_)
  refine lv_istore_n (lv' := [(1, .int r_1), (0, .ref (A 0))]) hx hb dX8_unrule_7 rfl hl (by decide) rfl (fun ls hl => ?_)
  refine lv_aload_n hx hb dX8_unrule_8 rfl (lv_at hl 1 rfl) ?_
  refine va_get (D := (dC, dI)) (ci := 8) (v := .ref (A 7)) (C := RX8) (T := TX8) (N := 9) hx hb hts i8 hown hK hP 0 (wc_0 A cI cJ cZ z_2) rfl 6 (by decide) (hts (.fieldLink RX8 54 "LightestRules" "told" "LLightestRules$RulersLine;") (by decide +kernel)) (fun _ h9 => h9) rfl dX8_unrule_9 ?_
  obtain ⟨r_4, z_5, h_6, hf⟩ := cl_el hf
  refine callVV (As := []) (rest := []) (ci := 3) (q0 := 7) ⟨hx, hb, hml, hown, hts⟩ (tX3_clear (l := l) (dC := dC) (dI := dI) (t0 := t0) (cI := cI) (cJ := cJ) (cZ := cZ) hA h_6) (cwV 0 hts gX8_unrule_X3_clear rfl rfl rfl (by decide +kernel) ⟨Nat.le_of_ble_eq_true rfl, Nat.le_of_ble_eq_true rfl⟩) hK hZ hP hS rfl (wc_7 A cI cJ cZ z_2) rfl rfl rfl hl.1 (Nat.le_of_ble_eq_true rfl) ⟨Nat.zero_le _, Nat.zero_le _⟩ dX8_unrule_12 (fun H locs hP hS => ?_)
  refine lv_iload_n hx hb dX8_unrule_15 rfl (lv_at hl 0 rfl) ?_
  exact retI hx hb hr hlocks hP hS hf dX8_unrule_16
set_option maxHeartbeats 4000000 in
set_option maxRecDepth 100000 in
theorem tX9_unrule {l : Launch} {dC : Nat → ClassId} {dI : Nat → Nat → Nat} {A : Nat → Nat} {t0 : Nat} {cI cJ cZ : ClassId} (hA : dst A)  {z : Mem} {r : Int32} {z' : Mem} (hf : fX9_unrule z = some (r, z')) : MI l dC dI A t0 cI cJ cZ yX9_unrule wsX9_unrule 0 [.ref (A 25)] z r z' := by
  refine Met.ofW (cc := cX9_unrule) (maxL := 2) (ret := (some .int)) (by decide) rfl ?_
  intro p e s m args below meth c s₁ B hml hv
  obtain ⟨rfl, hP, hK, hZ⟩ := hv
  have hx := B.exec
  have hb := B.bytes
  have hr := B.returns
  have hts := atoms_spec (ws := wsX9_unrule) B.pre
  have hown : s.vm.findClass RX9 = some m.cls := findClass_of_methodNamed B.named
  have hlocks := B.notSynchronized
  have hS : va_S (fr A) s.heap s.heap [] := va_S.rf
  have i9 : ∀ w ∈ wsX90, w ∈ wsX9_unrule := fun _ h => List.mem_cons_of_mem _ (List.mem_append_right _ h)
  have hl := lv_entry ([.ref (A 25)]) (n := 2) (Nat.le_of_ble_eq_true rfl)
  rw [lg_entry_eq]
  generalize (lg_sl ([.ref (A 25)]) ++ List.replicate (2 - (lg_sl ([.ref (A 25)])).length) Slot.unset).toArray = ls at hl ⊢
  have hl : lv_has ls 2 [(0, .ref (A 25))] := hl
  have hP : wIs dC dI A cI cJ cZ z s.heap := hP
  rw [fX9_unrule] at hf
  refine lv_aload_n hx hb dX9_unrule_0 rfl (lv_at hl 0 rfl) ?_
  refine va_get (D := (dC, dI)) (ci := 9) (v := .int (z.1 25 26)) (C := RX9) (T := TX9) (N := 34) hx hb hts i9 hown hK hP 25 (wc_25 A cI cJ cZ z) rfl 26 (by decide) (hts (.fieldLink RX9 186 "LightestRulesModel" "months" "I") (by decide +kernel)) (fun _ h9 => h9) rfl dX9_unrule_1 ?_
  refine lv_topi (fun x1_1 ex1_1 => ?_)
  have hf := lt_at ex1_1 hf; clear ex1_1
  refine lv_istore_n (lv' := [(1, .int x1_1), (0, .ref (A 25))]) hx hb dX9_unrule_4 rfl hl (by decide) rfl (fun ls hl => ?_)
  refine lv_aload_n hx hb dX9_unrule_5 rfl (lv_at hl 1 rfl) ?_
  refine lv_iconst (v := 0) hx hb dX9_unrule_6 (by decide) ?_
  refine va_put (D := (dC, dI)) (ci := 9) (v := .int (0 : Int32)) (ty := .int) (C := RX9) (T := TX9) (N := 34) hx hb hts i9 tyX9 tyX9_ok nmX9 hown hK hP (wD hA cI cJ cZ z) hS 25 (wc_25 A cI cJ cZ z) rfl 26 (by decide) (hts (.fieldLink RX9 186 "LightestRulesModel" "months" "I") (by decide +kernel)) (fun _ h9 => h9) rfl (by decide +kernel) rfl rfl (Nat.le_of_ble_eq_true rfl) dX9_unrule_7 (fun H locs hP _ hS => ?_)
  rw [ws_25_26 A cI cJ cZ z (0 : Int32)] at hP
  obtain ⟨z_2, hP, hf⟩ := lt_P (P := fun q => wIs dC dI A cI cJ cZ q H) hP hf
  refine lv_iload_n hx hb dX9_unrule_10 rfl (lv_at hl 0 rfl) ?_
  exact retI hx hb hr hlocks hP hS hf dX9_unrule_11
set_option maxHeartbeats 4000000 in
set_option maxRecDepth 100000 in
theorem tJ7_fill_d0a16_23 {l : Launch} {dC : Nat → ClassId} {dI : Nat → Nat → Nat} {A : Nat → Nat} {t0 : Nat} {cI cJ cZ : ClassId} (hA : dst A) {p1 : Int64} {z : Mem} {ru : Unit} {z' : Mem} (hf : fJ7_fill_d0a16_23 p1 z = some (ru, z')) : MV l dC dI A t0 cI cJ cZ yJ7_fill_d0a16 wsJ7_fill_d0a16 0 [.ref (A 23), .long p1] z z' := by
  refine Met.ofW (cc := cJ7_fill_d0a16) (maxL := 5) (ret := none) (by decide) rfl ?_
  intro p e s m args below meth c s₁ B hml hv
  obtain ⟨rfl, hP, hK, hZ⟩ := hv
  have hx := B.exec
  have hb := B.bytes
  have hr := B.returns
  have hts := atoms_spec (ws := wsJ7_fill_d0a16) B.pre
  have hown : s.vm.findClass RJ7 = some m.cls := findClass_of_methodNamed B.named
  have hlocks := B.notSynchronized
  have hS : va_S (fr A) s.heap s.heap [] := va_S.rf
  have hl := lv_entry ([.ref (A 23), .long p1]) (n := 5) (Nat.le_of_ble_eq_true rfl)
  rw [lg_entry_eq]
  generalize (lg_sl ([.ref (A 23), .long p1]) ++ List.replicate (5 - (lg_sl ([.ref (A 23), .long p1])).length) Slot.unset).toArray = ls at hl ⊢
  have hl : lv_has ls 5 [(0, .ref (A 23)), (1, .long p1)] := hl
  have hP : wIs dC dI A cI cJ cZ z s.heap := hP
  rw [fJ7_fill_d0a16_23] at hf
  refine lv_iconst (v := 0) hx hb dJ7_fill_d0a16_0 (by decide) ?_
  refine lv_istore_n (lv' := [(3, .int (0 : Int32)), (0, .ref (A 23)), (1, .long p1)]) hx hb dJ7_fill_d0a16_1 rfl hl (by decide) rfl (fun ls hl => ?_)
  refine lv_aload_n hx hb dJ7_fill_d0a16_2 rfl (lv_at hl 1 rfl) ?_
  refine va_alen hx hb hK hP 23 1 (wc_23 A cI cJ cZ z) rfl (v := 2197) rfl dJ7_fill_d0a16_3 ?_
  refine lv_istore (lv' := [(4, .int (2197 : Int32)), (3, .int (0 : Int32)), (0, .ref (A 23)), (1, .long p1)]) hx hb dJ7_fill_d0a16_4 hl (by decide) rfl (fun ls hl => ?_)
  obtain ⟨K_1, eK_1, hf⟩ := fJ7_fill_d0a16_23_L6_g hf
  have hEK_1 : ∀ (x3_3 : Int32) (z_2 : Mem) (H : Heap) (locs : List Loc) (ls : Array Slot), K_1 x3_3 z_2 = some (ru, z') → wIs dC dI A cI cJ cZ z_2 H → va_S (fr A) s.heap H locs → lv_has ls 5 [(0, .ref (A 23)), (1, .long p1), (3, .int x3_3), (4, .int (2197 : Int32))] → WV p l e wsJ7_fill_d0a16 0 s m [.ref (A 23), .long p1] below meth c dC dI A cI cJ cZ z' H locs (F0 m 22 ls []) := by
    intro x3_3 z_2 H locs ls hf hP hS hl
    have hf := ap2 eK_1 hf
    exact retV hx hb hr hlocks hP hS hf dJ7_fill_d0a16_22
  have hLK_1 : ∀ (n_6 : Nat) (x3_5 : Int32) (z_4 : Mem) (H : Heap) (locs : List Loc) (ls : Array Slot), fJ7_fill_d0a16_23_L6 K_1 p1 n_6 x3_5 z_4 = some (ru, z') → wIs dC dI A cI cJ cZ z_4 H → va_S (fr A) s.heap H locs → lv_has ls 5 [(0, .ref (A 23)), (1, .long p1), (3, .int x3_5), (4, .int (2197 : Int32))] → WV p l e wsJ7_fill_d0a16 0 s m [.ref (A 23), .long p1] below meth c dC dI A cI cJ cZ z' H locs (F0 m 6 ls []) := by
    intro n_6
    induction n_6 with
    | zero => intro x3_5 z_4 H locs ls hf; rw [fJ7_fill_d0a16_23_L6_0] at hf; cases hf
    | succ n_6 ihK_1 =>
      intro x3_5 z_4 H locs ls hf hP hS hl
      rw [fJ7_fill_d0a16_23_L6_s] at hf
      refine lv_iload_n hx hb dJ7_fill_d0a16_6 rfl (lv_at hl 2 rfl) ?_
      refine lv_iload hx hb dJ7_fill_d0a16_7 (lv_at hl 3 rfl) ?_
      refine lv_icmp_ge (tgt := 22) hx hb dJ7_fill_d0a16_9 (by decide) (fun c_7 => ?_) (fun c_7 => ?_)
      · have hf := it_t c_7 hf
        exact hEK_1 _ _ _ _ _ hf hP hS (lv_sub hl [0, 1, 2, 3] rfl)
      · have hf := it_f c_7 hf
        refine lv_aload_n hx hb dJ7_fill_d0a16_12 rfl (lv_at hl 0 rfl) ?_
        refine lv_iload_n hx hb dJ7_fill_d0a16_13 rfl (lv_at hl 2 rfl) ?_
        refine lv_lload_n hx hb dJ7_fill_d0a16_14 rfl (lv_at hl 1 rfl) ?_
        obtain ⟨n_8, hf⟩ := rg_el hf
        refine va_last hx hb hK hP (wD hA cI cJ cZ z_4) hS 23 1 (wc_23 A cI cJ cZ z_4) rfl n_8 dJ7_fill_d0a16_15 (fun H locs hP _ hS => ?_)
        rw [wa_23 A cI cJ cZ z_4 x3_5.toNatClampNeg p1] at hP
        obtain ⟨z_9, hP, hf⟩ := lt_P (P := fun q => wIs dC dI A cI cJ cZ q H) hP hf
        obtain ⟨x3_10, ex3_10⟩ : ∃ q : Int32, q = x3_5 + (1 : Int32) := ⟨_, rfl⟩
        refine lv_iinc (v := x3_10) (lv' := [(3, .int x3_10), (0, .ref (A 23)), (1, .long p1), (4, .int (2197 : Int32))]) hx hb dJ7_fill_d0a16_16 hl (k := 2) rfl (by rw [ex3_10]; rfl) (by decide) rfl (fun ls hl => ?_)
        have hf := lt_at ex3_10 hf; clear ex3_10
        refine lv_goto (tgt := 6) hx hb dJ7_fill_d0a16_19 (by decide) ?_
        exact ihK_1 _ _ _ _ _ hf hP hS (lv_sub hl [1, 2, 0, 3] rfl)
  exact hLK_1 FU _ _ _ _ _ hf hP hS (lv_sub hl [2, 3, 1, 0] rfl)
