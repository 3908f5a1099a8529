set_option maxHeartbeats 4000000 in
set_option maxRecDepth 100000 in
theorem tX0_takeBack {l : Launch} {dC : Nat → ClassId} {dI : Nat → Nat → Nat} {A : Nat → Nat} {t0 : Nat} {cI cJ cZ : ClassId} (hA : dst A)  {z : Mem} {ru : Unit} {z' : Mem} (hf : fX0_takeBack z = some (ru, z')) : MV l dC dI A t0 cI cJ cZ yX0_takeBack wsX0_takeBack 2 [.ref (A 3), .ref (A 2)] z z' := by
  refine Met.ofW (cc := cX0_takeBack) (maxL := 2) (ret := none) (by decide) rfl ?_
  intro p e s m args below meth c s₁ B hml hv
  obtain ⟨rfl, hP, hK, hZ⟩ := hv
  have hx := B.exec
  have hb := B.bytes
  have hr := B.returns
  have hts := atoms_spec (ws := wsX0_takeBack) B.pre
  have hown : s.vm.findClass RX0 = some m.cls := findClass_of_methodNamed B.named
  have hlocks := B.notSynchronized
  have hS : va_S (fr A) s.heap s.heap [] := va_S.rf
  have i0 : ∀ w ∈ wsX00, w ∈ wsX0_takeBack := fun _ h => List.mem_cons_of_mem _ (List.mem_append_left _ (List.mem_append_right _ h))
  have hl := lv_entry ([.ref (A 3), .ref (A 2)]) (n := 2) (Nat.le_of_ble_eq_true rfl)
  rw [lg_entry_eq]
  generalize (lg_sl ([.ref (A 3), .ref (A 2)]) ++ List.replicate (2 - (lg_sl ([.ref (A 3), .ref (A 2)])).length) Slot.unset).toArray = ls at hl ⊢
  have hl : lv_has ls 2 [(0, .ref (A 3)), (1, .ref (A 2))] := hl
  have hP : wIs dC dI A cI cJ cZ z s.heap := hP
  rw [fX0_takeBack] at hf
  refine lv_aload_n hx hb dX0_takeBack_0 rfl (lv_at hl 0 rfl) ?_
  refine va_get (D := (dC, dI)) (ci := 0) (v := .int (z.1 3 2)) (C := RX0) (T := TX0) (N := 3) hx hb hts i0 hown hK hP 3 (wc_3 A cI cJ cZ z) rfl 2 (by decide) (hts (.fieldLink RX0 19 "LightestRules$ActRow" "length" "I") (by decide +kernel)) (fun _ h9 => h9) rfl dX0_takeBack_1 ?_
  refine lv_if_le (tgt := 37) hx hb dX0_takeBack_4 (by decide) (fun c_1 => ?_) (fun c_1 => ?_)
  · have hf := it_t c_1 hf
    exact retV hx hb hr hlocks hP hS hf dX0_takeBack_37
  · have hf := it_f c_1 hf
    refine lv_aload_n hx hb dX0_takeBack_7 rfl (lv_at hl 0 rfl) ?_
    refine lv_dup hx hb dX0_takeBack_8 rfl ?_
    refine va_get (D := (dC, dI)) (ci := 0) (v := .int (z.1 3 2)) (C := RX0) (T := TX0) (N := 3) hx hb hts i0 hown hK hP 3 (wc_3 A cI cJ cZ z) rfl 2 (by decide) (hts (.fieldLink RX0 19 "LightestRules$ActRow" "length" "I") (by decide +kernel)) (fun _ h9 => h9) rfl dX0_takeBack_9 ?_
    refine lv_iconst (v := 1) hx hb dX0_takeBack_12 (by decide) ?_
    refine lv_isub hx hb dX0_takeBack_13 ?_
    refine lv_topi (fun y_2 ey_2 => ?_)
    have hf := lt_at ey_2 hf; clear ey_2
    refine va_put (D := (dC, dI)) (ci := 0) (v := .int y_2) (ty := .int) (C := RX0) (T := TX0) (N := 3) hx hb hts i0 tyX0 tyX0_ok nmX0 hown hK hP (wD hA cI cJ cZ z) hS 3 (wc_3 A cI cJ cZ z) rfl 2 (by decide) (hts (.fieldLink RX0 19 "LightestRules$ActRow" "length" "I") (by decide +kernel)) (fun _ h9 => h9) rfl (by decide +kernel) rfl rfl (Nat.le_of_ble_eq_true rfl) dX0_takeBack_14 (fun H locs hP _ hS => ?_)
    rw [ws_3_2 A cI cJ cZ z y_2] at hP
    obtain ⟨z_3, hP, hf⟩ := lt_P (P := fun q => wIs dC dI A cI cJ cZ q H) hP hf
    refine lv_aload_n hx hb dX0_takeBack_17 rfl (lv_at hl 1 rfl) ?_
    refine lv_aload_n hx hb dX0_takeBack_18 rfl (lv_at hl 0 rfl) ?_
    refine va_get (D := (dC, dI)) (ci := 0) (v := .ref (A 12)) (C := RX0) (T := TX0) (N := 3) hx hb hts i0 hown hK hP 3 (wc_3 A cI cJ cZ z_3) rfl 0 (by decide) (hts (.fieldLink RX0 11 "LightestRules$ActRow" "before" "[I") (by decide +kernel)) (fun _ h9 => h9) rfl dX0_takeBack_19 ?_
    refine lv_aload_n hx hb dX0_takeBack_22 rfl (lv_at hl 0 rfl) ?_
    refine va_get (D := (dC, dI)) (ci := 0) (v := .int (z_3.1 3 1)) (C := RX0) (T := TX0) (N := 3) hx hb hts i0 hown hK hP 3 (wc_3 A cI cJ cZ z_3) rfl 1 (by decide) (hts (.fieldLink RX0 15 "LightestRules$ActRow" "first" "I") (by decide +kernel)) (fun _ h9 => h9) rfl dX0_takeBack_23 ?_
    refine lv_aload_n hx hb dX0_takeBack_26 rfl (lv_at hl 0 rfl) ?_
    refine va_get (D := (dC, dI)) (ci := 0) (v := .int (z_3.1 3 2)) (C := RX0) (T := TX0) (N := 3) hx hb hts i0 hown hK hP 3 (wc_3 A cI cJ cZ z_3) rfl 2 (by decide) (hts (.fieldLink RX0 19 "LightestRules$ActRow" "length" "I") (by decide +kernel)) (fun _ h9 => h9) rfl dX0_takeBack_27 ?_
    refine lv_iadd hx hb dX0_takeBack_30 ?_
    refine lv_bipush (v := 16) hx hb dX0_takeBack_31 (by decide) ?_
    obtain ⟨n_4, hf⟩ := nz_el hf
    refine lv_irem hx hb dX0_takeBack_33 n_4 ?_
    obtain ⟨r_5, z_6, h_7, hf⟩ := cl_el hf
    refine callVV (As := [.ref (A 12), .int (((z_3.1 3 1) + (z_3.1 3 2)) - ((z_3.1 3 1) + (z_3.1 3 2)) / (16 : Int32) * (16 : Int32))]) (rest := []) (ci := 2) (q0 := 2) ⟨hx, hb, hml, hown, hts⟩ (tX2_copyFrom_2_12 (l := l) (dC := dC) (dI := dI) (t0 := t0) (cI := cI) (cJ := cJ) (cZ := cZ) hA h_7) (cwV 2 hts gX0_takeBack_X2_copyFrom rfl rfl rfl (by decide +kernel) ⟨Nat.le_of_ble_eq_true rfl, Nat.le_of_ble_eq_true rfl⟩) hK hZ hP hS rfl (wc_2 A cI cJ cZ z_3) rfl rfl rfl hl.1 (Nat.le_of_ble_eq_true rfl) ⟨Nat.zero_le _, Nat.zero_le _⟩ dX0_takeBack_34 (fun H locs hP hS => ?_)
    exact retV hx hb hr hlocks hP hS hf dX0_takeBack_37
set_option maxHeartbeats 4000000 in
set_option maxRecDepth 100000 in
theorem tX8_undo {l : Launch} {dC : Nat → ClassId} {dI : Nat → Nat → Nat} {A : Nat → Nat} {t0 : Nat} {cI cJ cZ : ClassId} (hA : dst A)  {z : Mem} {r : Int32} {z' : Mem} (hf : fX8_undo z = some (r, z')) : MI l dC dI A t0 cI cJ cZ yX8_undo wsX8_undo 3 [.ref (A 0)] z r z' := by
  refine Met.ofW (cc := cX8_undo) (maxL := 1) (ret := (some .int)) (by decide) rfl ?_
  intro p e s m args below meth c s₁ B hml hv
  obtain ⟨rfl, hP, hK, hZ⟩ := hv
  have hx := B.exec
  have hb := B.bytes
  have hr := B.returns
  have hts := atoms_spec (ws := wsX8_undo) B.pre
  have hown : s.vm.findClass RX8 = some m.cls := findClass_of_methodNamed B.named
  have hlocks := B.notSynchronized
  have hS : va_S (fr A) s.heap s.heap [] := va_S.rf
  have i8 : ∀ w ∈ wsX80, w ∈ wsX8_undo := fun _ h => List.mem_cons_of_mem _ (List.mem_append_left _ (List.mem_append_left _ (List.mem_append_right _ h)))
  have hl := lv_entry ([.ref (A 0)]) (n := 1) (Nat.le_of_ble_eq_true rfl)
  rw [lg_entry_eq]
  generalize (lg_sl ([.ref (A 0)]) ++ List.replicate (1 - (lg_sl ([.ref (A 0)])).length) Slot.unset).toArray = ls at hl ⊢
  have hl : lv_has ls 1 [(0, .ref (A 0))] := hl
  have hP : wIs dC dI A cI cJ cZ z s.heap := hP
  rw [fX8_undo] at hf
  refine lv_aload_n hx hb dX8_undo_0 rfl (lv_at hl 0 rfl) ?_
  refine va_get (D := (dC, dI)) (ci := 8) (v := .ref (A 3)) (C := RX8) (T := TX8) (N := 9) hx hb hts i8 hown hK hP 0 (wc_0 A cI cJ cZ z) rfl 2 (by decide) (hts (.fieldLink RX8 26 "LightestRules" "acts" "LLightestRules$ActRow;") (by decide +kernel)) (fun _ h9 => h9) rfl dX8_undo_1 ?_
  obtain ⟨r_1, z_2, h_3, hf⟩ := cl_el hf
  refine callVI (As := []) (rest := []) (ci := 0) (q0 := 3) ⟨hx, hb, hml, hown, hts⟩ (tX0_length (l := l) (dC := dC) (dI := dI) (t0 := t0) (cI := cI) (cJ := cJ) (cZ := cZ) hA h_3) (cwV 0 hts gX8_undo_X0_length rfl rfl rfl (by decide +kernel) ⟨Nat.le_of_ble_eq_true rfl, Nat.le_of_ble_eq_true rfl⟩) hK hZ hP hS rfl (wc_3 A cI cJ cZ z) rfl rfl rfl hl.1 (Nat.le_of_ble_eq_true rfl) ⟨Nat.zero_le _, Nat.zero_le _⟩ dX8_undo_4 (fun H locs hP hS => ?_)
  refine lv_if_ne (tgt := 13) hx hb dX8_undo_7 (by decide) (fun c_4 => ?_) (fun c_4 => ?_)
  · have hf := it_f c_4 hf
    refine lv_aload_n hx hb dX8_undo_13 rfl (lv_at hl 0 rfl) ?_
    refine va_get (D := (dC, dI)) (ci := 8) (v := .ref (A 3)) (C := RX8) (T := TX8) (N := 9) hx hb hts i8 hown hK hP 0 (wc_0 A cI cJ cZ z_2) rfl 2 (by decide) (hts (.fieldLink RX8 26 "LightestRules" "acts" "LLightestRules$ActRow;") (by decide +kernel)) (fun _ h9 => h9) rfl dX8_undo_14 ?_
    refine lv_aload_n hx hb dX8_undo_17 rfl (lv_at hl 0 rfl) ?_
    refine va_get (D := (dC, dI)) (ci := 8) (v := .ref (A 2)) (C := RX8) (T := TX8) (N := 9) hx hb hts i8 hown hK hP 0 (wc_0 A cI cJ cZ z_2) rfl 1 (by decide) (hts (.fieldLink RX8 19 "LightestRules" "folk" "LLightestRules$People;") (by decide +kernel)) (fun _ h9 => h9) rfl dX8_undo_18 ?_
    obtain ⟨r_5, z_6, h_7, hf⟩ := cl_el hf
    refine callVV (As := [.ref (A 2)]) (rest := []) (ci := 0) (q0 := 3) ⟨hx, hb, hml, hown, hts⟩ (tX0_takeBack (l := l) (dC := dC) (dI := dI) (t0 := t0) (cI := cI) (cJ := cJ) (cZ := cZ) hA h_7) (cwV 1 hts gX8_undo_X0_takeBack rfl rfl rfl (by decide +kernel) ⟨Nat.le_of_ble_eq_true rfl, Nat.le_of_ble_eq_true rfl⟩) hK hZ hP hS rfl (wc_3 A cI cJ cZ z_2) rfl rfl rfl hl.1 (Nat.le_of_ble_eq_true rfl) ⟨Nat.zero_le _, Nat.zero_le _⟩ dX8_undo_21 (fun H locs hP hS => ?_)
    refine lv_aload_n hx hb dX8_undo_24 rfl (lv_at hl 0 rfl) ?_
    refine va_get (D := (dC, dI)) (ci := 8) (v := .ref (A 3)) (C := RX8) (T := TX8) (N := 9) hx hb hts i8 hown hK hP 0 (wc_0 A cI cJ cZ z_6) rfl 2 (by decide) (hts (.fieldLink RX8 26 "LightestRules" "acts" "LLightestRules$ActRow;") (by decide +kernel)) (fun _ h9 => h9) rfl dX8_undo_25 ?_
    obtain ⟨r_8, z_9, h_10, hf⟩ := cl_el hf
    refine callVI (As := []) (rest := []) (ci := 0) (q0 := 3) ⟨hx, hb, hml, hown, hts⟩ (tX0_length (l := l) (dC := dC) (dI := dI) (t0 := t0) (cI := cI) (cJ := cJ) (cZ := cZ) hA h_10) (cwV 0 hts gX8_undo_X0_length rfl rfl rfl (by decide +kernel) ⟨Nat.le_of_ble_eq_true rfl, Nat.le_of_ble_eq_true rfl⟩) hK hZ hP hS rfl (wc_3 A cI cJ cZ z_6) rfl rfl rfl hl.1 (Nat.le_of_ble_eq_true rfl) ⟨Nat.zero_le _, Nat.zero_le _⟩ dX8_undo_28 (fun H locs hP hS => ?_)
    exact retI hx hb hr hlocks hP hS hf dX8_undo_31
  · have hf := it_t c_4 hf
    refine lv_bipush (v := -3) hx hb dX8_undo_10 (by decide) ?_
    exact retI hx hb hr hlocks hP hS hf dX8_undo_12
set_option maxHeartbeats 4000000 in
set_option maxRecDepth 100000 in
theorem tX9_undo {l : Launch} {dC : Nat → ClassId} {dI : Nat → Nat → Nat} {A : Nat → Nat} {t0 : Nat} {cI cJ cZ : ClassId} (hA : dst A)  {z : Mem} {r : Int32} {z' : Mem} (hf : fX9_undo z = some (r, z')) : MI l dC dI A t0 cI cJ cZ yX9_undo wsX9_undo 0 [.ref (A 25)] z r z' := by
  refine Met.ofW (cc := cX9_undo) (maxL := 2) (ret := (some .int)) (by decide) rfl ?_
  intro p e s m args below meth c s₁ B hml hv
  obtain ⟨rfl, hP, hK, hZ⟩ := hv
  have hx := B.exec
  have hb := B.bytes
  have hr := B.returns
  have hts := atoms_spec (ws := wsX9_undo) B.pre
  have hown : s.vm.findClass RX9 = some m.cls := findClass_of_methodNamed B.named
  have hlocks := B.notSynchronized
  have hS : va_S (fr A) s.heap s.heap [] := va_S.rf
  have i9 : ∀ w ∈ wsX90, w ∈ wsX9_undo := fun _ h => List.mem_cons_of_mem _ (List.mem_append_right _ h)
  have hl := lv_entry ([.ref (A 25)]) (n := 2) (Nat.le_of_ble_eq_true rfl)
  rw [lg_entry_eq]
  generalize (lg_sl ([.ref (A 25)]) ++ List.replicate (2 - (lg_sl ([.ref (A 25)])).length) Slot.unset).toArray = ls at hl ⊢
  have hl : lv_has ls 2 [(0, .ref (A 25))] := hl
  have hP : wIs dC dI A cI cJ cZ z s.heap := hP
  rw [fX9_undo] at hf
  refine lv_aload_n hx hb dX9_undo_0 rfl (lv_at hl 0 rfl) ?_
  refine va_get (D := (dC, dI)) (ci := 9) (v := .int (z.1 25 14)) (C := RX9) (T := TX9) (N := 34) hx hb hts i9 hown hK hP 25 (wc_25 A cI cJ cZ z) rfl 14 (by decide) (hts (.fieldLink RX9 113 "LightestRulesModel" "acts" "I") (by decide +kernel)) (fun _ h9 => h9) rfl dX9_undo_1 ?_
  refine lv_if_ne (tgt := 10) hx hb dX9_undo_4 (by decide) (fun c_1 => ?_) (fun c_1 => ?_)
  · have hf := it_f c_1 hf
    refine lv_aload_n hx hb dX9_undo_10 rfl (lv_at hl 0 rfl) ?_
    refine lv_dup hx hb dX9_undo_11 rfl ?_
    refine va_get (D := (dC, dI)) (ci := 9) (v := .int (z.1 25 14)) (C := RX9) (T := TX9) (N := 34) hx hb hts i9 hown hK hP 25 (wc_25 A cI cJ cZ z) rfl 14 (by decide) (hts (.fieldLink RX9 113 "LightestRulesModel" "acts" "I") (by decide +kernel)) (fun _ h9 => h9) rfl dX9_undo_12 ?_
    refine lv_iconst (v := 1) hx hb dX9_undo_15 (by decide) ?_
    refine lv_isub hx hb dX9_undo_16 ?_
    refine lv_topi (fun y_2 ey_2 => ?_)
    have hf := lt_at ey_2 hf; clear ey_2
    refine va_put (D := (dC, dI)) (ci := 9) (v := .int y_2) (ty := .int) (C := RX9) (T := TX9) (N := 34) hx hb hts i9 tyX9 tyX9_ok nmX9 hown hK hP (wD hA cI cJ cZ z) hS 25 (wc_25 A cI cJ cZ z) rfl 14 (by decide) (hts (.fieldLink RX9 113 "LightestRulesModel" "acts" "I") (by decide +kernel)) (fun _ h9 => h9) rfl (by decide +kernel) rfl rfl (Nat.le_of_ble_eq_true rfl) dX9_undo_17 (fun H locs hP _ hS => ?_)
    rw [ws_25_14 A cI cJ cZ z y_2] at hP
    obtain ⟨z_3, hP, hf⟩ := lt_P (P := fun q => wIs dC dI A cI cJ cZ q H) hP hf
    refine lv_aload_n hx hb dX9_undo_20 rfl (lv_at hl 0 rfl) ?_
    refine lv_aload_n hx hb dX9_undo_21 rfl (lv_at hl 0 rfl) ?_
    refine va_get (D := (dC, dI)) (ci := 9) (v := .int (z_3.1 25 15)) (C := RX9) (T := TX9) (N := 34) hx hb hts i9 hown hK hP 25 (wc_25 A cI cJ cZ z_3) rfl 15 (by decide) (hts (.fieldLink RX9 129 "LightestRulesModel" "next" "I") (by decide +kernel)) (fun _ h9 => h9) rfl dX9_undo_22 ?_
    refine lv_bipush (v := 15) hx hb dX9_undo_25 (by decide) ?_
    refine lv_iadd hx hb dX9_undo_27 ?_
    refine lv_bipush (v := 16) hx hb dX9_undo_28 (by decide) ?_
    obtain ⟨n_4, hf⟩ := nz_el hf
    refine lv_irem hx hb dX9_undo_30 n_4 ?_
    refine lv_topi (fun y_5 ey_5 => ?_)
    have hf := lt_at ey_5 hf; clear ey_5
    refine va_put (D := (dC, dI)) (ci := 9) (v := .int y_5) (ty := .int) (C := RX9) (T := TX9) (N := 34) hx hb hts i9 tyX9 tyX9_ok nmX9 hown hK hP (wD hA cI cJ cZ z_3) hS 25 (wc_25 A cI cJ cZ z_3) rfl 15 (by decide) (hts (.fieldLink RX9 129 "LightestRulesModel" "next" "I") (by decide +kernel)) (fun _ h9 => h9) rfl (by decide +kernel) rfl rfl (Nat.le_of_ble_eq_true rfl) dX9_undo_31 (fun H locs hP _ hS => ?_)
    rw [ws_25_15 A cI cJ cZ z_3 y_5] at hP
    obtain ⟨z_6, hP, hf⟩ := lt_P (P := fun q => wIs dC dI A cI cJ cZ q H) hP hf
    refine lv_iconst (v := 0) hx hb dX9_undo_34 (by decide) ?_
    refine lv_istore_n (lv' := [(1, .int (0 : Int32)), (0, .ref (A 25))]) hx hb dX9_undo_35 rfl hl (by decide) rfl (fun ls hl => ?_)
    obtain ⟨K_7, eK_7, hf⟩ := fX9_undo_L36_g hf
    have hEK_7 : ∀ (x1_9 : Int32) (z_8 : Mem) (H : Heap) (locs : List Loc) (ls : Array Slot), K_7 x1_9 z_8 = some (r, z') → wIs dC dI A cI cJ cZ z_8 H → va_S (fr A) s.heap H locs → lv_has ls 2 [(0, .ref (A 25)), (1, .int x1_9)] → WI p l e wsX9_undo 0 s m [.ref (A 25)] below meth c dC dI A cI cJ cZ r z' H locs (F0 m 68 ls []) := by
      intro x1_9 z_8 H locs ls hf hP hS hl
      have hf := ap2 eK_7 hf
      refine lv_aload_n hx hb dX9_undo_68 rfl (lv_at hl 0 rfl) ?_
      refine va_get (D := (dC, dI)) (ci := 9) (v := .int (z_8.1 25 14)) (C := RX9) (T := TX9) (N := 34) hx hb hts i9 hown hK hP 25 (wc_25 A cI cJ cZ z_8) rfl 14 (by decide) (hts (.fieldLink RX9 113 "LightestRulesModel" "acts" "I") (by decide +kernel)) (fun _ h9 => h9) rfl dX9_undo_69 ?_
      exact retI hx hb hr hlocks hP hS hf dX9_undo_72
    have hLK_7 : ∀ (n_12 : Nat) (x1_11 : Int32) (z_10 : Mem) (H : Heap) (locs : List Loc) (ls : Array Slot), fX9_undo_L36 K_7  n_12 x1_11 z_10 = some (r, z') → wIs dC dI A cI cJ cZ z_10 H → va_S (fr A) s.heap H locs → lv_has ls 2 [(0, .ref (A 25)), (1, .int x1_11)] → WI p l e wsX9_undo 0 s m [.ref (A 25)] below meth c dC dI A cI cJ cZ r z' H locs (F0 m 36 ls []) := by
      intro n_12
      induction n_12 with
      | zero => intro x1_11 z_10 H locs ls hf; rw [fX9_undo_L36_0] at hf; cases hf
      | succ n_12 ihK_7 =>
        intro x1_11 z_10 H locs ls hf hP hS hl
        rw [fX9_undo_L36_s] at hf
        refine lv_iload_n hx hb dX9_undo_36 rfl (lv_at hl 1 rfl) ?_
        refine lv_bipush (v := 26) hx hb dX9_undo_37 (by decide) ?_
        refine lv_icmp_ge (tgt := 68) hx hb dX9_undo_39 (by decide) (fun c_13 => ?_) (fun c_13 => ?_)
        · have hf := it_t c_13 hf
          exact hEK_7 _ _ _ _ _ hf hP hS (lv_sub hl [0, 1] rfl)
        · have hf := it_f c_13 hf
          refine lv_aload_n hx hb dX9_undo_42 rfl (lv_at hl 0 rfl) ?_
          refine va_get (D := (dC, dI)) (ci := 9) (v := .ref (A 27)) (C := RX9) (T := TX9) (N := 34) hx hb hts i9 hown hK hP 25 (wc_25 A cI cJ cZ z_10) rfl 5 (by decide) (hts (.fieldLink RX9 13 "LightestRulesModel" "now" "[I") (by decide +kernel)) (fun _ h9 => h9) rfl dX9_undo_43 ?_
          refine lv_iload_n hx hb dX9_undo_46 rfl (lv_at hl 1 rfl) ?_
          refine lv_aload_n hx hb dX9_undo_47 rfl (lv_at hl 0 rfl) ?_
          refine va_get (D := (dC, dI)) (ci := 9) (v := .ref (A 29)) (C := RX9) (T := TX9) (N := 34) hx hb hts i9 hown hK hP 25 (wc_25 A cI cJ cZ z_10) rfl 16 (by decide) (hts (.fieldLink RX9 19 "LightestRulesModel" "row" "[I") (by decide +kernel)) (fun _ h9 => h9) rfl dX9_undo_48 ?_
          refine lv_bipush (v := 26) hx hb dX9_undo_51 (by decide) ?_
          refine lv_aload_n hx hb dX9_undo_53 rfl (lv_at hl 0 rfl) ?_
          refine va_get (D := (dC, dI)) (ci := 9) (v := .int (z_10.1 25 15)) (C := RX9) (T := TX9) (N := 34) hx hb hts i9 hown hK hP 25 (wc_25 A cI cJ cZ z_10) rfl 15 (by decide) (hts (.fieldLink RX9 129 "LightestRulesModel" "next" "I") (by decide +kernel)) (fun _ h9 => h9) rfl dX9_undo_54 ?_
          refine lv_imul hx hb dX9_undo_57 ?_
          refine lv_iload_n hx hb dX9_undo_58 rfl (lv_at hl 1 rfl) ?_
          refine lv_iadd hx hb dX9_undo_59 ?_
          refine lv_topi (fun y_14 ey_14 => ?_)
          have hf := lt_at ey_14 hf; clear ey_14
          obtain ⟨n_15, hf⟩ := rg_el hf
          refine va_iald hx hb hK hP 29 0 (wc_29 A cI cJ cZ z_10) rfl n_15 dX9_undo_60 ?_
          refine lv_topi (fun a_16 ea_16 => ?_)
          have hf := lt_at ea_16 hf; clear ea_16
          obtain ⟨n_17, hf⟩ := rg_el hf
          refine va_iast hx hb hK hP (wD hA cI cJ cZ z_10) hS 27 0 (wc_27 A cI cJ cZ z_10) rfl n_17 dX9_undo_61 (fun H locs hP _ hS => ?_)
          rw [wa_27 A cI cJ cZ z_10 x1_11.toNatClampNeg a_16] at hP
          obtain ⟨z_18, hP, hf⟩ := lt_P (P := fun q => wIs dC dI A cI cJ cZ q H) hP hf
          obtain ⟨x1_19, ex1_19⟩ : ∃ q : Int32, q = x1_11 + (1 : Int32) := ⟨_, rfl⟩
          refine lv_iinc (v := x1_19) (lv' := [(1, .int x1_19), (0, .ref (A 25))]) hx hb dX9_undo_62 hl (k := 1) rfl (by rw [ex1_19]; rfl) (by decide) rfl (fun ls hl => ?_)
          have hf := lt_at ex1_19 hf; clear ex1_19
          refine lv_goto (tgt := 36) hx hb dX9_undo_65 (by decide) ?_
          exact ihK_7 _ _ _ _ _ hf hP hS (lv_sub hl [1, 0] rfl)
    exact hLK_7 FU _ _ _ _ _ hf hP hS (lv_sub hl [1, 0] rfl)
  · have hf := it_t c_1 hf
    refine lv_bipush (v := -3) hx hb dX9_undo_7 (by decide) ?_
    exact retI hx hb hr hlocks hP hS hf dX9_undo_9
set_option maxHeartbeats 4000000 in
set_option maxRecDepth 100000 in
theorem tX8_refusalOfSure {l : Launch} {dC : Nat → ClassId} {dI : Nat → Nat → Nat} {A : Nat → Nat} {t0 : Nat} {cI cJ cZ : ClassId} (hA : dst A) {p0 : Int32} {p1 : Int32} {p2 : Int32} {z : Mem} {r : Int32} {z' : Mem} (hf : fX8_refusalOfSure p0 p1 p2 z = some (r, z')) : MI l dC dI A t0 cI cJ cZ yX8_refusalOfSure wsX8_refusalOfSure 1 [.ref (A 0), .int p0, .int p1, .int p2] z r z' := by
  refine Met.ofW (cc := cX8_refusalOfSure) (maxL := 4) (ret := (some .int)) (by decide) rfl ?_
  intro p e s m args below meth c s₁ B hml hv
  obtain ⟨rfl, hP, hK, hZ⟩ := hv
  have hx := B.exec
  have hb := B.bytes
  have hr := B.returns
  have hts := atoms_spec (ws := wsX8_refusalOfSure) B.pre
  have hown : s.vm.findClass RX8 = some m.cls := findClass_of_methodNamed B.named
  have hlocks := B.notSynchronized
  have hS : va_S (fr A) s.heap s.heap [] := va_S.rf
  have i8 : ∀ w ∈ wsX80, w ∈ wsX8_refusalOfSure := fun _ h => List.mem_cons_of_mem _ (List.mem_append_left _ (List.mem_append_right _ h))
  have hl := lv_entry ([.ref (A 0), .int p0, .int p1, .int p2]) (n := 4) (Nat.le_of_ble_eq_true rfl)
  rw [lg_entry_eq]
  generalize (lg_sl ([.ref (A 0), .int p0, .int p1, .int p2]) ++ List.replicate (4 - (lg_sl ([.ref (A 0), .int p0, .int p1, .int p2])).length) Slot.unset).toArray = ls at hl ⊢
  have hl : lv_has ls 4 [(0, .ref (A 0)), (1, .int p0), (2, .int p1), (3, .int p2)] := hl
  have hP : wIs dC dI A cI cJ cZ z s.heap := hP
  rw [fX8_refusalOfSure] at hf
  refine lv_aload_n hx hb dX8_refusalOfSure_0 rfl (lv_at hl 0 rfl) ?_
  refine va_get (D := (dC, dI)) (ci := 8) (v := .ref (A 2)) (C := RX8) (T := TX8) (N := 9) hx hb hts i8 hown hK hP 0 (wc_0 A cI cJ cZ z) rfl 1 (by decide) (hts (.fieldLink RX8 19 "LightestRules" "folk" "LLightestRules$People;") (by decide +kernel)) (fun _ h9 => h9) rfl dX8_refusalOfSure_1 ?_
  refine lv_iload_n hx hb dX8_refusalOfSure_4 rfl (lv_at hl 1 rfl) ?_
  obtain ⟨r_1, z_2, h_3, hf⟩ := cl_el hf
  refine callVI (As := [.int p0]) (rest := []) (ci := 2) (q0 := 2) ⟨hx, hb, hml, hown, hts⟩ (tX2_has (l := l) (dC := dC) (dI := dI) (t0 := t0) (cI := cI) (cJ := cJ) (cZ := cZ) hA h_3) (cwV 1 hts gX8_refusalOfSure_X2_has rfl rfl rfl (by decide +kernel) ⟨Nat.le_of_ble_eq_true rfl, Nat.le_of_ble_eq_true rfl⟩) hK hZ hP hS rfl (wc_2 A cI cJ cZ z) rfl rfl rfl hl.1 (Nat.le_of_ble_eq_true rfl) ⟨Nat.zero_le _, Nat.zero_le _⟩ dX8_refusalOfSure_5 (fun H locs hP hS => ?_)
  refine lv_if_ne (tgt := 13) hx hb dX8_refusalOfSure_8 (by decide) (fun c_4 => ?_) (fun c_4 => ?_)
  · have hf := it_f c_4 hf
    refine lv_iload_n hx hb dX8_refusalOfSure_13 rfl (lv_at hl 2 rfl) ?_
    refine lv_iconst (v := 1) hx hb dX8_refusalOfSure_14 (by decide) ?_
    refine lv_icmp_lt (tgt := 33) hx hb dX8_refusalOfSure_15 (by decide) (fun c_5 => ?_) (fun c_5 => ?_)
    · have hf := it_t c_5 hf
      refine lv_bipush (v := -2) hx hb dX8_refusalOfSure_33 (by decide) ?_
      exact retI hx hb hr hlocks hP hS hf dX8_refusalOfSure_35
    · have hf := it_f c_5 hf
      refine lv_iload_n hx hb dX8_refusalOfSure_18 rfl (lv_at hl 2 rfl) ?_
      refine lv_iconst (v := 5) hx hb dX8_refusalOfSure_19 (by decide) ?_
      refine lv_icmp_gt (tgt := 33) hx hb dX8_refusalOfSure_20 (by decide) (fun c_6 => ?_) (fun c_6 => ?_)
      · have hf := it_t c_6 hf
        refine lv_bipush (v := -2) hx hb dX8_refusalOfSure_33 (by decide) ?_
        exact retI hx hb hr hlocks hP hS hf dX8_refusalOfSure_35
      · have hf := it_f c_6 hf
        refine lv_iload_n hx hb dX8_refusalOfSure_23 rfl (lv_at hl 3 rfl) ?_
        refine lv_if_lt (tgt := 33) hx hb dX8_refusalOfSure_24 (by decide) (fun c_7 => ?_) (fun c_7 => ?_)
        · have hf := it_t c_7 hf
          refine lv_bipush (v := -2) hx hb dX8_refusalOfSure_33 (by decide) ?_
          exact retI hx hb hr hlocks hP hS hf dX8_refusalOfSure_35
        · have hf := it_f c_7 hf
          refine lv_iload_n hx hb dX8_refusalOfSure_27 rfl (lv_at hl 3 rfl) ?_
          refine lv_bipush (v := 9) hx hb dX8_refusalOfSure_28 (by decide) ?_
          refine lv_icmp_le (tgt := 36) hx hb dX8_refusalOfSure_30 (by decide) (fun c_8 => ?_) (fun c_8 => ?_)
          · have hf := it_t c_8 hf
            refine lv_aload_n hx hb dX8_refusalOfSure_36 rfl (lv_at hl 0 rfl) ?_
            refine va_get (D := (dC, dI)) (ci := 8) (v := .ref (A 2)) (C := RX8) (T := TX8) (N := 9) hx hb hts i8 hown hK hP 0 (wc_0 A cI cJ cZ z_2) rfl 1 (by decide) (hts (.fieldLink RX8 19 "LightestRules" "folk" "LLightestRules$People;") (by decide +kernel)) (fun _ h9 => h9) rfl dX8_refusalOfSure_37 ?_
            obtain ⟨r_9, z_10, h_11, hf⟩ := cl_el hf
            refine callVI (As := []) (rest := []) (ci := 2) (q0 := 2) ⟨hx, hb, hml, hown, hts⟩ (tX2_size_2 (l := l) (dC := dC) (dI := dI) (t0 := t0) (cI := cI) (cJ := cJ) (cZ := cZ) hA h_11) (cwV 0 hts gX8_refusalOfSure_X2_size rfl rfl rfl (by decide +kernel) ⟨Nat.le_of_ble_eq_true rfl, Nat.le_of_ble_eq_true rfl⟩) hK hZ hP hS rfl (wc_2 A cI cJ cZ z_2) rfl rfl rfl hl.1 (Nat.le_of_ble_eq_true rfl) ⟨Nat.zero_le _, Nat.zero_le _⟩ dX8_refusalOfSure_40 (fun H locs hP hS => ?_)
            refine lv_iconst (v := 1) hx hb dX8_refusalOfSure_43 (by decide) ?_
            refine lv_icmp_ne (tgt := 52) hx hb dX8_refusalOfSure_44 (by decide) (fun c_12 => ?_) (fun c_12 => ?_)
            · have hf := it_f c_12 hf
              refine lv_iconst (v := 0) hx hb dX8_refusalOfSure_52 (by decide) ?_
              exact retI hx hb hr hlocks hP hS hf dX8_refusalOfSure_53
            · have hf := it_t c_12 hf
              refine lv_bipush (v := -3) hx hb dX8_refusalOfSure_47 (by decide) ?_
              refine lv_goto (tgt := 53) hx hb dX8_refusalOfSure_49 (by decide) ?_
              exact retI hx hb hr hlocks hP hS hf dX8_refusalOfSure_53
          · have hf := it_f c_8 hf
            refine lv_bipush (v := -2) hx hb dX8_refusalOfSure_33 (by decide) ?_
            exact retI hx hb hr hlocks hP hS hf dX8_refusalOfSure_35
  · have hf := it_t c_4 hf
    refine lv_iconst (v := -1) hx hb dX8_refusalOfSure_11 (by decide) ?_
    exact retI hx hb hr hlocks hP hS hf dX8_refusalOfSure_12
set_option maxHeartbeats 4000000 in
set_option maxRecDepth 100000 in
theorem tX2_noonWeightBehind {l : Launch} {dC : Nat → ClassId} {dI : Nat → Nat → Nat} {A : Nat → Nat} {t0 : Nat} {cI cJ cZ : ClassId} (hA : dst A) {p0 : Int32} {p1 : Int32} {p2 : Int32} {z : Mem} {r : Int32} {z' : Mem} (hf : fX2_noonWeightBehind p0 p1 p2 z = some (r, z')) : MI l dC dI A t0 cI cJ cZ yX2_noonWeightBehind wsX2_noonWeightBehind 2 [.ref (A 2), .int p0, .int p1, .int p2] z r z' := by
  refine Met.ofW (cc := cX2_noonWeightBehind) (maxL := 5) (ret := (some .int)) (by decide) rfl ?_
  intro p e s m args below meth c s₁ B hml hv
  obtain ⟨rfl, hP, hK, hZ⟩ := hv
  have hx := B.exec
  have hb := B.bytes
  have hr := B.returns
  have hts := atoms_spec (ws := wsX2_noonWeightBehind) B.pre
  have hown : s.vm.findClass RX2 = some m.cls := findClass_of_methodNamed B.named
  have hlocks := B.notSynchronized
  have hS : va_S (fr A) s.heap s.heap [] := va_S.rf
  have i2 : ∀ w ∈ wsX20, w ∈ wsX2_noonWeightBehind := fun _ h => List.mem_cons_of_mem _ (List.mem_append_right _ h)
  have hl := lv_entry ([.ref (A 2), .int p0, .int p1, .int p2]) (n := 5) (Nat.le_of_ble_eq_true rfl)
  rw [lg_entry_eq]
  generalize (lg_sl ([.ref (A 2), .int p0, .int p1, .int p2]) ++ List.replicate (5 - (lg_sl ([.ref (A 2), .int p0, .int p1, .int p2])).length) Slot.unset).toArray = ls at hl ⊢
  have hl : lv_has ls 5 [(0, .ref (A 2)), (1, .int p0), (2, .int p1), (3, .int p2)] := hl
  have hP : wIs dC dI A cI cJ cZ z s.heap := hP
  rw [fX2_noonWeightBehind] at hf
  refine lv_aload_n hx hb dX2_noonWeightBehind_0 rfl (lv_at hl 0 rfl) ?_
  refine lv_iload_n hx hb dX2_noonWeightBehind_1 rfl (lv_at hl 1 rfl) ?_
  refine lv_iconst (v := 0) hx hb dX2_noonWeightBehind_2 (by decide) ?_
  obtain ⟨r_1, z_2, h_3, hf⟩ := cl_el hf
  refine callVI (As := [.int p0, .int (0 : Int32)]) (rest := []) (ci := 2) (q0 := 2) ⟨hx, hb, hml, hown, hts⟩ (tX2_get_2 (l := l) (dC := dC) (dI := dI) (t0 := t0) (cI := cI) (cJ := cJ) (cZ := cZ) hA h_3) (cwV 2 hts gX2_noonWeightBehind_X2_get rfl rfl rfl (by decide +kernel) ⟨Nat.le_of_ble_eq_true rfl, Nat.le_of_ble_eq_true rfl⟩) hK hZ hP hS rfl (wc_2 A cI cJ cZ z) rfl rfl rfl hl.1 (Nat.le_of_ble_eq_true rfl) ⟨Nat.zero_le _, Nat.zero_le _⟩ dX2_noonWeightBehind_3 (fun H locs hP hS => ?_)
  refine lv_aload_n hx hb dX2_noonWeightBehind_6 rfl (lv_at hl 0 rfl) ?_
  refine lv_iload_n hx hb dX2_noonWeightBehind_7 rfl (lv_at hl 1 rfl) ?_
  refine lv_iconst (v := 3) hx hb dX2_noonWeightBehind_8 (by decide) ?_
  obtain ⟨r_4, z_5, h_6, hf⟩ := cl_el hf
  refine callVI (As := [.int p0, .int (3 : Int32)]) (rest := [.int r_1]) (ci := 2) (q0 := 2) ⟨hx, hb, hml, hown, hts⟩ (tX2_get_2 (l := l) (dC := dC) (dI := dI) (t0 := t0) (cI := cI) (cJ := cJ) (cZ := cZ) hA h_6) (cwV 2 hts gX2_noonWeightBehind_X2_get rfl rfl rfl (by decide +kernel) ⟨Nat.le_of_ble_eq_true rfl, Nat.le_of_ble_eq_true rfl⟩) hK hZ hP hS rfl (wc_2 A cI cJ cZ z_2) rfl rfl rfl hl.1 (Nat.le_of_ble_eq_true rfl) ⟨Nat.zero_le _, Nat.zero_le _⟩ dX2_noonWeightBehind_9 (fun H locs hP hS => ?_)
  refine lv_isub hx hb dX2_noonWeightBehind_12 ?_
  refine lv_iconst (v := 5) hx hb dX2_noonWeightBehind_13 (by decide) ?_
  refine lv_iload_n hx hb dX2_noonWeightBehind_14 rfl (lv_at hl 2 rfl) ?_
  refine lv_imul hx hb dX2_noonWeightBehind_15 ?_
  refine lv_isub hx hb dX2_noonWeightBehind_16 ?_
  refine lv_iconst (v := 2) hx hb dX2_noonWeightBehind_17 (by decide) ?_
  refine lv_aload_n hx hb dX2_noonWeightBehind_18 rfl (lv_at hl 0 rfl) ?_
  refine va_get (D := (dC, dI)) (ci := 2) (v := .int (z_5.1 2 2)) (C := RX2) (T := TX2) (N := 4) hx hb hts i2 hown hK hP 2 (wc_2 A cI cJ cZ z_5) rfl 2 (by decide) (hts (.fieldLink RX2 19 "LightestRules$People" "burn" "I") (by decide +kernel)) (fun _ h9 => h9) rfl dX2_noonWeightBehind_19 ?_
  refine lv_imul hx hb dX2_noonWeightBehind_22 ?_
  refine lv_iload_n hx hb dX2_noonWeightBehind_23 rfl (lv_at hl 3 rfl) ?_
  refine lv_imul hx hb dX2_noonWeightBehind_24 ?_
  refine lv_isub hx hb dX2_noonWeightBehind_25 ?_
  refine lv_topi (fun x4_7 ex4_7 => ?_)
  have hf := lt_at ex4_7 hf; clear ex4_7
  refine lv_istore (lv' := [(4, .int x4_7), (0, .ref (A 2)), (1, .int p0), (2, .int p1), (3, .int p2)]) hx hb dX2_noonWeightBehind_26 hl (by decide) rfl (fun ls hl => ?_)
  refine lv_iconst (v := 1) hx hb dX2_noonWeightBehind_28 (by decide) ?_
  refine lv_iload hx hb dX2_noonWeightBehind_29 (lv_at hl 0 rfl) ?_
  refine va_mmax hx hb (hml.trans hl.1.symm) hown (hts (.methodLink RX2 63 Lib.Math.max.name) (by decide +kernel)) (hts (.static Lib.Math.max.name) (by decide +kernel)) (hts (.initialized "java/lang/Math" ) (by decide +kernel)) (hts (.code Lib.Math.max.name Lib.Math.max.code 2 (some .int)) (by decide +kernel)) (Nat.le_of_ble_eq_true rfl) (Nat.le_of_ble_eq_true rfl) (Nat.zero_le _) (Nat.zero_le _) dX2_noonWeightBehind_31 ?_
  refine lv_topi (fun y_8 ey_8 => ?_)
  have hf := lt_at ey_8 hf; clear ey_8
  refine lv_aload_n hx hb dX2_noonWeightBehind_34 rfl (lv_at hl 1 rfl) ?_
  refine lv_iload_n hx hb dX2_noonWeightBehind_35 rfl (lv_at hl 2 rfl) ?_
  obtain ⟨r_9, z_10, h_11, hf⟩ := cl_el hf
  refine callVI (As := [.int p0]) (rest := [.int y_8]) (ci := 2) (q0 := 2) ⟨hx, hb, hml, hown, hts⟩ (tX2_pocketWeight_2 (l := l) (dC := dC) (dI := dI) (t0 := t0) (cI := cI) (cJ := cJ) (cZ := cZ) hA h_11) (cwV 1 hts gX2_noonWeightBehind_X2_pocketWeight rfl rfl rfl (by decide +kernel) ⟨Nat.le_of_ble_eq_true rfl, Nat.le_of_ble_eq_true rfl⟩) hK hZ hP hS rfl (wc_2 A cI cJ cZ z_5) rfl rfl rfl hl.1 (Nat.le_of_ble_eq_true rfl) ⟨Nat.zero_le _, Nat.zero_le _⟩ dX2_noonWeightBehind_36 (fun H locs hP hS => ?_)
  refine lv_iadd hx hb dX2_noonWeightBehind_39 ?_
  exact retI hx hb hr hlocks hP hS hf dX2_noonWeightBehind_40
set_option maxHeartbeats 4000000 in
set_option maxRecDepth 100000 in
theorem tX2_winsWith {l : Launch} {dC : Nat → ClassId} {dI : Nat → Nat → Nat} {A : Nat → Nat} {t0 : Nat} {cI cJ cZ : ClassId} (hA : dst A) {p0 : Int32} {p1 : Int32} {p2 : Int32} {p3 : Int32} {z : Mem} {r : Int32} {z' : Mem} (hf : fX2_winsWith p0 p1 p2 p3 z = some (r, z')) : MI l dC dI A t0 cI cJ cZ yX2_winsWith wsX2_winsWith 3 [.ref (A 2), .int p0, .int p1, .int p2, .int p3] z r z' := by
  refine Met.ofW (cc := cX2_winsWith) (maxL := 8) (ret := (some .boolean)) (by decide) rfl ?_
  intro p e s m args below meth c s₁ B hml hv
  obtain ⟨rfl, hP, hK, hZ⟩ := hv
  have hx := B.exec
  have hb := B.bytes
  have hr := B.returns
  have hts := atoms_spec (ws := wsX2_winsWith) B.pre
  have hown : s.vm.findClass RX2 = some m.cls := findClass_of_methodNamed B.named
  have hlocks := B.notSynchronized
  have hS : va_S (fr A) s.heap s.heap [] := va_S.rf
  have i2 : ∀ w ∈ wsX20, w ∈ wsX2_winsWith := fun _ h => List.mem_cons_of_mem _ (List.mem_append_right _ h)
  have hl := lv_entry ([.ref (A 2), .int p0, .int p1, .int p2, .int p3]) (n := 8) (Nat.le_of_ble_eq_true rfl)
  rw [lg_entry_eq]
  generalize (lg_sl ([.ref (A 2), .int p0, .int p1, .int p2, .int p3]) ++ List.replicate (8 - (lg_sl ([.ref (A 2), .int p0, .int p1, .int p2, .int p3])).length) Slot.unset).toArray = ls at hl ⊢
  have hl : lv_has ls 8 [(0, .ref (A 2)), (1, .int p0), (2, .int p1), (3, .int p2), (4, .int p3)] := hl
  have hP : wIs dC dI A cI cJ cZ z s.heap := hP
  rw [fX2_winsWith] at hf
  refine lv_aload_n hx hb dX2_winsWith_0 rfl (lv_at hl 0 rfl) ?_
  refine lv_iload_n hx hb dX2_winsWith_1 rfl (lv_at hl 1 rfl) ?_
  refine lv_iload_n hx hb dX2_winsWith_2 rfl (lv_at hl 2 rfl) ?_
  refine lv_iload_n hx hb dX2_winsWith_3 rfl (lv_at hl 3 rfl) ?_
  obtain ⟨r_1, z_2, h_3, hf⟩ := cl_el hf
  refine callVI (As := [.int p0, .int p1, .int p2]) (rest := []) (ci := 2) (q0 := 2) ⟨hx, hb, hml, hown, hts⟩ (tX2_noonWeightBehind (l := l) (dC := dC) (dI := dI) (t0 := t0) (cI := cI) (cJ := cJ) (cZ := cZ) hA h_3) (cwV 3 hts gX2_winsWith_X2_noonWeightBehind rfl rfl rfl (by decide +kernel) ⟨Nat.le_of_ble_eq_true rfl, Nat.le_of_ble_eq_true rfl⟩) hK hZ hP hS rfl (wc_2 A cI cJ cZ z) rfl rfl rfl hl.1 (Nat.le_of_ble_eq_true rfl) ⟨Nat.zero_le _, Nat.zero_le _⟩ dX2_winsWith_4 (fun H locs hP hS => ?_)
  refine lv_istore (lv' := [(5, .int r_1), (0, .ref (A 2)), (1, .int p0), (2, .int p1), (3, .int p2), (4, .int p3)]) hx hb dX2_winsWith_7 hl (by decide) rfl (fun ls hl => ?_)
  refine lv_iconst (v := 0) hx hb dX2_winsWith_9 (by decide) ?_
  refine lv_istore (lv' := [(6, .int (0 : Int32)), (5, .int r_1), (0, .ref (A 2)), (1, .int p0), (2, .int p1), (3, .int p2), (4, .int p3)]) hx hb dX2_winsWith_10 hl (by decide) rfl (fun ls hl => ?_)
  obtain ⟨K_4, eK_4, hf⟩ := fX2_winsWith_L12_g hf
  have hEK_4 : ∀ (x6_6 : Int32) (z_5 : Mem) (H : Heap) (locs : List Loc) (ls : Array Slot), K_4 x6_6 z_5 = some (r, z') → wIs dC dI A cI cJ cZ z_5 H → va_S (fr A) s.heap H locs → lv_has ls 8 [(0, .ref (A 2)), (1, .int p0), (2, .int p1), (3, .int p2), (4, .int p3), (5, .int r_1), (6, .int x6_6)] → WI p l e wsX2_winsWith 3 s m [.ref (A 2), .int p0, .int p1, .int p2, .int p3] below meth c dC dI A cI cJ cZ r z' H locs (F0 m 68 ls []) := by
    intro x6_6 z_5 H locs ls hf hP hS hl
    have hf := ap2 eK_4 hf
    refine lv_iconst (v := 1) hx hb dX2_winsWith_68 (by decide) ?_
    exact retZ hx hb hr hlocks rfl hP hS hf dX2_winsWith_69
  have hLK_4 : ∀ (n_9 : Nat) (x6_8 : Int32) (z_7 : Mem) (H : Heap) (locs : List Loc) (ls : Array Slot), fX2_winsWith_L12 K_4 p0 p2 p3 r_1 n_9 x6_8 z_7 = some (r, z') → wIs dC dI A cI cJ cZ z_7 H → va_S (fr A) s.heap H locs → lv_has ls 8 [(0, .ref (A 2)), (1, .int p0), (2, .int p1), (3, .int p2), (4, .int p3), (5, .int r_1), (6, .int x6_8)] → WI p l e wsX2_winsWith 3 s m [.ref (A 2), .int p0, .int p1, .int p2, .int p3] below meth c dC dI A cI cJ cZ r z' H locs (F0 m 12 ls []) := by
    intro n_9
    induction n_9 with
    | zero => intro x6_8 z_7 H locs ls hf; rw [fX2_winsWith_L12_0] at hf; cases hf
    | succ n_9 ihK_4 =>
      intro x6_8 z_7 H locs ls hf hP hS hl
      rw [fX2_winsWith_L12_s] at hf
      refine lv_iload hx hb dX2_winsWith_12 (lv_at hl 6 rfl) ?_
      refine lv_aload_n hx hb dX2_winsWith_14 rfl (lv_at hl 0 rfl) ?_
      refine va_get (D := (dC, dI)) (ci := 2) (v := .int (z_7.1 2 1)) (C := RX2) (T := TX2) (N := 4) hx hb hts i2 hown hK hP 2 (wc_2 A cI cJ cZ z_7) rfl 1 (by decide) (hts (.fieldLink RX2 15 "LightestRules$People" "size" "I") (by decide +kernel)) (fun _ h9 => h9) rfl dX2_winsWith_15 ?_
      refine lv_icmp_ge (tgt := 68) hx hb dX2_winsWith_18 (by decide) (fun c_10 => ?_) (fun c_10 => ?_)
      · have hf := it_t c_10 hf
        exact hEK_4 _ _ _ _ _ hf hP hS (lv_sub hl [0, 1, 2, 3, 4, 5, 6] rfl)
      · have hf := it_f c_10 hf
        refine lv_aload_n hx hb dX2_winsWith_21 rfl (lv_at hl 0 rfl) ?_
        refine lv_iload hx hb dX2_winsWith_22 (lv_at hl 6 rfl) ?_
        refine lv_iload hx hb dX2_winsWith_24 (lv_at hl 4 rfl) ?_
        refine lv_iload_n hx hb dX2_winsWith_26 rfl (lv_at hl 3 rfl) ?_
        refine lv_imul hx hb dX2_winsWith_27 ?_
        refine lv_iload_n hx hb dX2_winsWith_28 rfl (lv_at hl 3 rfl) ?_
        obtain ⟨r_11, z_12, h_13, hf⟩ := cl_el hf
        refine callVI (As := [.int x6_8, .int (p3 * p2), .int p2]) (rest := []) (ci := 2) (q0 := 2) ⟨hx, hb, hml, hown, hts⟩ (tX2_noonWeightBehind (l := l) (dC := dC) (dI := dI) (t0 := t0) (cI := cI) (cJ := cJ) (cZ := cZ) hA h_13) (cwV 3 hts gX2_winsWith_X2_noonWeightBehind rfl rfl rfl (by decide +kernel) ⟨Nat.le_of_ble_eq_true rfl, Nat.le_of_ble_eq_true rfl⟩) hK hZ hP hS rfl (wc_2 A cI cJ cZ z_7) rfl rfl rfl hl.1 (Nat.le_of_ble_eq_true rfl) ⟨Nat.zero_le _, Nat.zero_le _⟩ dX2_winsWith_29 (fun H locs hP hS => ?_)
        refine lv_istore (lv' := [(7, .int r_11), (0, .ref (A 2)), (1, .int p0), (2, .int p1), (3, .int p2), (4, .int p3), (5, .int r_1), (6, .int x6_8)]) hx hb dX2_winsWith_32 hl (by decide) rfl (fun ls hl => ?_)
        refine lv_iload hx hb dX2_winsWith_34 (lv_at hl 7 rfl) ?_
        refine lv_iload_n hx hb dX2_winsWith_36 rfl (lv_at hl 2 rfl) ?_
        refine lv_icmp_eq (tgt := 62) hx hb dX2_winsWith_37 (by decide) (fun c_14 => ?_) (fun c_14 => ?_)
        · have hf := it_t c_14 hf
          obtain ⟨x6_15, ex6_15⟩ : ∃ q : Int32, q = x6_8 + (1 : Int32) := ⟨_, rfl⟩
          refine lv_iinc (v := x6_15) (lv' := [(6, .int x6_15), (7, .int r_11), (0, .ref (A 2)), (1, .int p0), (2, .int p1), (3, .int p2), (4, .int p3), (5, .int r_1)]) hx hb dX2_winsWith_62 hl (k := 7) rfl (by rw [ex6_15]; rfl) (by decide) rfl (fun ls hl => ?_)
          have hf := lt_at ex6_15 hf; clear ex6_15
          refine lv_goto (tgt := 12) hx hb dX2_winsWith_65 (by decide) ?_
          exact ihK_4 _ _ _ _ _ hf hP hS (lv_sub hl [2, 3, 4, 5, 6, 7, 0] rfl)
        · have hf := it_f c_14 hf
          refine lv_iload hx hb dX2_winsWith_40 (lv_at hl 0 rfl) ?_
          refine lv_iload hx hb dX2_winsWith_42 (lv_at hl 6 rfl) ?_
          refine lv_icmp_lt (tgt := 60) hx hb dX2_winsWith_44 (by decide) (fun c_16 => ?_) (fun c_16 => ?_)
          · have hf := it_t c_16 hf
            refine lv_iconst (v := 0) hx hb dX2_winsWith_60 (by decide) ?_
            exact retZ hx hb hr hlocks rfl hP hS hf dX2_winsWith_61
          · have hf := it_f c_16 hf
            refine lv_iload hx hb dX2_winsWith_47 (lv_at hl 0 rfl) ?_
            refine lv_iload hx hb dX2_winsWith_49 (lv_at hl 6 rfl) ?_
            refine lv_icmp_ne (tgt := 62) hx hb dX2_winsWith_51 (by decide) (fun c_17 => ?_) (fun c_17 => ?_)
            · have hf := it_f c_17 hf
              obtain ⟨x6_18, ex6_18⟩ : ∃ q : Int32, q = x6_8 + (1 : Int32) := ⟨_, rfl⟩
              refine lv_iinc (v := x6_18) (lv' := [(6, .int x6_18), (7, .int r_11), (0, .ref (A 2)), (1, .int p0), (2, .int p1), (3, .int p2), (4, .int p3), (5, .int r_1)]) hx hb dX2_winsWith_62 hl (k := 7) rfl (by rw [ex6_18]; rfl) (by decide) rfl (fun ls hl => ?_)
              have hf := lt_at ex6_18 hf; clear ex6_18
              refine lv_goto (tgt := 12) hx hb dX2_winsWith_65 (by decide) ?_
              exact ihK_4 _ _ _ _ _ hf hP hS (lv_sub hl [2, 3, 4, 5, 6, 7, 0] rfl)
            · have hf := it_t c_17 hf
              refine lv_iload hx hb dX2_winsWith_54 (lv_at hl 7 rfl) ?_
              refine lv_iload_n hx hb dX2_winsWith_56 rfl (lv_at hl 2 rfl) ?_
              refine lv_icmp_ge (tgt := 62) hx hb dX2_winsWith_57 (by decide) (fun c_19 => ?_) (fun c_19 => ?_)
              · have hf := it_t c_19 hf
                obtain ⟨x6_20, ex6_20⟩ : ∃ q : Int32, q = x6_8 + (1 : Int32) := ⟨_, rfl⟩
                refine lv_iinc (v := x6_20) (lv' := [(6, .int x6_20), (7, .int r_11), (0, .ref (A 2)), (1, .int p0), (2, .int p1), (3, .int p2), (4, .int p3), (5, .int r_1)]) hx hb dX2_winsWith_62 hl (k := 7) rfl (by rw [ex6_20]; rfl) (by decide) rfl (fun ls hl => ?_)
                have hf := lt_at ex6_20 hf; clear ex6_20
                refine lv_goto (tgt := 12) hx hb dX2_winsWith_65 (by decide) ?_
                exact ihK_4 _ _ _ _ _ hf hP hS (lv_sub hl [2, 3, 4, 5, 6, 7, 0] rfl)
              · have hf := it_f c_19 hf
                refine lv_iconst (v := 0) hx hb dX2_winsWith_60 (by decide) ?_
                exact retZ hx hb hr hlocks rfl hP hS hf dX2_winsWith_61
  exact hLK_4 FU _ _ _ _ _ hf hP hS (lv_sub hl [2, 3, 4, 5, 6, 1, 0] rfl)
set_option maxHeartbeats 4000000 in
set_option maxRecDepth 100000 in
theorem tX8_leastSureToil {l : Launch} {dC : Nat → ClassId} {dI : Nat → Nat → Nat} {A : Nat → Nat} {t0 : Nat} {cI cJ cZ : ClassId} (hA : dst A) {p0 : Int32} {p1 : Int32} {p2 : Int32} {z : Mem} {r : Int32} {z' : Mem} (hf : fX8_leastSureToil p0 p1 p2 z = some (r, z')) : MI l dC dI A t0 cI cJ cZ yX8_leastSureToil wsX8_leastSureToil 4 [.ref (A 0), .int p0, .int p1, .int p2] z r z' := by
  refine Met.ofW (cc := cX8_leastSureToil) (maxL := 5) (ret := (some .int)) (by decide) rfl ?_
  intro p e s m args below meth c s₁ B hml hv
  obtain ⟨rfl, hP, hK, hZ⟩ := hv
  have hx := B.exec
  have hb := B.bytes
  have hr := B.returns
  have hts := atoms_spec (ws := wsX8_leastSureToil) B.pre
  have hown : s.vm.findClass RX8 = some m.cls := findClass_of_methodNamed B.named
  have hlocks := B.notSynchronized
  have hS : va_S (fr A) s.heap s.heap [] := va_S.rf
  have i8 : ∀ w ∈ wsX80, w ∈ wsX8_leastSureToil := fun _ h => List.mem_cons_of_mem _ (List.mem_append_left _ (List.mem_append_right _ h))
  have hl := lv_entry ([.ref (A 0), .int p0, .int p1, .int p2]) (n := 5) (Nat.le_of_ble_eq_true rfl)
  rw [lg_entry_eq]
  generalize (lg_sl ([.ref (A 0), .int p0, .int p1, .int p2]) ++ List.replicate (5 - (lg_sl ([.ref (A 0), .int p0, .int p1, .int p2])).length) Slot.unset).toArray = ls at hl ⊢
  have hl : lv_has ls 5 [(0, .ref (A 0)), (1, .int p0), (2, .int p1), (3, .int p2)] := hl
  have hP : wIs dC dI A cI cJ cZ z s.heap := hP
  rw [fX8_leastSureToil] at hf
  refine lv_iconst (v := 0) hx hb dX8_leastSureToil_0 (by decide) ?_
  refine lv_istore (lv' := [(4, .int (0 : Int32)), (0, .ref (A 0)), (1, .int p0), (2, .int p1), (3, .int p2)]) hx hb dX8_leastSureToil_1 hl (by decide) rfl (fun ls hl => ?_)
  obtain ⟨K_1, eK_1, hf⟩ := fX8_leastSureToil_L3_g hf
  have hEK_1 : ∀ (x4_3 : Int32) (z_2 : Mem) (H : Heap) (locs : List Loc) (ls : Array Slot), K_1 x4_3 z_2 = some (r, z') → wIs dC dI A cI cJ cZ z_2 H → va_S (fr A) s.heap H locs → lv_has ls 5 [(0, .ref (A 0)), (1, .int p0), (2, .int p1), (3, .int p2), (4, .int x4_3)] → WI p l e wsX8_leastSureToil 4 s m [.ref (A 0), .int p0, .int p1, .int p2] below meth c dC dI A cI cJ cZ r z' H locs (F0 m 36 ls []) := by
    intro x4_3 z_2 H locs ls hf hP hS hl
    have hf := ap2 eK_1 hf
    refine lv_bipush (v := -9) hx hb dX8_leastSureToil_36 (by decide) ?_
    exact retI hx hb hr hlocks hP hS hf dX8_leastSureToil_38
  have hLK_1 : ∀ (n_6 : Nat) (x4_5 : Int32) (z_4 : Mem) (H : Heap) (locs : List Loc) (ls : Array Slot), fX8_leastSureToil_L3 K_1 p0 p1 p2 n_6 x4_5 z_4 = some (r, z') → wIs dC dI A cI cJ cZ z_4 H → va_S (fr A) s.heap H locs → lv_has ls 5 [(0, .ref (A 0)), (1, .int p0), (2, .int p1), (3, .int p2), (4, .int x4_5)] → WI p l e wsX8_leastSureToil 4 s m [.ref (A 0), .int p0, .int p1, .int p2] below meth c dC dI A cI cJ cZ r z' H locs (F0 m 3 ls []) := by
    intro n_6
    induction n_6 with
    | zero => intro x4_5 z_4 H locs ls hf; rw [fX8_leastSureToil_L3_0] at hf; cases hf
    | succ n_6 ihK_1 =>
      intro x4_5 z_4 H locs ls hf hP hS hl
      rw [fX8_leastSureToil_L3_s] at hf
      refine lv_iload hx hb dX8_leastSureToil_3 (lv_at hl 4 rfl) ?_
      refine lv_bipush (v := 9) hx hb dX8_leastSureToil_5 (by decide) ?_
      refine lv_iload_n hx hb dX8_leastSureToil_7 rfl (lv_at hl 2 rfl) ?_
      refine lv_imul hx hb dX8_leastSureToil_8 ?_
      refine lv_icmp_gt (tgt := 36) hx hb dX8_leastSureToil_9 (by decide) (fun c_7 => ?_) (fun c_7 => ?_)
      · have hf := it_t c_7 hf
        exact hEK_1 _ _ _ _ _ hf hP hS (lv_sub hl [0, 1, 2, 3, 4] rfl)
      · have hf := it_f c_7 hf
        refine lv_aload_n hx hb dX8_leastSureToil_12 rfl (lv_at hl 0 rfl) ?_
        refine va_get (D := (dC, dI)) (ci := 8) (v := .ref (A 2)) (C := RX8) (T := TX8) (N := 9) hx hb hts i8 hown hK hP 0 (wc_0 A cI cJ cZ z_4) rfl 1 (by decide) (hts (.fieldLink RX8 19 "LightestRules" "folk" "LLightestRules$People;") (by decide +kernel)) (fun _ h9 => h9) rfl dX8_leastSureToil_13 ?_
        refine lv_iload_n hx hb dX8_leastSureToil_16 rfl (lv_at hl 1 rfl) ?_
        refine lv_iload hx hb dX8_leastSureToil_17 (lv_at hl 4 rfl) ?_
        refine lv_iload_n hx hb dX8_leastSureToil_19 rfl (lv_at hl 2 rfl) ?_
        refine lv_iload_n hx hb dX8_leastSureToil_20 rfl (lv_at hl 3 rfl) ?_
        obtain ⟨r_8, z_9, h_10, hf⟩ := cl_el hf
        refine callVI (As := [.int p0, .int x4_5, .int p1, .int p2]) (rest := []) (ci := 2) (q0 := 2) ⟨hx, hb, hml, hown, hts⟩ (tX2_winsWith (l := l) (dC := dC) (dI := dI) (t0 := t0) (cI := cI) (cJ := cJ) (cZ := cZ) hA h_10) (cwV 4 hts gX8_leastSureToil_X2_winsWith rfl rfl rfl (by decide +kernel) ⟨Nat.le_of_ble_eq_true rfl, Nat.le_of_ble_eq_true rfl⟩) hK hZ hP hS rfl (wc_2 A cI cJ cZ z_4) rfl rfl rfl hl.1 (Nat.le_of_ble_eq_true rfl) ⟨Nat.zero_le _, Nat.zero_le _⟩ dX8_leastSureToil_21 (fun H locs hP hS => ?_)
        refine lv_if_eq (tgt := 30) hx hb dX8_leastSureToil_24 (by decide) (fun c_11 => ?_) (fun c_11 => ?_)
        · have hf := it_t c_11 hf
          obtain ⟨x4_12, ex4_12⟩ : ∃ q : Int32, q = x4_5 + (1 : Int32) := ⟨_, rfl⟩
          refine lv_iinc (v := x4_12) (lv' := [(4, .int x4_12), (0, .ref (A 0)), (1, .int p0), (2, .int p1), (3, .int p2)]) hx hb dX8_leastSureToil_30 hl (k := 4) rfl (by rw [ex4_12]; rfl) (by decide) rfl (fun ls hl => ?_)
          have hf := lt_at ex4_12 hf; clear ex4_12
          refine lv_goto (tgt := 3) hx hb dX8_leastSureToil_33 (by decide) ?_
          exact ihK_1 _ _ _ _ _ hf hP hS (lv_sub hl [1, 2, 3, 4, 0] rfl)
        · have hf := it_f c_11 hf
          refine lv_iload hx hb dX8_leastSureToil_27 (lv_at hl 4 rfl) ?_
          exact retI hx hb hr hlocks hP hS hf dX8_leastSureToil_29
  exact hLK_1 FU _ _ _ _ _ hf hP hS (lv_sub hl [1, 2, 3, 4, 0] rfl)
set_option maxHeartbeats 4000000 in
set_option maxRecDepth 100000 in
theorem tX8_toilOnDay {l : Launch} {dC : Nat → ClassId} {dI : Nat → Nat → Nat} {A : Nat → Nat} {t0 : Nat} {cI cJ cZ : ClassId} (hA : dst A) {p0 : Int32} {p1 : Int32} {p2 : Int32} {z : Mem} {r : Int32} {z' : Mem} (hf : fX8_toilOnDay p0 p1 p2 z = some (r, z')) : MI l dC dI A t0 cI cJ cZ yX8_toilOnDay wsX8_toilOnDay 0 [.int p0, .int p1, .int p2] z r z' := by
  refine Met.ofW (cc := cX8_toilOnDay) (maxL := 3) (ret := (some .int)) (by decide) rfl ?_
  intro p e s m args below meth c s₁ B hml hv
  obtain ⟨rfl, hP, hK, hZ⟩ := hv
  have hx := B.exec
  have hb := B.bytes
  have hr := B.returns
  have hts := atoms_spec (ws := wsX8_toilOnDay) B.pre
  have hown : s.vm.findClass RX8 = some m.cls := findClass_of_methodNamed B.named
  have hlocks := B.notSynchronized
  have hS : va_S (fr A) s.heap s.heap [] := va_S.rf
  have hl := lv_entry ([.int p0, .int p1, .int p2]) (n := 3) (Nat.le_of_ble_eq_true rfl)
  rw [lg_entry_eq]
  generalize (lg_sl ([.int p0, .int p1, .int p2]) ++ List.replicate (3 - (lg_sl ([.int p0, .int p1, .int p2])).length) Slot.unset).toArray = ls at hl ⊢
  have hl : lv_has ls 3 [(0, .int p0), (1, .int p1), (2, .int p2)] := hl
  have hP : wIs dC dI A cI cJ cZ z s.heap := hP
  rw [fX8_toilOnDay] at hf
  refine lv_iload_n hx hb dX8_toilOnDay_0 rfl (lv_at hl 1 rfl) ?_
  refine lv_iconst (v := 1) hx hb dX8_toilOnDay_1 (by decide) ?_
  refine lv_icmp_ge (tgt := 9) hx hb dX8_toilOnDay_2 (by decide) (fun c_1 => ?_) (fun c_1 => ?_)
  · have hf := it_t c_1 hf
    refine lv_iload_n hx hb dX8_toilOnDay_9 rfl (lv_at hl 0 rfl) ?_
    refine lv_iload_n hx hb dX8_toilOnDay_10 rfl (lv_at hl 2 rfl) ?_
    refine lv_iadd hx hb dX8_toilOnDay_11 ?_
    refine lv_iload_n hx hb dX8_toilOnDay_12 rfl (lv_at hl 1 rfl) ?_
    obtain ⟨n_2, hf⟩ := nz_el hf
    refine lv_idiv hx hb dX8_toilOnDay_13 n_2 ?_
    exact retI hx hb hr hlocks hP hS hf dX8_toilOnDay_14
  · have hf := it_f c_1 hf
    refine lv_iconst (v := 0) hx hb dX8_toilOnDay_5 (by decide) ?_
    refine lv_goto (tgt := 14) hx hb dX8_toilOnDay_6 (by decide) ?_
    exact retI hx hb hr hlocks hP hS hf dX8_toilOnDay_14
set_option maxHeartbeats 4000000 in
set_option maxRecDepth 100000 in
theorem tX8_sure {l : Launch} {dC : Nat → ClassId} {dI : Nat → Nat → Nat} {A : Nat → Nat} {t0 : Nat} {cI cJ cZ : ClassId} (hA : dst A) {p0 : Int32} {p1 : Int32} {p2 : Int32} {z : Mem} {r : Int32} {z' : Mem} (hf : fX8_sure p0 p1 p2 z = some (r, z')) : MI l dC dI A t0 cI cJ cZ yX8_sure wsX8_sure 5 [.ref (A 0), .int p0, .int p1, .int p2] z r z' := by
  refine Met.ofW (cc := cX8_sure) (maxL := 8) (ret := (some .int)) (by decide) rfl ?_
  intro p e s m args below meth c s₁ B hml hv
  obtain ⟨rfl, hP, hK, hZ⟩ := hv
  have hx := B.exec
  have hb := B.bytes
  have hr := B.returns
  have hts := atoms_spec (ws := wsX8_sure) B.pre
  have hown : s.vm.findClass RX8 = some m.cls := findClass_of_methodNamed B.named
  have hlocks := B.notSynchronized
  have hS : va_S (fr A) s.heap s.heap [] := va_S.rf
  have hl := lv_entry ([.ref (A 0), .int p0, .int p1, .int p2]) (n := 8) (Nat.le_of_ble_eq_true rfl)
  rw [lg_entry_eq]
  generalize (lg_sl ([.ref (A 0), .int p0, .int p1, .int p2]) ++ List.replicate (8 - (lg_sl ([.ref (A 0), .int p0, .int p1, .int p2])).length) Slot.unset).toArray = ls at hl ⊢
  have hl : lv_has ls 8 [(0, .ref (A 0)), (1, .int p0), (2, .int p1), (3, .int p2)] := hl
  have hP : wIs dC dI A cI cJ cZ z s.heap := hP
  rw [fX8_sure] at hf
  refine lv_aload_n hx hb dX8_sure_0 rfl (lv_at hl 0 rfl) ?_
  refine lv_iload_n hx hb dX8_sure_1 rfl (lv_at hl 1 rfl) ?_
  refine lv_iload_n hx hb dX8_sure_2 rfl (lv_at hl 2 rfl) ?_
  refine lv_iload_n hx hb dX8_sure_3 rfl (lv_at hl 3 rfl) ?_
  obtain ⟨r_1, z_2, h_3, hf⟩ := cl_el hf
  refine callVI (As := [.int p0, .int p1, .int p2]) (rest := []) (ci := 8) (q0 := 0) ⟨hx, hb, hml, hown, hts⟩ (tX8_refusalOfSure (l := l) (dC := dC) (dI := dI) (t0 := t0) (cI := cI) (cJ := cJ) (cZ := cZ) hA h_3) (cwV 3 hts gX8_sure_X8_refusalOfSure rfl rfl rfl (by decide +kernel) ⟨Nat.le_of_ble_eq_true rfl, Nat.le_of_ble_eq_true rfl⟩) hK hZ hP hS rfl (wc_0 A cI cJ cZ z) rfl rfl rfl hl.1 (Nat.le_of_ble_eq_true rfl) ⟨Nat.zero_le _, Nat.zero_le _⟩ dX8_sure_4 (fun H locs hP hS => ?_)
  refine lv_istore (lv' := [(4, .int r_1), (0, .ref (A 0)), (1, .int p0), (2, .int p1), (3, .int p2)]) hx hb dX8_sure_7 hl (by decide) rfl (fun ls hl => ?_)
  refine lv_iload hx hb dX8_sure_9 (lv_at hl 0 rfl) ?_
  refine lv_if_eq (tgt := 17) hx hb dX8_sure_11 (by decide) (fun c_4 => ?_) (fun c_4 => ?_)
  · have hf := it_t c_4 hf
    refine lv_aload_n hx hb dX8_sure_17 rfl (lv_at hl 1 rfl) ?_
    refine lv_iload_n hx hb dX8_sure_18 rfl (lv_at hl 2 rfl) ?_
    refine lv_iload_n hx hb dX8_sure_19 rfl (lv_at hl 3 rfl) ?_
    refine lv_iload_n hx hb dX8_sure_20 rfl (lv_at hl 4 rfl) ?_
    obtain ⟨r_5, z_6, h_7, hf⟩ := cl_el hf
    refine callVI (As := [.int p0, .int p1, .int p2]) (rest := []) (ci := 8) (q0 := 0) ⟨hx, hb, hml, hown, hts⟩ (tX8_leastSureToil (l := l) (dC := dC) (dI := dI) (t0 := t0) (cI := cI) (cJ := cJ) (cZ := cZ) hA h_7) (cwV 3 hts gX8_sure_X8_leastSureToil rfl rfl rfl (by decide +kernel) ⟨Nat.le_of_ble_eq_true rfl, Nat.le_of_ble_eq_true rfl⟩) hK hZ hP hS rfl (wc_0 A cI cJ cZ z_2) rfl rfl rfl hl.1 (Nat.le_of_ble_eq_true rfl) ⟨Nat.zero_le _, Nat.zero_le _⟩ dX8_sure_21 (fun H locs hP hS => ?_)
    refine lv_istore (lv' := [(5, .int r_5), (4, .int r_1), (0, .ref (A 0)), (1, .int p0), (2, .int p1), (3, .int p2)]) hx hb dX8_sure_24 hl (by decide) rfl (fun ls hl => ?_)
    refine lv_iload hx hb dX8_sure_26 (lv_at hl 0 rfl) ?_
    refine lv_bipush (v := -9) hx hb dX8_sure_28 (by decide) ?_
    refine lv_icmp_ne (tgt := 36) hx hb dX8_sure_30 (by decide) (fun c_8 => ?_) (fun c_8 => ?_)
    · have hf := it_f c_8 hf
      refine lv_iconst (v := 0) hx hb dX8_sure_36 (by decide) ?_
      refine lv_istore (lv' := [(6, .int (0 : Int32)), (5, .int r_5), (4, .int r_1), (0, .ref (A 0)), (1, .int p0), (2, .int p1), (3, .int p2)]) hx hb dX8_sure_37 hl (by decide) rfl (fun ls hl => ?_)
      refine lv_iconst (v := 0) hx hb dX8_sure_39 (by decide) ?_
      refine lv_istore (lv' := [(7, .int (0 : Int32)), (6, .int (0 : Int32)), (5, .int r_5), (4, .int r_1), (0, .ref (A 0)), (1, .int p0), (2, .int p1), (3, .int p2)]) hx hb dX8_sure_40 hl (by decide) rfl (fun ls hl => ?_)
      obtain ⟨K_9, eK_9, hf⟩ := fX8_sure_L42_g hf
      have hEK_9 : ∀ (x6_11 : Int32) (x7_12 : Int32) (z_10 : Mem) (H : Heap) (locs : List Loc) (ls : Array Slot), K_9 x6_11 x7_12 z_10 = some (r, z') → wIs dC dI A cI cJ cZ z_10 H → va_S (fr A) s.heap H locs → lv_has ls 8 [(0, .ref (A 0)), (1, .int p0), (2, .int p1), (3, .int p2), (4, .int r_1), (5, .int r_5), (6, .int x6_11), (7, .int x7_12)] → WI p l e wsX8_sure 5 s m [.ref (A 0), .int p0, .int p1, .int p2] below meth c dC dI A cI cJ cZ r z' H locs (F0 m 76 ls []) := by
        intro x6_11 x7_12 z_10 H locs ls hf hP hS hl
        have hf := ap3 eK_9 hf
        refine lv_iload hx hb dX8_sure_76 (lv_at hl 6 rfl) ?_
        exact retI hx hb hr hlocks hP hS hf dX8_sure_78
      have hLK_9 : ∀ (n_16 : Nat) (x6_14 : Int32) (x7_15 : Int32) (z_13 : Mem) (H : Heap) (locs : List Loc) (ls : Array Slot), fX8_sure_L42 K_9 p1 r_5 n_16 x6_14 x7_15 z_13 = some (r, z') → wIs dC dI A cI cJ cZ z_13 H → va_S (fr A) s.heap H locs → lv_has ls 8 [(0, .ref (A 0)), (1, .int p0), (2, .int p1), (3, .int p2), (4, .int r_1), (5, .int r_5), (6, .int x6_14), (7, .int x7_15)] → WI p l e wsX8_sure 5 s m [.ref (A 0), .int p0, .int p1, .int p2] below meth c dC dI A cI cJ cZ r z' H locs (F0 m 42 ls []) := by
        intro n_16
        induction n_16 with
        | zero => intro x6_14 x7_15 z_13 H locs ls hf; rw [fX8_sure_L42_0] at hf; cases hf
        | succ n_16 ihK_9 =>
          intro x6_14 x7_15 z_13 H locs ls hf hP hS hl
          rw [fX8_sure_L42_s] at hf
          refine lv_iload hx hb dX8_sure_42 (lv_at hl 7 rfl) ?_
          refine lv_iload_n hx hb dX8_sure_44 rfl (lv_at hl 2 rfl) ?_
          refine lv_icmp_ge (tgt := 76) hx hb dX8_sure_45 (by decide) (fun c_17 => ?_) (fun c_17 => ?_)
          · have hf := it_t c_17 hf
            exact hEK_9 _ _ _ _ _ _ hf hP hS (lv_sub hl [0, 1, 2, 3, 4, 5, 6, 7] rfl)
          · have hf := it_f c_17 hf
            refine lv_iload hx hb dX8_sure_48 (lv_at hl 6 rfl) ?_
            refine lv_iload hx hb dX8_sure_50 (lv_at hl 5 rfl) ?_
            refine lv_iload_n hx hb dX8_sure_52 rfl (lv_at hl 2 rfl) ?_
            refine lv_iload hx hb dX8_sure_53 (lv_at hl 7 rfl) ?_
            obtain ⟨r_18, z_19, h_20, hf⟩ := cl_el hf
            refine callSI (As := [.int r_5, .int p1, .int x7_15]) (rest := [.int x6_14]) ⟨hx, hb, hml, hown, hts⟩ (tX8_toilOnDay (l := l) (dC := dC) (dI := dI) (t0 := t0) (cI := cI) (cJ := cJ) (cZ := cZ) hA h_20) (va_cwS 3 hts gX8_sure_X8_toilOnDay rfl rfl rfl (by decide +kernel) ⟨Nat.le_of_ble_eq_true rfl, Nat.le_of_ble_eq_true rfl⟩) hK hZ hP hS rfl rfl hl.1 (Nat.le_of_ble_eq_true rfl) ⟨Nat.zero_le _, Nat.zero_le _⟩ dX8_sure_55 (fun H locs hP hS => ?_)
            refine lv_iload hx hb dX8_sure_58 (lv_at hl 5 rfl) ?_
            refine lv_iload_n hx hb dX8_sure_60 rfl (lv_at hl 2 rfl) ?_
            refine lv_iload hx hb dX8_sure_61 (lv_at hl 7 rfl) ?_
            obtain ⟨r_21, z_22, h_23, hf⟩ := cl_el hf
            refine callSI (As := [.int r_5, .int p1, .int x7_15]) (rest := [.int r_18, .int x6_14]) ⟨hx, hb, hml, hown, hts⟩ (tX8_toilOnDay (l := l) (dC := dC) (dI := dI) (t0 := t0) (cI := cI) (cJ := cJ) (cZ := cZ) hA h_23) (va_cwS 3 hts gX8_sure_X8_toilOnDay rfl rfl rfl (by decide +kernel) ⟨Nat.le_of_ble_eq_true rfl, Nat.le_of_ble_eq_true rfl⟩) hK hZ hP hS rfl rfl hl.1 (Nat.le_of_ble_eq_true rfl) ⟨Nat.zero_le _, Nat.zero_le _⟩ dX8_sure_63 (fun H locs hP hS => ?_)
            refine lv_imul hx hb dX8_sure_66 ?_
            refine lv_iadd hx hb dX8_sure_67 ?_
            refine lv_topi (fun x6_24 ex6_24 => ?_)
            have hf := lt_at ex6_24 hf; clear ex6_24
            refine lv_istore (lv' := [(6, .int x6_24), (0, .ref (A 0)), (1, .int p0), (2, .int p1), (3, .int p2), (4, .int r_1), (5, .int r_5), (7, .int x7_15)]) hx hb dX8_sure_68 hl (by decide) rfl (fun ls hl => ?_)
            obtain ⟨x7_25, ex7_25⟩ : ∃ q : Int32, q = x7_15 + (1 : Int32) := ⟨_, rfl⟩
            refine lv_iinc (v := x7_25) (lv' := [(7, .int x7_25), (6, .int x6_24), (0, .ref (A 0)), (1, .int p0), (2, .int p1), (3, .int p2), (4, .int r_1), (5, .int r_5)]) hx hb dX8_sure_70 hl (k := 7) rfl (by rw [ex7_25]; rfl) (by decide) rfl (fun ls hl => ?_)
            have hf := lt_at ex7_25 hf; clear ex7_25
            refine lv_goto (tgt := 42) hx hb dX8_sure_73 (by decide) ?_
            exact ihK_9 _ _ _ _ _ _ hf hP hS (lv_sub hl [2, 3, 4, 5, 6, 7, 1, 0] rfl)
      exact hLK_9 FU _ _ _ _ _ _ hf hP hS (lv_sub hl [4, 5, 6, 7, 3, 2, 1, 0] rfl)
    · have hf := it_t c_8 hf
      refine lv_bipush (v := -9) hx hb dX8_sure_33 (by decide) ?_
      exact retI hx hb hr hlocks hP hS hf dX8_sure_35
  · have hf := it_f c_4 hf
    refine lv_iload hx hb dX8_sure_14 (lv_at hl 0 rfl) ?_
    exact retI hx hb hr hlocks hP hS hf dX8_sure_16
