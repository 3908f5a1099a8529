set_option maxHeartbeats 4000000 in
set_option maxRecDepth 100000 in
theorem tX1_parts {l : Launch} {dC : Nat → ClassId} {dI : Nat → Nat → Nat} {A : Nat → Nat} {t0 : Nat} {cI cJ cZ : ClassId} (hA : dst A)  {z : Mem} {r : Int32} {z' : Mem} (hf : fX1_parts z = some (r, z')) : MI l dC dI A t0 cI cJ cZ yX1_parts wsX1_parts 0 [.ref (A 1)] z r z' := by
  refine Met.ofW (cc := cX1_parts) (maxL := 1) (ret := (some .int)) (by decide) rfl ?_
  intro p e s m args below meth c s₁ B hml hv
  obtain ⟨rfl, hP, hK, hZ⟩ := hv
  have hx := B.exec
  have hb := B.bytes
  have hr := B.returns
  have hts := atoms_spec (ws := wsX1_parts) B.pre
  have hown : s.vm.findClass RX1 = some m.cls := findClass_of_methodNamed B.named
  have hlocks := B.notSynchronized
  have hS : va_S (fr A) s.heap s.heap [] := va_S.rf
  have i1 : ∀ w ∈ wsX10, w ∈ wsX1_parts := fun _ h => List.mem_cons_of_mem _ (List.mem_append_right _ h)
  have hl := lv_entry ([.ref (A 1)]) (n := 1) (Nat.le_of_ble_eq_true rfl)
  rw [lg_entry_eq]
  generalize (lg_sl ([.ref (A 1)]) ++ List.replicate (1 - (lg_sl ([.ref (A 1)])).length) Slot.unset).toArray = ls at hl ⊢
  have hl : lv_has ls 1 [(0, .ref (A 1))] := hl
  have hP : wIs dC dI A cI cJ cZ z s.heap := hP
  rw [fX1_parts] at hf
  refine lv_aload_n hx hb dX1_parts_0 rfl (lv_at hl 0 rfl) ?_
  refine va_get (D := (dC, dI)) (ci := 1) (v := .int (z.1 1 1)) (C := RX1) (T := TX1) (N := 2) hx hb hts i1 hown hK hP 1 (wc_1 A cI cJ cZ z) rfl 1 (by decide) (hts (.fieldLink RX1 15 "LightestRules$LandText" "length" "I") (by decide +kernel)) (fun _ h9 => h9) rfl dX1_parts_1 ?_
  refine lv_iconst (v := 4) hx hb dX1_parts_4 (by decide) ?_
  refine lv_icmp_ge (tgt := 12) hx hb dX1_parts_5 (by decide) (fun c_1 => ?_) (fun c_1 => ?_)
  · have hf := it_t c_1 hf
    refine lv_aload_n hx hb dX1_parts_12 rfl (lv_at hl 0 rfl) ?_
    refine va_get (D := (dC, dI)) (ci := 1) (v := .int (z.1 1 1)) (C := RX1) (T := TX1) (N := 2) hx hb hts i1 hown hK hP 1 (wc_1 A cI cJ cZ z) rfl 1 (by decide) (hts (.fieldLink RX1 15 "LightestRules$LandText" "length" "I") (by decide +kernel)) (fun _ h9 => h9) rfl dX1_parts_13 ?_
    refine lv_iconst (v := 4) hx hb dX1_parts_16 (by decide) ?_
    refine lv_isub hx hb dX1_parts_17 ?_
    refine lv_bipush (v := 6) hx hb dX1_parts_18 (by decide) ?_
    obtain ⟨n_2, hf⟩ := nz_el hf
    refine lv_idiv hx hb dX1_parts_20 n_2 ?_
    exact retI hx hb hr hlocks hP hS hf dX1_parts_21
  · have hf := it_f c_1 hf
    refine lv_iconst (v := 0) hx hb dX1_parts_8 (by decide) ?_
    refine lv_goto (tgt := 21) hx hb dX1_parts_9 (by decide) ?_
    exact retI hx hb hr hlocks hP hS hf dX1_parts_21
set_option maxHeartbeats 4000000 in
set_option maxRecDepth 100000 in
theorem tX1_partFigure {l : Launch} {dC : Nat → ClassId} {dI : Nat → Nat → Nat} {A : Nat → Nat} {t0 : Nat} {cI cJ cZ : ClassId} (hA : dst A) {p0 : Int32} {p1 : Int32} {z : Mem} {r : Int32} {z' : Mem} (hf : fX1_partFigure p0 p1 z = some (r, z')) : MI l dC dI A t0 cI cJ cZ yX1_partFigure wsX1_partFigure 1 [.ref (A 1), .int p0, .int p1] z r z' := by
  refine Met.ofW (cc := cX1_partFigure) (maxL := 3) (ret := (some .int)) (by decide) rfl ?_
  intro p e s m args below meth c s₁ B hml hv
  obtain ⟨rfl, hP, hK, hZ⟩ := hv
  have hx := B.exec
  have hb := B.bytes
  have hr := B.returns
  have hts := atoms_spec (ws := wsX1_partFigure) B.pre
  have hown : s.vm.findClass RX1 = some m.cls := findClass_of_methodNamed B.named
  have hlocks := B.notSynchronized
  have hS : va_S (fr A) s.heap s.heap [] := va_S.rf
  have hl := lv_entry ([.ref (A 1), .int p0, .int p1]) (n := 3) (Nat.le_of_ble_eq_true rfl)
  rw [lg_entry_eq]
  generalize (lg_sl ([.ref (A 1), .int p0, .int p1]) ++ List.replicate (3 - (lg_sl ([.ref (A 1), .int p0, .int p1])).length) Slot.unset).toArray = ls at hl ⊢
  have hl : lv_has ls 3 [(0, .ref (A 1)), (1, .int p0), (2, .int p1)] := hl
  have hP : wIs dC dI A cI cJ cZ z s.heap := hP
  rw [fX1_partFigure] at hf
  refine lv_aload_n hx hb dX1_partFigure_0 rfl (lv_at hl 0 rfl) ?_
  refine lv_iconst (v := 4) hx hb dX1_partFigure_1 (by decide) ?_
  refine lv_bipush (v := 6) hx hb dX1_partFigure_2 (by decide) ?_
  refine lv_iload_n hx hb dX1_partFigure_4 rfl (lv_at hl 1 rfl) ?_
  refine lv_imul hx hb dX1_partFigure_5 ?_
  refine lv_iadd hx hb dX1_partFigure_6 ?_
  refine lv_iconst (v := 1) hx hb dX1_partFigure_7 (by decide) ?_
  refine lv_iadd hx hb dX1_partFigure_8 ?_
  refine lv_iload_n hx hb dX1_partFigure_9 rfl (lv_at hl 2 rfl) ?_
  refine lv_iadd hx hb dX1_partFigure_10 ?_
  obtain ⟨r_1, z_2, h_3, hf⟩ := cl_el hf
  refine callVI (As := [.int ((((4 : Int32) + ((6 : Int32) * p0)) + (1 : Int32)) + p1)]) (rest := []) (ci := 1) (q0 := 1) ⟨hx, hb, hml, hown, hts⟩ (tX1_figure (l := l) (dC := dC) (dI := dI) (t0 := t0) (cI := cI) (cJ := cJ) (cZ := cZ) hA h_3) (cwV 1 hts gX1_partFigure_X1_figure rfl rfl rfl (by decide +kernel) ⟨Nat.le_of_ble_eq_true rfl, Nat.le_of_ble_eq_true rfl⟩) hK hZ hP hS rfl (wc_1 A cI cJ cZ z) rfl rfl rfl hl.1 (Nat.le_of_ble_eq_true rfl) ⟨Nat.zero_le _, Nat.zero_le _⟩ dX1_partFigure_11 (fun H locs hP hS => ?_)
  exact retI hx hb hr hlocks hP hS hf dX1_partFigure_14
set_option maxHeartbeats 4000000 in
set_option maxRecDepth 100000 in
theorem tX2_add_2 {l : Launch} {dC : Nat → ClassId} {dI : Nat → Nat → Nat} {A : Nat → Nat} {t0 : Nat} {cI cJ cZ : ClassId} (hA : dst A) {p0 : Int32} {p1 : Int32} {p2 : Int32} {z : Mem} {ru : Unit} {z' : Mem} (hf : fX2_add_2 p0 p1 p2 z = some (ru, z')) : MV l dC dI A t0 cI cJ cZ yX2_add wsX2_add 0 [.ref (A 2), .int p0, .int p1, .int p2] z z' := by
  refine Met.ofW (cc := cX2_add) (maxL := 5) (ret := none) (by decide) rfl ?_
  intro p e s m args below meth c s₁ B hml hv
  obtain ⟨rfl, hP, hK, hZ⟩ := hv
  have hx := B.exec
  have hb := B.bytes
  have hr := B.returns
  have hts := atoms_spec (ws := wsX2_add) B.pre
  have hown : s.vm.findClass RX2 = some m.cls := findClass_of_methodNamed B.named
  have hlocks := B.notSynchronized
  have hS : va_S (fr A) s.heap s.heap [] := va_S.rf
  have i2 : ∀ w ∈ wsX20, w ∈ wsX2_add := fun _ h => List.mem_cons_of_mem _ (List.mem_append_right _ h)
  have hl := lv_entry ([.ref (A 2), .int p0, .int p1, .int p2]) (n := 5) (Nat.le_of_ble_eq_true rfl)
  rw [lg_entry_eq]
  generalize (lg_sl ([.ref (A 2), .int p0, .int p1, .int p2]) ++ List.replicate (5 - (lg_sl ([.ref (A 2), .int p0, .int p1, .int p2])).length) Slot.unset).toArray = ls at hl ⊢
  have hl : lv_has ls 5 [(0, .ref (A 2)), (1, .int p0), (2, .int p1), (3, .int p2)] := hl
  have hP : wIs dC dI A cI cJ cZ z s.heap := hP
  rw [fX2_add_2] at hf
  refine lv_iload_n hx hb dX2_add_0 rfl (lv_at hl 1 rfl) ?_
  refine lv_iconst (v := 5) hx hb dX2_add_1 (by decide) ?_
  refine lv_imul hx hb dX2_add_2 ?_
  refine lv_iload_n hx hb dX2_add_3 rfl (lv_at hl 2 rfl) ?_
  refine lv_iadd hx hb dX2_add_4 ?_
  refine lv_topi (fun x4_1 ex4_1 => ?_)
  have hf := lt_at ex4_1 hf; clear ex4_1
  refine lv_istore (lv' := [(4, .int x4_1), (0, .ref (A 2)), (1, .int p0), (2, .int p1), (3, .int p2)]) hx hb dX2_add_5 hl (by decide) rfl (fun ls hl => ?_)
  refine lv_iload hx hb dX2_add_7 (lv_at hl 0 rfl) ?_
  refine lv_if_lt (tgt := 30) hx hb dX2_add_9 (by decide) (fun c_2 => ?_) (fun c_2 => ?_)
  · have hf := it_t c_2 hf
    exact retV hx hb hr hlocks hP hS hf dX2_add_30
  · have hf := it_f c_2 hf
    refine lv_iload hx hb dX2_add_12 (lv_at hl 0 rfl) ?_
    refine lv_bipush (v := 25) hx hb dX2_add_14 (by decide) ?_
    refine lv_icmp_ge (tgt := 30) hx hb dX2_add_16 (by decide) (fun c_3 => ?_) (fun c_3 => ?_)
    · have hf := it_t c_3 hf
      exact retV hx hb hr hlocks hP hS hf dX2_add_30
    · have hf := it_f c_3 hf
      refine lv_aload_n hx hb dX2_add_19 rfl (lv_at hl 1 rfl) ?_
      refine va_get (D := (dC, dI)) (ci := 2) (v := .ref (A 11)) (C := RX2) (T := TX2) (N := 4) hx hb hts i2 hown hK hP 2 (wc_2 A cI cJ cZ z) rfl 0 (by decide) (hts (.fieldLink RX2 11 "LightestRules$People" "cells" "[I") (by decide +kernel)) (fun _ h9 => h9) rfl dX2_add_20 ?_
      refine lv_iload hx hb dX2_add_23 (lv_at hl 0 rfl) ?_
      refine lv_dup2_11 hx hb dX2_add_25 rfl rfl ?_
      obtain ⟨n_4, hf⟩ := rg_el hf
      refine va_iald hx hb hK hP 11 0 (wc_11 A cI cJ cZ z) rfl n_4 dX2_add_26 ?_
      refine lv_topi (fun a_5 ea_5 => ?_)
      have hf := lt_at ea_5 hf; clear ea_5
      refine lv_iload_n hx hb dX2_add_27 rfl (lv_at hl 4 rfl) ?_
      refine lv_iadd hx hb dX2_add_28 ?_
      refine lv_topi (fun y_6 ey_6 => ?_)
      have hf := lt_at ey_6 hf; clear ey_6
      obtain ⟨n_7, hf⟩ := rg_el hf
      refine va_iast hx hb hK hP (wD hA cI cJ cZ z) hS 11 0 (wc_11 A cI cJ cZ z) rfl n_7 dX2_add_29 (fun H locs hP _ hS => ?_)
      rw [wa_11 A cI cJ cZ z x4_1.toNatClampNeg y_6] at hP
      obtain ⟨z_8, hP, hf⟩ := lt_P (P := fun q => wIs dC dI A cI cJ cZ q H) hP hf
      exact retV hx hb hr hlocks hP hS hf dX2_add_30
set_option maxHeartbeats 4000000 in
set_option maxRecDepth 100000 in
theorem tX2_settle {l : Launch} {dC : Nat → ClassId} {dI : Nat → Nat → Nat} {A : Nat → Nat} {t0 : Nat} {cI cJ cZ : ClassId} (hA : dst A)  {z : Mem} {ru : Unit} {z' : Mem} (hf : fX2_settle z = some (ru, z')) : MV l dC dI A t0 cI cJ cZ yX2_settle wsX2_settle 2 [.ref (A 2), .ref (A 1)] z z' := by
  refine Met.ofW (cc := cX2_settle) (maxL := 3) (ret := none) (by decide) rfl ?_
  intro p e s m args below meth c s₁ B hml hv
  obtain ⟨rfl, hP, hK, hZ⟩ := hv
  have hx := B.exec
  have hb := B.bytes
  have hr := B.returns
  have hts := atoms_spec (ws := wsX2_settle) B.pre
  have hown : s.vm.findClass RX2 = some m.cls := findClass_of_methodNamed B.named
  have hlocks := B.notSynchronized
  have hS : va_S (fr A) s.heap s.heap [] := va_S.rf
  have i2 : ∀ w ∈ wsX20, w ∈ wsX2_settle := fun _ h => List.mem_cons_of_mem _ (List.mem_append_left _ (List.mem_append_right _ h))
  have hl := lv_entry ([.ref (A 2), .ref (A 1)]) (n := 3) (Nat.le_of_ble_eq_true rfl)
  rw [lg_entry_eq]
  generalize (lg_sl ([.ref (A 2), .ref (A 1)]) ++ List.replicate (3 - (lg_sl ([.ref (A 2), .ref (A 1)])).length) Slot.unset).toArray = ls at hl ⊢
  have hl : lv_has ls 3 [(0, .ref (A 2)), (1, .ref (A 1))] := hl
  have hP : wIs dC dI A cI cJ cZ z s.heap := hP
  rw [fX2_settle] at hf
  refine lv_aload_n hx hb dX2_settle_0 rfl (lv_at hl 0 rfl) ?_
  refine va_get (D := (dC, dI)) (ci := 2) (v := .ref (A 11)) (C := RX2) (T := TX2) (N := 4) hx hb hts i2 hown hK hP 2 (wc_2 A cI cJ cZ z) rfl 0 (by decide) (hts (.fieldLink RX2 11 "LightestRules$People" "cells" "[I") (by decide +kernel)) (fun _ h9 => h9) rfl dX2_settle_1 ?_
  refine lv_iconst (v := 0) hx hb dX2_settle_4 (by decide) ?_
  obtain ⟨r_1, z_2, h_3, hf⟩ := cl_el hf
  refine callSV (As := [.ref (A 11), .int (0 : Int32)]) (rest := []) ⟨hx, hb, hml, hown, hts⟩ (tJ7_fill_53178_11 (l := l) (dC := dC) (dI := dI) (t0 := t0) (cI := cI) (cJ := cJ) (cZ := cZ) hA h_3) (va_cwS 2 hts gX2_settle_J7_fill_53178 rfl rfl rfl (by decide +kernel) ⟨Nat.le_of_ble_eq_true rfl, Nat.le_of_ble_eq_true rfl⟩) hK hZ hP hS rfl rfl hl.1 (Nat.le_of_ble_eq_true rfl) ⟨Nat.zero_le _, Nat.zero_le _⟩ dX2_settle_5 (fun H locs hP hS => ?_)
  refine lv_aload_n hx hb dX2_settle_8 rfl (lv_at hl 0 rfl) ?_
  refine lv_aload_n hx hb dX2_settle_9 rfl (lv_at hl 1 rfl) ?_
  refine lv_iconst (v := 2) hx hb dX2_settle_10 (by decide) ?_
  obtain ⟨r_4, z_5, h_6, hf⟩ := cl_el hf
  refine callVI (As := [.int (2 : Int32)]) (rest := [.ref (A 2)]) (ci := 1) (q0 := 1) ⟨hx, hb, hml, hown, hts⟩ (tX1_figure (l := l) (dC := dC) (dI := dI) (t0 := t0) (cI := cI) (cJ := cJ) (cZ := cZ) hA h_6) (cwV 1 hts gX2_settle_X1_figure rfl rfl rfl (by decide +kernel) ⟨Nat.le_of_ble_eq_true rfl, Nat.le_of_ble_eq_true rfl⟩) hK hZ hP hS rfl (wc_1 A cI cJ cZ z_2) rfl rfl rfl hl.1 (Nat.le_of_ble_eq_true rfl) ⟨Nat.zero_le _, Nat.zero_le _⟩ dX2_settle_11 (fun H locs hP hS => ?_)
  refine va_put (D := (dC, dI)) (ci := 2) (v := .int r_4) (ty := .int) (C := RX2) (T := TX2) (N := 4) hx hb hts i2 tyX2 tyX2_ok nmX2 hown hK hP (wD hA cI cJ cZ z_5) hS 2 (wc_2 A cI cJ cZ z_5) rfl 2 (by decide) (hts (.fieldLink RX2 19 "LightestRules$People" "burn" "I") (by decide +kernel)) (fun _ h9 => h9) rfl (by decide +kernel) rfl rfl (Nat.le_of_ble_eq_true rfl) dX2_settle_14 (fun H locs hP _ hS => ?_)
  rw [ws_2_2 A cI cJ cZ z_5 r_4] at hP
  obtain ⟨z_7, hP, hf⟩ := lt_P (P := fun q => wIs dC dI A cI cJ cZ q H) hP hf
  refine lv_aload_n hx hb dX2_settle_17 rfl (lv_at hl 0 rfl) ?_
  refine lv_aload_n hx hb dX2_settle_18 rfl (lv_at hl 1 rfl) ?_
  refine lv_iconst (v := 3) hx hb dX2_settle_19 (by decide) ?_
  obtain ⟨r_8, z_9, h_10, hf⟩ := cl_el hf
  refine callVI (As := [.int (3 : Int32)]) (rest := [.ref (A 2)]) (ci := 1) (q0 := 1) ⟨hx, hb, hml, hown, hts⟩ (tX1_figure (l := l) (dC := dC) (dI := dI) (t0 := t0) (cI := cI) (cJ := cJ) (cZ := cZ) hA h_10) (cwV 1 hts gX2_settle_X1_figure rfl rfl rfl (by decide +kernel) ⟨Nat.le_of_ble_eq_true rfl, Nat.le_of_ble_eq_true rfl⟩) hK hZ hP hS rfl (wc_1 A cI cJ cZ z_7) rfl rfl rfl hl.1 (Nat.le_of_ble_eq_true rfl) ⟨Nat.zero_le _, Nat.zero_le _⟩ dX2_settle_20 (fun H locs hP hS => ?_)
  refine va_put (D := (dC, dI)) (ci := 2) (v := .int r_8) (ty := .int) (C := RX2) (T := TX2) (N := 4) hx hb hts i2 tyX2 tyX2_ok nmX2 hown hK hP (wD hA cI cJ cZ z_9) hS 2 (wc_2 A cI cJ cZ z_9) rfl 3 (by decide) (hts (.fieldLink RX2 22 "LightestRules$People" "ill" "I") (by decide +kernel)) (fun _ h9 => h9) rfl (by decide +kernel) rfl rfl (Nat.le_of_ble_eq_true rfl) dX2_settle_23 (fun H locs hP _ hS => ?_)
  rw [ws_2_3 A cI cJ cZ z_9 r_8] at hP
  obtain ⟨z_11, hP, hf⟩ := lt_P (P := fun q => wIs dC dI A cI cJ cZ q H) hP hf
  refine lv_aload_n hx hb dX2_settle_26 rfl (lv_at hl 0 rfl) ?_
  refine lv_aload_n hx hb dX2_settle_27 rfl (lv_at hl 1 rfl) ?_
  obtain ⟨r_12, z_13, h_14, hf⟩ := cl_el hf
  refine callVI (As := []) (rest := [.ref (A 2)]) (ci := 1) (q0 := 1) ⟨hx, hb, hml, hown, hts⟩ (tX1_parts (l := l) (dC := dC) (dI := dI) (t0 := t0) (cI := cI) (cJ := cJ) (cZ := cZ) hA h_14) (cwV 0 hts gX2_settle_X1_parts rfl rfl rfl (by decide +kernel) ⟨Nat.le_of_ble_eq_true rfl, Nat.le_of_ble_eq_true rfl⟩) hK hZ hP hS rfl (wc_1 A cI cJ cZ z_11) rfl rfl rfl hl.1 (Nat.le_of_ble_eq_true rfl) ⟨Nat.zero_le _, Nat.zero_le _⟩ dX2_settle_28 (fun H locs hP hS => ?_)
  refine lv_iconst (v := 5) hx hb dX2_settle_31 (by decide) ?_
  refine va_mmin hx hb (hml.trans hl.1.symm) hown (hts (.methodLink RX2 41 Lib.Math.min.name) (by decide +kernel)) (hts (.static Lib.Math.min.name) (by decide +kernel)) (hts (.initialized "java/lang/Math" ) (by decide +kernel)) (hts (.code Lib.Math.min.name Lib.Math.min.code 2 (some .int)) (by decide +kernel)) (Nat.le_of_ble_eq_true rfl) (Nat.le_of_ble_eq_true rfl) (Nat.zero_le _) (Nat.zero_le _) dX2_settle_32 ?_
  refine lv_topi (fun y_15 ey_15 => ?_)
  have hf := lt_at ey_15 hf; clear ey_15
  refine va_put (D := (dC, dI)) (ci := 2) (v := .int y_15) (ty := .int) (C := RX2) (T := TX2) (N := 4) hx hb hts i2 tyX2 tyX2_ok nmX2 hown hK hP (wD hA cI cJ cZ z_13) hS 2 (wc_2 A cI cJ cZ z_13) rfl 1 (by decide) (hts (.fieldLink RX2 15 "LightestRules$People" "size" "I") (by decide +kernel)) (fun _ h9 => h9) rfl (by decide +kernel) rfl rfl (Nat.le_of_ble_eq_true rfl) dX2_settle_35 (fun H locs hP _ hS => ?_)
  rw [ws_2_1 A cI cJ cZ z_13 y_15] at hP
  obtain ⟨z_16, hP, hf⟩ := lt_P (P := fun q => wIs dC dI A cI cJ cZ q H) hP hf
  refine lv_iconst (v := 0) hx hb dX2_settle_38 (by decide) ?_
  refine lv_istore_n (lv' := [(2, .int (0 : Int32)), (0, .ref (A 2)), (1, .ref (A 1))]) hx hb dX2_settle_39 rfl hl (by decide) rfl (fun ls hl => ?_)
  obtain ⟨K_17, eK_17, hf⟩ := fX2_settle_L40_g hf
  have hEK_17 : ∀ (x2_19 : Int32) (z_18 : Mem) (H : Heap) (locs : List Loc) (ls : Array Slot), K_17 x2_19 z_18 = some (ru, z') → wIs dC dI A cI cJ cZ z_18 H → va_S (fr A) s.heap H locs → lv_has ls 3 [(0, .ref (A 2)), (1, .ref (A 1)), (2, .int x2_19)] → WV p l e wsX2_settle 2 s m [.ref (A 2), .ref (A 1)] below meth c dC dI A cI cJ cZ z' H locs (F0 m 110 ls []) := by
    intro x2_19 z_18 H locs ls hf hP hS hl
    have hf := ap2 eK_17 hf
    exact retV hx hb hr hlocks hP hS hf dX2_settle_110
  have hLK_17 : ∀ (n_22 : Nat) (x2_21 : Int32) (z_20 : Mem) (H : Heap) (locs : List Loc) (ls : Array Slot), fX2_settle_L40 K_17  n_22 x2_21 z_20 = some (ru, z') → wIs dC dI A cI cJ cZ z_20 H → va_S (fr A) s.heap H locs → lv_has ls 3 [(0, .ref (A 2)), (1, .ref (A 1)), (2, .int x2_21)] → WV p l e wsX2_settle 2 s m [.ref (A 2), .ref (A 1)] below meth c dC dI A cI cJ cZ z' H locs (F0 m 40 ls []) := by
    intro n_22
    induction n_22 with
    | zero => intro x2_21 z_20 H locs ls hf; rw [fX2_settle_L40_0] at hf; cases hf
    | succ n_22 ihK_17 =>
      intro x2_21 z_20 H locs ls hf hP hS hl
      rw [fX2_settle_L40_s] at hf
      refine lv_iload_n hx hb dX2_settle_40 rfl (lv_at hl 2 rfl) ?_
      refine lv_aload_n hx hb dX2_settle_41 rfl (lv_at hl 0 rfl) ?_
      refine va_get (D := (dC, dI)) (ci := 2) (v := .int (z_20.1 2 1)) (C := RX2) (T := TX2) (N := 4) hx hb hts i2 hown hK hP 2 (wc_2 A cI cJ cZ z_20) rfl 1 (by decide) (hts (.fieldLink RX2 15 "LightestRules$People" "size" "I") (by decide +kernel)) (fun _ h9 => h9) rfl dX2_settle_42 ?_
      refine lv_icmp_ge (tgt := 110) hx hb dX2_settle_45 (by decide) (fun c_23 => ?_) (fun c_23 => ?_)
      · have hf := it_t c_23 hf
        exact hEK_17 _ _ _ _ _ hf hP hS (lv_sub hl [0, 1, 2] rfl)
      · have hf := it_f c_23 hf
        refine lv_aload_n hx hb dX2_settle_48 rfl (lv_at hl 0 rfl) ?_
        refine lv_iload_n hx hb dX2_settle_49 rfl (lv_at hl 2 rfl) ?_
        refine lv_iconst (v := 0) hx hb dX2_settle_50 (by decide) ?_
        refine lv_bipush (v := 100) hx hb dX2_settle_51 (by decide) ?_
        refine lv_aload_n hx hb dX2_settle_53 rfl (lv_at hl 1 rfl) ?_
        refine lv_iload_n hx hb dX2_settle_54 rfl (lv_at hl 2 rfl) ?_
        refine lv_iconst (v := 0) hx hb dX2_settle_55 (by decide) ?_
        obtain ⟨r_24, z_25, h_26, hf⟩ := cl_el hf
        refine callVI (As := [.int x2_21, .int (0 : Int32)]) (rest := [.int (100 : Int32), .int (0 : Int32), .int x2_21, .ref (A 2)]) (ci := 1) (q0 := 1) ⟨hx, hb, hml, hown, hts⟩ (tX1_partFigure (l := l) (dC := dC) (dI := dI) (t0 := t0) (cI := cI) (cJ := cJ) (cZ := cZ) hA h_26) (cwV 2 hts gX2_settle_X1_partFigure rfl rfl rfl (by decide +kernel) ⟨Nat.le_of_ble_eq_true rfl, Nat.le_of_ble_eq_true rfl⟩) hK hZ hP hS rfl (wc_1 A cI cJ cZ z_20) rfl rfl rfl hl.1 (Nat.le_of_ble_eq_true rfl) ⟨Nat.zero_le _, Nat.zero_le _⟩ dX2_settle_56 (fun H locs hP hS => ?_)
        refine lv_imul hx hb dX2_settle_59 ?_
        refine lv_bipush (v := 10) hx hb dX2_settle_60 (by decide) ?_
        refine lv_aload_n hx hb dX2_settle_62 rfl (lv_at hl 1 rfl) ?_
        refine lv_iload_n hx hb dX2_settle_63 rfl (lv_at hl 2 rfl) ?_
        refine lv_iconst (v := 1) hx hb dX2_settle_64 (by decide) ?_
        obtain ⟨r_27, z_28, h_29, hf⟩ := cl_el hf
        refine callVI (As := [.int x2_21, .int (1 : Int32)]) (rest := [.int (10 : Int32), .int ((100 : Int32) * r_24), .int (0 : Int32), .int x2_21, .ref (A 2)]) (ci := 1) (q0 := 1) ⟨hx, hb, hml, hown, hts⟩ (tX1_partFigure (l := l) (dC := dC) (dI := dI) (t0 := t0) (cI := cI) (cJ := cJ) (cZ := cZ) hA h_29) (cwV 2 hts gX2_settle_X1_partFigure rfl rfl rfl (by decide +kernel) ⟨Nat.le_of_ble_eq_true rfl, Nat.le_of_ble_eq_true rfl⟩) hK hZ hP hS rfl (wc_1 A cI cJ cZ z_25) rfl rfl rfl hl.1 (Nat.le_of_ble_eq_true rfl) ⟨Nat.zero_le _, Nat.zero_le _⟩ dX2_settle_65 (fun H locs hP hS => ?_)
        refine lv_imul hx hb dX2_settle_68 ?_
        refine lv_iadd hx hb dX2_settle_69 ?_
        refine lv_aload_n hx hb dX2_settle_70 rfl (lv_at hl 1 rfl) ?_
        refine lv_iload_n hx hb dX2_settle_71 rfl (lv_at hl 2 rfl) ?_
        refine lv_iconst (v := 2) hx hb dX2_settle_72 (by decide) ?_
        obtain ⟨r_30, z_31, h_32, hf⟩ := cl_el hf
        refine callVI (As := [.int x2_21, .int (2 : Int32)]) (rest := [.int (((100 : Int32) * r_24) + ((10 : Int32) * r_27)), .int (0 : Int32), .int x2_21, .ref (A 2)]) (ci := 1) (q0 := 1) ⟨hx, hb, hml, hown, hts⟩ (tX1_partFigure (l := l) (dC := dC) (dI := dI) (t0 := t0) (cI := cI) (cJ := cJ) (cZ := cZ) hA h_32) (cwV 2 hts gX2_settle_X1_partFigure rfl rfl rfl (by decide +kernel) ⟨Nat.le_of_ble_eq_true rfl, Nat.le_of_ble_eq_true rfl⟩) hK hZ hP hS rfl (wc_1 A cI cJ cZ z_28) rfl rfl rfl hl.1 (Nat.le_of_ble_eq_true rfl) ⟨Nat.zero_le _, Nat.zero_le _⟩ dX2_settle_73 (fun H locs hP hS => ?_)
        refine lv_iadd hx hb dX2_settle_76 ?_
        obtain ⟨r_33, z_34, h_35, hf⟩ := cl_el hf
        refine callVV (As := [.int x2_21, .int (0 : Int32), .int ((((100 : Int32) * r_24) + ((10 : Int32) * r_27)) + r_30)]) (rest := []) (ci := 2) (q0 := 2) ⟨hx, hb, hml, hown, hts⟩ (tX2_add_2 (l := l) (dC := dC) (dI := dI) (t0 := t0) (cI := cI) (cJ := cJ) (cZ := cZ) hA h_35) (cwV 3 hts gX2_settle_X2_add rfl rfl rfl (by decide +kernel) ⟨Nat.le_of_ble_eq_true rfl, Nat.le_of_ble_eq_true rfl⟩) hK hZ hP hS rfl (wc_2 A cI cJ cZ z_31) rfl rfl rfl hl.1 (Nat.le_of_ble_eq_true rfl) ⟨Nat.zero_le _, Nat.zero_le _⟩ dX2_settle_77 (fun H locs hP hS => ?_)
        refine lv_aload_n hx hb dX2_settle_80 rfl (lv_at hl 0 rfl) ?_
        refine lv_iload_n hx hb dX2_settle_81 rfl (lv_at hl 2 rfl) ?_
        refine lv_iconst (v := 1) hx hb dX2_settle_82 (by decide) ?_
        refine lv_aload_n hx hb dX2_settle_83 rfl (lv_at hl 1 rfl) ?_
        refine lv_iload_n hx hb dX2_settle_84 rfl (lv_at hl 2 rfl) ?_
        refine lv_iconst (v := 3) hx hb dX2_settle_85 (by decide) ?_
        obtain ⟨r_36, z_37, h_38, hf⟩ := cl_el hf
        refine callVI (As := [.int x2_21, .int (3 : Int32)]) (rest := [.int (1 : Int32), .int x2_21, .ref (A 2)]) (ci := 1) (q0 := 1) ⟨hx, hb, hml, hown, hts⟩ (tX1_partFigure (l := l) (dC := dC) (dI := dI) (t0 := t0) (cI := cI) (cJ := cJ) (cZ := cZ) hA h_38) (cwV 2 hts gX2_settle_X1_partFigure rfl rfl rfl (by decide +kernel) ⟨Nat.le_of_ble_eq_true rfl, Nat.le_of_ble_eq_true rfl⟩) hK hZ hP hS rfl (wc_1 A cI cJ cZ z_34) rfl rfl rfl hl.1 (Nat.le_of_ble_eq_true rfl) ⟨Nat.zero_le _, Nat.zero_le _⟩ dX2_settle_86 (fun H locs hP hS => ?_)
        obtain ⟨r_39, z_40, h_41, hf⟩ := cl_el hf
        refine callVV (As := [.int x2_21, .int (1 : Int32), .int r_36]) (rest := []) (ci := 2) (q0 := 2) ⟨hx, hb, hml, hown, hts⟩ (tX2_add_2 (l := l) (dC := dC) (dI := dI) (t0 := t0) (cI := cI) (cJ := cJ) (cZ := cZ) hA h_41) (cwV 3 hts gX2_settle_X2_add rfl rfl rfl (by decide +kernel) ⟨Nat.le_of_ble_eq_true rfl, Nat.le_of_ble_eq_true rfl⟩) hK hZ hP hS rfl (wc_2 A cI cJ cZ z_37) rfl rfl rfl hl.1 (Nat.le_of_ble_eq_true rfl) ⟨Nat.zero_le _, Nat.zero_le _⟩ dX2_settle_89 (fun H locs hP hS => ?_)
        refine lv_aload_n hx hb dX2_settle_92 rfl (lv_at hl 0 rfl) ?_
        refine lv_iload_n hx hb dX2_settle_93 rfl (lv_at hl 2 rfl) ?_
        refine lv_iconst (v := 2) hx hb dX2_settle_94 (by decide) ?_
        refine lv_aload_n hx hb dX2_settle_95 rfl (lv_at hl 1 rfl) ?_
        refine lv_iload_n hx hb dX2_settle_96 rfl (lv_at hl 2 rfl) ?_
        refine lv_iconst (v := 4) hx hb dX2_settle_97 (by decide) ?_
        obtain ⟨r_42, z_43, h_44, hf⟩ := cl_el hf
        refine callVI (As := [.int x2_21, .int (4 : Int32)]) (rest := [.int (2 : Int32), .int x2_21, .ref (A 2)]) (ci := 1) (q0 := 1) ⟨hx, hb, hml, hown, hts⟩ (tX1_partFigure (l := l) (dC := dC) (dI := dI) (t0 := t0) (cI := cI) (cJ := cJ) (cZ := cZ) hA h_44) (cwV 2 hts gX2_settle_X1_partFigure rfl rfl rfl (by decide +kernel) ⟨Nat.le_of_ble_eq_true rfl, Nat.le_of_ble_eq_true rfl⟩) hK hZ hP hS rfl (wc_1 A cI cJ cZ z_40) rfl rfl rfl hl.1 (Nat.le_of_ble_eq_true rfl) ⟨Nat.zero_le _, Nat.zero_le _⟩ dX2_settle_98 (fun H locs hP hS => ?_)
        obtain ⟨r_45, z_46, h_47, hf⟩ := cl_el hf
        refine callVV (As := [.int x2_21, .int (2 : Int32), .int r_42]) (rest := []) (ci := 2) (q0 := 2) ⟨hx, hb, hml, hown, hts⟩ (tX2_add_2 (l := l) (dC := dC) (dI := dI) (t0 := t0) (cI := cI) (cJ := cJ) (cZ := cZ) hA h_47) (cwV 3 hts gX2_settle_X2_add rfl rfl rfl (by decide +kernel) ⟨Nat.le_of_ble_eq_true rfl, Nat.le_of_ble_eq_true rfl⟩) hK hZ hP hS rfl (wc_2 A cI cJ cZ z_43) rfl rfl rfl hl.1 (Nat.le_of_ble_eq_true rfl) ⟨Nat.zero_le _, Nat.zero_le _⟩ dX2_settle_101 (fun H locs hP hS => ?_)
        obtain ⟨x2_48, ex2_48⟩ : ∃ q : Int32, q = x2_21 + (1 : Int32) := ⟨_, rfl⟩
        refine lv_iinc (v := x2_48) (lv' := [(2, .int x2_48), (0, .ref (A 2)), (1, .ref (A 1))]) hx hb dX2_settle_104 hl (k := 2) rfl (by rw [ex2_48]; rfl) (by decide) rfl (fun ls hl => ?_)
        have hf := lt_at ex2_48 hf; clear ex2_48
        refine lv_goto (tgt := 40) hx hb dX2_settle_107 (by decide) ?_
        exact ihK_17 _ _ _ _ _ hf hP hS (lv_sub hl [1, 2, 0] rfl)
  exact hLK_17 FU _ _ _ _ _ hf hP hS (lv_sub hl [1, 2, 0] rfl)
set_option maxHeartbeats 4000000 in
set_option maxRecDepth 100000 in
theorem tX0_clear {l : Launch} {dC : Nat → ClassId} {dI : Nat → Nat → Nat} {A : Nat → Nat} {t0 : Nat} {cI cJ cZ : ClassId} (hA : dst A)  {z : Mem} {ru : Unit} {z' : Mem} (hf : fX0_clear z = some (ru, z')) : MV l dC dI A t0 cI cJ cZ yX0_clear wsX0_clear 0 [.ref (A 3)] z z' := by
  refine Met.ofW (cc := cX0_clear) (maxL := 1) (ret := none) (by decide) rfl ?_
  intro p e s m args below meth c s₁ B hml hv
  obtain ⟨rfl, hP, hK, hZ⟩ := hv
  have hx := B.exec
  have hb := B.bytes
  have hr := B.returns
  have hts := atoms_spec (ws := wsX0_clear) B.pre
  have hown : s.vm.findClass RX0 = some m.cls := findClass_of_methodNamed B.named
  have hlocks := B.notSynchronized
  have hS : va_S (fr A) s.heap s.heap [] := va_S.rf
  have i0 : ∀ w ∈ wsX00, w ∈ wsX0_clear := fun _ h => List.mem_cons_of_mem _ (List.mem_append_right _ h)
  have hl := lv_entry ([.ref (A 3)]) (n := 1) (Nat.le_of_ble_eq_true rfl)
  rw [lg_entry_eq]
  generalize (lg_sl ([.ref (A 3)]) ++ List.replicate (1 - (lg_sl ([.ref (A 3)])).length) Slot.unset).toArray = ls at hl ⊢
  have hl : lv_has ls 1 [(0, .ref (A 3))] := hl
  have hP : wIs dC dI A cI cJ cZ z s.heap := hP
  rw [fX0_clear] at hf
  refine lv_aload_n hx hb dX0_clear_0 rfl (lv_at hl 0 rfl) ?_
  refine lv_iconst (v := 0) hx hb dX0_clear_1 (by decide) ?_
  refine va_put (D := (dC, dI)) (ci := 0) (v := .int (0 : Int32)) (ty := .int) (C := RX0) (T := TX0) (N := 3) hx hb hts i0 tyX0 tyX0_ok nmX0 hown hK hP (wD hA cI cJ cZ z) hS 3 (wc_3 A cI cJ cZ z) rfl 2 (by decide) (hts (.fieldLink RX0 19 "LightestRules$ActRow" "length" "I") (by decide +kernel)) (fun _ h9 => h9) rfl (by decide +kernel) rfl rfl (Nat.le_of_ble_eq_true rfl) dX0_clear_2 (fun H locs hP _ hS => ?_)
  rw [ws_3_2 A cI cJ cZ z (0 : Int32)] at hP
  obtain ⟨z_1, hP, hf⟩ := lt_P (P := fun q => wIs dC dI A cI cJ cZ q H) hP hf
  exact retV hx hb hr hlocks hP hS hf dX0_clear_5
set_option maxHeartbeats 4000000 in
set_option maxRecDepth 100000 in
theorem tX5_clear {l : Launch} {dC : Nat → ClassId} {dI : Nat → Nat → Nat} {A : Nat → Nat} {t0 : Nat} {cI cJ cZ : ClassId} (hA : dst A)  {z : Mem} {ru : Unit} {z' : Mem} (hf : fX5_clear z = some (ru, z')) : MV l dC dI A t0 cI cJ cZ yX5_clear wsX5_clear 0 [.ref (A 4)] z z' := by
  refine Met.ofW (cc := cX5_clear) (maxL := 1) (ret := none) (by decide) rfl ?_
  intro p e s m args below meth c s₁ B hml hv
  obtain ⟨rfl, hP, hK, hZ⟩ := hv
  have hx := B.exec
  have hb := B.bytes
  have hr := B.returns
  have hts := atoms_spec (ws := wsX5_clear) B.pre
  have hown : s.vm.findClass RX5 = some m.cls := findClass_of_methodNamed B.named
  have hlocks := B.notSynchronized
  have hS : va_S (fr A) s.heap s.heap [] := va_S.rf
  have i5 : ∀ w ∈ wsX50, w ∈ wsX5_clear := fun _ h => List.mem_cons_of_mem _ (List.mem_append_right _ h)
  have hl := lv_entry ([.ref (A 4)]) (n := 1) (Nat.le_of_ble_eq_true rfl)
  rw [lg_entry_eq]
  generalize (lg_sl ([.ref (A 4)]) ++ List.replicate (1 - (lg_sl ([.ref (A 4)])).length) Slot.unset).toArray = ls at hl ⊢
  have hl : lv_has ls 1 [(0, .ref (A 4))] := hl
  have hP : wIs dC dI A cI cJ cZ z s.heap := hP
  rw [fX5_clear] at hf
  refine lv_aload_n hx hb dX5_clear_0 rfl (lv_at hl 0 rfl) ?_
  refine lv_iconst (v := 0) hx hb dX5_clear_1 (by decide) ?_
  refine va_put (D := (dC, dI)) (ci := 5) (v := .int (0 : Int32)) (ty := .int) (C := RX5) (T := TX5) (N := 2) hx hb hts i5 tyX5 tyX5_ok nmX5 hown hK hP (wD hA cI cJ cZ z) hS 4 (wc_4 A cI cJ cZ z) rfl 1 (by decide) (hts (.fieldLink RX5 15 "LightestRules$Slots" "filledBits" "I") (by decide +kernel)) (fun _ h9 => h9) rfl (by decide +kernel) rfl rfl (Nat.le_of_ble_eq_true rfl) dX5_clear_2 (fun H locs hP _ hS => ?_)
  rw [ws_4_1 A cI cJ cZ z (0 : Int32)] at hP
  obtain ⟨z_1, hP, hf⟩ := lt_P (P := fun q => wIs dC dI A cI cJ cZ q H) hP hf
  exact retV hx hb hr hlocks hP hS hf dX5_clear_5
set_option maxHeartbeats 4000000 in
set_option maxRecDepth 100000 in
theorem tX2_size_2 {l : Launch} {dC : Nat → ClassId} {dI : Nat → Nat → Nat} {A : Nat → Nat} {t0 : Nat} {cI cJ cZ : ClassId} (hA : dst A)  {z : Mem} {r : Int32} {z' : Mem} (hf : fX2_size_2 z = some (r, z')) : MI l dC dI A t0 cI cJ cZ yX2_size wsX2_size 0 [.ref (A 2)] z r z' := by
  refine Met.ofW (cc := cX2_size) (maxL := 1) (ret := (some .int)) (by decide) rfl ?_
  intro p e s m args below meth c s₁ B hml hv
  obtain ⟨rfl, hP, hK, hZ⟩ := hv
  have hx := B.exec
  have hb := B.bytes
  have hr := B.returns
  have hts := atoms_spec (ws := wsX2_size) B.pre
  have hown : s.vm.findClass RX2 = some m.cls := findClass_of_methodNamed B.named
  have hlocks := B.notSynchronized
  have hS : va_S (fr A) s.heap s.heap [] := va_S.rf
  have i2 : ∀ w ∈ wsX20, w ∈ wsX2_size := fun _ h => List.mem_cons_of_mem _ (List.mem_append_right _ h)
  have hl := lv_entry ([.ref (A 2)]) (n := 1) (Nat.le_of_ble_eq_true rfl)
  rw [lg_entry_eq]
  generalize (lg_sl ([.ref (A 2)]) ++ List.replicate (1 - (lg_sl ([.ref (A 2)])).length) Slot.unset).toArray = ls at hl ⊢
  have hl : lv_has ls 1 [(0, .ref (A 2))] := hl
  have hP : wIs dC dI A cI cJ cZ z s.heap := hP
  rw [fX2_size_2] at hf
  refine lv_aload_n hx hb dX2_size_0 rfl (lv_at hl 0 rfl) ?_
  refine va_get (D := (dC, dI)) (ci := 2) (v := .int (z.1 2 1)) (C := RX2) (T := TX2) (N := 4) hx hb hts i2 hown hK hP 2 (wc_2 A cI cJ cZ z) rfl 1 (by decide) (hts (.fieldLink RX2 15 "LightestRules$People" "size" "I") (by decide +kernel)) (fun _ h9 => h9) rfl dX2_size_1 ?_
  exact retI hx hb hr hlocks hP hS hf dX2_size_4
set_option maxHeartbeats 4000000 in
set_option maxRecDepth 100000 in
theorem tX8_land {l : Launch} {dC : Nat → ClassId} {dI : Nat → Nat → Nat} {A : Nat → Nat} {t0 : Nat} {cI cJ cZ : ClassId} (hA : dst A)  {z : Mem} {r : Int32} {z' : Mem} (hf : fX8_land z = some (r, z')) : MI l dC dI A t0 cI cJ cZ yX8_land wsX8_land 3 [.ref (A 0)] z r z' := by
  refine Met.ofW (cc := cX8_land) (maxL := 1) (ret := (some .int)) (by decide) rfl ?_
  intro p e s m args below meth c s₁ B hml hv
  obtain ⟨rfl, hP, hK, hZ⟩ := hv
  have hx := B.exec
  have hb := B.bytes
  have hr := B.returns
  have hts := atoms_spec (ws := wsX8_land) B.pre
  have hown : s.vm.findClass RX8 = some m.cls := findClass_of_methodNamed B.named
  have hlocks := B.notSynchronized
  have hS : va_S (fr A) s.heap s.heap [] := va_S.rf
  have i8 : ∀ w ∈ wsX80, w ∈ wsX8_land := fun _ h => List.mem_cons_of_mem _ (List.mem_append_left _ (List.mem_append_left _ (List.mem_append_left _ (List.mem_append_left _ (List.mem_append_right _ h)))))
  have hl := lv_entry ([.ref (A 0)]) (n := 1) (Nat.le_of_ble_eq_true rfl)
  rw [lg_entry_eq]
  generalize (lg_sl ([.ref (A 0)]) ++ List.replicate (1 - (lg_sl ([.ref (A 0)])).length) Slot.unset).toArray = ls at hl ⊢
  have hl : lv_has ls 1 [(0, .ref (A 0))] := hl
  have hP : wIs dC dI A cI cJ cZ z s.heap := hP
  rw [fX8_land] at hf
  refine lv_aload_n hx hb dX8_land_0 rfl (lv_at hl 0 rfl) ?_
  refine va_get (D := (dC, dI)) (ci := 8) (v := .ref (A 1)) (C := RX8) (T := TX8) (N := 9) hx hb hts i8 hown hK hP 0 (wc_0 A cI cJ cZ z) rfl 0 (by decide) (hts (.fieldLink RX8 10 "LightestRules" "text" "LLightestRules$LandText;") (by decide +kernel)) (fun _ h9 => h9) rfl dX8_land_1 ?_
  obtain ⟨r_1, z_2, h_3, hf⟩ := cl_el hf
  refine callVI (As := []) (rest := []) (ci := 1) (q0 := 1) ⟨hx, hb, hml, hown, hts⟩ (tX1_firstFault (l := l) (dC := dC) (dI := dI) (t0 := t0) (cI := cI) (cJ := cJ) (cZ := cZ) hA h_3) (cwV 0 hts gX8_land_X1_firstFault rfl rfl rfl (by decide +kernel) ⟨Nat.le_of_ble_eq_true rfl, Nat.le_of_ble_eq_true rfl⟩) hK hZ hP hS rfl (wc_1 A cI cJ cZ z) rfl rfl rfl hl.1 (Nat.le_of_ble_eq_true rfl) ⟨Nat.zero_le _, Nat.zero_le _⟩ dX8_land_4 (fun H locs hP hS => ?_)
  refine lv_bipush (v := -9) hx hb dX8_land_7 (by decide) ?_
  refine lv_icmp_eq (tgt := 15) hx hb dX8_land_9 (by decide) (fun c_4 => ?_) (fun c_4 => ?_)
  · have hf := it_t c_4 hf
    refine lv_aload_n hx hb dX8_land_15 rfl (lv_at hl 0 rfl) ?_
    refine lv_aload_n hx hb dX8_land_16 rfl (lv_at hl 0 rfl) ?_
    refine va_get (D := (dC, dI)) (ci := 8) (v := .ref (A 1)) (C := RX8) (T := TX8) (N := 9) hx hb hts i8 hown hK hP 0 (wc_0 A cI cJ cZ z_2) rfl 0 (by decide) (hts (.fieldLink RX8 10 "LightestRules" "text" "LLightestRules$LandText;") (by decide +kernel)) (fun _ h9 => h9) rfl dX8_land_17 ?_
    refine lv_iconst (v := 1) hx hb dX8_land_20 (by decide) ?_
    obtain ⟨r_5, z_6, h_7, hf⟩ := cl_el hf
    refine callVI (As := [.int (1 : Int32)]) (rest := [.ref (A 0)]) (ci := 1) (q0 := 1) ⟨hx, hb, hml, hown, hts⟩ (tX1_figure (l := l) (dC := dC) (dI := dI) (t0 := t0) (cI := cI) (cJ := cJ) (cZ := cZ) hA h_7) (cwV 1 hts gX8_land_X1_figure rfl rfl rfl (by decide +kernel) ⟨Nat.le_of_ble_eq_true rfl, Nat.le_of_ble_eq_true rfl⟩) hK hZ hP hS rfl (wc_1 A cI cJ cZ z_2) rfl rfl rfl hl.1 (Nat.le_of_ble_eq_true rfl) ⟨Nat.zero_le _, Nat.zero_le _⟩ dX8_land_21 (fun H locs hP hS => ?_)
    refine va_put (D := (dC, dI)) (ci := 8) (v := .int r_5) (ty := .int) (C := RX8) (T := TX8) (N := 9) hx hb hts i8 tyX8 tyX8_ok nmX8 hown hK hP (wD hA cI cJ cZ z_6) hS 0 (wc_0 A cI cJ cZ z_6) rfl 8 (by decide) (hts (.fieldLink RX8 65 "LightestRules" "lawNow" "I") (by decide +kernel)) (fun _ h9 => h9) rfl (by decide +kernel) rfl rfl (Nat.le_of_ble_eq_true rfl) dX8_land_24 (fun H locs hP _ hS => ?_)
    rw [ws_0_8 A cI cJ cZ z_6 r_5] at hP
    obtain ⟨z_8, hP, hf⟩ := lt_P (P := fun q => wIs dC dI A cI cJ cZ q H) hP hf
    refine lv_aload_n hx hb dX8_land_27 rfl (lv_at hl 0 rfl) ?_
    refine va_get (D := (dC, dI)) (ci := 8) (v := .ref (A 2)) (C := RX8) (T := TX8) (N := 9) hx hb hts i8 hown hK hP 0 (wc_0 A cI cJ cZ z_8) rfl 1 (by decide) (hts (.fieldLink RX8 19 "LightestRules" "folk" "LLightestRules$People;") (by decide +kernel)) (fun _ h9 => h9) rfl dX8_land_28 ?_
    refine lv_aload_n hx hb dX8_land_31 rfl (lv_at hl 0 rfl) ?_
    refine va_get (D := (dC, dI)) (ci := 8) (v := .ref (A 1)) (C := RX8) (T := TX8) (N := 9) hx hb hts i8 hown hK hP 0 (wc_0 A cI cJ cZ z_8) rfl 0 (by decide) (hts (.fieldLink RX8 10 "LightestRules" "text" "LLightestRules$LandText;") (by decide +kernel)) (fun _ h9 => h9) rfl dX8_land_32 ?_
    obtain ⟨r_9, z_10, h_11, hf⟩ := cl_el hf
    refine callVV (As := [.ref (A 1)]) (rest := []) (ci := 2) (q0 := 2) ⟨hx, hb, hml, hown, hts⟩ (tX2_settle (l := l) (dC := dC) (dI := dI) (t0 := t0) (cI := cI) (cJ := cJ) (cZ := cZ) hA h_11) (cwV 1 hts gX8_land_X2_settle rfl rfl rfl (by decide +kernel) ⟨Nat.le_of_ble_eq_true rfl, Nat.le_of_ble_eq_true rfl⟩) hK hZ hP hS rfl (wc_2 A cI cJ cZ z_8) rfl rfl rfl hl.1 (Nat.le_of_ble_eq_true rfl) ⟨Nat.zero_le _, Nat.zero_le _⟩ dX8_land_35 (fun H locs hP hS => ?_)
    refine lv_aload_n hx hb dX8_land_38 rfl (lv_at hl 0 rfl) ?_
    refine va_get (D := (dC, dI)) (ci := 8) (v := .ref (A 3)) (C := RX8) (T := TX8) (N := 9) hx hb hts i8 hown hK hP 0 (wc_0 A cI cJ cZ z_10) rfl 2 (by decide) (hts (.fieldLink RX8 26 "LightestRules" "acts" "LLightestRules$ActRow;") (by decide +kernel)) (fun _ h9 => h9) rfl dX8_land_39 ?_
    obtain ⟨r_12, z_13, h_14, hf⟩ := cl_el hf
    refine callVV (As := []) (rest := []) (ci := 0) (q0 := 3) ⟨hx, hb, hml, hown, hts⟩ (tX0_clear (l := l) (dC := dC) (dI := dI) (t0 := t0) (cI := cI) (cJ := cJ) (cZ := cZ) hA h_14) (cwV 0 hts gX8_land_X0_clear rfl rfl rfl (by decide +kernel) ⟨Nat.le_of_ble_eq_true rfl, Nat.le_of_ble_eq_true rfl⟩) hK hZ hP hS rfl (wc_3 A cI cJ cZ z_10) rfl rfl rfl hl.1 (Nat.le_of_ble_eq_true rfl) ⟨Nat.zero_le _, Nat.zero_le _⟩ dX8_land_42 (fun H locs hP hS => ?_)
    refine lv_aload_n hx hb dX8_land_45 rfl (lv_at hl 0 rfl) ?_
    refine va_get (D := (dC, dI)) (ci := 8) (v := .ref (A 4)) (C := RX8) (T := TX8) (N := 9) hx hb hts i8 hown hK hP 0 (wc_0 A cI cJ cZ z_13) rfl 3 (by decide) (hts (.fieldLink RX8 33 "LightestRules" "slots" "LLightestRules$Slots;") (by decide +kernel)) (fun _ h9 => h9) rfl dX8_land_46 ?_
    obtain ⟨r_15, z_16, h_17, hf⟩ := cl_el hf
    refine callVV (As := []) (rest := []) (ci := 5) (q0 := 4) ⟨hx, hb, hml, hown, hts⟩ (tX5_clear (l := l) (dC := dC) (dI := dI) (t0 := t0) (cI := cI) (cJ := cJ) (cZ := cZ) hA h_17) (cwV 0 hts gX8_land_X5_clear rfl rfl rfl (by decide +kernel) ⟨Nat.le_of_ble_eq_true rfl, Nat.le_of_ble_eq_true rfl⟩) hK hZ hP hS rfl (wc_4 A cI cJ cZ z_13) rfl rfl rfl hl.1 (Nat.le_of_ble_eq_true rfl) ⟨Nat.zero_le _, Nat.zero_le _⟩ dX8_land_49 (fun H locs hP hS => ?_)
    refine lv_aload_n hx hb dX8_land_52 rfl (lv_at hl 0 rfl) ?_
    refine va_get (D := (dC, dI)) (ci := 8) (v := .ref (A 2)) (C := RX8) (T := TX8) (N := 9) hx hb hts i8 hown hK hP 0 (wc_0 A cI cJ cZ z_16) rfl 1 (by decide) (hts (.fieldLink RX8 19 "LightestRules" "folk" "LLightestRules$People;") (by decide +kernel)) (fun _ h9 => h9) rfl dX8_land_53 ?_
    obtain ⟨r_18, z_19, h_20, hf⟩ := cl_el hf
    refine callVI (As := []) (rest := []) (ci := 2) (q0 := 2) ⟨hx, hb, hml, hown, hts⟩ (tX2_size_2 (l := l) (dC := dC) (dI := dI) (t0 := t0) (cI := cI) (cJ := cJ) (cZ := cZ) hA h_20) (cwV 0 hts gX8_land_X2_size rfl rfl rfl (by decide +kernel) ⟨Nat.le_of_ble_eq_true rfl, Nat.le_of_ble_eq_true rfl⟩) hK hZ hP hS rfl (wc_2 A cI cJ cZ z_16) rfl rfl rfl hl.1 (Nat.le_of_ble_eq_true rfl) ⟨Nat.zero_le _, Nat.zero_le _⟩ dX8_land_56 (fun H locs hP hS => ?_)
    exact retI hx hb hr hlocks hP hS hf dX8_land_59
  · have hf := it_f c_4 hf
    refine lv_bipush (v := -3) hx hb dX8_land_12 (by decide) ?_
    exact retI hx hb hr hlocks hP hS hf dX8_land_14
set_option maxHeartbeats 4000000 in
set_option maxRecDepth 100000 in
theorem tX9_land {l : Launch} {dC : Nat → ClassId} {dI : Nat → Nat → Nat} {A : Nat → Nat} {t0 : Nat} {cI cJ cZ : ClassId} (hA : dst A)  {z : Mem} {r : Int32} {z' : Mem} (hf : fX9_land z = some (r, z')) : MI l dC dI A t0 cI cJ cZ yX9_land wsX9_land 3 [.ref (A 25)] z r z' := by
  refine Met.ofW (cc := cX9_land) (maxL := 2) (ret := (some .int)) (by decide) rfl ?_
  intro p e s m args below meth c s₁ B hml hv
  obtain ⟨rfl, hP, hK, hZ⟩ := hv
  have hx := B.exec
  have hb := B.bytes
  have hr := B.returns
  have hts := atoms_spec (ws := wsX9_land) B.pre
  have hown : s.vm.findClass RX9 = some m.cls := findClass_of_methodNamed B.named
  have hlocks := B.notSynchronized
  have hS : va_S (fr A) s.heap s.heap [] := va_S.rf
  have i9 : ∀ w ∈ wsX90, w ∈ wsX9_land := fun _ h => List.mem_cons_of_mem _ (List.mem_append_right _ h)
  have hl := lv_entry ([.ref (A 25)]) (n := 2) (Nat.le_of_ble_eq_true rfl)
  rw [lg_entry_eq]
  generalize (lg_sl ([.ref (A 25)]) ++ List.replicate (2 - (lg_sl ([.ref (A 25)])).length) Slot.unset).toArray = ls at hl ⊢
  have hl : lv_has ls 2 [(0, .ref (A 25))] := hl
  have hP : wIs dC dI A cI cJ cZ z s.heap := hP
  rw [fX9_land] at hf
  refine lv_aload_n hx hb dX9_land_0 rfl (lv_at hl 0 rfl) ?_
  obtain ⟨r_1, z_2, h_3, hf⟩ := cl_el hf
  refine callVI (As := []) (rest := []) (ci := 9) (q0 := 25) ⟨hx, hb, hml, hown, hts⟩ (tX9_readText (l := l) (dC := dC) (dI := dI) (t0 := t0) (cI := cI) (cJ := cJ) (cZ := cZ) hA h_3) (cwV 0 hts gX9_land_X9_readText rfl rfl rfl (by decide +kernel) ⟨Nat.le_of_ble_eq_true rfl, Nat.le_of_ble_eq_true rfl⟩) hK hZ hP hS rfl (wc_25 A cI cJ cZ z) rfl rfl rfl hl.1 (Nat.le_of_ble_eq_true rfl) ⟨Nat.zero_le _, Nat.zero_le _⟩ dX9_land_1 (fun H locs hP hS => ?_)
  refine lv_bipush (v := -9) hx hb dX9_land_4 (by decide) ?_
  refine lv_icmp_eq (tgt := 12) hx hb dX9_land_6 (by decide) (fun c_4 => ?_) (fun c_4 => ?_)
  · have hf := it_t c_4 hf
    refine lv_aload_n hx hb dX9_land_12 rfl (lv_at hl 0 rfl) ?_
    refine lv_aload_n hx hb dX9_land_13 rfl (lv_at hl 0 rfl) ?_
    refine va_get (D := (dC, dI)) (ci := 9) (v := .int (z_2.1 25 1)) (C := RX9) (T := TX9) (N := 34) hx hb hts i9 hown hK hP 25 (wc_25 A cI cJ cZ z_2) rfl 1 (by decide) (hts (.fieldLink RX9 84 "LightestRulesModel" "readMany" "I") (by decide +kernel)) (fun _ h9 => h9) rfl dX9_land_14 ?_
    refine lv_topi (fun y_5 ey_5 => ?_)
    have hf := lt_at ey_5 hf; clear ey_5
    refine va_put (D := (dC, dI)) (ci := 9) (v := .int y_5) (ty := .int) (C := RX9) (T := TX9) (N := 34) hx hb hts i9 tyX9 tyX9_ok nmX9 hown hK hP (wD hA cI cJ cZ z_2) hS 25 (wc_25 A cI cJ cZ z_2) rfl 6 (by decide) (hts (.fieldLink RX9 104 "LightestRulesModel" "many" "I") (by decide +kernel)) (fun _ h9 => h9) rfl (by decide +kernel) rfl rfl (Nat.le_of_ble_eq_true rfl) dX9_land_17 (fun H locs hP _ hS => ?_)
    rw [ws_25_6 A cI cJ cZ z_2 y_5] at hP
    obtain ⟨z_6, hP, hf⟩ := lt_P (P := fun q => wIs dC dI A cI cJ cZ q H) hP hf
    refine lv_aload_n hx hb dX9_land_20 rfl (lv_at hl 0 rfl) ?_
    refine lv_aload_n hx hb dX9_land_21 rfl (lv_at hl 0 rfl) ?_
    refine va_get (D := (dC, dI)) (ci := 9) (v := .int (z_6.1 25 2)) (C := RX9) (T := TX9) (N := 34) hx hb hts i9 hown hK hP 25 (wc_25 A cI cJ cZ z_6) rfl 2 (by decide) (hts (.fieldLink RX9 91 "LightestRulesModel" "readRule" "I") (by decide +kernel)) (fun _ h9 => h9) rfl dX9_land_22 ?_
    refine lv_topi (fun y_7 ey_7 => ?_)
    have hf := lt_at ey_7 hf; clear ey_7
    refine va_put (D := (dC, dI)) (ci := 9) (v := .int y_7) (ty := .int) (C := RX9) (T := TX9) (N := 34) hx hb hts i9 tyX9 tyX9_ok nmX9 hown hK hP (wD hA cI cJ cZ z_6) hS 25 (wc_25 A cI cJ cZ z_6) rfl 7 (by decide) (hts (.fieldLink RX9 63 "LightestRulesModel" "rule" "I") (by decide +kernel)) (fun _ h9 => h9) rfl (by decide +kernel) rfl rfl (Nat.le_of_ble_eq_true rfl) dX9_land_25 (fun H locs hP _ hS => ?_)
    rw [ws_25_7 A cI cJ cZ z_6 y_7] at hP
    obtain ⟨z_8, hP, hf⟩ := lt_P (P := fun q => wIs dC dI A cI cJ cZ q H) hP hf
    refine lv_aload_n hx hb dX9_land_28 rfl (lv_at hl 0 rfl) ?_
    refine lv_aload_n hx hb dX9_land_29 rfl (lv_at hl 0 rfl) ?_
    refine va_get (D := (dC, dI)) (ci := 9) (v := .int (z_8.1 25 3)) (C := RX9) (T := TX9) (N := 34) hx hb hts i9 hown hK hP 25 (wc_25 A cI cJ cZ z_8) rfl 3 (by decide) (hts (.fieldLink RX9 94 "LightestRulesModel" "readBurn" "I") (by decide +kernel)) (fun _ h9 => h9) rfl dX9_land_30 ?_
    refine lv_topi (fun y_9 ey_9 => ?_)
    have hf := lt_at ey_9 hf; clear ey_9
    refine va_put (D := (dC, dI)) (ci := 9) (v := .int y_9) (ty := .int) (C := RX9) (T := TX9) (N := 34) hx hb hts i9 tyX9 tyX9_ok nmX9 hown hK hP (wD hA cI cJ cZ z_8) hS 25 (wc_25 A cI cJ cZ z_8) rfl 8 (by decide) (hts (.fieldLink RX9 107 "LightestRulesModel" "burn" "I") (by decide +kernel)) (fun _ h9 => h9) rfl (by decide +kernel) rfl rfl (Nat.le_of_ble_eq_true rfl) dX9_land_33 (fun H locs hP _ hS => ?_)
    rw [ws_25_8 A cI cJ cZ z_8 y_9] at hP
    obtain ⟨z_10, hP, hf⟩ := lt_P (P := fun q => wIs dC dI A cI cJ cZ q H) hP hf
    refine lv_aload_n hx hb dX9_land_36 rfl (lv_at hl 0 rfl) ?_
    refine lv_aload_n hx hb dX9_land_37 rfl (lv_at hl 0 rfl) ?_
    refine va_get (D := (dC, dI)) (ci := 9) (v := .int (z_10.1 25 4)) (C := RX9) (T := TX9) (N := 34) hx hb hts i9 hown hK hP 25 (wc_25 A cI cJ cZ z_10) rfl 4 (by decide) (hts (.fieldLink RX9 97 "LightestRulesModel" "readIll" "I") (by decide +kernel)) (fun _ h9 => h9) rfl dX9_land_38 ?_
    refine lv_topi (fun y_11 ey_11 => ?_)
    have hf := lt_at ey_11 hf; clear ey_11
    refine va_put (D := (dC, dI)) (ci := 9) (v := .int y_11) (ty := .int) (C := RX9) (T := TX9) (N := 34) hx hb hts i9 tyX9 tyX9_ok nmX9 hown hK hP (wD hA cI cJ cZ z_10) hS 25 (wc_25 A cI cJ cZ z_10) rfl 9 (by decide) (hts (.fieldLink RX9 110 "LightestRulesModel" "ill" "I") (by decide +kernel)) (fun _ h9 => h9) rfl (by decide +kernel) rfl rfl (Nat.le_of_ble_eq_true rfl) dX9_land_41 (fun H locs hP _ hS => ?_)
    rw [ws_25_9 A cI cJ cZ z_10 y_11] at hP
    obtain ⟨z_12, hP, hf⟩ := lt_P (P := fun q => wIs dC dI A cI cJ cZ q H) hP hf
    refine lv_iconst (v := 0) hx hb dX9_land_44 (by decide) ?_
    refine lv_istore_n (lv' := [(1, .int (0 : Int32)), (0, .ref (A 25))]) hx hb dX9_land_45 rfl hl (by decide) rfl (fun ls hl => ?_)
    obtain ⟨K_13, eK_13, hf⟩ := fX9_land_L46_g hf
    have hEK_13 : ∀ (x1_15 : Int32) (z_14 : Mem) (H : Heap) (locs : List Loc) (ls : Array Slot), K_13 x1_15 z_14 = some (r, z') → wIs dC dI A cI cJ cZ z_14 H → va_S (fr A) s.heap H locs → lv_has ls 2 [(0, .ref (A 25)), (1, .int x1_15)] → WI p l e wsX9_land 3 s m [.ref (A 25)] below meth c dC dI A cI cJ cZ r z' H locs (F0 m 81 ls []) := by
      intro x1_15 z_14 H locs ls hf hP hS hl
      have hf := ap2 eK_13 hf
      refine lv_aload_n hx hb dX9_land_81 rfl (lv_at hl 0 rfl) ?_
      refine va_get (D := (dC, dI)) (ci := 9) (v := .ref (A 27)) (C := RX9) (T := TX9) (N := 34) hx hb hts i9 hown hK hP 25 (wc_25 A cI cJ cZ z_14) rfl 5 (by decide) (hts (.fieldLink RX9 13 "LightestRulesModel" "now" "[I") (by decide +kernel)) (fun _ h9 => h9) rfl dX9_land_82 ?_
      refine lv_bipush (v := 25) hx hb dX9_land_85 (by decide) ?_
      refine lv_iconst (v := 0) hx hb dX9_land_87 (by decide) ?_
      obtain ⟨n_16, hf⟩ := rg_el hf
      refine va_iast hx hb hK hP (wD hA cI cJ cZ z_14) hS 27 0 (wc_27 A cI cJ cZ z_14) rfl n_16 dX9_land_88 (fun H locs hP _ hS => ?_)
      rw [wa_27 A cI cJ cZ z_14 (25 : Int32).toNatClampNeg (0 : Int32)] at hP
      obtain ⟨z_17, hP, hf⟩ := lt_P (P := fun q => wIs dC dI A cI cJ cZ q H) hP hf
      refine lv_aload_n hx hb dX9_land_89 rfl (lv_at hl 0 rfl) ?_
      refine lv_iconst (v := 0) hx hb dX9_land_90 (by decide) ?_
      refine va_put (D := (dC, dI)) (ci := 9) (v := .int (0 : Int32)) (ty := .int) (C := RX9) (T := TX9) (N := 34) hx hb hts i9 tyX9 tyX9_ok nmX9 hown hK hP (wD hA cI cJ cZ z_17) hS 25 (wc_25 A cI cJ cZ z_17) rfl 14 (by decide) (hts (.fieldLink RX9 113 "LightestRulesModel" "acts" "I") (by decide +kernel)) (fun _ h9 => h9) rfl (by decide +kernel) rfl rfl (Nat.le_of_ble_eq_true rfl) dX9_land_91 (fun H locs hP _ hS => ?_)
      rw [ws_25_14 A cI cJ cZ z_17 (0 : Int32)] at hP
      obtain ⟨z_18, hP, hf⟩ := lt_P (P := fun q => wIs dC dI A cI cJ cZ q H) hP hf
      refine lv_aload_n hx hb dX9_land_94 rfl (lv_at hl 0 rfl) ?_
      refine va_get (D := (dC, dI)) (ci := 9) (v := .ref (A 41)) (C := RX9) (T := TX9) (N := 34) hx hb hts i9 hown hK hP 25 (wc_25 A cI cJ cZ z_18) rfl 32 (by decide) (hts (.fieldLink RX9 56 "LightestRulesModel" "isKept" "[Z") (by decide +kernel)) (fun _ h9 => h9) rfl dX9_land_95 ?_
      refine lv_iconst (v := 0) hx hb dX9_land_98 (by decide) ?_
      refine lv_iconst (v := 0) hx hb dX9_land_99 (by decide) ?_
      obtain ⟨n_19, hf⟩ := rg_el hf
      refine va_zast hx hb hK hP (wD hA cI cJ cZ z_18) hS 41 2 (wc_41 A cI cJ cZ z_18) rfl n_19 dX9_land_100 (fun H locs hP _ hS => ?_)
      rw [wa_41 A cI cJ cZ z_18 (0 : Int32).toNatClampNeg (vp_nar .boolean (0 : Int32))] at hP
      obtain ⟨z_20, hP, hf⟩ := lt_P (P := fun q => wIs dC dI A cI cJ cZ q H) hP hf
      refine lv_aload_n hx hb dX9_land_101 rfl (lv_at hl 0 rfl) ?_
      refine va_get (D := (dC, dI)) (ci := 9) (v := .ref (A 41)) (C := RX9) (T := TX9) (N := 34) hx hb hts i9 hown hK hP 25 (wc_25 A cI cJ cZ z_20) rfl 32 (by decide) (hts (.fieldLink RX9 56 "LightestRulesModel" "isKept" "[Z") (by decide +kernel)) (fun _ h9 => h9) rfl dX9_land_102 ?_
      refine lv_iconst (v := 1) hx hb dX9_land_105 (by decide) ?_
      refine lv_iconst (v := 0) hx hb dX9_land_106 (by decide) ?_
      obtain ⟨n_21, hf⟩ := rg_el hf
      refine va_zast hx hb hK hP (wD hA cI cJ cZ z_20) hS 41 2 (wc_41 A cI cJ cZ z_20) rfl n_21 dX9_land_107 (fun H locs hP _ hS => ?_)
      rw [wa_41 A cI cJ cZ z_20 (1 : Int32).toNatClampNeg (vp_nar .boolean (0 : Int32))] at hP
      obtain ⟨z_22, hP, hf⟩ := lt_P (P := fun q => wIs dC dI A cI cJ cZ q H) hP hf
      refine lv_aload_n hx hb dX9_land_108 rfl (lv_at hl 0 rfl) ?_
      refine va_get (D := (dC, dI)) (ci := 9) (v := .int (z_22.1 25 6)) (C := RX9) (T := TX9) (N := 34) hx hb hts i9 hown hK hP 25 (wc_25 A cI cJ cZ z_22) rfl 6 (by decide) (hts (.fieldLink RX9 104 "LightestRulesModel" "many" "I") (by decide +kernel)) (fun _ h9 => h9) rfl dX9_land_109 ?_
      exact retI hx hb hr hlocks hP hS hf dX9_land_112
    have hLK_13 : ∀ (n_25 : Nat) (x1_24 : Int32) (z_23 : Mem) (H : Heap) (locs : List Loc) (ls : Array Slot), fX9_land_L46 K_13  n_25 x1_24 z_23 = some (r, z') → wIs dC dI A cI cJ cZ z_23 H → va_S (fr A) s.heap H locs → lv_has ls 2 [(0, .ref (A 25)), (1, .int x1_24)] → WI p l e wsX9_land 3 s m [.ref (A 25)] below meth c dC dI A cI cJ cZ r z' H locs (F0 m 46 ls []) := by
      intro n_25
      induction n_25 with
      | zero => intro x1_24 z_23 H locs ls hf; rw [fX9_land_L46_0] at hf; cases hf
      | succ n_25 ihK_13 =>
        intro x1_24 z_23 H locs ls hf hP hS hl
        rw [fX9_land_L46_s] at hf
        refine lv_iload_n hx hb dX9_land_46 rfl (lv_at hl 1 rfl) ?_
        refine lv_bipush (v := 25) hx hb dX9_land_47 (by decide) ?_
        refine lv_icmp_ge (tgt := 81) hx hb dX9_land_49 (by decide) (fun c_26 => ?_) (fun c_26 => ?_)
        · have hf := it_t c_26 hf
          exact hEK_13 _ _ _ _ _ hf hP hS (lv_sub hl [0, 1] rfl)
        · have hf := it_f c_26 hf
          refine lv_aload_n hx hb dX9_land_52 rfl (lv_at hl 0 rfl) ?_
          refine va_get (D := (dC, dI)) (ci := 9) (v := .ref (A 27)) (C := RX9) (T := TX9) (N := 34) hx hb hts i9 hown hK hP 25 (wc_25 A cI cJ cZ z_23) rfl 5 (by decide) (hts (.fieldLink RX9 13 "LightestRulesModel" "now" "[I") (by decide +kernel)) (fun _ h9 => h9) rfl dX9_land_53 ?_
          refine lv_iload_n hx hb dX9_land_56 rfl (lv_at hl 1 rfl) ?_
          refine lv_iload_n hx hb dX9_land_57 rfl (lv_at hl 1 rfl) ?_
          refine lv_iconst (v := 5) hx hb dX9_land_58 (by decide) ?_
          obtain ⟨n_27, hf⟩ := nz_el hf
          refine lv_irem hx hb dX9_land_59 n_27 ?_
          refine lv_iconst (v := 3) hx hb dX9_land_60 (by decide) ?_
          refine lv_icmp_ge (tgt := 73) hx hb dX9_land_61 (by decide) (fun c_28 => ?_) (fun c_28 => ?_)
          · have hf := it_t c_28 hf
            refine lv_iconst (v := 0) hx hb dX9_land_73 (by decide) ?_
            obtain ⟨n_29, hf⟩ := rg_el hf
            refine va_iast hx hb hK hP (wD hA cI cJ cZ z_23) hS 27 0 (wc_27 A cI cJ cZ z_23) rfl n_29 dX9_land_74 (fun H locs hP _ hS => ?_)
            rw [wa_27 A cI cJ cZ z_23 x1_24.toNatClampNeg (0 : Int32)] at hP
            obtain ⟨z_30, hP, hf⟩ := lt_P (P := fun q => wIs dC dI A cI cJ cZ q H) hP hf
            obtain ⟨x1_31, ex1_31⟩ : ∃ q : Int32, q = x1_24 + (1 : Int32) := ⟨_, rfl⟩
            refine lv_iinc (v := x1_31) (lv' := [(1, .int x1_31), (0, .ref (A 25))]) hx hb dX9_land_75 hl (k := 1) rfl (by rw [ex1_31]; rfl) (by decide) rfl (fun ls hl => ?_)
            have hf := lt_at ex1_31 hf; clear ex1_31
            refine lv_goto (tgt := 46) hx hb dX9_land_78 (by decide) ?_
            exact ihK_13 _ _ _ _ _ hf hP hS (lv_sub hl [1, 0] rfl)
          · have hf := it_f c_28 hf
            refine lv_aload_n hx hb dX9_land_64 rfl (lv_at hl 0 rfl) ?_
            refine va_get (D := (dC, dI)) (ci := 9) (v := .ref (A 26)) (C := RX9) (T := TX9) (N := 34) hx hb hts i9 hown hK hP 25 (wc_25 A cI cJ cZ z_23) rfl 0 (by decide) (hts (.fieldLink RX9 7 "LightestRulesModel" "read" "[I") (by decide +kernel)) (fun _ h9 => h9) rfl dX9_land_65 ?_
            refine lv_iload_n hx hb dX9_land_68 rfl (lv_at hl 1 rfl) ?_
            obtain ⟨n_32, hf⟩ := rg_el hf
            refine va_iald hx hb hK hP 26 0 (wc_26 A cI cJ cZ z_23) rfl n_32 dX9_land_69 ?_
            refine lv_topi (fun a_33 ea_33 => ?_)
            have hf := lt_at ea_33 hf; clear ea_33
            refine lv_goto (tgt := 74) hx hb dX9_land_70 (by decide) ?_
            obtain ⟨n_34, hf⟩ := rg_el hf
            refine va_iast hx hb hK hP (wD hA cI cJ cZ z_23) hS 27 0 (wc_27 A cI cJ cZ z_23) rfl n_34 dX9_land_74 (fun H locs hP _ hS => ?_)
            rw [wa_27 A cI cJ cZ z_23 x1_24.toNatClampNeg a_33] at hP
            obtain ⟨z_35, hP, hf⟩ := lt_P (P := fun q => wIs dC dI A cI cJ cZ q H) hP hf
            obtain ⟨x1_36, ex1_36⟩ : ∃ q : Int32, q = x1_24 + (1 : Int32) := ⟨_, rfl⟩
            refine lv_iinc (v := x1_36) (lv' := [(1, .int x1_36), (0, .ref (A 25))]) hx hb dX9_land_75 hl (k := 1) rfl (by rw [ex1_36]; rfl) (by decide) rfl (fun ls hl => ?_)
            have hf := lt_at ex1_36 hf; clear ex1_36
            refine lv_goto (tgt := 46) hx hb dX9_land_78 (by decide) ?_
            exact ihK_13 _ _ _ _ _ hf hP hS (lv_sub hl [1, 0] rfl)
    exact hLK_13 FU _ _ _ _ _ hf hP hS (lv_sub hl [1, 0] rfl)
  · have hf := it_f c_4 hf
    refine lv_bipush (v := -3) hx hb dX9_land_9 (by decide) ?_
    exact retI hx hb hr hlocks hP hS hf dX9_land_11
set_option maxHeartbeats 4000000 in
set_option maxRecDepth 100000 in
theorem tX2_has {l : Launch} {dC : Nat → ClassId} {dI : Nat → Nat → Nat} {A : Nat → Nat} {t0 : Nat} {cI cJ cZ : ClassId} (hA : dst A) {p0 : Int32} {z : Mem} {r : Int32} {z' : Mem} (hf : fX2_has p0 z = some (r, z')) : MI l dC dI A t0 cI cJ cZ yX2_has wsX2_has 0 [.ref (A 2), .int p0] z r z' := by
  refine Met.ofW (cc := cX2_has) (maxL := 2) (ret := (some .boolean)) (by decide) rfl ?_
  intro p e s m args below meth c s₁ B hml hv
  obtain ⟨rfl, hP, hK, hZ⟩ := hv
  have hx := B.exec
  have hb := B.bytes
  have hr := B.returns
  have hts := atoms_spec (ws := wsX2_has) B.pre
  have hown : s.vm.findClass RX2 = some m.cls := findClass_of_methodNamed B.named
  have hlocks := B.notSynchronized
  have hS : va_S (fr A) s.heap s.heap [] := va_S.rf
  have i2 : ∀ w ∈ wsX20, w ∈ wsX2_has := fun _ h => List.mem_cons_of_mem _ (List.mem_append_right _ h)
  have hl := lv_entry ([.ref (A 2), .int p0]) (n := 2) (Nat.le_of_ble_eq_true rfl)
  rw [lg_entry_eq]
  generalize (lg_sl ([.ref (A 2), .int p0]) ++ List.replicate (2 - (lg_sl ([.ref (A 2), .int p0])).length) Slot.unset).toArray = ls at hl ⊢
  have hl : lv_has ls 2 [(0, .ref (A 2)), (1, .int p0)] := hl
  have hP : wIs dC dI A cI cJ cZ z s.heap := hP
  rw [fX2_has] at hf
  refine lv_iload_n hx hb dX2_has_0 rfl (lv_at hl 1 rfl) ?_
  refine lv_if_lt (tgt := 16) hx hb dX2_has_1 (by decide) (fun c_1 => ?_) (fun c_1 => ?_)
  · have hf := it_t c_1 hf
    refine lv_iconst (v := 0) hx hb dX2_has_16 (by decide) ?_
    exact retZ hx hb hr hlocks rfl hP hS hf dX2_has_17
  · have hf := it_f c_1 hf
    refine lv_iload_n hx hb dX2_has_4 rfl (lv_at hl 1 rfl) ?_
    refine lv_aload_n hx hb dX2_has_5 rfl (lv_at hl 0 rfl) ?_
    refine va_get (D := (dC, dI)) (ci := 2) (v := .int (z.1 2 1)) (C := RX2) (T := TX2) (N := 4) hx hb hts i2 hown hK hP 2 (wc_2 A cI cJ cZ z) rfl 1 (by decide) (hts (.fieldLink RX2 15 "LightestRules$People" "size" "I") (by decide +kernel)) (fun _ h9 => h9) rfl dX2_has_6 ?_
    refine lv_icmp_ge (tgt := 16) hx hb dX2_has_9 (by decide) (fun c_2 => ?_) (fun c_2 => ?_)
    · have hf := it_t c_2 hf
      refine lv_iconst (v := 0) hx hb dX2_has_16 (by decide) ?_
      exact retZ hx hb hr hlocks rfl hP hS hf dX2_has_17
    · have hf := it_f c_2 hf
      refine lv_iconst (v := 1) hx hb dX2_has_12 (by decide) ?_
      refine lv_goto (tgt := 17) hx hb dX2_has_13 (by decide) ?_
      exact retZ hx hb hr hlocks rfl hP hS hf dX2_has_17
