set_option maxHeartbeats 4000000 in
set_option maxRecDepth 100000 in
theorem tX8_law {l : Launch} {dC : Nat → ClassId} {dI : Nat → Nat → Nat} {A : Nat → Nat} {t0 : Nat} {cI cJ cZ : ClassId} (hA : dst A) {p0 : Int32} {z : Mem} {r : Int32} {z' : Mem} (hf : fX8_law p0 z = some (r, z')) : MI l dC dI A t0 cI cJ cZ yX8_law wsX8_law 1 [.ref (A 0), .int p0] z r z' := by
  refine Met.ofW (cc := cX8_law) (maxL := 3) (ret := (some .int)) (by decide) rfl ?_
  intro p e s m args below meth c s₁ B hml hv
  obtain ⟨rfl, hP, hK, hZ⟩ := hv
  have hx := B.exec
  have hb := B.bytes
  have hr := B.returns
  have hts := atoms_spec (ws := wsX8_law) B.pre
  have hown : s.vm.findClass RX8 = some m.cls := findClass_of_methodNamed B.named
  have hlocks := B.notSynchronized
  have hS : va_S (fr A) s.heap s.heap [] := va_S.rf
  have i8 : ∀ w ∈ wsX80, w ∈ wsX8_law := fun _ h => List.mem_cons_of_mem _ (List.mem_append_right _ h)
  have hl := lv_entry ([.ref (A 0), .int p0]) (n := 3) (Nat.le_of_ble_eq_true rfl)
  rw [lg_entry_eq]
  generalize (lg_sl ([.ref (A 0), .int p0]) ++ List.replicate (3 - (lg_sl ([.ref (A 0), .int p0])).length) Slot.unset).toArray = ls at hl ⊢
  have hl : lv_has ls 3 [(0, .ref (A 0)), (1, .int p0)] := hl
  have hP : wIs dC dI A cI cJ cZ z s.heap := hP
  rw [fX8_law] at hf
  refine lv_iload_n hx hb dX8_law_0 rfl (lv_at hl 1 rfl) ?_
  obtain ⟨r_1, z_2, h_3, hf⟩ := cl_el hf
  refine callSI (As := [.int p0]) (rest := []) ⟨hx, hb, hml, hown, hts⟩ (tX8_isLaw (l := l) (dC := dC) (dI := dI) (t0 := t0) (cI := cI) (cJ := cJ) (cZ := cZ) hA h_3) (va_cwS 1 hts gX8_law_X8_isLaw rfl rfl rfl (by decide +kernel) ⟨Nat.le_of_ble_eq_true rfl, Nat.le_of_ble_eq_true rfl⟩) hK hZ hP hS rfl rfl hl.1 (Nat.le_of_ble_eq_true rfl) ⟨Nat.zero_le _, Nat.zero_le _⟩ dX8_law_1 (fun H locs hP hS => ?_)
  refine lv_if_ne (tgt := 10) hx hb dX8_law_4 (by decide) (fun c_4 => ?_) (fun c_4 => ?_)
  · have hf := it_f c_4 hf
    refine lv_aload_n hx hb dX8_law_10 rfl (lv_at hl 0 rfl) ?_
    refine va_get (D := (dC, dI)) (ci := 8) (v := .int (z_2.1 0 8)) (C := RX8) (T := TX8) (N := 9) hx hb hts i8 hown hK hP 0 (wc_0 A cI cJ cZ z_2) rfl 8 (by decide) (hts (.fieldLink RX8 65 "LightestRules" "lawNow" "I") (by decide +kernel)) (fun _ h9 => h9) rfl dX8_law_11 ?_
    refine lv_topi (fun x2_5 ex2_5 => ?_)
    have hf := lt_at ex2_5 hf; clear ex2_5
    refine lv_istore_n (lv' := [(2, .int x2_5), (0, .ref (A 0)), (1, .int p0)]) hx hb dX8_law_14 rfl hl (by decide) rfl (fun ls hl => ?_)
    refine lv_aload_n hx hb dX8_law_15 rfl (lv_at hl 1 rfl) ?_
    refine lv_iload_n hx hb dX8_law_16 rfl (lv_at hl 2 rfl) ?_
    refine va_put (D := (dC, dI)) (ci := 8) (v := .int p0) (ty := .int) (C := RX8) (T := TX8) (N := 9) hx hb hts i8 tyX8 tyX8_ok nmX8 hown hK hP (wD hA cI cJ cZ z_2) hS 0 (wc_0 A cI cJ cZ z_2) rfl 8 (by decide) (hts (.fieldLink RX8 65 "LightestRules" "lawNow" "I") (by decide +kernel)) (fun _ h9 => h9) rfl (by decide +kernel) rfl rfl (Nat.le_of_ble_eq_true rfl) dX8_law_17 (fun H locs hP _ hS => ?_)
    rw [ws_0_8 A cI cJ cZ z_2 p0] at hP
    obtain ⟨z_6, hP, hf⟩ := lt_P (P := fun q => wIs dC dI A cI cJ cZ q H) hP hf
    refine lv_iload_n hx hb dX8_law_20 rfl (lv_at hl 0 rfl) ?_
    exact retI hx hb hr hlocks hP hS hf dX8_law_21
  · have hf := it_t c_4 hf
    refine lv_bipush (v := -2) hx hb dX8_law_7 (by decide) ?_
    exact retI hx hb hr hlocks hP hS hf dX8_law_9
set_option maxHeartbeats 4000000 in
set_option maxRecDepth 100000 in
theorem tX9_law {l : Launch} {dC : Nat → ClassId} {dI : Nat → Nat → Nat} {A : Nat → Nat} {t0 : Nat} {cI cJ cZ : ClassId} (hA : dst A) {p0 : Int32} {z : Mem} {r : Int32} {z' : Mem} (hf : fX9_law p0 z = some (r, z')) : MI l dC dI A t0 cI cJ cZ yX9_law wsX9_law 1 [.ref (A 25), .int p0] z r z' := by
  refine Met.ofW (cc := cX9_law) (maxL := 3) (ret := (some .int)) (by decide) rfl ?_
  intro p e s m args below meth c s₁ B hml hv
  obtain ⟨rfl, hP, hK, hZ⟩ := hv
  have hx := B.exec
  have hb := B.bytes
  have hr := B.returns
  have hts := atoms_spec (ws := wsX9_law) B.pre
  have hown : s.vm.findClass RX9 = some m.cls := findClass_of_methodNamed B.named
  have hlocks := B.notSynchronized
  have hS : va_S (fr A) s.heap s.heap [] := va_S.rf
  have i9 : ∀ w ∈ wsX90, w ∈ wsX9_law := fun _ h => List.mem_cons_of_mem _ (List.mem_append_right _ h)
  have hl := lv_entry ([.ref (A 25), .int p0]) (n := 3) (Nat.le_of_ble_eq_true rfl)
  rw [lg_entry_eq]
  generalize (lg_sl ([.ref (A 25), .int p0]) ++ List.replicate (3 - (lg_sl ([.ref (A 25), .int p0])).length) Slot.unset).toArray = ls at hl ⊢
  have hl : lv_has ls 3 [(0, .ref (A 25)), (1, .int p0)] := hl
  have hP : wIs dC dI A cI cJ cZ z s.heap := hP
  rw [fX9_law] at hf
  refine lv_iload_n hx hb dX9_law_0 rfl (lv_at hl 1 rfl) ?_
  refine lv_i2l hx hb dX9_law_1 rfl ?_
  refine lv_lconst (v := 0) hx hb dX9_law_2 rfl ?_
  refine lv_ldc2 hx hb hown (hts (.constantLong RX9 127 (2)) (by decide +kernel)) dX9_law_3 ?_
  obtain ⟨r_1, z_2, h_3, hf⟩ := cl_el hf
  refine callSI (As := [.long (p0.toInt64), .long (0 : Int64), .long (2 : Int64)]) (rest := []) ⟨hx, hb, hml, hown, hts⟩ (tX9_in (l := l) (dC := dC) (dI := dI) (t0 := t0) (cI := cI) (cJ := cJ) (cZ := cZ) hA h_3) (va_cwS 3 hts gX9_law_X9_in rfl rfl rfl (by decide +kernel) ⟨Nat.le_of_ble_eq_true rfl, Nat.le_of_ble_eq_true rfl⟩) hK hZ hP hS rfl rfl hl.1 (Nat.le_of_ble_eq_true rfl) ⟨Nat.zero_le _, Nat.zero_le _⟩ dX9_law_6 (fun H locs hP hS => ?_)
  refine lv_if_ne (tgt := 15) hx hb dX9_law_9 (by decide) (fun c_4 => ?_) (fun c_4 => ?_)
  · have hf := it_f c_4 hf
    refine lv_aload_n hx hb dX9_law_15 rfl (lv_at hl 0 rfl) ?_
    refine va_get (D := (dC, dI)) (ci := 9) (v := .int (z_2.1 25 7)) (C := RX9) (T := TX9) (N := 34) hx hb hts i9 hown hK hP 25 (wc_25 A cI cJ cZ z_2) rfl 7 (by decide) (hts (.fieldLink RX9 63 "LightestRulesModel" "rule" "I") (by decide +kernel)) (fun _ h9 => h9) rfl dX9_law_16 ?_
    refine lv_topi (fun x2_5 ex2_5 => ?_)
    have hf := lt_at ex2_5 hf; clear ex2_5
    refine lv_istore_n (lv' := [(2, .int x2_5), (0, .ref (A 25)), (1, .int p0)]) hx hb dX9_law_19 rfl hl (by decide) rfl (fun ls hl => ?_)
    refine lv_aload_n hx hb dX9_law_20 rfl (lv_at hl 1 rfl) ?_
    refine lv_iload_n hx hb dX9_law_21 rfl (lv_at hl 2 rfl) ?_
    refine va_put (D := (dC, dI)) (ci := 9) (v := .int p0) (ty := .int) (C := RX9) (T := TX9) (N := 34) hx hb hts i9 tyX9 tyX9_ok nmX9 hown hK hP (wD hA cI cJ cZ z_2) hS 25 (wc_25 A cI cJ cZ z_2) rfl 7 (by decide) (hts (.fieldLink RX9 63 "LightestRulesModel" "rule" "I") (by decide +kernel)) (fun _ h9 => h9) rfl (by decide +kernel) rfl rfl (Nat.le_of_ble_eq_true rfl) dX9_law_22 (fun H locs hP _ hS => ?_)
    rw [ws_25_7 A cI cJ cZ z_2 p0] at hP
    obtain ⟨z_6, hP, hf⟩ := lt_P (P := fun q => wIs dC dI A cI cJ cZ q H) hP hf
    refine lv_iload_n hx hb dX9_law_25 rfl (lv_at hl 0 rfl) ?_
    exact retI hx hb hr hlocks hP hS hf dX9_law_26
  · have hf := it_t c_4 hf
    refine lv_bipush (v := -2) hx hb dX9_law_12 (by decide) ?_
    exact retI hx hb hr hlocks hP hS hf dX9_law_14
set_option maxHeartbeats 4000000 in
set_option maxRecDepth 100000 in
theorem tX8_refusalOf {l : Launch} {dC : Nat → ClassId} {dI : Nat → Nat → Nat} {A : Nat → Nat} {t0 : Nat} {cI cJ cZ : ClassId} (hA : dst A) {p0 : Int32} {p1 : Int32} {z : Mem} {r : Int32} {z' : Mem} (hf : fX8_refusalOf p0 p1 z = some (r, z')) : MI l dC dI A t0 cI cJ cZ yX8_refusalOf wsX8_refusalOf 1 [.ref (A 0), .int p0, .int p1] z r z' := by
  refine Met.ofW (cc := cX8_refusalOf) (maxL := 3) (ret := (some .int)) (by decide) rfl ?_
  intro p e s m args below meth c s₁ B hml hv
  obtain ⟨rfl, hP, hK, hZ⟩ := hv
  have hx := B.exec
  have hb := B.bytes
  have hr := B.returns
  have hts := atoms_spec (ws := wsX8_refusalOf) B.pre
  have hown : s.vm.findClass RX8 = some m.cls := findClass_of_methodNamed B.named
  have hlocks := B.notSynchronized
  have hS : va_S (fr A) s.heap s.heap [] := va_S.rf
  have i8 : ∀ w ∈ wsX80, w ∈ wsX8_refusalOf := fun _ h => List.mem_cons_of_mem _ (List.mem_append_left _ (List.mem_append_right _ h))
  have hl := lv_entry ([.ref (A 0), .int p0, .int p1]) (n := 3) (Nat.le_of_ble_eq_true rfl)
  rw [lg_entry_eq]
  generalize (lg_sl ([.ref (A 0), .int p0, .int p1]) ++ List.replicate (3 - (lg_sl ([.ref (A 0), .int p0, .int p1])).length) Slot.unset).toArray = ls at hl ⊢
  have hl : lv_has ls 3 [(0, .ref (A 0)), (1, .int p0), (2, .int p1)] := hl
  have hP : wIs dC dI A cI cJ cZ z s.heap := hP
  rw [fX8_refusalOf] at hf
  refine lv_aload_n hx hb dX8_refusalOf_0 rfl (lv_at hl 0 rfl) ?_
  refine va_get (D := (dC, dI)) (ci := 8) (v := .ref (A 2)) (C := RX8) (T := TX8) (N := 9) hx hb hts i8 hown hK hP 0 (wc_0 A cI cJ cZ z) rfl 1 (by decide) (hts (.fieldLink RX8 19 "LightestRules" "folk" "LLightestRules$People;") (by decide +kernel)) (fun _ h9 => h9) rfl dX8_refusalOf_1 ?_
  refine lv_iload_n hx hb dX8_refusalOf_4 rfl (lv_at hl 1 rfl) ?_
  obtain ⟨r_1, z_2, h_3, hf⟩ := cl_el hf
  refine callVI (As := [.int p0]) (rest := []) (ci := 2) (q0 := 2) ⟨hx, hb, hml, hown, hts⟩ (tX2_has (l := l) (dC := dC) (dI := dI) (t0 := t0) (cI := cI) (cJ := cJ) (cZ := cZ) hA h_3) (cwV 1 hts gX8_refusalOf_X2_has rfl rfl rfl (by decide +kernel) ⟨Nat.le_of_ble_eq_true rfl, Nat.le_of_ble_eq_true rfl⟩) hK hZ hP hS rfl (wc_2 A cI cJ cZ z) rfl rfl rfl hl.1 (Nat.le_of_ble_eq_true rfl) ⟨Nat.zero_le _, Nat.zero_le _⟩ dX8_refusalOf_5 (fun H locs hP hS => ?_)
  refine lv_if_ne (tgt := 13) hx hb dX8_refusalOf_8 (by decide) (fun c_4 => ?_) (fun c_4 => ?_)
  · have hf := it_f c_4 hf
    refine lv_iload_n hx hb dX8_refusalOf_13 rfl (lv_at hl 2 rfl) ?_
    refine lv_iconst (v := 1) hx hb dX8_refusalOf_14 (by decide) ?_
    refine lv_icmp_lt (tgt := 24) hx hb dX8_refusalOf_15 (by decide) (fun c_5 => ?_) (fun c_5 => ?_)
    · have hf := it_t c_5 hf
      refine lv_bipush (v := -2) hx hb dX8_refusalOf_24 (by decide) ?_
      refine lv_goto (tgt := 30) hx hb dX8_refusalOf_26 (by decide) ?_
      exact retI hx hb hr hlocks hP hS hf dX8_refusalOf_30
    · have hf := it_f c_5 hf
      refine lv_iload_n hx hb dX8_refusalOf_18 rfl (lv_at hl 2 rfl) ?_
      refine lv_bipush (v := 9) hx hb dX8_refusalOf_19 (by decide) ?_
      refine lv_icmp_le (tgt := 29) hx hb dX8_refusalOf_21 (by decide) (fun c_6 => ?_) (fun c_6 => ?_)
      · have hf := it_t c_6 hf
        refine lv_iconst (v := 0) hx hb dX8_refusalOf_29 (by decide) ?_
        exact retI hx hb hr hlocks hP hS hf dX8_refusalOf_30
      · have hf := it_f c_6 hf
        refine lv_bipush (v := -2) hx hb dX8_refusalOf_24 (by decide) ?_
        refine lv_goto (tgt := 30) hx hb dX8_refusalOf_26 (by decide) ?_
        exact retI hx hb hr hlocks hP hS hf dX8_refusalOf_30
  · have hf := it_t c_4 hf
    refine lv_iconst (v := -1) hx hb dX8_refusalOf_11 (by decide) ?_
    exact retI hx hb hr hlocks hP hS hf dX8_refusalOf_12
set_option maxHeartbeats 4000000 in
set_option maxRecDepth 100000 in
theorem tX2_copyTo_2_12 {l : Launch} {dC : Nat → ClassId} {dI : Nat → Nat → Nat} {A : Nat → Nat} {t0 : Nat} {cI cJ cZ : ClassId} (hA : dst A) {p1 : Int32} {z : Mem} {ru : Unit} {z' : Mem} (hf : fX2_copyTo_2_12 p1 z = some (ru, z')) : MV l dC dI A t0 cI cJ cZ yX2_copyTo wsX2_copyTo 1 [.ref (A 2), .ref (A 12), .int p1] z z' := by
  refine Met.ofW (cc := cX2_copyTo) (maxL := 3) (ret := none) (by decide) rfl ?_
  intro p e s m args below meth c s₁ B hml hv
  obtain ⟨rfl, hP, hK, hZ⟩ := hv
  have hx := B.exec
  have hb := B.bytes
  have hr := B.returns
  have hts := atoms_spec (ws := wsX2_copyTo) B.pre
  have hown : s.vm.findClass RX2 = some m.cls := findClass_of_methodNamed B.named
  have hlocks := B.notSynchronized
  have hS : va_S (fr A) s.heap s.heap [] := va_S.rf
  have i2 : ∀ w ∈ wsX20, w ∈ wsX2_copyTo := fun _ h => List.mem_cons_of_mem _ (List.mem_append_right _ h)
  have hl := lv_entry ([.ref (A 2), .ref (A 12), .int p1]) (n := 3) (Nat.le_of_ble_eq_true rfl)
  rw [lg_entry_eq]
  generalize (lg_sl ([.ref (A 2), .ref (A 12), .int p1]) ++ List.replicate (3 - (lg_sl ([.ref (A 2), .ref (A 12), .int p1])).length) Slot.unset).toArray = ls at hl ⊢
  have hl : lv_has ls 3 [(0, .ref (A 2)), (1, .ref (A 12)), (2, .int p1)] := hl
  have hP : wIs dC dI A cI cJ cZ z s.heap := hP
  rw [fX2_copyTo_2_12] at hf
  refine lv_iload_n hx hb dX2_copyTo_0 rfl (lv_at hl 2 rfl) ?_
  refine lv_if_lt (tgt := 28) hx hb dX2_copyTo_1 (by decide) (fun c_1 => ?_) (fun c_1 => ?_)
  · have hf := it_t c_1 hf
    exact retV hx hb hr hlocks hP hS hf dX2_copyTo_28
  · have hf := it_f c_1 hf
    refine lv_iload_n hx hb dX2_copyTo_4 rfl (lv_at hl 2 rfl) ?_
    refine lv_aload_n hx hb dX2_copyTo_5 rfl (lv_at hl 1 rfl) ?_
    refine va_alen hx hb hK hP 12 0 (wc_12 A cI cJ cZ z) rfl (v := 416) rfl dX2_copyTo_6 ?_
    refine lv_bipush (v := 26) hx hb dX2_copyTo_7 (by decide) ?_
    obtain ⟨n_2, hf⟩ := nz_el hf
    refine lv_idiv hx hb dX2_copyTo_9 n_2 ?_
    refine lv_icmp_ge (tgt := 28) hx hb dX2_copyTo_10 (by decide) (fun c_3 => ?_) (fun c_3 => ?_)
    · have hf := it_t c_3 hf
      exact retV hx hb hr hlocks hP hS hf dX2_copyTo_28
    · have hf := it_f c_3 hf
      refine lv_aload_n hx hb dX2_copyTo_13 rfl (lv_at hl 0 rfl) ?_
      refine va_get (D := (dC, dI)) (ci := 2) (v := .ref (A 11)) (C := RX2) (T := TX2) (N := 4) hx hb hts i2 hown hK hP 2 (wc_2 A cI cJ cZ z) rfl 0 (by decide) (hts (.fieldLink RX2 11 "LightestRules$People" "cells" "[I") (by decide +kernel)) (fun _ h9 => h9) rfl dX2_copyTo_14 ?_
      refine lv_iconst (v := 0) hx hb dX2_copyTo_17 (by decide) ?_
      refine lv_aload_n hx hb dX2_copyTo_18 rfl (lv_at hl 1 rfl) ?_
      refine lv_iload_n hx hb dX2_copyTo_19 rfl (lv_at hl 2 rfl) ?_
      refine lv_bipush (v := 26) hx hb dX2_copyTo_20 (by decide) ?_
      refine lv_imul hx hb dX2_copyTo_22 ?_
      refine lv_bipush (v := 26) hx hb dX2_copyTo_23 (by decide) ?_
      obtain ⟨n_4, hf⟩ := ac_el hf
      refine va_copyi hx hb (hml.trans hl.1.symm) hown (hts (.methodLink RX2 54 arraycopyName) (by decide +kernel)) (hts (.native arraycopyName) (by decide +kernel)) (hts (.static arraycopyName) (by decide +kernel)) (hts (.initialized "java/lang/System" ) (by decide +kernel)) hK hP (wD hA cI cJ cZ z) hS 11 12 0 0 (wc_11 A cI cJ cZ z) (wc_12 A cI cJ cZ z) rfl rfl rfl n_4.1 n_4.2.1 n_4.2.2.1 n_4.2.2.2.1 n_4.2.2.2.2 (fun _ _ => rfl) (Nat.le_of_ble_eq_true rfl) (Nat.le_of_ble_eq_true rfl) dX2_copyTo_25 (fun H locs hP _ hS => ?_)
      rw [wr_12 A cI cJ cZ z (va_cpy (z.1 11) (z.1 12) (0 : Int32).toNatClampNeg (p1 * (26 : Int32)).toNatClampNeg (26 : Int32).toNatClampNeg)] at hP
      obtain ⟨z_5, hP, hf⟩ := lt_P (P := fun q => wIs dC dI A cI cJ cZ q H) hP hf
      exact retV hx hb hr hlocks hP hS hf dX2_copyTo_28
set_option maxHeartbeats 4000000 in
set_option maxRecDepth 100000 in
theorem tX0_remember {l : Launch} {dC : Nat → ClassId} {dI : Nat → Nat → Nat} {A : Nat → Nat} {t0 : Nat} {cI cJ cZ : ClassId} (hA : dst A)  {z : Mem} {ru : Unit} {z' : Mem} (hf : fX0_remember z = some (ru, z')) : MV l dC dI A t0 cI cJ cZ yX0_remember wsX0_remember 2 [.ref (A 3), .ref (A 2)] z z' := by
  refine Met.ofW (cc := cX0_remember) (maxL := 2) (ret := none) (by decide) rfl ?_
  intro p e s m args below meth c s₁ B hml hv
  obtain ⟨rfl, hP, hK, hZ⟩ := hv
  have hx := B.exec
  have hb := B.bytes
  have hr := B.returns
  have hts := atoms_spec (ws := wsX0_remember) B.pre
  have hown : s.vm.findClass RX0 = some m.cls := findClass_of_methodNamed B.named
  have hlocks := B.notSynchronized
  have hS : va_S (fr A) s.heap s.heap [] := va_S.rf
  have i0 : ∀ w ∈ wsX00, w ∈ wsX0_remember := fun _ h => List.mem_cons_of_mem _ (List.mem_append_left _ (List.mem_append_right _ h))
  have hl := lv_entry ([.ref (A 3), .ref (A 2)]) (n := 2) (Nat.le_of_ble_eq_true rfl)
  rw [lg_entry_eq]
  generalize (lg_sl ([.ref (A 3), .ref (A 2)]) ++ List.replicate (2 - (lg_sl ([.ref (A 3), .ref (A 2)])).length) Slot.unset).toArray = ls at hl ⊢
  have hl : lv_has ls 2 [(0, .ref (A 3)), (1, .ref (A 2))] := hl
  have hP : wIs dC dI A cI cJ cZ z s.heap := hP
  rw [fX0_remember] at hf
  refine lv_aload_n hx hb dX0_remember_0 rfl (lv_at hl 0 rfl) ?_
  refine va_get (D := (dC, dI)) (ci := 0) (v := .int (z.1 3 2)) (C := RX0) (T := TX0) (N := 3) hx hb hts i0 hown hK hP 3 (wc_3 A cI cJ cZ z) rfl 2 (by decide) (hts (.fieldLink RX0 19 "LightestRules$ActRow" "length" "I") (by decide +kernel)) (fun _ h9 => h9) rfl dX0_remember_1 ?_
  refine lv_bipush (v := 16) hx hb dX0_remember_4 (by decide) ?_
  obtain ⟨K_1, eK_1, hf⟩ := jn_el hf
  have hK_1 : ∀ (z_2 : Mem) (H : Heap) (locs : List Loc) (ls : Array Slot), K_1 z_2 = some (ru, z') → wIs dC dI A cI cJ cZ z_2 H → va_S (fr A) s.heap H locs → lv_has ls 2 [(0, .ref (A 3)), (1, .ref (A 2))] → WV p l e wsX0_remember 2 s m [.ref (A 3), .ref (A 2)] below meth c dC dI A cI cJ cZ z' H locs (F0 m 32 ls []) := by
    intro z_2 H locs ls hf hP hS hl
    have hf := ap1 eK_1 hf
    refine lv_aload_n hx hb dX0_remember_32 rfl (lv_at hl 1 rfl) ?_
    refine lv_aload_n hx hb dX0_remember_33 rfl (lv_at hl 0 rfl) ?_
    refine va_get (D := (dC, dI)) (ci := 0) (v := .ref (A 12)) (C := RX0) (T := TX0) (N := 3) hx hb hts i0 hown hK hP 3 (wc_3 A cI cJ cZ z_2) rfl 0 (by decide) (hts (.fieldLink RX0 11 "LightestRules$ActRow" "before" "[I") (by decide +kernel)) (fun _ h9 => h9) rfl dX0_remember_34 ?_
    refine lv_aload_n hx hb dX0_remember_37 rfl (lv_at hl 0 rfl) ?_
    refine va_get (D := (dC, dI)) (ci := 0) (v := .int (z_2.1 3 1)) (C := RX0) (T := TX0) (N := 3) hx hb hts i0 hown hK hP 3 (wc_3 A cI cJ cZ z_2) rfl 1 (by decide) (hts (.fieldLink RX0 15 "LightestRules$ActRow" "first" "I") (by decide +kernel)) (fun _ h9 => h9) rfl dX0_remember_38 ?_
    refine lv_aload_n hx hb dX0_remember_41 rfl (lv_at hl 0 rfl) ?_
    refine va_get (D := (dC, dI)) (ci := 0) (v := .int (z_2.1 3 2)) (C := RX0) (T := TX0) (N := 3) hx hb hts i0 hown hK hP 3 (wc_3 A cI cJ cZ z_2) rfl 2 (by decide) (hts (.fieldLink RX0 19 "LightestRules$ActRow" "length" "I") (by decide +kernel)) (fun _ h9 => h9) rfl dX0_remember_42 ?_
    refine lv_iadd hx hb dX0_remember_45 ?_
    refine lv_bipush (v := 16) hx hb dX0_remember_46 (by decide) ?_
    obtain ⟨n_3, hf⟩ := nz_el hf
    refine lv_irem hx hb dX0_remember_48 n_3 ?_
    obtain ⟨r_4, z_5, h_6, hf⟩ := cl_el hf
    refine callVV (As := [.ref (A 12), .int (((z_2.1 3 1) + (z_2.1 3 2)) - ((z_2.1 3 1) + (z_2.1 3 2)) / (16 : Int32) * (16 : Int32))]) (rest := []) (ci := 2) (q0 := 2) ⟨hx, hb, hml, hown, hts⟩ (tX2_copyTo_2_12 (l := l) (dC := dC) (dI := dI) (t0 := t0) (cI := cI) (cJ := cJ) (cZ := cZ) hA h_6) (cwV 2 hts gX0_remember_X2_copyTo rfl rfl rfl (by decide +kernel) ⟨Nat.le_of_ble_eq_true rfl, Nat.le_of_ble_eq_true rfl⟩) hK hZ hP hS rfl (wc_2 A cI cJ cZ z_2) rfl rfl rfl hl.1 (Nat.le_of_ble_eq_true rfl) ⟨Nat.zero_le _, Nat.zero_le _⟩ dX0_remember_49 (fun H locs hP hS => ?_)
    refine lv_aload_n hx hb dX0_remember_52 rfl (lv_at hl 0 rfl) ?_
    refine lv_dup hx hb dX0_remember_53 rfl ?_
    refine va_get (D := (dC, dI)) (ci := 0) (v := .int (z_5.1 3 2)) (C := RX0) (T := TX0) (N := 3) hx hb hts i0 hown hK hP 3 (wc_3 A cI cJ cZ z_5) rfl 2 (by decide) (hts (.fieldLink RX0 19 "LightestRules$ActRow" "length" "I") (by decide +kernel)) (fun _ h9 => h9) rfl dX0_remember_54 ?_
    refine lv_iconst (v := 1) hx hb dX0_remember_57 (by decide) ?_
    refine lv_iadd hx hb dX0_remember_58 ?_
    refine lv_topi (fun y_7 ey_7 => ?_)
    have hf := lt_at ey_7 hf; clear ey_7
    refine va_put (D := (dC, dI)) (ci := 0) (v := .int y_7) (ty := .int) (C := RX0) (T := TX0) (N := 3) hx hb hts i0 tyX0 tyX0_ok nmX0 hown hK hP (wD hA cI cJ cZ z_5) hS 3 (wc_3 A cI cJ cZ z_5) rfl 2 (by decide) (hts (.fieldLink RX0 19 "LightestRules$ActRow" "length" "I") (by decide +kernel)) (fun _ h9 => h9) rfl (by decide +kernel) rfl rfl (Nat.le_of_ble_eq_true rfl) dX0_remember_59 (fun H locs hP _ hS => ?_)
    rw [ws_3_2 A cI cJ cZ z_5 y_7] at hP
    obtain ⟨z_8, hP, hf⟩ := lt_P (P := fun q => wIs dC dI A cI cJ cZ q H) hP hf
    exact retV hx hb hr hlocks hP hS hf dX0_remember_62
  refine lv_icmp_ne (tgt := 32) hx hb dX0_remember_6 (by decide) (fun c_9 => ?_) (fun c_9 => ?_)
  · have hf := it_f c_9 hf
    exact hK_1 _ _ _ _ hf hP hS (lv_sub hl [0, 1] rfl)
  · have hf := it_t c_9 hf
    refine lv_aload_n hx hb dX0_remember_9 rfl (lv_at hl 0 rfl) ?_
    refine lv_aload_n hx hb dX0_remember_10 rfl (lv_at hl 0 rfl) ?_
    refine va_get (D := (dC, dI)) (ci := 0) (v := .int (z.1 3 1)) (C := RX0) (T := TX0) (N := 3) hx hb hts i0 hown hK hP 3 (wc_3 A cI cJ cZ z) rfl 1 (by decide) (hts (.fieldLink RX0 15 "LightestRules$ActRow" "first" "I") (by decide +kernel)) (fun _ h9 => h9) rfl dX0_remember_11 ?_
    refine lv_iconst (v := 1) hx hb dX0_remember_14 (by decide) ?_
    refine lv_iadd hx hb dX0_remember_15 ?_
    refine lv_bipush (v := 16) hx hb dX0_remember_16 (by decide) ?_
    obtain ⟨n_10, hf⟩ := nz_el hf
    refine lv_irem hx hb dX0_remember_18 n_10 ?_
    refine lv_topi (fun y_11 ey_11 => ?_)
    have hf := lt_at ey_11 hf; clear ey_11
    refine va_put (D := (dC, dI)) (ci := 0) (v := .int y_11) (ty := .int) (C := RX0) (T := TX0) (N := 3) hx hb hts i0 tyX0 tyX0_ok nmX0 hown hK hP (wD hA cI cJ cZ z) hS 3 (wc_3 A cI cJ cZ z) rfl 1 (by decide) (hts (.fieldLink RX0 15 "LightestRules$ActRow" "first" "I") (by decide +kernel)) (fun _ h9 => h9) rfl (by decide +kernel) rfl rfl (Nat.le_of_ble_eq_true rfl) dX0_remember_19 (fun H locs hP _ hS => ?_)
    rw [ws_3_1 A cI cJ cZ z y_11] at hP
    obtain ⟨z_12, hP, hf⟩ := lt_P (P := fun q => wIs dC dI A cI cJ cZ q H) hP hf
    refine lv_aload_n hx hb dX0_remember_22 rfl (lv_at hl 0 rfl) ?_
    refine lv_dup hx hb dX0_remember_23 rfl ?_
    refine va_get (D := (dC, dI)) (ci := 0) (v := .int (z_12.1 3 2)) (C := RX0) (T := TX0) (N := 3) hx hb hts i0 hown hK hP 3 (wc_3 A cI cJ cZ z_12) rfl 2 (by decide) (hts (.fieldLink RX0 19 "LightestRules$ActRow" "length" "I") (by decide +kernel)) (fun _ h9 => h9) rfl dX0_remember_24 ?_
    refine lv_iconst (v := 1) hx hb dX0_remember_27 (by decide) ?_
    refine lv_isub hx hb dX0_remember_28 ?_
    refine lv_topi (fun y_13 ey_13 => ?_)
    have hf := lt_at ey_13 hf; clear ey_13
    refine va_put (D := (dC, dI)) (ci := 0) (v := .int y_13) (ty := .int) (C := RX0) (T := TX0) (N := 3) hx hb hts i0 tyX0 tyX0_ok nmX0 hown hK hP (wD hA cI cJ cZ z_12) hS 3 (wc_3 A cI cJ cZ z_12) rfl 2 (by decide) (hts (.fieldLink RX0 19 "LightestRules$ActRow" "length" "I") (by decide +kernel)) (fun _ h9 => h9) rfl (by decide +kernel) rfl rfl (Nat.le_of_ble_eq_true rfl) dX0_remember_29 (fun H locs hP _ hS => ?_)
    rw [ws_3_2 A cI cJ cZ z_12 y_13] at hP
    obtain ⟨z_14, hP, hf⟩ := lt_P (P := fun q => wIs dC dI A cI cJ cZ q H) hP hf
    exact hK_1 _ _ _ _ hf hP hS (lv_sub hl [0, 1] rfl)
set_option maxHeartbeats 4000000 in
set_option maxRecDepth 100000 in
theorem tX2_gain_2 {l : Launch} {dC : Nat → ClassId} {dI : Nat → Nat → Nat} {A : Nat → Nat} {t0 : Nat} {cI cJ cZ : ClassId} (hA : dst A) {p0 : Int32} {p1 : Int32} {z : Mem} {r : Int32} {z' : Mem} (hf : fX2_gain_2 p0 p1 z = some (r, z')) : MI l dC dI A t0 cI cJ cZ yX2_gain wsX2_gain 1 [.ref (A 2), .int p0, .int p1] z r z' := by
  refine Met.ofW (cc := cX2_gain) (maxL := 4) (ret := (some .int)) (by decide) rfl ?_
  intro p e s m args below meth c s₁ B hml hv
  obtain ⟨rfl, hP, hK, hZ⟩ := hv
  have hx := B.exec
  have hb := B.bytes
  have hr := B.returns
  have hts := atoms_spec (ws := wsX2_gain) B.pre
  have hown : s.vm.findClass RX2 = some m.cls := findClass_of_methodNamed B.named
  have hlocks := B.notSynchronized
  have hS : va_S (fr A) s.heap s.heap [] := va_S.rf
  have hl := lv_entry ([.ref (A 2), .int p0, .int p1]) (n := 4) (Nat.le_of_ble_eq_true rfl)
  rw [lg_entry_eq]
  generalize (lg_sl ([.ref (A 2), .int p0, .int p1]) ++ List.replicate (4 - (lg_sl ([.ref (A 2), .int p0, .int p1])).length) Slot.unset).toArray = ls at hl ⊢
  have hl : lv_has ls 4 [(0, .ref (A 2)), (1, .int p0), (2, .int p1)] := hl
  have hP : wIs dC dI A cI cJ cZ z s.heap := hP
  rw [fX2_gain_2] at hf
  refine lv_aload_n hx hb dX2_gain_0 rfl (lv_at hl 0 rfl) ?_
  refine lv_iload_n hx hb dX2_gain_1 rfl (lv_at hl 1 rfl) ?_
  refine lv_iconst (v := 0) hx hb dX2_gain_2 (by decide) ?_
  obtain ⟨r_1, z_2, h_3, hf⟩ := cl_el hf
  refine callVI (As := [.int p0, .int (0 : Int32)]) (rest := []) (ci := 2) (q0 := 2) ⟨hx, hb, hml, hown, hts⟩ (tX2_get_2 (l := l) (dC := dC) (dI := dI) (t0 := t0) (cI := cI) (cJ := cJ) (cZ := cZ) hA h_3) (cwV 2 hts gX2_gain_X2_get rfl rfl rfl (by decide +kernel) ⟨Nat.le_of_ble_eq_true rfl, Nat.le_of_ble_eq_true rfl⟩) hK hZ hP hS rfl (wc_2 A cI cJ cZ z) rfl rfl rfl hl.1 (Nat.le_of_ble_eq_true rfl) ⟨Nat.zero_le _, Nat.zero_le _⟩ dX2_gain_3 (fun H locs hP hS => ?_)
  refine lv_istore_n (lv' := [(3, .int r_1), (0, .ref (A 2)), (1, .int p0), (2, .int p1)]) hx hb dX2_gain_6 rfl hl (by decide) rfl (fun ls hl => ?_)
  refine lv_aload_n hx hb dX2_gain_7 rfl (lv_at hl 1 rfl) ?_
  refine lv_iload_n hx hb dX2_gain_8 rfl (lv_at hl 2 rfl) ?_
  refine lv_iconst (v := 0) hx hb dX2_gain_9 (by decide) ?_
  refine lv_iconst (v := 1) hx hb dX2_gain_10 (by decide) ?_
  refine lv_iload_n hx hb dX2_gain_11 rfl (lv_at hl 0 rfl) ?_
  refine lv_iload_n hx hb dX2_gain_12 rfl (lv_at hl 3 rfl) ?_
  refine lv_iadd hx hb dX2_gain_13 ?_
  refine va_mmax hx hb (hml.trans hl.1.symm) hown (hts (.methodLink RX2 63 Lib.Math.max.name) (by decide +kernel)) (hts (.static Lib.Math.max.name) (by decide +kernel)) (hts (.initialized "java/lang/Math" ) (by decide +kernel)) (hts (.code Lib.Math.max.name Lib.Math.max.code 2 (some .int)) (by decide +kernel)) (Nat.le_of_ble_eq_true rfl) (Nat.le_of_ble_eq_true rfl) (Nat.zero_le _) (Nat.zero_le _) dX2_gain_14 ?_
  refine lv_topi (fun y_4 ey_4 => ?_)
  have hf := lt_at ey_4 hf; clear ey_4
  refine lv_iload_n hx hb dX2_gain_17 rfl (lv_at hl 0 rfl) ?_
  refine lv_isub hx hb dX2_gain_18 ?_
  obtain ⟨r_5, z_6, h_7, hf⟩ := cl_el hf
  refine callVV (As := [.int p0, .int (0 : Int32), .int (y_4 - r_1)]) (rest := []) (ci := 2) (q0 := 2) ⟨hx, hb, hml, hown, hts⟩ (tX2_add_2 (l := l) (dC := dC) (dI := dI) (t0 := t0) (cI := cI) (cJ := cJ) (cZ := cZ) hA h_7) (cwV 3 hts gX2_gain_X2_add rfl rfl rfl (by decide +kernel) ⟨Nat.le_of_ble_eq_true rfl, Nat.le_of_ble_eq_true rfl⟩) hK hZ hP hS rfl (wc_2 A cI cJ cZ z_2) rfl rfl rfl hl.1 (Nat.le_of_ble_eq_true rfl) ⟨Nat.zero_le _, Nat.zero_le _⟩ dX2_gain_19 (fun H locs hP hS => ?_)
  refine lv_aload_n hx hb dX2_gain_22 rfl (lv_at hl 1 rfl) ?_
  refine lv_iload_n hx hb dX2_gain_23 rfl (lv_at hl 2 rfl) ?_
  refine lv_iconst (v := 0) hx hb dX2_gain_24 (by decide) ?_
  obtain ⟨r_8, z_9, h_10, hf⟩ := cl_el hf
  refine callVI (As := [.int p0, .int (0 : Int32)]) (rest := []) (ci := 2) (q0 := 2) ⟨hx, hb, hml, hown, hts⟩ (tX2_get_2 (l := l) (dC := dC) (dI := dI) (t0 := t0) (cI := cI) (cJ := cJ) (cZ := cZ) hA h_10) (cwV 2 hts gX2_gain_X2_get rfl rfl rfl (by decide +kernel) ⟨Nat.le_of_ble_eq_true rfl, Nat.le_of_ble_eq_true rfl⟩) hK hZ hP hS rfl (wc_2 A cI cJ cZ z_6) rfl rfl rfl hl.1 (Nat.le_of_ble_eq_true rfl) ⟨Nat.zero_le _, Nat.zero_le _⟩ dX2_gain_25 (fun H locs hP hS => ?_)
  exact retI hx hb hr hlocks hP hS hf dX2_gain_28
set_option maxHeartbeats 4000000 in
set_option maxRecDepth 100000 in
theorem tX8_eat {l : Launch} {dC : Nat → ClassId} {dI : Nat → Nat → Nat} {A : Nat → Nat} {t0 : Nat} {cI cJ cZ : ClassId} (hA : dst A) {p0 : Int32} {p1 : Int32} {z : Mem} {r : Int32} {z' : Mem} (hf : fX8_eat p0 p1 z = some (r, z')) : MI l dC dI A t0 cI cJ cZ yX8_eat wsX8_eat 3 [.ref (A 0), .int p0, .int p1] z r z' := by
  refine Met.ofW (cc := cX8_eat) (maxL := 4) (ret := (some .int)) (by decide) rfl ?_
  intro p e s m args below meth c s₁ B hml hv
  obtain ⟨rfl, hP, hK, hZ⟩ := hv
  have hx := B.exec
  have hb := B.bytes
  have hr := B.returns
  have hts := atoms_spec (ws := wsX8_eat) B.pre
  have hown : s.vm.findClass RX8 = some m.cls := findClass_of_methodNamed B.named
  have hlocks := B.notSynchronized
  have hS : va_S (fr A) s.heap s.heap [] := va_S.rf
  have i8 : ∀ w ∈ wsX80, w ∈ wsX8_eat := fun _ h => List.mem_cons_of_mem _ (List.mem_append_left _ (List.mem_append_left _ (List.mem_append_right _ h)))
  have hl := lv_entry ([.ref (A 0), .int p0, .int p1]) (n := 4) (Nat.le_of_ble_eq_true rfl)
  rw [lg_entry_eq]
  generalize (lg_sl ([.ref (A 0), .int p0, .int p1]) ++ List.replicate (4 - (lg_sl ([.ref (A 0), .int p0, .int p1])).length) Slot.unset).toArray = ls at hl ⊢
  have hl : lv_has ls 4 [(0, .ref (A 0)), (1, .int p0), (2, .int p1)] := hl
  have hP : wIs dC dI A cI cJ cZ z s.heap := hP
  rw [fX8_eat] at hf
  refine lv_aload_n hx hb dX8_eat_0 rfl (lv_at hl 0 rfl) ?_
  refine lv_iload_n hx hb dX8_eat_1 rfl (lv_at hl 1 rfl) ?_
  refine lv_iload_n hx hb dX8_eat_2 rfl (lv_at hl 2 rfl) ?_
  obtain ⟨r_1, z_2, h_3, hf⟩ := cl_el hf
  refine callVI (As := [.int p0, .int p1]) (rest := []) (ci := 8) (q0 := 0) ⟨hx, hb, hml, hown, hts⟩ (tX8_refusalOf (l := l) (dC := dC) (dI := dI) (t0 := t0) (cI := cI) (cJ := cJ) (cZ := cZ) hA h_3) (cwV 2 hts gX8_eat_X8_refusalOf rfl rfl rfl (by decide +kernel) ⟨Nat.le_of_ble_eq_true rfl, Nat.le_of_ble_eq_true rfl⟩) hK hZ hP hS rfl (wc_0 A cI cJ cZ z) rfl rfl rfl hl.1 (Nat.le_of_ble_eq_true rfl) ⟨Nat.zero_le _, Nat.zero_le _⟩ dX8_eat_3 (fun H locs hP hS => ?_)
  refine lv_istore_n (lv' := [(3, .int r_1), (0, .ref (A 0)), (1, .int p0), (2, .int p1)]) hx hb dX8_eat_6 rfl hl (by decide) rfl (fun ls hl => ?_)
  refine lv_iload_n hx hb dX8_eat_7 rfl (lv_at hl 0 rfl) ?_
  refine lv_if_eq (tgt := 13) hx hb dX8_eat_8 (by decide) (fun c_4 => ?_) (fun c_4 => ?_)
  · have hf := it_t c_4 hf
    refine lv_aload_n hx hb dX8_eat_13 rfl (lv_at hl 1 rfl) ?_
    refine va_get (D := (dC, dI)) (ci := 8) (v := .ref (A 2)) (C := RX8) (T := TX8) (N := 9) hx hb hts i8 hown hK hP 0 (wc_0 A cI cJ cZ z_2) rfl 1 (by decide) (hts (.fieldLink RX8 19 "LightestRules" "folk" "LLightestRules$People;") (by decide +kernel)) (fun _ h9 => h9) rfl dX8_eat_14 ?_
    refine lv_iload_n hx hb dX8_eat_17 rfl (lv_at hl 2 rfl) ?_
    refine lv_iconst (v := 1) hx hb dX8_eat_18 (by decide) ?_
    obtain ⟨r_5, z_6, h_7, hf⟩ := cl_el hf
    refine callVI (As := [.int p0, .int (1 : Int32)]) (rest := []) (ci := 2) (q0 := 2) ⟨hx, hb, hml, hown, hts⟩ (tX2_get_2 (l := l) (dC := dC) (dI := dI) (t0 := t0) (cI := cI) (cJ := cJ) (cZ := cZ) hA h_7) (cwV 2 hts gX8_eat_X2_get rfl rfl rfl (by decide +kernel) ⟨Nat.le_of_ble_eq_true rfl, Nat.le_of_ble_eq_true rfl⟩) hK hZ hP hS rfl (wc_2 A cI cJ cZ z_2) rfl rfl rfl hl.1 (Nat.le_of_ble_eq_true rfl) ⟨Nat.zero_le _, Nat.zero_le _⟩ dX8_eat_19 (fun H locs hP hS => ?_)
    refine lv_iload_n hx hb dX8_eat_22 rfl (lv_at hl 3 rfl) ?_
    refine lv_icmp_ge (tgt := 29) hx hb dX8_eat_23 (by decide) (fun c_8 => ?_) (fun c_8 => ?_)
    · have hf := it_t c_8 hf
      refine lv_aload_n hx hb dX8_eat_29 rfl (lv_at hl 1 rfl) ?_
      refine va_get (D := (dC, dI)) (ci := 8) (v := .ref (A 3)) (C := RX8) (T := TX8) (N := 9) hx hb hts i8 hown hK hP 0 (wc_0 A cI cJ cZ z_6) rfl 2 (by decide) (hts (.fieldLink RX8 26 "LightestRules" "acts" "LLightestRules$ActRow;") (by decide +kernel)) (fun _ h9 => h9) rfl dX8_eat_30 ?_
      refine lv_aload_n hx hb dX8_eat_33 rfl (lv_at hl 1 rfl) ?_
      refine va_get (D := (dC, dI)) (ci := 8) (v := .ref (A 2)) (C := RX8) (T := TX8) (N := 9) hx hb hts i8 hown hK hP 0 (wc_0 A cI cJ cZ z_6) rfl 1 (by decide) (hts (.fieldLink RX8 19 "LightestRules" "folk" "LLightestRules$People;") (by decide +kernel)) (fun _ h9 => h9) rfl dX8_eat_34 ?_
      obtain ⟨r_9, z_10, h_11, hf⟩ := cl_el hf
      refine callVV (As := [.ref (A 2)]) (rest := []) (ci := 0) (q0 := 3) ⟨hx, hb, hml, hown, hts⟩ (tX0_remember (l := l) (dC := dC) (dI := dI) (t0 := t0) (cI := cI) (cJ := cJ) (cZ := cZ) hA h_11) (cwV 1 hts gX8_eat_X0_remember rfl rfl rfl (by decide +kernel) ⟨Nat.le_of_ble_eq_true rfl, Nat.le_of_ble_eq_true rfl⟩) hK hZ hP hS rfl (wc_3 A cI cJ cZ z_6) rfl rfl rfl hl.1 (Nat.le_of_ble_eq_true rfl) ⟨Nat.zero_le _, Nat.zero_le _⟩ dX8_eat_37 (fun H locs hP hS => ?_)
      refine lv_aload_n hx hb dX8_eat_40 rfl (lv_at hl 1 rfl) ?_
      refine va_get (D := (dC, dI)) (ci := 8) (v := .ref (A 2)) (C := RX8) (T := TX8) (N := 9) hx hb hts i8 hown hK hP 0 (wc_0 A cI cJ cZ z_10) rfl 1 (by decide) (hts (.fieldLink RX8 19 "LightestRules" "folk" "LLightestRules$People;") (by decide +kernel)) (fun _ h9 => h9) rfl dX8_eat_41 ?_
      refine lv_iload_n hx hb dX8_eat_44 rfl (lv_at hl 2 rfl) ?_
      refine lv_iconst (v := 1) hx hb dX8_eat_45 (by decide) ?_
      refine lv_iload_n hx hb dX8_eat_46 rfl (lv_at hl 3 rfl) ?_
      refine lv_ineg hx hb dX8_eat_47 ?_
      obtain ⟨r_12, z_13, h_14, hf⟩ := cl_el hf
      refine callVV (As := [.int p0, .int (1 : Int32), .int (-p1)]) (rest := []) (ci := 2) (q0 := 2) ⟨hx, hb, hml, hown, hts⟩ (tX2_add_2 (l := l) (dC := dC) (dI := dI) (t0 := t0) (cI := cI) (cJ := cJ) (cZ := cZ) hA h_14) (cwV 3 hts gX8_eat_X2_add rfl rfl rfl (by decide +kernel) ⟨Nat.le_of_ble_eq_true rfl, Nat.le_of_ble_eq_true rfl⟩) hK hZ hP hS rfl (wc_2 A cI cJ cZ z_10) rfl rfl rfl hl.1 (Nat.le_of_ble_eq_true rfl) ⟨Nat.zero_le _, Nat.zero_le _⟩ dX8_eat_48 (fun H locs hP hS => ?_)
      refine lv_aload_n hx hb dX8_eat_51 rfl (lv_at hl 1 rfl) ?_
      refine va_get (D := (dC, dI)) (ci := 8) (v := .ref (A 2)) (C := RX8) (T := TX8) (N := 9) hx hb hts i8 hown hK hP 0 (wc_0 A cI cJ cZ z_13) rfl 1 (by decide) (hts (.fieldLink RX8 19 "LightestRules" "folk" "LLightestRules$People;") (by decide +kernel)) (fun _ h9 => h9) rfl dX8_eat_52 ?_
      refine lv_iload_n hx hb dX8_eat_55 rfl (lv_at hl 2 rfl) ?_
      refine lv_bipush (v := 8) hx hb dX8_eat_56 (by decide) ?_
      refine lv_iload_n hx hb dX8_eat_58 rfl (lv_at hl 3 rfl) ?_
      refine lv_imul hx hb dX8_eat_59 ?_
      obtain ⟨r_15, z_16, h_17, hf⟩ := cl_el hf
      refine callVI (As := [.int p0, .int ((8 : Int32) * p1)]) (rest := []) (ci := 2) (q0 := 2) ⟨hx, hb, hml, hown, hts⟩ (tX2_gain_2 (l := l) (dC := dC) (dI := dI) (t0 := t0) (cI := cI) (cJ := cJ) (cZ := cZ) hA h_17) (cwV 2 hts gX8_eat_X2_gain rfl rfl rfl (by decide +kernel) ⟨Nat.le_of_ble_eq_true rfl, Nat.le_of_ble_eq_true rfl⟩) hK hZ hP hS rfl (wc_2 A cI cJ cZ z_13) rfl rfl rfl hl.1 (Nat.le_of_ble_eq_true rfl) ⟨Nat.zero_le _, Nat.zero_le _⟩ dX8_eat_60 (fun H locs hP hS => ?_)
      exact retI hx hb hr hlocks hP hS hf dX8_eat_63
    · have hf := it_f c_8 hf
      refine lv_bipush (v := -3) hx hb dX8_eat_26 (by decide) ?_
      exact retI hx hb hr hlocks hP hS hf dX8_eat_28
  · have hf := it_f c_4 hf
    refine lv_iload_n hx hb dX8_eat_11 rfl (lv_at hl 0 rfl) ?_
    exact retI hx hb hr hlocks hP hS hf dX8_eat_12
set_option maxHeartbeats 4000000 in
set_option maxRecDepth 100000 in
theorem tX9_keepAct {l : Launch} {dC : Nat → ClassId} {dI : Nat → Nat → Nat} {A : Nat → Nat} {t0 : Nat} {cI cJ cZ : ClassId} (hA : dst A)  {z : Mem} {ru : Unit} {z' : Mem} (hf : fX9_keepAct z = some (ru, z')) : MV l dC dI A t0 cI cJ cZ yX9_keepAct wsX9_keepAct 0 [.ref (A 25)] z z' := by
  refine Met.ofW (cc := cX9_keepAct) (maxL := 2) (ret := none) (by decide) rfl ?_
  intro p e s m args below meth c s₁ B hml hv
  obtain ⟨rfl, hP, hK, hZ⟩ := hv
  have hx := B.exec
  have hb := B.bytes
  have hr := B.returns
  have hts := atoms_spec (ws := wsX9_keepAct) B.pre
  have hown : s.vm.findClass RX9 = some m.cls := findClass_of_methodNamed B.named
  have hlocks := B.notSynchronized
  have hS : va_S (fr A) s.heap s.heap [] := va_S.rf
  have i9 : ∀ w ∈ wsX90, w ∈ wsX9_keepAct := fun _ h => List.mem_cons_of_mem _ (List.mem_append_right _ h)
  have hl := lv_entry ([.ref (A 25)]) (n := 2) (Nat.le_of_ble_eq_true rfl)
  rw [lg_entry_eq]
  generalize (lg_sl ([.ref (A 25)]) ++ List.replicate (2 - (lg_sl ([.ref (A 25)])).length) Slot.unset).toArray = ls at hl ⊢
  have hl : lv_has ls 2 [(0, .ref (A 25))] := hl
  have hP : wIs dC dI A cI cJ cZ z s.heap := hP
  rw [fX9_keepAct] at hf
  refine lv_iconst (v := 0) hx hb dX9_keepAct_0 (by decide) ?_
  refine lv_istore_n (lv' := [(1, .int (0 : Int32)), (0, .ref (A 25))]) hx hb dX9_keepAct_1 rfl hl (by decide) rfl (fun ls hl => ?_)
  obtain ⟨K_1, eK_1, hf⟩ := fX9_keepAct_L2_g hf
  have hEK_1 : ∀ (x1_3 : Int32) (z_2 : Mem) (H : Heap) (locs : List Loc) (ls : Array Slot), K_1 x1_3 z_2 = some (ru, z') → wIs dC dI A cI cJ cZ z_2 H → va_S (fr A) s.heap H locs → lv_has ls 2 [(0, .ref (A 25)), (1, .int x1_3)] → WV p l e wsX9_keepAct 0 s m [.ref (A 25)] below meth c dC dI A cI cJ cZ z' H locs (F0 m 34 ls []) := by
    intro x1_3 z_2 H locs ls hf hP hS hl
    have hf := ap2 eK_1 hf
    refine lv_aload_n hx hb dX9_keepAct_34 rfl (lv_at hl 0 rfl) ?_
    refine lv_aload_n hx hb dX9_keepAct_35 rfl (lv_at hl 0 rfl) ?_
    refine va_get (D := (dC, dI)) (ci := 9) (v := .int (z_2.1 25 15)) (C := RX9) (T := TX9) (N := 34) hx hb hts i9 hown hK hP 25 (wc_25 A cI cJ cZ z_2) rfl 15 (by decide) (hts (.fieldLink RX9 129 "LightestRulesModel" "next" "I") (by decide +kernel)) (fun _ h9 => h9) rfl dX9_keepAct_36 ?_
    refine lv_iconst (v := 1) hx hb dX9_keepAct_39 (by decide) ?_
    refine lv_iadd hx hb dX9_keepAct_40 ?_
    refine lv_bipush (v := 16) hx hb dX9_keepAct_41 (by decide) ?_
    obtain ⟨n_4, hf⟩ := nz_el hf
    refine lv_irem hx hb dX9_keepAct_43 n_4 ?_
    refine lv_topi (fun y_5 ey_5 => ?_)
    have hf := lt_at ey_5 hf; clear ey_5
    refine va_put (D := (dC, dI)) (ci := 9) (v := .int y_5) (ty := .int) (C := RX9) (T := TX9) (N := 34) hx hb hts i9 tyX9 tyX9_ok nmX9 hown hK hP (wD hA cI cJ cZ z_2) hS 25 (wc_25 A cI cJ cZ z_2) rfl 15 (by decide) (hts (.fieldLink RX9 129 "LightestRulesModel" "next" "I") (by decide +kernel)) (fun _ h9 => h9) rfl (by decide +kernel) rfl rfl (Nat.le_of_ble_eq_true rfl) dX9_keepAct_44 (fun H locs hP _ hS => ?_)
    rw [ws_25_15 A cI cJ cZ z_2 y_5] at hP
    obtain ⟨z_6, hP, hf⟩ := lt_P (P := fun q => wIs dC dI A cI cJ cZ q H) hP hf
    refine lv_aload_n hx hb dX9_keepAct_47 rfl (lv_at hl 0 rfl) ?_
    refine lv_aload_n hx hb dX9_keepAct_48 rfl (lv_at hl 0 rfl) ?_
    refine va_get (D := (dC, dI)) (ci := 9) (v := .int (z_6.1 25 14)) (C := RX9) (T := TX9) (N := 34) hx hb hts i9 hown hK hP 25 (wc_25 A cI cJ cZ z_6) rfl 14 (by decide) (hts (.fieldLink RX9 113 "LightestRulesModel" "acts" "I") (by decide +kernel)) (fun _ h9 => h9) rfl dX9_keepAct_49 ?_
    refine lv_bipush (v := 16) hx hb dX9_keepAct_52 (by decide) ?_
    refine lv_icmp_ge (tgt := 66) hx hb dX9_keepAct_54 (by decide) (fun c_7 => ?_) (fun c_7 => ?_)
    · have hf := it_t c_7 hf
      refine lv_bipush (v := 16) hx hb dX9_keepAct_66 (by decide) ?_
      refine va_put (D := (dC, dI)) (ci := 9) (v := .int (16 : Int32)) (ty := .int) (C := RX9) (T := TX9) (N := 34) hx hb hts i9 tyX9 tyX9_ok nmX9 hown hK hP (wD hA cI cJ cZ z_6) hS 25 (wc_25 A cI cJ cZ z_6) rfl 14 (by decide) (hts (.fieldLink RX9 113 "LightestRulesModel" "acts" "I") (by decide +kernel)) (fun _ h9 => h9) rfl (by decide +kernel) rfl rfl (Nat.le_of_ble_eq_true rfl) dX9_keepAct_68 (fun H locs hP _ hS => ?_)
      rw [ws_25_14 A cI cJ cZ z_6 (16 : Int32)] at hP
      obtain ⟨z_8, hP, hf⟩ := lt_P (P := fun q => wIs dC dI A cI cJ cZ q H) hP hf
      exact retV hx hb hr hlocks hP hS hf dX9_keepAct_71
    · have hf := it_f c_7 hf
      refine lv_aload_n hx hb dX9_keepAct_57 rfl (lv_at hl 0 rfl) ?_
      refine va_get (D := (dC, dI)) (ci := 9) (v := .int (z_6.1 25 14)) (C := RX9) (T := TX9) (N := 34) hx hb hts i9 hown hK hP 25 (wc_25 A cI cJ cZ z_6) rfl 14 (by decide) (hts (.fieldLink RX9 113 "LightestRulesModel" "acts" "I") (by decide +kernel)) (fun _ h9 => h9) rfl dX9_keepAct_58 ?_
      refine lv_iconst (v := 1) hx hb dX9_keepAct_61 (by decide) ?_
      refine lv_iadd hx hb dX9_keepAct_62 ?_
      refine lv_goto (tgt := 68) hx hb dX9_keepAct_63 (by decide) ?_
      refine lv_topi (fun y_9 ey_9 => ?_)
      have hf := lt_at ey_9 hf; clear ey_9
      refine va_put (D := (dC, dI)) (ci := 9) (v := .int y_9) (ty := .int) (C := RX9) (T := TX9) (N := 34) hx hb hts i9 tyX9 tyX9_ok nmX9 hown hK hP (wD hA cI cJ cZ z_6) hS 25 (wc_25 A cI cJ cZ z_6) rfl 14 (by decide) (hts (.fieldLink RX9 113 "LightestRulesModel" "acts" "I") (by decide +kernel)) (fun _ h9 => h9) rfl (by decide +kernel) rfl rfl (Nat.le_of_ble_eq_true rfl) dX9_keepAct_68 (fun H locs hP _ hS => ?_)
      rw [ws_25_14 A cI cJ cZ z_6 y_9] at hP
      obtain ⟨z_10, hP, hf⟩ := lt_P (P := fun q => wIs dC dI A cI cJ cZ q H) hP hf
      exact retV hx hb hr hlocks hP hS hf dX9_keepAct_71
  have hLK_1 : ∀ (n_13 : Nat) (x1_12 : Int32) (z_11 : Mem) (H : Heap) (locs : List Loc) (ls : Array Slot), fX9_keepAct_L2 K_1  n_13 x1_12 z_11 = some (ru, z') → wIs dC dI A cI cJ cZ z_11 H → va_S (fr A) s.heap H locs → lv_has ls 2 [(0, .ref (A 25)), (1, .int x1_12)] → WV p l e wsX9_keepAct 0 s m [.ref (A 25)] below meth c dC dI A cI cJ cZ z' H locs (F0 m 2 ls []) := by
    intro n_13
    induction n_13 with
    | zero => intro x1_12 z_11 H locs ls hf; rw [fX9_keepAct_L2_0] at hf; cases hf
    | succ n_13 ihK_1 =>
      intro x1_12 z_11 H locs ls hf hP hS hl
      rw [fX9_keepAct_L2_s] at hf
      refine lv_iload_n hx hb dX9_keepAct_2 rfl (lv_at hl 1 rfl) ?_
      refine lv_bipush (v := 26) hx hb dX9_keepAct_3 (by decide) ?_
      refine lv_icmp_ge (tgt := 34) hx hb dX9_keepAct_5 (by decide) (fun c_14 => ?_) (fun c_14 => ?_)
      · have hf := it_t c_14 hf
        exact hEK_1 _ _ _ _ _ hf hP hS (lv_sub hl [0, 1] rfl)
      · have hf := it_f c_14 hf
        refine lv_aload_n hx hb dX9_keepAct_8 rfl (lv_at hl 0 rfl) ?_
        refine va_get (D := (dC, dI)) (ci := 9) (v := .ref (A 29)) (C := RX9) (T := TX9) (N := 34) hx hb hts i9 hown hK hP 25 (wc_25 A cI cJ cZ z_11) rfl 16 (by decide) (hts (.fieldLink RX9 19 "LightestRulesModel" "row" "[I") (by decide +kernel)) (fun _ h9 => h9) rfl dX9_keepAct_9 ?_
        refine lv_bipush (v := 26) hx hb dX9_keepAct_12 (by decide) ?_
        refine lv_aload_n hx hb dX9_keepAct_14 rfl (lv_at hl 0 rfl) ?_
        refine va_get (D := (dC, dI)) (ci := 9) (v := .int (z_11.1 25 15)) (C := RX9) (T := TX9) (N := 34) hx hb hts i9 hown hK hP 25 (wc_25 A cI cJ cZ z_11) rfl 15 (by decide) (hts (.fieldLink RX9 129 "LightestRulesModel" "next" "I") (by decide +kernel)) (fun _ h9 => h9) rfl dX9_keepAct_15 ?_
        refine lv_imul hx hb dX9_keepAct_18 ?_
        refine lv_iload_n hx hb dX9_keepAct_19 rfl (lv_at hl 1 rfl) ?_
        refine lv_iadd hx hb dX9_keepAct_20 ?_
        refine lv_aload_n hx hb dX9_keepAct_21 rfl (lv_at hl 0 rfl) ?_
        refine va_get (D := (dC, dI)) (ci := 9) (v := .ref (A 27)) (C := RX9) (T := TX9) (N := 34) hx hb hts i9 hown hK hP 25 (wc_25 A cI cJ cZ z_11) rfl 5 (by decide) (hts (.fieldLink RX9 13 "LightestRulesModel" "now" "[I") (by decide +kernel)) (fun _ h9 => h9) rfl dX9_keepAct_22 ?_
        refine lv_iload_n hx hb dX9_keepAct_25 rfl (lv_at hl 1 rfl) ?_
        obtain ⟨n_15, hf⟩ := rg_el hf
        refine va_iald hx hb hK hP 27 0 (wc_27 A cI cJ cZ z_11) rfl n_15 dX9_keepAct_26 ?_
        refine lv_topi (fun a_16 ea_16 => ?_)
        have hf := lt_at ea_16 hf; clear ea_16
        obtain ⟨n_17, hf⟩ := rg_el hf
        refine va_iast hx hb hK hP (wD hA cI cJ cZ z_11) hS 29 0 (wc_29 A cI cJ cZ z_11) rfl n_17 dX9_keepAct_27 (fun H locs hP _ hS => ?_)
        rw [wa_29 A cI cJ cZ z_11 (((26 : Int32) * (z_11.1 25 15)) + x1_12).toNatClampNeg a_16] at hP
        obtain ⟨z_18, hP, hf⟩ := lt_P (P := fun q => wIs dC dI A cI cJ cZ q H) hP hf
        obtain ⟨x1_19, ex1_19⟩ : ∃ q : Int32, q = x1_12 + (1 : Int32) := ⟨_, rfl⟩
        refine lv_iinc (v := x1_19) (lv' := [(1, .int x1_19), (0, .ref (A 25))]) hx hb dX9_keepAct_28 hl (k := 1) rfl (by rw [ex1_19]; rfl) (by decide) rfl (fun ls hl => ?_)
        have hf := lt_at ex1_19 hf; clear ex1_19
        refine lv_goto (tgt := 2) hx hb dX9_keepAct_31 (by decide) ?_
        exact ihK_1 _ _ _ _ _ hf hP hS (lv_sub hl [1, 0] rfl)
  exact hLK_1 FU _ _ _ _ _ hf hP hS (lv_sub hl [1, 0] rfl)
set_option maxHeartbeats 4000000 in
set_option maxRecDepth 100000 in
theorem tX9_eat {l : Launch} {dC : Nat → ClassId} {dI : Nat → Nat → Nat} {A : Nat → Nat} {t0 : Nat} {cI cJ cZ : ClassId} (hA : dst A) {p0 : Int32} {p1 : Int32} {z : Mem} {r : Int32} {z' : Mem} (hf : fX9_eat p0 p1 z = some (r, z')) : MI l dC dI A t0 cI cJ cZ yX9_eat wsX9_eat 2 [.ref (A 25), .int p0, .int p1] z r z' := by
  refine Met.ofW (cc := cX9_eat) (maxL := 3) (ret := (some .int)) (by decide) rfl ?_
  intro p e s m args below meth c s₁ B hml hv
  obtain ⟨rfl, hP, hK, hZ⟩ := hv
  have hx := B.exec
  have hb := B.bytes
  have hr := B.returns
  have hts := atoms_spec (ws := wsX9_eat) B.pre
  have hown : s.vm.findClass RX9 = some m.cls := findClass_of_methodNamed B.named
  have hlocks := B.notSynchronized
  have hS : va_S (fr A) s.heap s.heap [] := va_S.rf
  have i9 : ∀ w ∈ wsX90, w ∈ wsX9_eat := fun _ h => List.mem_cons_of_mem _ (List.mem_append_right _ h)
  have hl := lv_entry ([.ref (A 25), .int p0, .int p1]) (n := 3) (Nat.le_of_ble_eq_true rfl)
  rw [lg_entry_eq]
  generalize (lg_sl ([.ref (A 25), .int p0, .int p1]) ++ List.replicate (3 - (lg_sl ([.ref (A 25), .int p0, .int p1])).length) Slot.unset).toArray = ls at hl ⊢
  have hl : lv_has ls 3 [(0, .ref (A 25)), (1, .int p0), (2, .int p1)] := hl
  have hP : wIs dC dI A cI cJ cZ z s.heap := hP
  rw [fX9_eat] at hf
  refine lv_aload_n hx hb dX9_eat_0 rfl (lv_at hl 0 rfl) ?_
  refine lv_iload_n hx hb dX9_eat_1 rfl (lv_at hl 1 rfl) ?_
  obtain ⟨r_1, z_2, h_3, hf⟩ := cl_el hf
  refine callVI (As := [.int p0]) (rest := []) (ci := 9) (q0 := 25) ⟨hx, hb, hml, hown, hts⟩ (tX9_isPerson (l := l) (dC := dC) (dI := dI) (t0 := t0) (cI := cI) (cJ := cJ) (cZ := cZ) hA h_3) (cwV 1 hts gX9_eat_X9_isPerson rfl rfl rfl (by decide +kernel) ⟨Nat.le_of_ble_eq_true rfl, Nat.le_of_ble_eq_true rfl⟩) hK hZ hP hS rfl (wc_25 A cI cJ cZ z) rfl rfl rfl hl.1 (Nat.le_of_ble_eq_true rfl) ⟨Nat.zero_le _, Nat.zero_le _⟩ dX9_eat_2 (fun H locs hP hS => ?_)
  refine lv_if_ne (tgt := 10) hx hb dX9_eat_5 (by decide) (fun c_4 => ?_) (fun c_4 => ?_)
  · have hf := it_f c_4 hf
    refine lv_iload_n hx hb dX9_eat_10 rfl (lv_at hl 2 rfl) ?_
    refine lv_i2l hx hb dX9_eat_11 rfl ?_
    refine lv_lconst (v := 1) hx hb dX9_eat_12 rfl ?_
    refine lv_ldc2 hx hb hown (hts (.constantLong RX9 132 (9)) (by decide +kernel)) dX9_eat_13 ?_
    obtain ⟨r_5, z_6, h_7, hf⟩ := cl_el hf
    refine callSI (As := [.long (p1.toInt64), .long (1 : Int64), .long (9 : Int64)]) (rest := []) ⟨hx, hb, hml, hown, hts⟩ (tX9_in (l := l) (dC := dC) (dI := dI) (t0 := t0) (cI := cI) (cJ := cJ) (cZ := cZ) hA h_7) (va_cwS 3 hts gX9_eat_X9_in rfl rfl rfl (by decide +kernel) ⟨Nat.le_of_ble_eq_true rfl, Nat.le_of_ble_eq_true rfl⟩) hK hZ hP hS rfl rfl hl.1 (Nat.le_of_ble_eq_true rfl) ⟨Nat.zero_le _, Nat.zero_le _⟩ dX9_eat_16 (fun H locs hP hS => ?_)
    refine lv_if_ne (tgt := 25) hx hb dX9_eat_19 (by decide) (fun c_8 => ?_) (fun c_8 => ?_)
    · have hf := it_f c_8 hf
      refine lv_aload_n hx hb dX9_eat_25 rfl (lv_at hl 0 rfl) ?_
      refine va_get (D := (dC, dI)) (ci := 9) (v := .ref (A 27)) (C := RX9) (T := TX9) (N := 34) hx hb hts i9 hown hK hP 25 (wc_25 A cI cJ cZ z_6) rfl 5 (by decide) (hts (.fieldLink RX9 13 "LightestRulesModel" "now" "[I") (by decide +kernel)) (fun _ h9 => h9) rfl dX9_eat_26 ?_
      refine lv_iconst (v := 5) hx hb dX9_eat_29 (by decide) ?_
      refine lv_iload_n hx hb dX9_eat_30 rfl (lv_at hl 1 rfl) ?_
      refine lv_imul hx hb dX9_eat_31 ?_
      refine lv_iconst (v := 1) hx hb dX9_eat_32 (by decide) ?_
      refine lv_iadd hx hb dX9_eat_33 ?_
      refine lv_topi (fun y_9 ey_9 => ?_)
      have hf := lt_at ey_9 hf; clear ey_9
      obtain ⟨n_10, hf⟩ := rg_el hf
      refine va_iald hx hb hK hP 27 0 (wc_27 A cI cJ cZ z_6) rfl n_10 dX9_eat_34 ?_
      refine lv_topi (fun a_11 ea_11 => ?_)
      have hf := lt_at ea_11 hf; clear ea_11
      refine lv_iload_n hx hb dX9_eat_35 rfl (lv_at hl 2 rfl) ?_
      refine lv_icmp_ge (tgt := 42) hx hb dX9_eat_36 (by decide) (fun c_12 => ?_) (fun c_12 => ?_)
      · have hf := it_t c_12 hf
        refine lv_aload_n hx hb dX9_eat_42 rfl (lv_at hl 0 rfl) ?_
        obtain ⟨r_13, z_14, h_15, hf⟩ := cl_el hf
        refine callVV (As := []) (rest := []) (ci := 9) (q0 := 25) ⟨hx, hb, hml, hown, hts⟩ (tX9_keepAct (l := l) (dC := dC) (dI := dI) (t0 := t0) (cI := cI) (cJ := cJ) (cZ := cZ) hA h_15) (cwV 0 hts gX9_eat_X9_keepAct rfl rfl rfl (by decide +kernel) ⟨Nat.le_of_ble_eq_true rfl, Nat.le_of_ble_eq_true rfl⟩) hK hZ hP hS rfl (wc_25 A cI cJ cZ z_6) rfl rfl rfl hl.1 (Nat.le_of_ble_eq_true rfl) ⟨Nat.zero_le _, Nat.zero_le _⟩ dX9_eat_43 (fun H locs hP hS => ?_)
        refine lv_aload_n hx hb dX9_eat_46 rfl (lv_at hl 0 rfl) ?_
        refine va_get (D := (dC, dI)) (ci := 9) (v := .ref (A 27)) (C := RX9) (T := TX9) (N := 34) hx hb hts i9 hown hK hP 25 (wc_25 A cI cJ cZ z_14) rfl 5 (by decide) (hts (.fieldLink RX9 13 "LightestRulesModel" "now" "[I") (by decide +kernel)) (fun _ h9 => h9) rfl dX9_eat_47 ?_
        refine lv_iconst (v := 5) hx hb dX9_eat_50 (by decide) ?_
        refine lv_iload_n hx hb dX9_eat_51 rfl (lv_at hl 1 rfl) ?_
        refine lv_imul hx hb dX9_eat_52 ?_
        refine lv_topi (fun y_16 ey_16 => ?_)
        have hf := lt_at ey_16 hf; clear ey_16
        refine lv_dup2_11 hx hb dX9_eat_53 rfl rfl ?_
        obtain ⟨n_17, hf⟩ := rg_el hf
        refine va_iald hx hb hK hP 27 0 (wc_27 A cI cJ cZ z_14) rfl n_17 dX9_eat_54 ?_
        refine lv_topi (fun a_18 ea_18 => ?_)
        have hf := lt_at ea_18 hf; clear ea_18
        refine lv_bipush (v := 8) hx hb dX9_eat_55 (by decide) ?_
        refine lv_iload_n hx hb dX9_eat_57 rfl (lv_at hl 2 rfl) ?_
        refine lv_imul hx hb dX9_eat_58 ?_
        refine lv_iadd hx hb dX9_eat_59 ?_
        refine lv_topi (fun y_19 ey_19 => ?_)
        have hf := lt_at ey_19 hf; clear ey_19
        obtain ⟨n_20, hf⟩ := rg_el hf
        refine va_iast hx hb hK hP (wD hA cI cJ cZ z_14) hS 27 0 (wc_27 A cI cJ cZ z_14) rfl n_20 dX9_eat_60 (fun H locs hP _ hS => ?_)
        rw [wa_27 A cI cJ cZ z_14 y_16.toNatClampNeg y_19] at hP
        obtain ⟨z_21, hP, hf⟩ := lt_P (P := fun q => wIs dC dI A cI cJ cZ q H) hP hf
        refine lv_aload_n hx hb dX9_eat_61 rfl (lv_at hl 0 rfl) ?_
        refine va_get (D := (dC, dI)) (ci := 9) (v := .ref (A 27)) (C := RX9) (T := TX9) (N := 34) hx hb hts i9 hown hK hP 25 (wc_25 A cI cJ cZ z_21) rfl 5 (by decide) (hts (.fieldLink RX9 13 "LightestRulesModel" "now" "[I") (by decide +kernel)) (fun _ h9 => h9) rfl dX9_eat_62 ?_
        refine lv_iconst (v := 5) hx hb dX9_eat_65 (by decide) ?_
        refine lv_iload_n hx hb dX9_eat_66 rfl (lv_at hl 1 rfl) ?_
        refine lv_imul hx hb dX9_eat_67 ?_
        refine lv_iconst (v := 1) hx hb dX9_eat_68 (by decide) ?_
        refine lv_iadd hx hb dX9_eat_69 ?_
        refine lv_topi (fun y_22 ey_22 => ?_)
        have hf := lt_at ey_22 hf; clear ey_22
        refine lv_dup2_11 hx hb dX9_eat_70 rfl rfl ?_
        obtain ⟨n_23, hf⟩ := rg_el hf
        refine va_iald hx hb hK hP 27 0 (wc_27 A cI cJ cZ z_21) rfl n_23 dX9_eat_71 ?_
        refine lv_topi (fun a_24 ea_24 => ?_)
        have hf := lt_at ea_24 hf; clear ea_24
        refine lv_iload_n hx hb dX9_eat_72 rfl (lv_at hl 2 rfl) ?_
        refine lv_isub hx hb dX9_eat_73 ?_
        refine lv_topi (fun y_25 ey_25 => ?_)
        have hf := lt_at ey_25 hf; clear ey_25
        obtain ⟨n_26, hf⟩ := rg_el hf
        refine va_iast hx hb hK hP (wD hA cI cJ cZ z_21) hS 27 0 (wc_27 A cI cJ cZ z_21) rfl n_26 dX9_eat_74 (fun H locs hP _ hS => ?_)
        rw [wa_27 A cI cJ cZ z_21 y_22.toNatClampNeg y_25] at hP
        obtain ⟨z_27, hP, hf⟩ := lt_P (P := fun q => wIs dC dI A cI cJ cZ q H) hP hf
        refine lv_aload_n hx hb dX9_eat_75 rfl (lv_at hl 0 rfl) ?_
        refine va_get (D := (dC, dI)) (ci := 9) (v := .ref (A 27)) (C := RX9) (T := TX9) (N := 34) hx hb hts i9 hown hK hP 25 (wc_25 A cI cJ cZ z_27) rfl 5 (by decide) (hts (.fieldLink RX9 13 "LightestRulesModel" "now" "[I") (by decide +kernel)) (fun _ h9 => h9) rfl dX9_eat_76 ?_
        refine lv_iconst (v := 5) hx hb dX9_eat_79 (by decide) ?_
        refine lv_iload_n hx hb dX9_eat_80 rfl (lv_at hl 1 rfl) ?_
        refine lv_imul hx hb dX9_eat_81 ?_
        refine lv_topi (fun y_28 ey_28 => ?_)
        have hf := lt_at ey_28 hf; clear ey_28
        obtain ⟨n_29, hf⟩ := rg_el hf
        refine va_iald hx hb hK hP 27 0 (wc_27 A cI cJ cZ z_27) rfl n_29 dX9_eat_82 ?_
        refine lv_topi (fun a_30 ea_30 => ?_)
        have hf := lt_at ea_30 hf; clear ea_30
        exact retI hx hb hr hlocks hP hS hf dX9_eat_83
      · have hf := it_f c_12 hf
        refine lv_bipush (v := -3) hx hb dX9_eat_39 (by decide) ?_
        exact retI hx hb hr hlocks hP hS hf dX9_eat_41
    · have hf := it_t c_8 hf
      refine lv_bipush (v := -2) hx hb dX9_eat_22 (by decide) ?_
      exact retI hx hb hr hlocks hP hS hf dX9_eat_24
  · have hf := it_t c_4 hf
    refine lv_iconst (v := -1) hx hb dX9_eat_8 (by decide) ?_
    exact retI hx hb hr hlocks hP hS hf dX9_eat_9
