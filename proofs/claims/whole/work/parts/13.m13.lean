set_option maxHeartbeats 4000000 in
set_option maxRecDepth 100000 in
theorem tX2_get_2 {l : Launch} {dC : Nat → ClassId} {dI : Nat → Nat → Nat} {A : Nat → Nat} {t0 : Nat} {cI cJ cZ : ClassId} (hA : dst A) {p0 : Int32} {p1 : Int32} {z : Mem} {r : Int32} {z' : Mem} (hf : fX2_get_2 p0 p1 z = some (r, z')) : MI l dC dI A t0 cI cJ cZ yX2_get wsX2_get 0 [.ref (A 2), .int p0, .int p1] z r z' := by
  refine Met.ofW (cc := cX2_get) (maxL := 4) (ret := (some .int)) (by decide) rfl ?_
  intro p e s m args below meth c s₁ B hml hv
  obtain ⟨rfl, hP, hK, hZ⟩ := hv
  have hx := B.exec
  have hb := B.bytes
  have hr := B.returns
  have hts := atoms_spec (ws := wsX2_get) B.pre
  have hown : s.vm.findClass RX2 = some m.cls := findClass_of_methodNamed B.named
  have hlocks := B.notSynchronized
  have hS : va_S (fr A) s.heap s.heap [] := va_S.rf
  have i2 : ∀ w ∈ wsX20, w ∈ wsX2_get := fun _ h => List.mem_cons_of_mem _ (List.mem_append_right _ h)
  have hl := lv_entry ([.ref (A 2), .int p0, .int p1]) (n := 4) (Nat.le_of_ble_eq_true rfl)
  rw [lg_entry_eq]
  generalize (lg_sl ([.ref (A 2), .int p0, .int p1]) ++ List.replicate (4 - (lg_sl ([.ref (A 2), .int p0, .int p1])).length) Slot.unset).toArray = ls at hl ⊢
  have hl : lv_has ls 4 [(0, .ref (A 2)), (1, .int p0), (2, .int p1)] := hl
  have hP : wIs dC dI A cI cJ cZ z s.heap := hP
  rw [fX2_get_2] at hf
  refine lv_iload_n hx hb dX2_get_0 rfl (lv_at hl 1 rfl) ?_
  refine lv_iconst (v := 5) hx hb dX2_get_1 (by decide) ?_
  refine lv_imul hx hb dX2_get_2 ?_
  refine lv_iload_n hx hb dX2_get_3 rfl (lv_at hl 2 rfl) ?_
  refine lv_iadd hx hb dX2_get_4 ?_
  refine lv_topi (fun x3_1 ex3_1 => ?_)
  have hf := lt_at ex3_1 hf; clear ex3_1
  refine lv_istore_n (lv' := [(3, .int x3_1), (0, .ref (A 2)), (1, .int p0), (2, .int p1)]) hx hb dX2_get_5 rfl hl (by decide) rfl (fun ls hl => ?_)
  refine lv_iload_n hx hb dX2_get_6 rfl (lv_at hl 0 rfl) ?_
  refine lv_if_lt (tgt := 25) hx hb dX2_get_7 (by decide) (fun c_2 => ?_) (fun c_2 => ?_)
  · have hf := it_t c_2 hf
    refine lv_iconst (v := 0) hx hb dX2_get_25 (by decide) ?_
    exact retI hx hb hr hlocks hP hS hf dX2_get_26
  · have hf := it_f c_2 hf
    refine lv_iload_n hx hb dX2_get_10 rfl (lv_at hl 0 rfl) ?_
    refine lv_bipush (v := 25) hx hb dX2_get_11 (by decide) ?_
    refine lv_icmp_ge (tgt := 25) hx hb dX2_get_13 (by decide) (fun c_3 => ?_) (fun c_3 => ?_)
    · have hf := it_t c_3 hf
      refine lv_iconst (v := 0) hx hb dX2_get_25 (by decide) ?_
      exact retI hx hb hr hlocks hP hS hf dX2_get_26
    · have hf := it_f c_3 hf
      refine lv_aload_n hx hb dX2_get_16 rfl (lv_at hl 1 rfl) ?_
      refine va_get (D := (dC, dI)) (ci := 2) (v := .ref (A 11)) (C := RX2) (T := TX2) (N := 4) hx hb hts i2 hown hK hP 2 (wc_2 A cI cJ cZ z) rfl 0 (by decide) (hts (.fieldLink RX2 11 "LightestRules$People" "cells" "[I") (by decide +kernel)) (fun _ h9 => h9) rfl dX2_get_17 ?_
      refine lv_iload_n hx hb dX2_get_20 rfl (lv_at hl 0 rfl) ?_
      obtain ⟨n_4, hf⟩ := rg_el hf
      refine va_iald hx hb hK hP 11 0 (wc_11 A cI cJ cZ z) rfl n_4 dX2_get_21 ?_
      refine lv_topi (fun a_5 ea_5 => ?_)
      have hf := lt_at ea_5 hf; clear ea_5
      refine lv_goto (tgt := 26) hx hb dX2_get_22 (by decide) ?_
      exact retI hx hb hr hlocks hP hS hf dX2_get_26
set_option maxHeartbeats 4000000 in
set_option maxRecDepth 100000 in
theorem tX2_pocketWeight_2 {l : Launch} {dC : Nat → ClassId} {dI : Nat → Nat → Nat} {A : Nat → Nat} {t0 : Nat} {cI cJ cZ : ClassId} (hA : dst A) {p0 : Int32} {z : Mem} {r : Int32} {z' : Mem} (hf : fX2_pocketWeight_2 p0 z = some (r, z')) : MI l dC dI A t0 cI cJ cZ yX2_pocketWeight wsX2_pocketWeight 1 [.ref (A 2), .int p0] z r z' := by
  refine Met.ofW (cc := cX2_pocketWeight) (maxL := 2) (ret := (some .int)) (by decide) rfl ?_
  intro p e s m args below meth c s₁ B hml hv
  obtain ⟨rfl, hP, hK, hZ⟩ := hv
  have hx := B.exec
  have hb := B.bytes
  have hr := B.returns
  have hts := atoms_spec (ws := wsX2_pocketWeight) B.pre
  have hown : s.vm.findClass RX2 = some m.cls := findClass_of_methodNamed B.named
  have hlocks := B.notSynchronized
  have hS : va_S (fr A) s.heap s.heap [] := va_S.rf
  have hl := lv_entry ([.ref (A 2), .int p0]) (n := 2) (Nat.le_of_ble_eq_true rfl)
  rw [lg_entry_eq]
  generalize (lg_sl ([.ref (A 2), .int p0]) ++ List.replicate (2 - (lg_sl ([.ref (A 2), .int p0])).length) Slot.unset).toArray = ls at hl ⊢
  have hl : lv_has ls 2 [(0, .ref (A 2)), (1, .int p0)] := hl
  have hP : wIs dC dI A cI cJ cZ z s.heap := hP
  rw [fX2_pocketWeight_2] at hf
  refine lv_bipush (v := 8) hx hb dX2_pocketWeight_0 (by decide) ?_
  refine lv_aload_n hx hb dX2_pocketWeight_2 rfl (lv_at hl 0 rfl) ?_
  refine lv_iload_n hx hb dX2_pocketWeight_3 rfl (lv_at hl 1 rfl) ?_
  refine lv_iconst (v := 1) hx hb dX2_pocketWeight_4 (by decide) ?_
  obtain ⟨r_1, z_2, h_3, hf⟩ := cl_el hf
  refine callVI (As := [.int p0, .int (1 : Int32)]) (rest := [.int (8 : Int32)]) (ci := 2) (q0 := 2) ⟨hx, hb, hml, hown, hts⟩ (tX2_get_2 (l := l) (dC := dC) (dI := dI) (t0 := t0) (cI := cI) (cJ := cJ) (cZ := cZ) hA h_3) (cwV 2 hts gX2_pocketWeight_X2_get rfl rfl rfl (by decide +kernel) ⟨Nat.le_of_ble_eq_true rfl, Nat.le_of_ble_eq_true rfl⟩) hK hZ hP hS rfl (wc_2 A cI cJ cZ z) rfl rfl rfl hl.1 (Nat.le_of_ble_eq_true rfl) ⟨Nat.zero_le _, Nat.zero_le _⟩ dX2_pocketWeight_5 (fun H locs hP hS => ?_)
  refine lv_imul hx hb dX2_pocketWeight_8 ?_
  refine lv_bipush (v := 10) hx hb dX2_pocketWeight_9 (by decide) ?_
  refine lv_aload_n hx hb dX2_pocketWeight_11 rfl (lv_at hl 0 rfl) ?_
  refine lv_iload_n hx hb dX2_pocketWeight_12 rfl (lv_at hl 1 rfl) ?_
  refine lv_iconst (v := 2) hx hb dX2_pocketWeight_13 (by decide) ?_
  obtain ⟨r_4, z_5, h_6, hf⟩ := cl_el hf
  refine callVI (As := [.int p0, .int (2 : Int32)]) (rest := [.int (10 : Int32), .int ((8 : Int32) * r_1)]) (ci := 2) (q0 := 2) ⟨hx, hb, hml, hown, hts⟩ (tX2_get_2 (l := l) (dC := dC) (dI := dI) (t0 := t0) (cI := cI) (cJ := cJ) (cZ := cZ) hA h_6) (cwV 2 hts gX2_pocketWeight_X2_get rfl rfl rfl (by decide +kernel) ⟨Nat.le_of_ble_eq_true rfl, Nat.le_of_ble_eq_true rfl⟩) hK hZ hP hS rfl (wc_2 A cI cJ cZ z_2) rfl rfl rfl hl.1 (Nat.le_of_ble_eq_true rfl) ⟨Nat.zero_le _, Nat.zero_le _⟩ dX2_pocketWeight_14 (fun H locs hP hS => ?_)
  refine lv_imul hx hb dX2_pocketWeight_17 ?_
  refine lv_iadd hx hb dX2_pocketWeight_18 ?_
  exact retI hx hb hr hlocks hP hS hf dX2_pocketWeight_19
set_option maxHeartbeats 4000000 in
set_option maxRecDepth 100000 in
theorem tX2_noonWeight_2 {l : Launch} {dC : Nat → ClassId} {dI : Nat → Nat → Nat} {A : Nat → Nat} {t0 : Nat} {cI cJ cZ : ClassId} (hA : dst A) {p0 : Int32} {z : Mem} {r : Int32} {z' : Mem} (hf : fX2_noonWeight_2 p0 z = some (r, z')) : MI l dC dI A t0 cI cJ cZ yX2_noonWeight wsX2_noonWeight 2 [.ref (A 2), .int p0] z r z' := by
  refine Met.ofW (cc := cX2_noonWeight) (maxL := 2) (ret := (some .int)) (by decide) rfl ?_
  intro p e s m args below meth c s₁ B hml hv
  obtain ⟨rfl, hP, hK, hZ⟩ := hv
  have hx := B.exec
  have hb := B.bytes
  have hr := B.returns
  have hts := atoms_spec (ws := wsX2_noonWeight) B.pre
  have hown : s.vm.findClass RX2 = some m.cls := findClass_of_methodNamed B.named
  have hlocks := B.notSynchronized
  have hS : va_S (fr A) s.heap s.heap [] := va_S.rf
  have hl := lv_entry ([.ref (A 2), .int p0]) (n := 2) (Nat.le_of_ble_eq_true rfl)
  rw [lg_entry_eq]
  generalize (lg_sl ([.ref (A 2), .int p0]) ++ List.replicate (2 - (lg_sl ([.ref (A 2), .int p0])).length) Slot.unset).toArray = ls at hl ⊢
  have hl : lv_has ls 2 [(0, .ref (A 2)), (1, .int p0)] := hl
  have hP : wIs dC dI A cI cJ cZ z s.heap := hP
  rw [fX2_noonWeight_2] at hf
  refine lv_aload_n hx hb dX2_noonWeight_0 rfl (lv_at hl 0 rfl) ?_
  refine lv_iload_n hx hb dX2_noonWeight_1 rfl (lv_at hl 1 rfl) ?_
  refine lv_iconst (v := 0) hx hb dX2_noonWeight_2 (by decide) ?_
  obtain ⟨r_1, z_2, h_3, hf⟩ := cl_el hf
  refine callVI (As := [.int p0, .int (0 : Int32)]) (rest := []) (ci := 2) (q0 := 2) ⟨hx, hb, hml, hown, hts⟩ (tX2_get_2 (l := l) (dC := dC) (dI := dI) (t0 := t0) (cI := cI) (cJ := cJ) (cZ := cZ) hA h_3) (cwV 2 hts gX2_noonWeight_X2_get rfl rfl rfl (by decide +kernel) ⟨Nat.le_of_ble_eq_true rfl, Nat.le_of_ble_eq_true rfl⟩) hK hZ hP hS rfl (wc_2 A cI cJ cZ z) rfl rfl rfl hl.1 (Nat.le_of_ble_eq_true rfl) ⟨Nat.zero_le _, Nat.zero_le _⟩ dX2_noonWeight_3 (fun H locs hP hS => ?_)
  refine lv_aload_n hx hb dX2_noonWeight_6 rfl (lv_at hl 0 rfl) ?_
  refine lv_iload_n hx hb dX2_noonWeight_7 rfl (lv_at hl 1 rfl) ?_
  obtain ⟨r_4, z_5, h_6, hf⟩ := cl_el hf
  refine callVI (As := [.int p0]) (rest := [.int r_1]) (ci := 2) (q0 := 2) ⟨hx, hb, hml, hown, hts⟩ (tX2_pocketWeight_2 (l := l) (dC := dC) (dI := dI) (t0 := t0) (cI := cI) (cJ := cJ) (cZ := cZ) hA h_6) (cwV 1 hts gX2_noonWeight_X2_pocketWeight rfl rfl rfl (by decide +kernel) ⟨Nat.le_of_ble_eq_true rfl, Nat.le_of_ble_eq_true rfl⟩) hK hZ hP hS rfl (wc_2 A cI cJ cZ z_2) rfl rfl rfl hl.1 (Nat.le_of_ble_eq_true rfl) ⟨Nat.zero_le _, Nat.zero_le _⟩ dX2_noonWeight_8 (fun H locs hP hS => ?_)
  refine lv_iadd hx hb dX2_noonWeight_11 ?_
  exact retI hx hb hr hlocks hP hS hf dX2_noonWeight_12
set_option maxHeartbeats 4000000 in
set_option maxRecDepth 100000 in
theorem tX2_isIll_2 {l : Launch} {dC : Nat → ClassId} {dI : Nat → Nat → Nat} {A : Nat → Nat} {t0 : Nat} {cI cJ cZ : ClassId} (hA : dst A) {p0 : Int32} {z : Mem} {r : Int32} {z' : Mem} (hf : fX2_isIll_2 p0 z = some (r, z')) : MI l dC dI A t0 cI cJ cZ yX2_isIll wsX2_isIll 1 [.ref (A 2), .int p0] z r z' := by
  refine Met.ofW (cc := cX2_isIll) (maxL := 2) (ret := (some .boolean)) (by decide) rfl ?_
  intro p e s m args below meth c s₁ B hml hv
  obtain ⟨rfl, hP, hK, hZ⟩ := hv
  have hx := B.exec
  have hb := B.bytes
  have hr := B.returns
  have hts := atoms_spec (ws := wsX2_isIll) B.pre
  have hown : s.vm.findClass RX2 = some m.cls := findClass_of_methodNamed B.named
  have hlocks := B.notSynchronized
  have hS : va_S (fr A) s.heap s.heap [] := va_S.rf
  have i2 : ∀ w ∈ wsX20, w ∈ wsX2_isIll := fun _ h => List.mem_cons_of_mem _ (List.mem_append_right _ h)
  have hl := lv_entry ([.ref (A 2), .int p0]) (n := 2) (Nat.le_of_ble_eq_true rfl)
  rw [lg_entry_eq]
  generalize (lg_sl ([.ref (A 2), .int p0]) ++ List.replicate (2 - (lg_sl ([.ref (A 2), .int p0])).length) Slot.unset).toArray = ls at hl ⊢
  have hl : lv_has ls 2 [(0, .ref (A 2)), (1, .int p0)] := hl
  have hP : wIs dC dI A cI cJ cZ z s.heap := hP
  rw [fX2_isIll_2] at hf
  refine lv_aload_n hx hb dX2_isIll_0 rfl (lv_at hl 0 rfl) ?_
  refine lv_iload_n hx hb dX2_isIll_1 rfl (lv_at hl 1 rfl) ?_
  refine lv_iconst (v := 0) hx hb dX2_isIll_2 (by decide) ?_
  obtain ⟨r_1, z_2, h_3, hf⟩ := cl_el hf
  refine callVI (As := [.int p0, .int (0 : Int32)]) (rest := []) (ci := 2) (q0 := 2) ⟨hx, hb, hml, hown, hts⟩ (tX2_get_2 (l := l) (dC := dC) (dI := dI) (t0 := t0) (cI := cI) (cJ := cJ) (cZ := cZ) hA h_3) (cwV 2 hts gX2_isIll_X2_get rfl rfl rfl (by decide +kernel) ⟨Nat.le_of_ble_eq_true rfl, Nat.le_of_ble_eq_true rfl⟩) hK hZ hP hS rfl (wc_2 A cI cJ cZ z) rfl rfl rfl hl.1 (Nat.le_of_ble_eq_true rfl) ⟨Nat.zero_le _, Nat.zero_le _⟩ dX2_isIll_3 (fun H locs hP hS => ?_)
  refine lv_bipush (v := 40) hx hb dX2_isIll_6 (by decide) ?_
  refine lv_aload_n hx hb dX2_isIll_8 rfl (lv_at hl 0 rfl) ?_
  refine va_get (D := (dC, dI)) (ci := 2) (v := .int (z_2.1 2 3)) (C := RX2) (T := TX2) (N := 4) hx hb hts i2 hown hK hP 2 (wc_2 A cI cJ cZ z_2) rfl 3 (by decide) (hts (.fieldLink RX2 22 "LightestRules$People" "ill" "I") (by decide +kernel)) (fun _ h9 => h9) rfl dX2_isIll_9 ?_
  refine lv_imul hx hb dX2_isIll_12 ?_
  refine lv_icmp_ge (tgt := 20) hx hb dX2_isIll_13 (by decide) (fun c_4 => ?_) (fun c_4 => ?_)
  · have hf := it_t c_4 hf
    refine lv_iconst (v := 0) hx hb dX2_isIll_20 (by decide) ?_
    exact retZ hx hb hr hlocks rfl hP hS hf dX2_isIll_21
  · have hf := it_f c_4 hf
    refine lv_iconst (v := 1) hx hb dX2_isIll_16 (by decide) ?_
    refine lv_goto (tgt := 21) hx hb dX2_isIll_17 (by decide) ?_
    exact retZ hx hb hr hlocks rfl hP hS hf dX2_isIll_21
set_option maxHeartbeats 4000000 in
set_option maxRecDepth 100000 in
theorem tX8_person {l : Launch} {dC : Nat → ClassId} {dI : Nat → Nat → Nat} {A : Nat → Nat} {t0 : Nat} {cI cJ cZ : ClassId} (hA : dst A) {p0 : Int32} {p1 : Int32} {z : Mem} {r : Int32} {z' : Mem} (hf : fX8_person p0 p1 z = some (r, z')) : MI l dC dI A t0 cI cJ cZ yX8_person wsX8_person 3 [.ref (A 0), .int p0, .int p1] z r z' := by
  refine Met.ofW (cc := cX8_person) (maxL := 3) (ret := (some .int)) (by decide) rfl ?_
  intro p e s m args below meth c s₁ B hml hv
  obtain ⟨rfl, hP, hK, hZ⟩ := hv
  have hx := B.exec
  have hb := B.bytes
  have hr := B.returns
  have hts := atoms_spec (ws := wsX8_person) B.pre
  have hown : s.vm.findClass RX8 = some m.cls := findClass_of_methodNamed B.named
  have hlocks := B.notSynchronized
  have hS : va_S (fr A) s.heap s.heap [] := va_S.rf
  have i8 : ∀ w ∈ wsX80, w ∈ wsX8_person := fun _ h => List.mem_cons_of_mem _ (List.mem_append_left _ (List.mem_append_right _ h))
  have hl := lv_entry ([.ref (A 0), .int p0, .int p1]) (n := 3) (Nat.le_of_ble_eq_true rfl)
  rw [lg_entry_eq]
  generalize (lg_sl ([.ref (A 0), .int p0, .int p1]) ++ List.replicate (3 - (lg_sl ([.ref (A 0), .int p0, .int p1])).length) Slot.unset).toArray = ls at hl ⊢
  have hl : lv_has ls 3 [(0, .ref (A 0)), (1, .int p0), (2, .int p1)] := hl
  have hP : wIs dC dI A cI cJ cZ z s.heap := hP
  rw [fX8_person] at hf
  refine lv_aload_n hx hb dX8_person_0 rfl (lv_at hl 0 rfl) ?_
  refine va_get (D := (dC, dI)) (ci := 8) (v := .ref (A 2)) (C := RX8) (T := TX8) (N := 9) hx hb hts i8 hown hK hP 0 (wc_0 A cI cJ cZ z) rfl 1 (by decide) (hts (.fieldLink RX8 19 "LightestRules" "folk" "LLightestRules$People;") (by decide +kernel)) (fun _ h9 => h9) rfl dX8_person_1 ?_
  refine lv_iload_n hx hb dX8_person_4 rfl (lv_at hl 1 rfl) ?_
  obtain ⟨r_1, z_2, h_3, hf⟩ := cl_el hf
  refine callVI (As := [.int p0]) (rest := []) (ci := 2) (q0 := 2) ⟨hx, hb, hml, hown, hts⟩ (tX2_has (l := l) (dC := dC) (dI := dI) (t0 := t0) (cI := cI) (cJ := cJ) (cZ := cZ) hA h_3) (cwV 1 hts gX8_person_X2_has rfl rfl rfl (by decide +kernel) ⟨Nat.le_of_ble_eq_true rfl, Nat.le_of_ble_eq_true rfl⟩) hK hZ hP hS rfl (wc_2 A cI cJ cZ z) rfl rfl rfl hl.1 (Nat.le_of_ble_eq_true rfl) ⟨Nat.zero_le _, Nat.zero_le _⟩ dX8_person_5 (fun H locs hP hS => ?_)
  refine lv_if_ne (tgt := 13) hx hb dX8_person_8 (by decide) (fun c_4 => ?_) (fun c_4 => ?_)
  · have hf := it_f c_4 hf
    refine lv_iload_n hx hb dX8_person_13 rfl (lv_at hl 2 rfl) ?_
    by_cases c_5 : p1.toInt = 0
    · have hf := it_t c_5 hf
      refine lv_tableIn (off := 42) (tgt := 56) hx hb dX8_person_14 (by omega) (by omega) (by rw [c_5]; rfl) (by decide) ?_
      refine lv_aload_n hx hb dX8_person_56 rfl (lv_at hl 0 rfl) ?_
      refine va_get (D := (dC, dI)) (ci := 8) (v := .ref (A 2)) (C := RX8) (T := TX8) (N := 9) hx hb hts i8 hown hK hP 0 (wc_0 A cI cJ cZ z_2) rfl 1 (by decide) (hts (.fieldLink RX8 19 "LightestRules" "folk" "LLightestRules$People;") (by decide +kernel)) (fun _ h9 => h9) rfl dX8_person_57 ?_
      refine lv_iload_n hx hb dX8_person_60 rfl (lv_at hl 1 rfl) ?_
      refine lv_iconst (v := 0) hx hb dX8_person_61 (by decide) ?_
      obtain ⟨r_6, z_7, h_8, hf⟩ := cl_el hf
      refine callVI (As := [.int p0, .int (0 : Int32)]) (rest := []) (ci := 2) (q0 := 2) ⟨hx, hb, hml, hown, hts⟩ (tX2_get_2 (l := l) (dC := dC) (dI := dI) (t0 := t0) (cI := cI) (cJ := cJ) (cZ := cZ) hA h_8) (cwV 2 hts gX8_person_X2_get rfl rfl rfl (by decide +kernel) ⟨Nat.le_of_ble_eq_true rfl, Nat.le_of_ble_eq_true rfl⟩) hK hZ hP hS rfl (wc_2 A cI cJ cZ z_2) rfl rfl rfl hl.1 (Nat.le_of_ble_eq_true rfl) ⟨Nat.zero_le _, Nat.zero_le _⟩ dX8_person_62 (fun H locs hP hS => ?_)
      exact retI hx hb hr hlocks hP hS hf dX8_person_65
    · have hf := it_f c_5 hf
      by_cases c_9 : p1.toInt = 1
      · have hf := it_t c_9 hf
        refine lv_tableIn (off := 52) (tgt := 66) hx hb dX8_person_14 (by omega) (by omega) (by rw [c_9]; rfl) (by decide) ?_
        refine lv_aload_n hx hb dX8_person_66 rfl (lv_at hl 0 rfl) ?_
        refine va_get (D := (dC, dI)) (ci := 8) (v := .ref (A 2)) (C := RX8) (T := TX8) (N := 9) hx hb hts i8 hown hK hP 0 (wc_0 A cI cJ cZ z_2) rfl 1 (by decide) (hts (.fieldLink RX8 19 "LightestRules" "folk" "LLightestRules$People;") (by decide +kernel)) (fun _ h9 => h9) rfl dX8_person_67 ?_
        refine lv_iload_n hx hb dX8_person_70 rfl (lv_at hl 1 rfl) ?_
        refine lv_iconst (v := 1) hx hb dX8_person_71 (by decide) ?_
        obtain ⟨r_10, z_11, h_12, hf⟩ := cl_el hf
        refine callVI (As := [.int p0, .int (1 : Int32)]) (rest := []) (ci := 2) (q0 := 2) ⟨hx, hb, hml, hown, hts⟩ (tX2_get_2 (l := l) (dC := dC) (dI := dI) (t0 := t0) (cI := cI) (cJ := cJ) (cZ := cZ) hA h_12) (cwV 2 hts gX8_person_X2_get rfl rfl rfl (by decide +kernel) ⟨Nat.le_of_ble_eq_true rfl, Nat.le_of_ble_eq_true rfl⟩) hK hZ hP hS rfl (wc_2 A cI cJ cZ z_2) rfl rfl rfl hl.1 (Nat.le_of_ble_eq_true rfl) ⟨Nat.zero_le _, Nat.zero_le _⟩ dX8_person_72 (fun H locs hP hS => ?_)
        exact retI hx hb hr hlocks hP hS hf dX8_person_75
      · have hf := it_f c_9 hf
        by_cases c_13 : p1.toInt = 2
        · have hf := it_t c_13 hf
          refine lv_tableIn (off := 62) (tgt := 76) hx hb dX8_person_14 (by omega) (by omega) (by rw [c_13]; rfl) (by decide) ?_
          refine lv_aload_n hx hb dX8_person_76 rfl (lv_at hl 0 rfl) ?_
          refine va_get (D := (dC, dI)) (ci := 8) (v := .ref (A 2)) (C := RX8) (T := TX8) (N := 9) hx hb hts i8 hown hK hP 0 (wc_0 A cI cJ cZ z_2) rfl 1 (by decide) (hts (.fieldLink RX8 19 "LightestRules" "folk" "LLightestRules$People;") (by decide +kernel)) (fun _ h9 => h9) rfl dX8_person_77 ?_
          refine lv_iload_n hx hb dX8_person_80 rfl (lv_at hl 1 rfl) ?_
          refine lv_iconst (v := 2) hx hb dX8_person_81 (by decide) ?_
          obtain ⟨r_14, z_15, h_16, hf⟩ := cl_el hf
          refine callVI (As := [.int p0, .int (2 : Int32)]) (rest := []) (ci := 2) (q0 := 2) ⟨hx, hb, hml, hown, hts⟩ (tX2_get_2 (l := l) (dC := dC) (dI := dI) (t0 := t0) (cI := cI) (cJ := cJ) (cZ := cZ) hA h_16) (cwV 2 hts gX8_person_X2_get rfl rfl rfl (by decide +kernel) ⟨Nat.le_of_ble_eq_true rfl, Nat.le_of_ble_eq_true rfl⟩) hK hZ hP hS rfl (wc_2 A cI cJ cZ z_2) rfl rfl rfl hl.1 (Nat.le_of_ble_eq_true rfl) ⟨Nat.zero_le _, Nat.zero_le _⟩ dX8_person_82 (fun H locs hP hS => ?_)
          exact retI hx hb hr hlocks hP hS hf dX8_person_85
        · have hf := it_f c_13 hf
          by_cases c_17 : p1.toInt = 3
          · have hf := it_t c_17 hf
            refine lv_tableIn (off := 72) (tgt := 86) hx hb dX8_person_14 (by omega) (by omega) (by rw [c_17]; rfl) (by decide) ?_
            refine lv_aload_n hx hb dX8_person_86 rfl (lv_at hl 0 rfl) ?_
            refine va_get (D := (dC, dI)) (ci := 8) (v := .ref (A 2)) (C := RX8) (T := TX8) (N := 9) hx hb hts i8 hown hK hP 0 (wc_0 A cI cJ cZ z_2) rfl 1 (by decide) (hts (.fieldLink RX8 19 "LightestRules" "folk" "LLightestRules$People;") (by decide +kernel)) (fun _ h9 => h9) rfl dX8_person_87 ?_
            refine lv_iload_n hx hb dX8_person_90 rfl (lv_at hl 1 rfl) ?_
            refine lv_iconst (v := 3) hx hb dX8_person_91 (by decide) ?_
            obtain ⟨r_18, z_19, h_20, hf⟩ := cl_el hf
            refine callVI (As := [.int p0, .int (3 : Int32)]) (rest := []) (ci := 2) (q0 := 2) ⟨hx, hb, hml, hown, hts⟩ (tX2_get_2 (l := l) (dC := dC) (dI := dI) (t0 := t0) (cI := cI) (cJ := cJ) (cZ := cZ) hA h_20) (cwV 2 hts gX8_person_X2_get rfl rfl rfl (by decide +kernel) ⟨Nat.le_of_ble_eq_true rfl, Nat.le_of_ble_eq_true rfl⟩) hK hZ hP hS rfl (wc_2 A cI cJ cZ z_2) rfl rfl rfl hl.1 (Nat.le_of_ble_eq_true rfl) ⟨Nat.zero_le _, Nat.zero_le _⟩ dX8_person_92 (fun H locs hP hS => ?_)
            exact retI hx hb hr hlocks hP hS hf dX8_person_95
          · have hf := it_f c_17 hf
            by_cases c_21 : p1.toInt = 4
            · have hf := it_t c_21 hf
              refine lv_tableIn (off := 82) (tgt := 96) hx hb dX8_person_14 (by omega) (by omega) (by rw [c_21]; rfl) (by decide) ?_
              refine lv_aload_n hx hb dX8_person_96 rfl (lv_at hl 0 rfl) ?_
              refine va_get (D := (dC, dI)) (ci := 8) (v := .ref (A 2)) (C := RX8) (T := TX8) (N := 9) hx hb hts i8 hown hK hP 0 (wc_0 A cI cJ cZ z_2) rfl 1 (by decide) (hts (.fieldLink RX8 19 "LightestRules" "folk" "LLightestRules$People;") (by decide +kernel)) (fun _ h9 => h9) rfl dX8_person_97 ?_
              refine lv_iload_n hx hb dX8_person_100 rfl (lv_at hl 1 rfl) ?_
              obtain ⟨r_22, z_23, h_24, hf⟩ := cl_el hf
              refine callVI (As := [.int p0]) (rest := []) (ci := 2) (q0 := 2) ⟨hx, hb, hml, hown, hts⟩ (tX2_noonWeight_2 (l := l) (dC := dC) (dI := dI) (t0 := t0) (cI := cI) (cJ := cJ) (cZ := cZ) hA h_24) (cwV 1 hts gX8_person_X2_noonWeight rfl rfl rfl (by decide +kernel) ⟨Nat.le_of_ble_eq_true rfl, Nat.le_of_ble_eq_true rfl⟩) hK hZ hP hS rfl (wc_2 A cI cJ cZ z_2) rfl rfl rfl hl.1 (Nat.le_of_ble_eq_true rfl) ⟨Nat.zero_le _, Nat.zero_le _⟩ dX8_person_101 (fun H locs hP hS => ?_)
              exact retI hx hb hr hlocks hP hS hf dX8_person_104
            · have hf := it_f c_21 hf
              by_cases c_25 : p1.toInt = 5
              · have hf := it_t c_25 hf
                refine lv_tableIn (off := 91) (tgt := 105) hx hb dX8_person_14 (by omega) (by omega) (by rw [c_25]; rfl) (by decide) ?_
                refine lv_aload_n hx hb dX8_person_105 rfl (lv_at hl 0 rfl) ?_
                refine va_get (D := (dC, dI)) (ci := 8) (v := .ref (A 2)) (C := RX8) (T := TX8) (N := 9) hx hb hts i8 hown hK hP 0 (wc_0 A cI cJ cZ z_2) rfl 1 (by decide) (hts (.fieldLink RX8 19 "LightestRules" "folk" "LLightestRules$People;") (by decide +kernel)) (fun _ h9 => h9) rfl dX8_person_106 ?_
                refine lv_iload_n hx hb dX8_person_109 rfl (lv_at hl 1 rfl) ?_
                obtain ⟨r_26, z_27, h_28, hf⟩ := cl_el hf
                refine callVI (As := [.int p0]) (rest := []) (ci := 2) (q0 := 2) ⟨hx, hb, hml, hown, hts⟩ (tX2_isIll_2 (l := l) (dC := dC) (dI := dI) (t0 := t0) (cI := cI) (cJ := cJ) (cZ := cZ) hA h_28) (cwV 1 hts gX8_person_X2_isIll rfl rfl rfl (by decide +kernel) ⟨Nat.le_of_ble_eq_true rfl, Nat.le_of_ble_eq_true rfl⟩) hK hZ hP hS rfl (wc_2 A cI cJ cZ z_2) rfl rfl rfl hl.1 (Nat.le_of_ble_eq_true rfl) ⟨Nat.zero_le _, Nat.zero_le _⟩ dX8_person_110 (fun H locs hP hS => ?_)
                refine lv_if_eq (tgt := 120) hx hb dX8_person_113 (by decide) (fun c_29 => ?_) (fun c_29 => ?_)
                · have hf := it_t c_29 hf
                  refine lv_iconst (v := 0) hx hb dX8_person_120 (by decide) ?_
                  exact retI hx hb hr hlocks hP hS hf dX8_person_121
                · have hf := it_f c_29 hf
                  refine lv_iconst (v := 1) hx hb dX8_person_116 (by decide) ?_
                  refine lv_goto (tgt := 121) hx hb dX8_person_117 (by decide) ?_
                  exact retI hx hb hr hlocks hP hS hf dX8_person_121
              · have hf := it_f c_25 hf
                by_cases c_30 : p1.toInt = 6
                · have hf := it_t c_30 hf
                  refine lv_tableIn (off := 108) (tgt := 122) hx hb dX8_person_14 (by omega) (by omega) (by rw [c_30]; rfl) (by decide) ?_
                  refine lv_aload_n hx hb dX8_person_122 rfl (lv_at hl 0 rfl) ?_
                  refine va_get (D := (dC, dI)) (ci := 8) (v := .ref (A 2)) (C := RX8) (T := TX8) (N := 9) hx hb hts i8 hown hK hP 0 (wc_0 A cI cJ cZ z_2) rfl 1 (by decide) (hts (.fieldLink RX8 19 "LightestRules" "folk" "LLightestRules$People;") (by decide +kernel)) (fun _ h9 => h9) rfl dX8_person_123 ?_
                  refine lv_iload_n hx hb dX8_person_126 rfl (lv_at hl 1 rfl) ?_
                  refine lv_iconst (v := 4) hx hb dX8_person_127 (by decide) ?_
                  obtain ⟨r_31, z_32, h_33, hf⟩ := cl_el hf
                  refine callVI (As := [.int p0, .int (4 : Int32)]) (rest := []) (ci := 2) (q0 := 2) ⟨hx, hb, hml, hown, hts⟩ (tX2_get_2 (l := l) (dC := dC) (dI := dI) (t0 := t0) (cI := cI) (cJ := cJ) (cZ := cZ) hA h_33) (cwV 2 hts gX8_person_X2_get rfl rfl rfl (by decide +kernel) ⟨Nat.le_of_ble_eq_true rfl, Nat.le_of_ble_eq_true rfl⟩) hK hZ hP hS rfl (wc_2 A cI cJ cZ z_2) rfl rfl rfl hl.1 (Nat.le_of_ble_eq_true rfl) ⟨Nat.zero_le _, Nat.zero_le _⟩ dX8_person_128 (fun H locs hP hS => ?_)
                  exact retI hx hb hr hlocks hP hS hf dX8_person_131
                · have hf := it_f c_30 hf
                  refine lv_tableOut (tgt := 132) hx hb dX8_person_14 (by omega) (by decide) ?_
                  refine lv_bipush (v := -2) hx hb dX8_person_132 (by decide) ?_
                  exact retI hx hb hr hlocks hP hS hf dX8_person_134
  · have hf := it_t c_4 hf
    refine lv_iconst (v := -1) hx hb dX8_person_11 (by decide) ?_
    exact retI hx hb hr hlocks hP hS hf dX8_person_12
set_option maxHeartbeats 4000000 in
set_option maxRecDepth 100000 in
theorem tX9_isPerson {l : Launch} {dC : Nat → ClassId} {dI : Nat → Nat → Nat} {A : Nat → Nat} {t0 : Nat} {cI cJ cZ : ClassId} (hA : dst A) {p0 : Int32} {z : Mem} {r : Int32} {z' : Mem} (hf : fX9_isPerson p0 z = some (r, z')) : MI l dC dI A t0 cI cJ cZ yX9_isPerson wsX9_isPerson 1 [.ref (A 25), .int p0] z r z' := by
  refine Met.ofW (cc := cX9_isPerson) (maxL := 2) (ret := (some .boolean)) (by decide) rfl ?_
  intro p e s m args below meth c s₁ B hml hv
  obtain ⟨rfl, hP, hK, hZ⟩ := hv
  have hx := B.exec
  have hb := B.bytes
  have hr := B.returns
  have hts := atoms_spec (ws := wsX9_isPerson) B.pre
  have hown : s.vm.findClass RX9 = some m.cls := findClass_of_methodNamed B.named
  have hlocks := B.notSynchronized
  have hS : va_S (fr A) s.heap s.heap [] := va_S.rf
  have i9 : ∀ w ∈ wsX90, w ∈ wsX9_isPerson := fun _ h => List.mem_cons_of_mem _ (List.mem_append_right _ h)
  have hl := lv_entry ([.ref (A 25), .int p0]) (n := 2) (Nat.le_of_ble_eq_true rfl)
  rw [lg_entry_eq]
  generalize (lg_sl ([.ref (A 25), .int p0]) ++ List.replicate (2 - (lg_sl ([.ref (A 25), .int p0])).length) Slot.unset).toArray = ls at hl ⊢
  have hl : lv_has ls 2 [(0, .ref (A 25)), (1, .int p0)] := hl
  have hP : wIs dC dI A cI cJ cZ z s.heap := hP
  rw [fX9_isPerson] at hf
  refine lv_iload_n hx hb dX9_isPerson_0 rfl (lv_at hl 1 rfl) ?_
  refine lv_i2l hx hb dX9_isPerson_1 rfl ?_
  refine lv_lconst (v := 0) hx hb dX9_isPerson_2 rfl ?_
  refine lv_aload_n hx hb dX9_isPerson_3 rfl (lv_at hl 0 rfl) ?_
  refine va_get (D := (dC, dI)) (ci := 9) (v := .int (z.1 25 6)) (C := RX9) (T := TX9) (N := 34) hx hb hts i9 hown hK hP 25 (wc_25 A cI cJ cZ z) rfl 6 (by decide) (hts (.fieldLink RX9 104 "LightestRulesModel" "many" "I") (by decide +kernel)) (fun _ h9 => h9) rfl dX9_isPerson_4 ?_
  refine lv_iconst (v := 1) hx hb dX9_isPerson_7 (by decide) ?_
  refine lv_isub hx hb dX9_isPerson_8 ?_
  refine lv_i2l hx hb dX9_isPerson_9 rfl ?_
  obtain ⟨r_1, z_2, h_3, hf⟩ := cl_el hf
  refine callSI (As := [.long (p0.toInt64), .long (0 : Int64), .long (((z.1 25 6) - (1 : Int32)).toInt64)]) (rest := []) ⟨hx, hb, hml, hown, hts⟩ (tX9_in (l := l) (dC := dC) (dI := dI) (t0 := t0) (cI := cI) (cJ := cJ) (cZ := cZ) hA h_3) (va_cwS 3 hts gX9_isPerson_X9_in rfl rfl rfl (by decide +kernel) ⟨Nat.le_of_ble_eq_true rfl, Nat.le_of_ble_eq_true rfl⟩) hK hZ hP hS rfl rfl hl.1 (Nat.le_of_ble_eq_true rfl) ⟨Nat.zero_le _, Nat.zero_le _⟩ dX9_isPerson_10 (fun H locs hP hS => ?_)
  obtain ⟨hnn, hf⟩ := bo_el hf
  exact retZ hx hb hr hlocks hnn hP hS hf dX9_isPerson_13
set_option maxHeartbeats 4000000 in
set_option maxRecDepth 100000 in
theorem tX9_noonOf {l : Launch} {dC : Nat → ClassId} {dI : Nat → Nat → Nat} {A : Nat → Nat} {t0 : Nat} {cI cJ cZ : ClassId} (hA : dst A) {p0 : Int32} {z : Mem} {r : Int32} {z' : Mem} (hf : fX9_noonOf p0 z = some (r, z')) : MI l dC dI A t0 cI cJ cZ yX9_noonOf wsX9_noonOf 0 [.ref (A 25), .int p0] z r z' := by
  refine Met.ofW (cc := cX9_noonOf) (maxL := 2) (ret := (some .int)) (by decide) rfl ?_
  intro p e s m args below meth c s₁ B hml hv
  obtain ⟨rfl, hP, hK, hZ⟩ := hv
  have hx := B.exec
  have hb := B.bytes
  have hr := B.returns
  have hts := atoms_spec (ws := wsX9_noonOf) B.pre
  have hown : s.vm.findClass RX9 = some m.cls := findClass_of_methodNamed B.named
  have hlocks := B.notSynchronized
  have hS : va_S (fr A) s.heap s.heap [] := va_S.rf
  have i9 : ∀ w ∈ wsX90, w ∈ wsX9_noonOf := fun _ h => List.mem_cons_of_mem _ (List.mem_append_right _ h)
  have hl := lv_entry ([.ref (A 25), .int p0]) (n := 2) (Nat.le_of_ble_eq_true rfl)
  rw [lg_entry_eq]
  generalize (lg_sl ([.ref (A 25), .int p0]) ++ List.replicate (2 - (lg_sl ([.ref (A 25), .int p0])).length) Slot.unset).toArray = ls at hl ⊢
  have hl : lv_has ls 2 [(0, .ref (A 25)), (1, .int p0)] := hl
  have hP : wIs dC dI A cI cJ cZ z s.heap := hP
  rw [fX9_noonOf] at hf
  refine lv_aload_n hx hb dX9_noonOf_0 rfl (lv_at hl 0 rfl) ?_
  refine va_get (D := (dC, dI)) (ci := 9) (v := .ref (A 27)) (C := RX9) (T := TX9) (N := 34) hx hb hts i9 hown hK hP 25 (wc_25 A cI cJ cZ z) rfl 5 (by decide) (hts (.fieldLink RX9 13 "LightestRulesModel" "now" "[I") (by decide +kernel)) (fun _ h9 => h9) rfl dX9_noonOf_1 ?_
  refine lv_iconst (v := 5) hx hb dX9_noonOf_4 (by decide) ?_
  refine lv_iload_n hx hb dX9_noonOf_5 rfl (lv_at hl 1 rfl) ?_
  refine lv_imul hx hb dX9_noonOf_6 ?_
  refine lv_topi (fun y_1 ey_1 => ?_)
  have hf := lt_at ey_1 hf; clear ey_1
  obtain ⟨n_2, hf⟩ := rg_el hf
  refine va_iald hx hb hK hP 27 0 (wc_27 A cI cJ cZ z) rfl n_2 dX9_noonOf_7 ?_
  refine lv_topi (fun a_3 ea_3 => ?_)
  have hf := lt_at ea_3 hf; clear ea_3
  refine lv_bipush (v := 8) hx hb dX9_noonOf_8 (by decide) ?_
  refine lv_aload_n hx hb dX9_noonOf_10 rfl (lv_at hl 0 rfl) ?_
  refine va_get (D := (dC, dI)) (ci := 9) (v := .ref (A 27)) (C := RX9) (T := TX9) (N := 34) hx hb hts i9 hown hK hP 25 (wc_25 A cI cJ cZ z) rfl 5 (by decide) (hts (.fieldLink RX9 13 "LightestRulesModel" "now" "[I") (by decide +kernel)) (fun _ h9 => h9) rfl dX9_noonOf_11 ?_
  refine lv_iconst (v := 5) hx hb dX9_noonOf_14 (by decide) ?_
  refine lv_iload_n hx hb dX9_noonOf_15 rfl (lv_at hl 1 rfl) ?_
  refine lv_imul hx hb dX9_noonOf_16 ?_
  refine lv_iconst (v := 1) hx hb dX9_noonOf_17 (by decide) ?_
  refine lv_iadd hx hb dX9_noonOf_18 ?_
  refine lv_topi (fun y_4 ey_4 => ?_)
  have hf := lt_at ey_4 hf; clear ey_4
  obtain ⟨n_5, hf⟩ := rg_el hf
  refine va_iald hx hb hK hP 27 0 (wc_27 A cI cJ cZ z) rfl n_5 dX9_noonOf_19 ?_
  refine lv_topi (fun a_6 ea_6 => ?_)
  have hf := lt_at ea_6 hf; clear ea_6
  refine lv_imul hx hb dX9_noonOf_20 ?_
  refine lv_iadd hx hb dX9_noonOf_21 ?_
  refine lv_bipush (v := 10) hx hb dX9_noonOf_22 (by decide) ?_
  refine lv_aload_n hx hb dX9_noonOf_24 rfl (lv_at hl 0 rfl) ?_
  refine va_get (D := (dC, dI)) (ci := 9) (v := .ref (A 27)) (C := RX9) (T := TX9) (N := 34) hx hb hts i9 hown hK hP 25 (wc_25 A cI cJ cZ z) rfl 5 (by decide) (hts (.fieldLink RX9 13 "LightestRulesModel" "now" "[I") (by decide +kernel)) (fun _ h9 => h9) rfl dX9_noonOf_25 ?_
  refine lv_iconst (v := 5) hx hb dX9_noonOf_28 (by decide) ?_
  refine lv_iload_n hx hb dX9_noonOf_29 rfl (lv_at hl 1 rfl) ?_
  refine lv_imul hx hb dX9_noonOf_30 ?_
  refine lv_iconst (v := 2) hx hb dX9_noonOf_31 (by decide) ?_
  refine lv_iadd hx hb dX9_noonOf_32 ?_
  refine lv_topi (fun y_7 ey_7 => ?_)
  have hf := lt_at ey_7 hf; clear ey_7
  obtain ⟨n_8, hf⟩ := rg_el hf
  refine va_iald hx hb hK hP 27 0 (wc_27 A cI cJ cZ z) rfl n_8 dX9_noonOf_33 ?_
  refine lv_topi (fun a_9 ea_9 => ?_)
  have hf := lt_at ea_9 hf; clear ea_9
  refine lv_imul hx hb dX9_noonOf_34 ?_
  refine lv_iadd hx hb dX9_noonOf_35 ?_
  exact retI hx hb hr hlocks hP hS hf dX9_noonOf_36
set_option maxHeartbeats 4000000 in
set_option maxRecDepth 100000 in
theorem tX9_isIll {l : Launch} {dC : Nat → ClassId} {dI : Nat → Nat → Nat} {A : Nat → Nat} {t0 : Nat} {cI cJ cZ : ClassId} (hA : dst A) {p0 : Int32} {z : Mem} {r : Int32} {z' : Mem} (hf : fX9_isIll p0 z = some (r, z')) : MI l dC dI A t0 cI cJ cZ yX9_isIll wsX9_isIll 0 [.ref (A 25), .int p0] z r z' := by
  refine Met.ofW (cc := cX9_isIll) (maxL := 2) (ret := (some .boolean)) (by decide) rfl ?_
  intro p e s m args below meth c s₁ B hml hv
  obtain ⟨rfl, hP, hK, hZ⟩ := hv
  have hx := B.exec
  have hb := B.bytes
  have hr := B.returns
  have hts := atoms_spec (ws := wsX9_isIll) B.pre
  have hown : s.vm.findClass RX9 = some m.cls := findClass_of_methodNamed B.named
  have hlocks := B.notSynchronized
  have hS : va_S (fr A) s.heap s.heap [] := va_S.rf
  have i9 : ∀ w ∈ wsX90, w ∈ wsX9_isIll := fun _ h => List.mem_cons_of_mem _ (List.mem_append_right _ h)
  have hl := lv_entry ([.ref (A 25), .int p0]) (n := 2) (Nat.le_of_ble_eq_true rfl)
  rw [lg_entry_eq]
  generalize (lg_sl ([.ref (A 25), .int p0]) ++ List.replicate (2 - (lg_sl ([.ref (A 25), .int p0])).length) Slot.unset).toArray = ls at hl ⊢
  have hl : lv_has ls 2 [(0, .ref (A 25)), (1, .int p0)] := hl
  have hP : wIs dC dI A cI cJ cZ z s.heap := hP
  rw [fX9_isIll] at hf
  refine lv_aload_n hx hb dX9_isIll_0 rfl (lv_at hl 0 rfl) ?_
  refine va_get (D := (dC, dI)) (ci := 9) (v := .ref (A 27)) (C := RX9) (T := TX9) (N := 34) hx hb hts i9 hown hK hP 25 (wc_25 A cI cJ cZ z) rfl 5 (by decide) (hts (.fieldLink RX9 13 "LightestRulesModel" "now" "[I") (by decide +kernel)) (fun _ h9 => h9) rfl dX9_isIll_1 ?_
  refine lv_iconst (v := 5) hx hb dX9_isIll_4 (by decide) ?_
  refine lv_iload_n hx hb dX9_isIll_5 rfl (lv_at hl 1 rfl) ?_
  refine lv_imul hx hb dX9_isIll_6 ?_
  refine lv_topi (fun y_1 ey_1 => ?_)
  have hf := lt_at ey_1 hf; clear ey_1
  obtain ⟨n_2, hf⟩ := rg_el hf
  refine va_iald hx hb hK hP 27 0 (wc_27 A cI cJ cZ z) rfl n_2 dX9_isIll_7 ?_
  refine lv_topi (fun a_3 ea_3 => ?_)
  have hf := lt_at ea_3 hf; clear ea_3
  refine lv_bipush (v := 40) hx hb dX9_isIll_8 (by decide) ?_
  refine lv_aload_n hx hb dX9_isIll_10 rfl (lv_at hl 0 rfl) ?_
  refine va_get (D := (dC, dI)) (ci := 9) (v := .int (z.1 25 9)) (C := RX9) (T := TX9) (N := 34) hx hb hts i9 hown hK hP 25 (wc_25 A cI cJ cZ z) rfl 9 (by decide) (hts (.fieldLink RX9 110 "LightestRulesModel" "ill" "I") (by decide +kernel)) (fun _ h9 => h9) rfl dX9_isIll_11 ?_
  refine lv_imul hx hb dX9_isIll_14 ?_
  refine lv_icmp_ge (tgt := 22) hx hb dX9_isIll_15 (by decide) (fun c_4 => ?_) (fun c_4 => ?_)
  · have hf := it_t c_4 hf
    refine lv_iconst (v := 0) hx hb dX9_isIll_22 (by decide) ?_
    exact retZ hx hb hr hlocks rfl hP hS hf dX9_isIll_23
  · have hf := it_f c_4 hf
    refine lv_iconst (v := 1) hx hb dX9_isIll_18 (by decide) ?_
    refine lv_goto (tgt := 23) hx hb dX9_isIll_19 (by decide) ?_
    exact retZ hx hb hr hlocks rfl hP hS hf dX9_isIll_23
set_option maxHeartbeats 4000000 in
set_option maxRecDepth 100000 in
theorem tX9_person {l : Launch} {dC : Nat → ClassId} {dI : Nat → Nat → Nat} {A : Nat → Nat} {t0 : Nat} {cI cJ cZ : ClassId} (hA : dst A) {p0 : Int32} {p1 : Int32} {z : Mem} {r : Int32} {z' : Mem} (hf : fX9_person p0 p1 z = some (r, z')) : MI l dC dI A t0 cI cJ cZ yX9_person wsX9_person 2 [.ref (A 25), .int p0, .int p1] z r z' := by
  refine Met.ofW (cc := cX9_person) (maxL := 3) (ret := (some .int)) (by decide) rfl ?_
  intro p e s m args below meth c s₁ B hml hv
  obtain ⟨rfl, hP, hK, hZ⟩ := hv
  have hx := B.exec
  have hb := B.bytes
  have hr := B.returns
  have hts := atoms_spec (ws := wsX9_person) B.pre
  have hown : s.vm.findClass RX9 = some m.cls := findClass_of_methodNamed B.named
  have hlocks := B.notSynchronized
  have hS : va_S (fr A) s.heap s.heap [] := va_S.rf
  have i9 : ∀ w ∈ wsX90, w ∈ wsX9_person := fun _ h => List.mem_cons_of_mem _ (List.mem_append_right _ h)
  have hl := lv_entry ([.ref (A 25), .int p0, .int p1]) (n := 3) (Nat.le_of_ble_eq_true rfl)
  rw [lg_entry_eq]
  generalize (lg_sl ([.ref (A 25), .int p0, .int p1]) ++ List.replicate (3 - (lg_sl ([.ref (A 25), .int p0, .int p1])).length) Slot.unset).toArray = ls at hl ⊢
  have hl : lv_has ls 3 [(0, .ref (A 25)), (1, .int p0), (2, .int p1)] := hl
  have hP : wIs dC dI A cI cJ cZ z s.heap := hP
  rw [fX9_person] at hf
  refine lv_aload_n hx hb dX9_person_0 rfl (lv_at hl 0 rfl) ?_
  refine lv_iload_n hx hb dX9_person_1 rfl (lv_at hl 1 rfl) ?_
  obtain ⟨r_1, z_2, h_3, hf⟩ := cl_el hf
  refine callVI (As := [.int p0]) (rest := []) (ci := 9) (q0 := 25) ⟨hx, hb, hml, hown, hts⟩ (tX9_isPerson (l := l) (dC := dC) (dI := dI) (t0 := t0) (cI := cI) (cJ := cJ) (cZ := cZ) hA h_3) (cwV 1 hts gX9_person_X9_isPerson rfl rfl rfl (by decide +kernel) ⟨Nat.le_of_ble_eq_true rfl, Nat.le_of_ble_eq_true rfl⟩) hK hZ hP hS rfl (wc_25 A cI cJ cZ z) rfl rfl rfl hl.1 (Nat.le_of_ble_eq_true rfl) ⟨Nat.zero_le _, Nat.zero_le _⟩ dX9_person_2 (fun H locs hP hS => ?_)
  refine lv_if_ne (tgt := 10) hx hb dX9_person_5 (by decide) (fun c_4 => ?_) (fun c_4 => ?_)
  · have hf := it_f c_4 hf
    refine lv_iload_n hx hb dX9_person_10 rfl (lv_at hl 2 rfl) ?_
    by_cases c_5 : p1.toInt = 0
    · have hf := it_t c_5 hf
      refine lv_tableIn (off := 41) (tgt := 52) hx hb dX9_person_11 (by omega) (by omega) (by rw [c_5]; rfl) (by decide) ?_
      refine lv_aload_n hx hb dX9_person_52 rfl (lv_at hl 0 rfl) ?_
      refine va_get (D := (dC, dI)) (ci := 9) (v := .ref (A 27)) (C := RX9) (T := TX9) (N := 34) hx hb hts i9 hown hK hP 25 (wc_25 A cI cJ cZ z_2) rfl 5 (by decide) (hts (.fieldLink RX9 13 "LightestRulesModel" "now" "[I") (by decide +kernel)) (fun _ h9 => h9) rfl dX9_person_53 ?_
      refine lv_iconst (v := 5) hx hb dX9_person_56 (by decide) ?_
      refine lv_iload_n hx hb dX9_person_57 rfl (lv_at hl 1 rfl) ?_
      refine lv_imul hx hb dX9_person_58 ?_
      refine lv_iload_n hx hb dX9_person_59 rfl (lv_at hl 2 rfl) ?_
      refine lv_iadd hx hb dX9_person_60 ?_
      refine lv_topi (fun y_6 ey_6 => ?_)
      have hf := lt_at ey_6 hf; clear ey_6
      obtain ⟨n_7, hf⟩ := rg_el hf
      refine va_iald hx hb hK hP 27 0 (wc_27 A cI cJ cZ z_2) rfl n_7 dX9_person_61 ?_
      refine lv_topi (fun a_8 ea_8 => ?_)
      have hf := lt_at ea_8 hf; clear ea_8
      exact retI hx hb hr hlocks hP hS hf dX9_person_62
    · have hf := it_f c_5 hf
      by_cases c_9 : p1.toInt = 1
      · have hf := it_t c_9 hf
        refine lv_tableIn (off := 41) (tgt := 52) hx hb dX9_person_11 (by omega) (by omega) (by rw [c_9]; rfl) (by decide) ?_
        refine lv_aload_n hx hb dX9_person_52 rfl (lv_at hl 0 rfl) ?_
        refine va_get (D := (dC, dI)) (ci := 9) (v := .ref (A 27)) (C := RX9) (T := TX9) (N := 34) hx hb hts i9 hown hK hP 25 (wc_25 A cI cJ cZ z_2) rfl 5 (by decide) (hts (.fieldLink RX9 13 "LightestRulesModel" "now" "[I") (by decide +kernel)) (fun _ h9 => h9) rfl dX9_person_53 ?_
        refine lv_iconst (v := 5) hx hb dX9_person_56 (by decide) ?_
        refine lv_iload_n hx hb dX9_person_57 rfl (lv_at hl 1 rfl) ?_
        refine lv_imul hx hb dX9_person_58 ?_
        refine lv_iload_n hx hb dX9_person_59 rfl (lv_at hl 2 rfl) ?_
        refine lv_iadd hx hb dX9_person_60 ?_
        refine lv_topi (fun y_10 ey_10 => ?_)
        have hf := lt_at ey_10 hf; clear ey_10
        obtain ⟨n_11, hf⟩ := rg_el hf
        refine va_iald hx hb hK hP 27 0 (wc_27 A cI cJ cZ z_2) rfl n_11 dX9_person_61 ?_
        refine lv_topi (fun a_12 ea_12 => ?_)
        have hf := lt_at ea_12 hf; clear ea_12
        exact retI hx hb hr hlocks hP hS hf dX9_person_62
      · have hf := it_f c_9 hf
        by_cases c_13 : p1.toInt = 2
        · have hf := it_t c_13 hf
          refine lv_tableIn (off := 41) (tgt := 52) hx hb dX9_person_11 (by omega) (by omega) (by rw [c_13]; rfl) (by decide) ?_
          refine lv_aload_n hx hb dX9_person_52 rfl (lv_at hl 0 rfl) ?_
          refine va_get (D := (dC, dI)) (ci := 9) (v := .ref (A 27)) (C := RX9) (T := TX9) (N := 34) hx hb hts i9 hown hK hP 25 (wc_25 A cI cJ cZ z_2) rfl 5 (by decide) (hts (.fieldLink RX9 13 "LightestRulesModel" "now" "[I") (by decide +kernel)) (fun _ h9 => h9) rfl dX9_person_53 ?_
          refine lv_iconst (v := 5) hx hb dX9_person_56 (by decide) ?_
          refine lv_iload_n hx hb dX9_person_57 rfl (lv_at hl 1 rfl) ?_
          refine lv_imul hx hb dX9_person_58 ?_
          refine lv_iload_n hx hb dX9_person_59 rfl (lv_at hl 2 rfl) ?_
          refine lv_iadd hx hb dX9_person_60 ?_
          refine lv_topi (fun y_14 ey_14 => ?_)
          have hf := lt_at ey_14 hf; clear ey_14
          obtain ⟨n_15, hf⟩ := rg_el hf
          refine va_iald hx hb hK hP 27 0 (wc_27 A cI cJ cZ z_2) rfl n_15 dX9_person_61 ?_
          refine lv_topi (fun a_16 ea_16 => ?_)
          have hf := lt_at ea_16 hf; clear ea_16
          exact retI hx hb hr hlocks hP hS hf dX9_person_62
        · have hf := it_f c_13 hf
          by_cases c_17 : p1.toInt = 3
          · have hf := it_t c_17 hf
            refine lv_tableIn (off := 41) (tgt := 52) hx hb dX9_person_11 (by omega) (by omega) (by rw [c_17]; rfl) (by decide) ?_
            refine lv_aload_n hx hb dX9_person_52 rfl (lv_at hl 0 rfl) ?_
            refine va_get (D := (dC, dI)) (ci := 9) (v := .ref (A 27)) (C := RX9) (T := TX9) (N := 34) hx hb hts i9 hown hK hP 25 (wc_25 A cI cJ cZ z_2) rfl 5 (by decide) (hts (.fieldLink RX9 13 "LightestRulesModel" "now" "[I") (by decide +kernel)) (fun _ h9 => h9) rfl dX9_person_53 ?_
            refine lv_iconst (v := 5) hx hb dX9_person_56 (by decide) ?_
            refine lv_iload_n hx hb dX9_person_57 rfl (lv_at hl 1 rfl) ?_
            refine lv_imul hx hb dX9_person_58 ?_
            refine lv_iload_n hx hb dX9_person_59 rfl (lv_at hl 2 rfl) ?_
            refine lv_iadd hx hb dX9_person_60 ?_
            refine lv_topi (fun y_18 ey_18 => ?_)
            have hf := lt_at ey_18 hf; clear ey_18
            obtain ⟨n_19, hf⟩ := rg_el hf
            refine va_iald hx hb hK hP 27 0 (wc_27 A cI cJ cZ z_2) rfl n_19 dX9_person_61 ?_
            refine lv_topi (fun a_20 ea_20 => ?_)
            have hf := lt_at ea_20 hf; clear ea_20
            exact retI hx hb hr hlocks hP hS hf dX9_person_62
          · have hf := it_f c_17 hf
            by_cases c_21 : p1.toInt = 4
            · have hf := it_t c_21 hf
              refine lv_tableIn (off := 52) (tgt := 63) hx hb dX9_person_11 (by omega) (by omega) (by rw [c_21]; rfl) (by decide) ?_
              refine lv_aload_n hx hb dX9_person_63 rfl (lv_at hl 0 rfl) ?_
              refine lv_iload_n hx hb dX9_person_64 rfl (lv_at hl 1 rfl) ?_
              obtain ⟨r_22, z_23, h_24, hf⟩ := cl_el hf
              refine callVI (As := [.int p0]) (rest := []) (ci := 9) (q0 := 25) ⟨hx, hb, hml, hown, hts⟩ (tX9_noonOf (l := l) (dC := dC) (dI := dI) (t0 := t0) (cI := cI) (cJ := cJ) (cZ := cZ) hA h_24) (cwV 1 hts gX9_person_X9_noonOf rfl rfl rfl (by decide +kernel) ⟨Nat.le_of_ble_eq_true rfl, Nat.le_of_ble_eq_true rfl⟩) hK hZ hP hS rfl (wc_25 A cI cJ cZ z_2) rfl rfl rfl hl.1 (Nat.le_of_ble_eq_true rfl) ⟨Nat.zero_le _, Nat.zero_le _⟩ dX9_person_65 (fun H locs hP hS => ?_)
              exact retI hx hb hr hlocks hP hS hf dX9_person_68
            · have hf := it_f c_21 hf
              by_cases c_25 : p1.toInt = 5
              · have hf := it_t c_25 hf
                refine lv_tableIn (off := 58) (tgt := 69) hx hb dX9_person_11 (by omega) (by omega) (by rw [c_25]; rfl) (by decide) ?_
                refine lv_aload_n hx hb dX9_person_69 rfl (lv_at hl 0 rfl) ?_
                refine lv_iload_n hx hb dX9_person_70 rfl (lv_at hl 1 rfl) ?_
                obtain ⟨r_26, z_27, h_28, hf⟩ := cl_el hf
                refine callVI (As := [.int p0]) (rest := []) (ci := 9) (q0 := 25) ⟨hx, hb, hml, hown, hts⟩ (tX9_isIll (l := l) (dC := dC) (dI := dI) (t0 := t0) (cI := cI) (cJ := cJ) (cZ := cZ) hA h_28) (cwV 1 hts gX9_person_X9_isIll rfl rfl rfl (by decide +kernel) ⟨Nat.le_of_ble_eq_true rfl, Nat.le_of_ble_eq_true rfl⟩) hK hZ hP hS rfl (wc_25 A cI cJ cZ z_2) rfl rfl rfl hl.1 (Nat.le_of_ble_eq_true rfl) ⟨Nat.zero_le _, Nat.zero_le _⟩ dX9_person_71 (fun H locs hP hS => ?_)
                refine lv_if_eq (tgt := 81) hx hb dX9_person_74 (by decide) (fun c_29 => ?_) (fun c_29 => ?_)
                · have hf := it_t c_29 hf
                  refine lv_iconst (v := 0) hx hb dX9_person_81 (by decide) ?_
                  exact retI hx hb hr hlocks hP hS hf dX9_person_82
                · have hf := it_f c_29 hf
                  refine lv_iconst (v := 1) hx hb dX9_person_77 (by decide) ?_
                  refine lv_goto (tgt := 82) hx hb dX9_person_78 (by decide) ?_
                  exact retI hx hb hr hlocks hP hS hf dX9_person_82
              · have hf := it_f c_25 hf
                by_cases c_30 : p1.toInt = 6
                · have hf := it_t c_30 hf
                  refine lv_tableIn (off := 72) (tgt := 83) hx hb dX9_person_11 (by omega) (by omega) (by rw [c_30]; rfl) (by decide) ?_
                  refine lv_aload_n hx hb dX9_person_83 rfl (lv_at hl 0 rfl) ?_
                  refine va_get (D := (dC, dI)) (ci := 9) (v := .ref (A 27)) (C := RX9) (T := TX9) (N := 34) hx hb hts i9 hown hK hP 25 (wc_25 A cI cJ cZ z_2) rfl 5 (by decide) (hts (.fieldLink RX9 13 "LightestRulesModel" "now" "[I") (by decide +kernel)) (fun _ h9 => h9) rfl dX9_person_84 ?_
                  refine lv_iconst (v := 5) hx hb dX9_person_87 (by decide) ?_
                  refine lv_iload_n hx hb dX9_person_88 rfl (lv_at hl 1 rfl) ?_
                  refine lv_imul hx hb dX9_person_89 ?_
                  refine lv_iconst (v := 4) hx hb dX9_person_90 (by decide) ?_
                  refine lv_iadd hx hb dX9_person_91 ?_
                  refine lv_topi (fun y_31 ey_31 => ?_)
                  have hf := lt_at ey_31 hf; clear ey_31
                  obtain ⟨n_32, hf⟩ := rg_el hf
                  refine va_iald hx hb hK hP 27 0 (wc_27 A cI cJ cZ z_2) rfl n_32 dX9_person_92 ?_
                  refine lv_topi (fun a_33 ea_33 => ?_)
                  have hf := lt_at ea_33 hf; clear ea_33
                  exact retI hx hb hr hlocks hP hS hf dX9_person_93
                · have hf := it_f c_30 hf
                  refine lv_tableOut (tgt := 94) hx hb dX9_person_11 (by omega) (by decide) ?_
                  refine lv_bipush (v := -2) hx hb dX9_person_94 (by decide) ?_
                  exact retI hx hb hr hlocks hP hS hf dX9_person_96
  · have hf := it_t c_4 hf
    refine lv_iconst (v := -1) hx hb dX9_person_8 (by decide) ?_
    exact retI hx hb hr hlocks hP hS hf dX9_person_9
set_option maxHeartbeats 4000000 in
set_option maxRecDepth 100000 in
theorem tX8_isLaw {l : Launch} {dC : Nat → ClassId} {dI : Nat → Nat → Nat} {A : Nat → Nat} {t0 : Nat} {cI cJ cZ : ClassId} (hA : dst A) {p0 : Int32} {z : Mem} {r : Int32} {z' : Mem} (hf : fX8_isLaw p0 z = some (r, z')) : MI l dC dI A t0 cI cJ cZ yX8_isLaw wsX8_isLaw 0 [.int p0] z r z' := by
  refine Met.ofW (cc := cX8_isLaw) (maxL := 1) (ret := (some .boolean)) (by decide) rfl ?_
  intro p e s m args below meth c s₁ B hml hv
  obtain ⟨rfl, hP, hK, hZ⟩ := hv
  have hx := B.exec
  have hb := B.bytes
  have hr := B.returns
  have hts := atoms_spec (ws := wsX8_isLaw) B.pre
  have hown : s.vm.findClass RX8 = some m.cls := findClass_of_methodNamed B.named
  have hlocks := B.notSynchronized
  have hS : va_S (fr A) s.heap s.heap [] := va_S.rf
  have hl := lv_entry ([.int p0]) (n := 1) (Nat.le_of_ble_eq_true rfl)
  rw [lg_entry_eq]
  generalize (lg_sl ([.int p0]) ++ List.replicate (1 - (lg_sl ([.int p0])).length) Slot.unset).toArray = ls at hl ⊢
  have hl : lv_has ls 1 [(0, .int p0)] := hl
  have hP : wIs dC dI A cI cJ cZ z s.heap := hP
  rw [fX8_isLaw] at hf
  refine lv_iload_n hx hb dX8_isLaw_0 rfl (lv_at hl 0 rfl) ?_
  refine lv_if_lt (tgt := 13) hx hb dX8_isLaw_1 (by decide) (fun c_1 => ?_) (fun c_1 => ?_)
  · have hf := it_t c_1 hf
    refine lv_iconst (v := 0) hx hb dX8_isLaw_13 (by decide) ?_
    exact retZ hx hb hr hlocks rfl hP hS hf dX8_isLaw_14
  · have hf := it_f c_1 hf
    refine lv_iload_n hx hb dX8_isLaw_4 rfl (lv_at hl 0 rfl) ?_
    refine lv_iconst (v := 3) hx hb dX8_isLaw_5 (by decide) ?_
    refine lv_icmp_ge (tgt := 13) hx hb dX8_isLaw_6 (by decide) (fun c_2 => ?_) (fun c_2 => ?_)
    · have hf := it_t c_2 hf
      refine lv_iconst (v := 0) hx hb dX8_isLaw_13 (by decide) ?_
      exact retZ hx hb hr hlocks rfl hP hS hf dX8_isLaw_14
    · have hf := it_f c_2 hf
      refine lv_iconst (v := 1) hx hb dX8_isLaw_9 (by decide) ?_
      refine lv_goto (tgt := 14) hx hb dX8_isLaw_10 (by decide) ?_
      exact retZ hx hb hr hlocks rfl hP hS hf dX8_isLaw_14
