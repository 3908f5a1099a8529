set_option maxHeartbeats 4000000 in
set_option maxRecDepth 100000 in
theorem tX9_hand {l : Launch} {dC : Nat → ClassId} {dI : Nat → Nat → Nat} {A : Nat → Nat} {t0 : Nat} {cI cJ cZ : ClassId} (hA : dst A) {p0 : Int32} {p1 : Int32} {p2 : Int32} {z : Mem} {r : Int32} {z' : Mem} (hf : fX9_hand p0 p1 p2 z = some (r, z')) : MI l dC dI A t0 cI cJ cZ yX9_hand wsX9_hand 2 [.ref (A 25), .int p0, .int p1, .int p2] z r z' := by
  refine Met.ofW (cc := cX9_hand) (maxL := 5) (ret := (some .int)) (by decide) rfl ?_
  intro p e s m args below meth c s₁ B hml hv
  obtain ⟨rfl, hP, hK, hZ⟩ := hv
  have hx := B.exec
  have hb := B.bytes
  have hr := B.returns
  have hts := atoms_spec (ws := wsX9_hand) B.pre
  have hown : s.vm.findClass RX9 = some m.cls := findClass_of_methodNamed B.named
  have hlocks := B.notSynchronized
  have hS : va_S (fr A) s.heap s.heap [] := va_S.rf
  have i9 : ∀ w ∈ wsX90, w ∈ wsX9_hand := fun _ h => List.mem_cons_of_mem _ (List.mem_append_right _ h)
  have hl := lv_entry ([.ref (A 25), .int p0, .int p1, .int p2]) (n := 5) (Nat.le_of_ble_eq_true rfl)
  rw [lg_entry_eq]
  generalize (lg_sl ([.ref (A 25), .int p0, .int p1, .int p2]) ++ List.replicate (5 - (lg_sl ([.ref (A 25), .int p0, .int p1, .int p2])).length) Slot.unset).toArray = ls at hl ⊢
  have hl : lv_has ls 5 [(0, .ref (A 25)), (1, .int p0), (2, .int p1), (3, .int p2)] := hl
  have hP : wIs dC dI A cI cJ cZ z s.heap := hP
  rw [fX9_hand] at hf
  refine lv_aload_n hx hb dX9_hand_0 rfl (lv_at hl 0 rfl) ?_
  refine lv_iload_n hx hb dX9_hand_1 rfl (lv_at hl 1 rfl) ?_
  obtain ⟨r_1, z_2, h_3, hf⟩ := cl_el hf
  refine callVI (As := [.int p0]) (rest := []) (ci := 9) (q0 := 25) ⟨hx, hb, hml, hown, hts⟩ (tX9_isPerson (l := l) (dC := dC) (dI := dI) (t0 := t0) (cI := cI) (cJ := cJ) (cZ := cZ) hA h_3) (cwV 1 hts gX9_hand_X9_isPerson rfl rfl rfl (by decide +kernel) ⟨Nat.le_of_ble_eq_true rfl, Nat.le_of_ble_eq_true rfl⟩) hK hZ hP hS rfl (wc_25 A cI cJ cZ z) rfl rfl rfl hl.1 (Nat.le_of_ble_eq_true rfl) ⟨Nat.zero_le _, Nat.zero_le _⟩ dX9_hand_2 (fun H locs hP hS => ?_)
  refine lv_if_eq (tgt := 16) hx hb dX9_hand_5 (by decide) (fun c_4 => ?_) (fun c_4 => ?_)
  · have hf := it_t c_4 hf
    refine lv_iconst (v := -1) hx hb dX9_hand_16 (by decide) ?_
    exact retI hx hb hr hlocks hP hS hf dX9_hand_17
  · have hf := it_f c_4 hf
    refine lv_aload_n hx hb dX9_hand_8 rfl (lv_at hl 0 rfl) ?_
    refine lv_iload_n hx hb dX9_hand_9 rfl (lv_at hl 2 rfl) ?_
    obtain ⟨r_5, z_6, h_7, hf⟩ := cl_el hf
    refine callVI (As := [.int p1]) (rest := []) (ci := 9) (q0 := 25) ⟨hx, hb, hml, hown, hts⟩ (tX9_isPerson (l := l) (dC := dC) (dI := dI) (t0 := t0) (cI := cI) (cJ := cJ) (cZ := cZ) hA h_7) (cwV 1 hts gX9_hand_X9_isPerson rfl rfl rfl (by decide +kernel) ⟨Nat.le_of_ble_eq_true rfl, Nat.le_of_ble_eq_true rfl⟩) hK hZ hP hS rfl (wc_25 A cI cJ cZ z_2) rfl rfl rfl hl.1 (Nat.le_of_ble_eq_true rfl) ⟨Nat.zero_le _, Nat.zero_le _⟩ dX9_hand_10 (fun H locs hP hS => ?_)
    refine lv_if_ne (tgt := 18) hx hb dX9_hand_13 (by decide) (fun c_8 => ?_) (fun c_8 => ?_)
    · have hf := it_f c_8 hf
      refine lv_iload_n hx hb dX9_hand_18 rfl (lv_at hl 3 rfl) ?_
      obtain ⟨K_9, eK_9, hf⟩ := jn_el hf
      have hK_9 : ∀ (v_10 : Int32) (z_11 : Mem) (H : Heap) (locs : List Loc) (ls : Array Slot), K_9 v_10 z_11 = some (r, z') → wIs dC dI A cI cJ cZ z_11 H → va_S (fr A) s.heap H locs → lv_has ls 5 [(0, .ref (A 25)), (1, .int p0), (2, .int p1), (3, .int p2)] → WI p l e wsX9_hand 2 s m [.ref (A 25), .int p0, .int p1, .int p2] below meth c dC dI A cI cJ cZ r z' H locs (F0 m 27 ls [.int v_10]) := by
        intro v_10 z_11 H locs ls hf hP hS hl
        have hf := ap2 eK_9 hf
        refine lv_istore (lv' := [(4, .int v_10), (0, .ref (A 25)), (1, .int p0), (2, .int p1), (3, .int p2)]) hx hb dX9_hand_27 hl (by decide) rfl (fun ls hl => ?_)
        refine lv_iload_n hx hb dX9_hand_29 rfl (lv_at hl 2 rfl) ?_
        refine lv_iload_n hx hb dX9_hand_30 rfl (lv_at hl 3 rfl) ?_
        refine lv_icmp_eq (tgt := 48) hx hb dX9_hand_31 (by decide) (fun c_12 => ?_) (fun c_12 => ?_)
        · have hf := it_t c_12 hf
          refine lv_bipush (v := -3) hx hb dX9_hand_48 (by decide) ?_
          exact retI hx hb hr hlocks hP hS hf dX9_hand_50
        · have hf := it_f c_12 hf
          refine lv_aload_n hx hb dX9_hand_34 rfl (lv_at hl 1 rfl) ?_
          refine va_get (D := (dC, dI)) (ci := 9) (v := .ref (A 27)) (C := RX9) (T := TX9) (N := 34) hx hb hts i9 hown hK hP 25 (wc_25 A cI cJ cZ z_11) rfl 5 (by decide) (hts (.fieldLink RX9 13 "LightestRulesModel" "now" "[I") (by decide +kernel)) (fun _ h9 => h9) rfl dX9_hand_35 ?_
          refine lv_iconst (v := 5) hx hb dX9_hand_38 (by decide) ?_
          refine lv_iload_n hx hb dX9_hand_39 rfl (lv_at hl 2 rfl) ?_
          refine lv_imul hx hb dX9_hand_40 ?_
          refine lv_iload hx hb dX9_hand_41 (lv_at hl 0 rfl) ?_
          refine lv_iadd hx hb dX9_hand_43 ?_
          refine lv_topi (fun y_13 ey_13 => ?_)
          have hf := lt_at ey_13 hf; clear ey_13
          obtain ⟨n_14, hf⟩ := rg_el hf
          refine va_iald hx hb hK hP 27 0 (wc_27 A cI cJ cZ z_11) rfl n_14 dX9_hand_44 ?_
          refine lv_topi (fun a_15 ea_15 => ?_)
          have hf := lt_at ea_15 hf; clear ea_15
          refine lv_if_ne (tgt := 51) hx hb dX9_hand_45 (by decide) (fun c_16 => ?_) (fun c_16 => ?_)
          · have hf := it_f c_16 hf
            refine lv_aload_n hx hb dX9_hand_51 rfl (lv_at hl 1 rfl) ?_
            refine va_get (D := (dC, dI)) (ci := 9) (v := .ref (A 27)) (C := RX9) (T := TX9) (N := 34) hx hb hts i9 hown hK hP 25 (wc_25 A cI cJ cZ z_11) rfl 5 (by decide) (hts (.fieldLink RX9 13 "LightestRulesModel" "now" "[I") (by decide +kernel)) (fun _ h9 => h9) rfl dX9_hand_52 ?_
            refine lv_iconst (v := 5) hx hb dX9_hand_55 (by decide) ?_
            refine lv_iload_n hx hb dX9_hand_56 rfl (lv_at hl 3 rfl) ?_
            refine lv_imul hx hb dX9_hand_57 ?_
            refine lv_iload hx hb dX9_hand_58 (lv_at hl 0 rfl) ?_
            refine lv_iadd hx hb dX9_hand_60 ?_
            refine lv_topi (fun y_17 ey_17 => ?_)
            have hf := lt_at ey_17 hf; clear ey_17
            obtain ⟨n_18, hf⟩ := rg_el hf
            refine va_iald hx hb hK hP 27 0 (wc_27 A cI cJ cZ z_11) rfl n_18 dX9_hand_61 ?_
            refine lv_topi (fun a_19 ea_19 => ?_)
            have hf := lt_at ea_19 hf; clear ea_19
            refine lv_bipush (v := 9) hx hb dX9_hand_62 (by decide) ?_
            refine lv_icmp_ne (tgt := 70) hx hb dX9_hand_64 (by decide) (fun c_20 => ?_) (fun c_20 => ?_)
            · have hf := it_f c_20 hf
              refine lv_aload_n hx hb dX9_hand_70 rfl (lv_at hl 1 rfl) ?_
              obtain ⟨r_21, z_22, h_23, hf⟩ := cl_el hf
              refine callVV (As := []) (rest := []) (ci := 9) (q0 := 25) ⟨hx, hb, hml, hown, hts⟩ (tX9_keepAct (l := l) (dC := dC) (dI := dI) (t0 := t0) (cI := cI) (cJ := cJ) (cZ := cZ) hA h_23) (cwV 0 hts gX9_hand_X9_keepAct rfl rfl rfl (by decide +kernel) ⟨Nat.le_of_ble_eq_true rfl, Nat.le_of_ble_eq_true rfl⟩) hK hZ hP hS rfl (wc_25 A cI cJ cZ z_11) rfl rfl rfl hl.1 (Nat.le_of_ble_eq_true rfl) ⟨Nat.zero_le _, Nat.zero_le _⟩ dX9_hand_71 (fun H locs hP hS => ?_)
              refine lv_aload_n hx hb dX9_hand_74 rfl (lv_at hl 1 rfl) ?_
              refine va_get (D := (dC, dI)) (ci := 9) (v := .ref (A 27)) (C := RX9) (T := TX9) (N := 34) hx hb hts i9 hown hK hP 25 (wc_25 A cI cJ cZ z_22) rfl 5 (by decide) (hts (.fieldLink RX9 13 "LightestRulesModel" "now" "[I") (by decide +kernel)) (fun _ h9 => h9) rfl dX9_hand_75 ?_
              refine lv_iconst (v := 5) hx hb dX9_hand_78 (by decide) ?_
              refine lv_iload_n hx hb dX9_hand_79 rfl (lv_at hl 2 rfl) ?_
              refine lv_imul hx hb dX9_hand_80 ?_
              refine lv_iload hx hb dX9_hand_81 (lv_at hl 0 rfl) ?_
              refine lv_iadd hx hb dX9_hand_83 ?_
              refine lv_topi (fun y_24 ey_24 => ?_)
              have hf := lt_at ey_24 hf; clear ey_24
              refine lv_dup2_11 hx hb dX9_hand_84 rfl rfl ?_
              obtain ⟨n_25, hf⟩ := rg_el hf
              refine va_iald hx hb hK hP 27 0 (wc_27 A cI cJ cZ z_22) rfl n_25 dX9_hand_85 ?_
              refine lv_topi (fun a_26 ea_26 => ?_)
              have hf := lt_at ea_26 hf; clear ea_26
              refine lv_iconst (v := 1) hx hb dX9_hand_86 (by decide) ?_
              refine lv_isub hx hb dX9_hand_87 ?_
              refine lv_topi (fun y_27 ey_27 => ?_)
              have hf := lt_at ey_27 hf; clear ey_27
              obtain ⟨n_28, hf⟩ := rg_el hf
              refine va_iast hx hb hK hP (wD hA cI cJ cZ z_22) hS 27 0 (wc_27 A cI cJ cZ z_22) rfl n_28 dX9_hand_88 (fun H locs hP _ hS => ?_)
              rw [wa_27 A cI cJ cZ z_22 y_24.toNatClampNeg y_27] at hP
              obtain ⟨z_29, hP, hf⟩ := lt_P (P := fun q => wIs dC dI A cI cJ cZ q H) hP hf
              refine lv_aload_n hx hb dX9_hand_89 rfl (lv_at hl 1 rfl) ?_
              refine va_get (D := (dC, dI)) (ci := 9) (v := .ref (A 27)) (C := RX9) (T := TX9) (N := 34) hx hb hts i9 hown hK hP 25 (wc_25 A cI cJ cZ z_29) rfl 5 (by decide) (hts (.fieldLink RX9 13 "LightestRulesModel" "now" "[I") (by decide +kernel)) (fun _ h9 => h9) rfl dX9_hand_90 ?_
              refine lv_iconst (v := 5) hx hb dX9_hand_93 (by decide) ?_
              refine lv_iload_n hx hb dX9_hand_94 rfl (lv_at hl 3 rfl) ?_
              refine lv_imul hx hb dX9_hand_95 ?_
              refine lv_iload hx hb dX9_hand_96 (lv_at hl 0 rfl) ?_
              refine lv_iadd hx hb dX9_hand_98 ?_
              refine lv_topi (fun y_30 ey_30 => ?_)
              have hf := lt_at ey_30 hf; clear ey_30
              refine lv_dup2_11 hx hb dX9_hand_99 rfl rfl ?_
              obtain ⟨n_31, hf⟩ := rg_el hf
              refine va_iald hx hb hK hP 27 0 (wc_27 A cI cJ cZ z_29) rfl n_31 dX9_hand_100 ?_
              refine lv_topi (fun a_32 ea_32 => ?_)
              have hf := lt_at ea_32 hf; clear ea_32
              refine lv_iconst (v := 1) hx hb dX9_hand_101 (by decide) ?_
              refine lv_iadd hx hb dX9_hand_102 ?_
              refine lv_topi (fun y_33 ey_33 => ?_)
              have hf := lt_at ey_33 hf; clear ey_33
              obtain ⟨n_34, hf⟩ := rg_el hf
              refine va_iast hx hb hK hP (wD hA cI cJ cZ z_29) hS 27 0 (wc_27 A cI cJ cZ z_29) rfl n_34 dX9_hand_103 (fun H locs hP _ hS => ?_)
              rw [wa_27 A cI cJ cZ z_29 y_30.toNatClampNeg y_33] at hP
              obtain ⟨z_35, hP, hf⟩ := lt_P (P := fun q => wIs dC dI A cI cJ cZ q H) hP hf
              refine lv_aload_n hx hb dX9_hand_104 rfl (lv_at hl 1 rfl) ?_
              refine va_get (D := (dC, dI)) (ci := 9) (v := .ref (A 27)) (C := RX9) (T := TX9) (N := 34) hx hb hts i9 hown hK hP 25 (wc_25 A cI cJ cZ z_35) rfl 5 (by decide) (hts (.fieldLink RX9 13 "LightestRulesModel" "now" "[I") (by decide +kernel)) (fun _ h9 => h9) rfl dX9_hand_105 ?_
              refine lv_iconst (v := 5) hx hb dX9_hand_108 (by decide) ?_
              refine lv_iload_n hx hb dX9_hand_109 rfl (lv_at hl 3 rfl) ?_
              refine lv_imul hx hb dX9_hand_110 ?_
              refine lv_iload hx hb dX9_hand_111 (lv_at hl 0 rfl) ?_
              refine lv_iadd hx hb dX9_hand_113 ?_
              refine lv_topi (fun y_36 ey_36 => ?_)
              have hf := lt_at ey_36 hf; clear ey_36
              obtain ⟨n_37, hf⟩ := rg_el hf
              refine va_iald hx hb hK hP 27 0 (wc_27 A cI cJ cZ z_35) rfl n_37 dX9_hand_114 ?_
              refine lv_topi (fun a_38 ea_38 => ?_)
              have hf := lt_at ea_38 hf; clear ea_38
              exact retI hx hb hr hlocks hP hS hf dX9_hand_115
            · have hf := it_t c_20 hf
              refine lv_bipush (v := -4) hx hb dX9_hand_67 (by decide) ?_
              exact retI hx hb hr hlocks hP hS hf dX9_hand_69
          · have hf := it_t c_16 hf
            refine lv_bipush (v := -3) hx hb dX9_hand_48 (by decide) ?_
            exact retI hx hb hr hlocks hP hS hf dX9_hand_50
      refine lv_if_eq (tgt := 26) hx hb dX9_hand_19 (by decide) (fun c_39 => ?_) (fun c_39 => ?_)
      · have hf := it_t c_39 hf
        refine lv_iconst (v := 1) hx hb dX9_hand_26 (by decide) ?_
        exact hK_9 _ _ _ _ _ hf hP hS (lv_sub hl [0, 1, 2, 3] rfl)
      · have hf := it_f c_39 hf
        refine lv_iconst (v := 2) hx hb dX9_hand_22 (by decide) ?_
        refine lv_goto (tgt := 27) hx hb dX9_hand_23 (by decide) ?_
        exact hK_9 _ _ _ _ _ hf hP hS (lv_sub hl [0, 1, 2, 3] rfl)
    · have hf := it_t c_8 hf
      refine lv_iconst (v := -1) hx hb dX9_hand_16 (by decide) ?_
      exact retI hx hb hr hlocks hP hS hf dX9_hand_17
set_option maxHeartbeats 4000000 in
set_option maxRecDepth 100000 in
theorem tX2_passDay {l : Launch} {dC : Nat → ClassId} {dI : Nat → Nat → Nat} {A : Nat → Nat} {t0 : Nat} {cI cJ cZ : ClassId} (hA : dst A)  {z : Mem} {ru : Unit} {z' : Mem} (hf : fX2_passDay z = some (ru, z')) : MV l dC dI A t0 cI cJ cZ yX2_passDay wsX2_passDay 2 [.ref (A 2)] z z' := by
  refine Met.ofW (cc := cX2_passDay) (maxL := 3) (ret := none) (by decide) rfl ?_
  intro p e s m args below meth c s₁ B hml hv
  obtain ⟨rfl, hP, hK, hZ⟩ := hv
  have hx := B.exec
  have hb := B.bytes
  have hr := B.returns
  have hts := atoms_spec (ws := wsX2_passDay) B.pre
  have hown : s.vm.findClass RX2 = some m.cls := findClass_of_methodNamed B.named
  have hlocks := B.notSynchronized
  have hS : va_S (fr A) s.heap s.heap [] := va_S.rf
  have i2 : ∀ w ∈ wsX20, w ∈ wsX2_passDay := fun _ h => List.mem_cons_of_mem _ (List.mem_append_right _ h)
  have hl := lv_entry ([.ref (A 2)]) (n := 3) (Nat.le_of_ble_eq_true rfl)
  rw [lg_entry_eq]
  generalize (lg_sl ([.ref (A 2)]) ++ List.replicate (3 - (lg_sl ([.ref (A 2)])).length) Slot.unset).toArray = ls at hl ⊢
  have hl : lv_has ls 3 [(0, .ref (A 2))] := hl
  have hP : wIs dC dI A cI cJ cZ z s.heap := hP
  rw [fX2_passDay] at hf
  refine lv_aload_n hx hb dX2_passDay_0 rfl (lv_at hl 0 rfl) ?_
  refine va_get (D := (dC, dI)) (ci := 2) (v := .ref (A 11)) (C := RX2) (T := TX2) (N := 4) hx hb hts i2 hown hK hP 2 (wc_2 A cI cJ cZ z) rfl 0 (by decide) (hts (.fieldLink RX2 11 "LightestRules$People" "cells" "[I") (by decide +kernel)) (fun _ h9 => h9) rfl dX2_passDay_1 ?_
  refine lv_bipush (v := 25) hx hb dX2_passDay_4 (by decide) ?_
  refine lv_dup2_11 hx hb dX2_passDay_6 rfl rfl ?_
  obtain ⟨n_1, hf⟩ := rg_el hf
  refine va_iald hx hb hK hP 11 0 (wc_11 A cI cJ cZ z) rfl n_1 dX2_passDay_7 ?_
  refine lv_topi (fun a_2 ea_2 => ?_)
  have hf := lt_at ea_2 hf; clear ea_2
  refine lv_iconst (v := 1) hx hb dX2_passDay_8 (by decide) ?_
  refine lv_iadd hx hb dX2_passDay_9 ?_
  refine lv_topi (fun y_3 ey_3 => ?_)
  have hf := lt_at ey_3 hf; clear ey_3
  obtain ⟨n_4, hf⟩ := rg_el hf
  refine va_iast hx hb hK hP (wD hA cI cJ cZ z) hS 11 0 (wc_11 A cI cJ cZ z) rfl n_4 dX2_passDay_10 (fun H locs hP _ hS => ?_)
  rw [wa_11 A cI cJ cZ z (25 : Int32).toNatClampNeg y_3] at hP
  obtain ⟨z_5, hP, hf⟩ := lt_P (P := fun q => wIs dC dI A cI cJ cZ q H) hP hf
  refine lv_iconst (v := 0) hx hb dX2_passDay_11 (by decide) ?_
  refine lv_istore_n (lv' := [(1, .int (0 : Int32)), (0, .ref (A 2))]) hx hb dX2_passDay_12 rfl hl (by decide) rfl (fun ls hl => ?_)
  obtain ⟨K_6, eK_6, hf⟩ := fX2_passDay_L13_g hf
  have hEK_6 : ∀ (x1_8 : Int32) (z_7 : Mem) (H : Heap) (locs : List Loc) (ls : Array Slot), K_6 x1_8 z_7 = some (ru, z') → wIs dC dI A cI cJ cZ z_7 H → va_S (fr A) s.heap H locs → lv_has ls 3 [(0, .ref (A 2)), (1, .int x1_8)] → WV p l e wsX2_passDay 2 s m [.ref (A 2)] below meth c dC dI A cI cJ cZ z' H locs (F0 m 57 ls []) := by
    intro x1_8 z_7 H locs ls hf hP hS hl
    have hf := ap2 eK_6 hf
    exact retV hx hb hr hlocks hP hS hf dX2_passDay_57
  have hLK_6 : ∀ (n_11 : Nat) (x1_10 : Int32) (z_9 : Mem) (H : Heap) (locs : List Loc) (ls : Array Slot), fX2_passDay_L13 K_6  n_11 x1_10 z_9 = some (ru, z') → wIs dC dI A cI cJ cZ z_9 H → va_S (fr A) s.heap H locs → lv_has ls 3 [(0, .ref (A 2)), (1, .int x1_10)] → WV p l e wsX2_passDay 2 s m [.ref (A 2)] below meth c dC dI A cI cJ cZ z' H locs (F0 m 13 ls []) := by
    intro n_11
    induction n_11 with
    | zero => intro x1_10 z_9 H locs ls hf; rw [fX2_passDay_L13_0] at hf; cases hf
    | succ n_11 ihK_6 =>
      intro x1_10 z_9 H locs ls hf hP hS hl
      rw [fX2_passDay_L13_s] at hf
      refine lv_iload_n hx hb dX2_passDay_13 rfl (lv_at hl 1 rfl) ?_
      refine lv_aload_n hx hb dX2_passDay_14 rfl (lv_at hl 0 rfl) ?_
      refine va_get (D := (dC, dI)) (ci := 2) (v := .int (z_9.1 2 1)) (C := RX2) (T := TX2) (N := 4) hx hb hts i2 hown hK hP 2 (wc_2 A cI cJ cZ z_9) rfl 1 (by decide) (hts (.fieldLink RX2 15 "LightestRules$People" "size" "I") (by decide +kernel)) (fun _ h9 => h9) rfl dX2_passDay_15 ?_
      refine lv_icmp_ge (tgt := 57) hx hb dX2_passDay_18 (by decide) (fun c_12 => ?_) (fun c_12 => ?_)
      · have hf := it_t c_12 hf
        exact hEK_6 _ _ _ _ _ hf hP hS (lv_sub hl [0, 1] rfl)
      · have hf := it_f c_12 hf
        refine lv_aload_n hx hb dX2_passDay_21 rfl (lv_at hl 0 rfl) ?_
        refine lv_iload_n hx hb dX2_passDay_22 rfl (lv_at hl 1 rfl) ?_
        refine lv_iconst (v := 3) hx hb dX2_passDay_23 (by decide) ?_
        obtain ⟨r_13, z_14, h_15, hf⟩ := cl_el hf
        refine callVI (As := [.int x1_10, .int (3 : Int32)]) (rest := []) (ci := 2) (q0 := 2) ⟨hx, hb, hml, hown, hts⟩ (tX2_get_2 (l := l) (dC := dC) (dI := dI) (t0 := t0) (cI := cI) (cJ := cJ) (cZ := cZ) hA h_15) (cwV 2 hts gX2_passDay_X2_get rfl rfl rfl (by decide +kernel) ⟨Nat.le_of_ble_eq_true rfl, Nat.le_of_ble_eq_true rfl⟩) hK hZ hP hS rfl (wc_2 A cI cJ cZ z_9) rfl rfl rfl hl.1 (Nat.le_of_ble_eq_true rfl) ⟨Nat.zero_le _, Nat.zero_le _⟩ dX2_passDay_24 (fun H locs hP hS => ?_)
        refine lv_istore_n (lv' := [(2, .int r_13), (0, .ref (A 2)), (1, .int x1_10)]) hx hb dX2_passDay_27 rfl hl (by decide) rfl (fun ls hl => ?_)
        refine lv_aload_n hx hb dX2_passDay_28 rfl (lv_at hl 1 rfl) ?_
        refine lv_iload_n hx hb dX2_passDay_29 rfl (lv_at hl 2 rfl) ?_
        refine lv_iload_n hx hb dX2_passDay_30 rfl (lv_at hl 0 rfl) ?_
        refine lv_ineg hx hb dX2_passDay_31 ?_
        refine lv_iconst (v := 2) hx hb dX2_passDay_32 (by decide) ?_
        refine lv_aload_n hx hb dX2_passDay_33 rfl (lv_at hl 1 rfl) ?_
        refine va_get (D := (dC, dI)) (ci := 2) (v := .int (z_14.1 2 2)) (C := RX2) (T := TX2) (N := 4) hx hb hts i2 hown hK hP 2 (wc_2 A cI cJ cZ z_14) rfl 2 (by decide) (hts (.fieldLink RX2 19 "LightestRules$People" "burn" "I") (by decide +kernel)) (fun _ h9 => h9) rfl dX2_passDay_34 ?_
        refine lv_imul hx hb dX2_passDay_37 ?_
        refine lv_isub hx hb dX2_passDay_38 ?_
        obtain ⟨r_16, z_17, h_18, hf⟩ := cl_el hf
        refine callVI (As := [.int x1_10, .int ((-r_13) - ((2 : Int32) * (z_14.1 2 2)))]) (rest := []) (ci := 2) (q0 := 2) ⟨hx, hb, hml, hown, hts⟩ (tX2_gain_2 (l := l) (dC := dC) (dI := dI) (t0 := t0) (cI := cI) (cJ := cJ) (cZ := cZ) hA h_18) (cwV 2 hts gX2_passDay_X2_gain rfl rfl rfl (by decide +kernel) ⟨Nat.le_of_ble_eq_true rfl, Nat.le_of_ble_eq_true rfl⟩) hK hZ hP hS rfl (wc_2 A cI cJ cZ z_14) rfl rfl rfl hl.1 (Nat.le_of_ble_eq_true rfl) ⟨Nat.zero_le _, Nat.zero_le _⟩ dX2_passDay_39 (fun H locs hP hS => ?_)
        refine lv_pop hx hb dX2_passDay_42 rfl ?_
        refine lv_aload_n hx hb dX2_passDay_43 rfl (lv_at hl 1 rfl) ?_
        refine lv_iload_n hx hb dX2_passDay_44 rfl (lv_at hl 2 rfl) ?_
        refine lv_iconst (v := 3) hx hb dX2_passDay_45 (by decide) ?_
        refine lv_iload_n hx hb dX2_passDay_46 rfl (lv_at hl 0 rfl) ?_
        refine lv_ineg hx hb dX2_passDay_47 ?_
        obtain ⟨r_19, z_20, h_21, hf⟩ := cl_el hf
        refine callVV (As := [.int x1_10, .int (3 : Int32), .int (-r_13)]) (rest := []) (ci := 2) (q0 := 2) ⟨hx, hb, hml, hown, hts⟩ (tX2_add_2 (l := l) (dC := dC) (dI := dI) (t0 := t0) (cI := cI) (cJ := cJ) (cZ := cZ) hA h_21) (cwV 3 hts gX2_passDay_X2_add rfl rfl rfl (by decide +kernel) ⟨Nat.le_of_ble_eq_true rfl, Nat.le_of_ble_eq_true rfl⟩) hK hZ hP hS rfl (wc_2 A cI cJ cZ z_17) rfl rfl rfl hl.1 (Nat.le_of_ble_eq_true rfl) ⟨Nat.zero_le _, Nat.zero_le _⟩ dX2_passDay_48 (fun H locs hP hS => ?_)
        obtain ⟨x1_22, ex1_22⟩ : ∃ q : Int32, q = x1_10 + (1 : Int32) := ⟨_, rfl⟩
        refine lv_iinc (v := x1_22) (lv' := [(1, .int x1_22), (2, .int r_13), (0, .ref (A 2))]) hx hb dX2_passDay_51 hl (k := 2) rfl (by rw [ex1_22]; rfl) (by decide) rfl (fun ls hl => ?_)
        have hf := lt_at ex1_22 hf; clear ex1_22
        refine lv_goto (tgt := 13) hx hb dX2_passDay_54 (by decide) ?_
        exact ihK_6 _ _ _ _ _ hf hP hS (lv_sub hl [2, 0] rfl)
  exact hLK_6 FU _ _ _ _ _ hf hP hS (lv_sub hl [1, 0] rfl)
set_option maxHeartbeats 4000000 in
set_option maxRecDepth 100000 in
theorem tX2_today {l : Launch} {dC : Nat → ClassId} {dI : Nat → Nat → Nat} {A : Nat → Nat} {t0 : Nat} {cI cJ cZ : ClassId} (hA : dst A)  {z : Mem} {r : Int32} {z' : Mem} (hf : fX2_today z = some (r, z')) : MI l dC dI A t0 cI cJ cZ yX2_today wsX2_today 0 [.ref (A 2)] z r z' := by
  refine Met.ofW (cc := cX2_today) (maxL := 1) (ret := (some .int)) (by decide) rfl ?_
  intro p e s m args below meth c s₁ B hml hv
  obtain ⟨rfl, hP, hK, hZ⟩ := hv
  have hx := B.exec
  have hb := B.bytes
  have hr := B.returns
  have hts := atoms_spec (ws := wsX2_today) B.pre
  have hown : s.vm.findClass RX2 = some m.cls := findClass_of_methodNamed B.named
  have hlocks := B.notSynchronized
  have hS : va_S (fr A) s.heap s.heap [] := va_S.rf
  have i2 : ∀ w ∈ wsX20, w ∈ wsX2_today := fun _ h => List.mem_cons_of_mem _ (List.mem_append_right _ h)
  have hl := lv_entry ([.ref (A 2)]) (n := 1) (Nat.le_of_ble_eq_true rfl)
  rw [lg_entry_eq]
  generalize (lg_sl ([.ref (A 2)]) ++ List.replicate (1 - (lg_sl ([.ref (A 2)])).length) Slot.unset).toArray = ls at hl ⊢
  have hl : lv_has ls 1 [(0, .ref (A 2))] := hl
  have hP : wIs dC dI A cI cJ cZ z s.heap := hP
  rw [fX2_today] at hf
  refine lv_aload_n hx hb dX2_today_0 rfl (lv_at hl 0 rfl) ?_
  refine va_get (D := (dC, dI)) (ci := 2) (v := .ref (A 11)) (C := RX2) (T := TX2) (N := 4) hx hb hts i2 hown hK hP 2 (wc_2 A cI cJ cZ z) rfl 0 (by decide) (hts (.fieldLink RX2 11 "LightestRules$People" "cells" "[I") (by decide +kernel)) (fun _ h9 => h9) rfl dX2_today_1 ?_
  refine lv_bipush (v := 25) hx hb dX2_today_4 (by decide) ?_
  obtain ⟨n_1, hf⟩ := rg_el hf
  refine va_iald hx hb hK hP 11 0 (wc_11 A cI cJ cZ z) rfl n_1 dX2_today_6 ?_
  refine lv_topi (fun a_2 ea_2 => ?_)
  have hf := lt_at ea_2 hf; clear ea_2
  exact retI hx hb hr hlocks hP hS hf dX2_today_7
set_option maxHeartbeats 4000000 in
set_option maxRecDepth 100000 in
theorem tX8_day {l : Launch} {dC : Nat → ClassId} {dI : Nat → Nat → Nat} {A : Nat → Nat} {t0 : Nat} {cI cJ cZ : ClassId} (hA : dst A)  {z : Mem} {r : Int32} {z' : Mem} (hf : fX8_day z = some (r, z')) : MI l dC dI A t0 cI cJ cZ yX8_day wsX8_day 3 [.ref (A 0)] z r z' := by
  refine Met.ofW (cc := cX8_day) (maxL := 1) (ret := (some .int)) (by decide) rfl ?_
  intro p e s m args below meth c s₁ B hml hv
  obtain ⟨rfl, hP, hK, hZ⟩ := hv
  have hx := B.exec
  have hb := B.bytes
  have hr := B.returns
  have hts := atoms_spec (ws := wsX8_day) B.pre
  have hown : s.vm.findClass RX8 = some m.cls := findClass_of_methodNamed B.named
  have hlocks := B.notSynchronized
  have hS : va_S (fr A) s.heap s.heap [] := va_S.rf
  have i8 : ∀ w ∈ wsX80, w ∈ wsX8_day := fun _ h => List.mem_cons_of_mem _ (List.mem_append_left _ (List.mem_append_left _ (List.mem_append_right _ h)))
  have hl := lv_entry ([.ref (A 0)]) (n := 1) (Nat.le_of_ble_eq_true rfl)
  rw [lg_entry_eq]
  generalize (lg_sl ([.ref (A 0)]) ++ List.replicate (1 - (lg_sl ([.ref (A 0)])).length) Slot.unset).toArray = ls at hl ⊢
  have hl : lv_has ls 1 [(0, .ref (A 0))] := hl
  have hP : wIs dC dI A cI cJ cZ z s.heap := hP
  rw [fX8_day] at hf
  refine lv_aload_n hx hb dX8_day_0 rfl (lv_at hl 0 rfl) ?_
  refine va_get (D := (dC, dI)) (ci := 8) (v := .ref (A 3)) (C := RX8) (T := TX8) (N := 9) hx hb hts i8 hown hK hP 0 (wc_0 A cI cJ cZ z) rfl 2 (by decide) (hts (.fieldLink RX8 26 "LightestRules" "acts" "LLightestRules$ActRow;") (by decide +kernel)) (fun _ h9 => h9) rfl dX8_day_1 ?_
  refine lv_aload_n hx hb dX8_day_4 rfl (lv_at hl 0 rfl) ?_
  refine va_get (D := (dC, dI)) (ci := 8) (v := .ref (A 2)) (C := RX8) (T := TX8) (N := 9) hx hb hts i8 hown hK hP 0 (wc_0 A cI cJ cZ z) rfl 1 (by decide) (hts (.fieldLink RX8 19 "LightestRules" "folk" "LLightestRules$People;") (by decide +kernel)) (fun _ h9 => h9) rfl dX8_day_5 ?_
  obtain ⟨r_1, z_2, h_3, hf⟩ := cl_el hf
  refine callVV (As := [.ref (A 2)]) (rest := []) (ci := 0) (q0 := 3) ⟨hx, hb, hml, hown, hts⟩ (tX0_remember (l := l) (dC := dC) (dI := dI) (t0 := t0) (cI := cI) (cJ := cJ) (cZ := cZ) hA h_3) (cwV 1 hts gX8_day_X0_remember rfl rfl rfl (by decide +kernel) ⟨Nat.le_of_ble_eq_true rfl, Nat.le_of_ble_eq_true rfl⟩) hK hZ hP hS rfl (wc_3 A cI cJ cZ z) rfl rfl rfl hl.1 (Nat.le_of_ble_eq_true rfl) ⟨Nat.zero_le _, Nat.zero_le _⟩ dX8_day_8 (fun H locs hP hS => ?_)
  refine lv_aload_n hx hb dX8_day_11 rfl (lv_at hl 0 rfl) ?_
  refine va_get (D := (dC, dI)) (ci := 8) (v := .ref (A 2)) (C := RX8) (T := TX8) (N := 9) hx hb hts i8 hown hK hP 0 (wc_0 A cI cJ cZ z_2) rfl 1 (by decide) (hts (.fieldLink RX8 19 "LightestRules" "folk" "LLightestRules$People;") (by decide +kernel)) (fun _ h9 => h9) rfl dX8_day_12 ?_
  obtain ⟨r_4, z_5, h_6, hf⟩ := cl_el hf
  refine callVV (As := []) (rest := []) (ci := 2) (q0 := 2) ⟨hx, hb, hml, hown, hts⟩ (tX2_passDay (l := l) (dC := dC) (dI := dI) (t0 := t0) (cI := cI) (cJ := cJ) (cZ := cZ) hA h_6) (cwV 0 hts gX8_day_X2_passDay rfl rfl rfl (by decide +kernel) ⟨Nat.le_of_ble_eq_true rfl, Nat.le_of_ble_eq_true rfl⟩) hK hZ hP hS rfl (wc_2 A cI cJ cZ z_2) rfl rfl rfl hl.1 (Nat.le_of_ble_eq_true rfl) ⟨Nat.zero_le _, Nat.zero_le _⟩ dX8_day_15 (fun H locs hP hS => ?_)
  refine lv_aload_n hx hb dX8_day_18 rfl (lv_at hl 0 rfl) ?_
  refine va_get (D := (dC, dI)) (ci := 8) (v := .ref (A 2)) (C := RX8) (T := TX8) (N := 9) hx hb hts i8 hown hK hP 0 (wc_0 A cI cJ cZ z_5) rfl 1 (by decide) (hts (.fieldLink RX8 19 "LightestRules" "folk" "LLightestRules$People;") (by decide +kernel)) (fun _ h9 => h9) rfl dX8_day_19 ?_
  obtain ⟨r_7, z_8, h_9, hf⟩ := cl_el hf
  refine callVI (As := []) (rest := []) (ci := 2) (q0 := 2) ⟨hx, hb, hml, hown, hts⟩ (tX2_today (l := l) (dC := dC) (dI := dI) (t0 := t0) (cI := cI) (cJ := cJ) (cZ := cZ) hA h_9) (cwV 0 hts gX8_day_X2_today rfl rfl rfl (by decide +kernel) ⟨Nat.le_of_ble_eq_true rfl, Nat.le_of_ble_eq_true rfl⟩) hK hZ hP hS rfl (wc_2 A cI cJ cZ z_5) rfl rfl rfl hl.1 (Nat.le_of_ble_eq_true rfl) ⟨Nat.zero_le _, Nat.zero_le _⟩ dX8_day_22 (fun H locs hP hS => ?_)
  exact retI hx hb hr hlocks hP hS hf dX8_day_25
set_option maxHeartbeats 4000000 in
set_option maxRecDepth 100000 in
theorem tX9_day {l : Launch} {dC : Nat → ClassId} {dI : Nat → Nat → Nat} {A : Nat → Nat} {t0 : Nat} {cI cJ cZ : ClassId} (hA : dst A)  {z : Mem} {r : Int32} {z' : Mem} (hf : fX9_day z = some (r, z')) : MI l dC dI A t0 cI cJ cZ yX9_day wsX9_day 1 [.ref (A 25)] z r z' := by
  refine Met.ofW (cc := cX9_day) (maxL := 2) (ret := (some .int)) (by decide) rfl ?_
  intro p e s m args below meth c s₁ B hml hv
  obtain ⟨rfl, hP, hK, hZ⟩ := hv
  have hx := B.exec
  have hb := B.bytes
  have hr := B.returns
  have hts := atoms_spec (ws := wsX9_day) B.pre
  have hown : s.vm.findClass RX9 = some m.cls := findClass_of_methodNamed B.named
  have hlocks := B.notSynchronized
  have hS : va_S (fr A) s.heap s.heap [] := va_S.rf
  have i9 : ∀ w ∈ wsX90, w ∈ wsX9_day := fun _ h => List.mem_cons_of_mem _ (List.mem_append_right _ h)
  have hl := lv_entry ([.ref (A 25)]) (n := 2) (Nat.le_of_ble_eq_true rfl)
  rw [lg_entry_eq]
  generalize (lg_sl ([.ref (A 25)]) ++ List.replicate (2 - (lg_sl ([.ref (A 25)])).length) Slot.unset).toArray = ls at hl ⊢
  have hl : lv_has ls 2 [(0, .ref (A 25))] := hl
  have hP : wIs dC dI A cI cJ cZ z s.heap := hP
  rw [fX9_day] at hf
  refine lv_aload_n hx hb dX9_day_0 rfl (lv_at hl 0 rfl) ?_
  obtain ⟨r_1, z_2, h_3, hf⟩ := cl_el hf
  refine callVV (As := []) (rest := []) (ci := 9) (q0 := 25) ⟨hx, hb, hml, hown, hts⟩ (tX9_keepAct (l := l) (dC := dC) (dI := dI) (t0 := t0) (cI := cI) (cJ := cJ) (cZ := cZ) hA h_3) (cwV 0 hts gX9_day_X9_keepAct rfl rfl rfl (by decide +kernel) ⟨Nat.le_of_ble_eq_true rfl, Nat.le_of_ble_eq_true rfl⟩) hK hZ hP hS rfl (wc_25 A cI cJ cZ z) rfl rfl rfl hl.1 (Nat.le_of_ble_eq_true rfl) ⟨Nat.zero_le _, Nat.zero_le _⟩ dX9_day_1 (fun H locs hP hS => ?_)
  refine lv_iconst (v := 0) hx hb dX9_day_4 (by decide) ?_
  refine lv_istore_n (lv' := [(1, .int (0 : Int32)), (0, .ref (A 25))]) hx hb dX9_day_5 rfl hl (by decide) rfl (fun ls hl => ?_)
  obtain ⟨K_4, eK_4, hf⟩ := fX9_day_L6_g hf
  have hEK_4 : ∀ (x1_6 : Int32) (z_5 : Mem) (H : Heap) (locs : List Loc) (ls : Array Slot), K_4 x1_6 z_5 = some (r, z') → wIs dC dI A cI cJ cZ z_5 H → va_S (fr A) s.heap H locs → lv_has ls 2 [(0, .ref (A 25)), (1, .int x1_6)] → WI p l e wsX9_day 1 s m [.ref (A 25)] below meth c dC dI A cI cJ cZ r z' H locs (F0 m 68 ls []) := by
    intro x1_6 z_5 H locs ls hf hP hS hl
    have hf := ap2 eK_4 hf
    refine lv_aload_n hx hb dX9_day_68 rfl (lv_at hl 0 rfl) ?_
    refine va_get (D := (dC, dI)) (ci := 9) (v := .ref (A 27)) (C := RX9) (T := TX9) (N := 34) hx hb hts i9 hown hK hP 25 (wc_25 A cI cJ cZ z_5) rfl 5 (by decide) (hts (.fieldLink RX9 13 "LightestRulesModel" "now" "[I") (by decide +kernel)) (fun _ h9 => h9) rfl dX9_day_69 ?_
    refine lv_bipush (v := 25) hx hb dX9_day_72 (by decide) ?_
    refine lv_dup2_11 hx hb dX9_day_74 rfl rfl ?_
    obtain ⟨n_7, hf⟩ := rg_el hf
    refine va_iald hx hb hK hP 27 0 (wc_27 A cI cJ cZ z_5) rfl n_7 dX9_day_75 ?_
    refine lv_topi (fun a_8 ea_8 => ?_)
    have hf := lt_at ea_8 hf; clear ea_8
    refine lv_iconst (v := 1) hx hb dX9_day_76 (by decide) ?_
    refine lv_iadd hx hb dX9_day_77 ?_
    refine lv_topi (fun y_9 ey_9 => ?_)
    have hf := lt_at ey_9 hf; clear ey_9
    obtain ⟨n_10, hf⟩ := rg_el hf
    refine va_iast hx hb hK hP (wD hA cI cJ cZ z_5) hS 27 0 (wc_27 A cI cJ cZ z_5) rfl n_10 dX9_day_78 (fun H locs hP _ hS => ?_)
    rw [wa_27 A cI cJ cZ z_5 (25 : Int32).toNatClampNeg y_9] at hP
    obtain ⟨z_11, hP, hf⟩ := lt_P (P := fun q => wIs dC dI A cI cJ cZ q H) hP hf
    refine lv_aload_n hx hb dX9_day_79 rfl (lv_at hl 0 rfl) ?_
    refine va_get (D := (dC, dI)) (ci := 9) (v := .ref (A 27)) (C := RX9) (T := TX9) (N := 34) hx hb hts i9 hown hK hP 25 (wc_25 A cI cJ cZ z_11) rfl 5 (by decide) (hts (.fieldLink RX9 13 "LightestRulesModel" "now" "[I") (by decide +kernel)) (fun _ h9 => h9) rfl dX9_day_80 ?_
    refine lv_bipush (v := 25) hx hb dX9_day_83 (by decide) ?_
    obtain ⟨n_12, hf⟩ := rg_el hf
    refine va_iald hx hb hK hP 27 0 (wc_27 A cI cJ cZ z_11) rfl n_12 dX9_day_85 ?_
    refine lv_topi (fun a_13 ea_13 => ?_)
    have hf := lt_at ea_13 hf; clear ea_13
    exact retI hx hb hr hlocks hP hS hf dX9_day_86
  have hLK_4 : ∀ (n_16 : Nat) (x1_15 : Int32) (z_14 : Mem) (H : Heap) (locs : List Loc) (ls : Array Slot), fX9_day_L6 K_4  n_16 x1_15 z_14 = some (r, z') → wIs dC dI A cI cJ cZ z_14 H → va_S (fr A) s.heap H locs → lv_has ls 2 [(0, .ref (A 25)), (1, .int x1_15)] → WI p l e wsX9_day 1 s m [.ref (A 25)] below meth c dC dI A cI cJ cZ r z' H locs (F0 m 6 ls []) := by
    intro n_16
    induction n_16 with
    | zero => intro x1_15 z_14 H locs ls hf; rw [fX9_day_L6_0] at hf; cases hf
    | succ n_16 ihK_4 =>
      intro x1_15 z_14 H locs ls hf hP hS hl
      rw [fX9_day_L6_s] at hf
      refine lv_iload_n hx hb dX9_day_6 rfl (lv_at hl 1 rfl) ?_
      refine lv_aload_n hx hb dX9_day_7 rfl (lv_at hl 0 rfl) ?_
      refine va_get (D := (dC, dI)) (ci := 9) (v := .int (z_14.1 25 6)) (C := RX9) (T := TX9) (N := 34) hx hb hts i9 hown hK hP 25 (wc_25 A cI cJ cZ z_14) rfl 6 (by decide) (hts (.fieldLink RX9 104 "LightestRulesModel" "many" "I") (by decide +kernel)) (fun _ h9 => h9) rfl dX9_day_8 ?_
      refine lv_icmp_ge (tgt := 68) hx hb dX9_day_11 (by decide) (fun c_17 => ?_) (fun c_17 => ?_)
      · have hf := it_t c_17 hf
        exact hEK_4 _ _ _ _ _ hf hP hS (lv_sub hl [0, 1] rfl)
      · have hf := it_f c_17 hf
        refine lv_aload_n hx hb dX9_day_14 rfl (lv_at hl 0 rfl) ?_
        refine va_get (D := (dC, dI)) (ci := 9) (v := .ref (A 27)) (C := RX9) (T := TX9) (N := 34) hx hb hts i9 hown hK hP 25 (wc_25 A cI cJ cZ z_14) rfl 5 (by decide) (hts (.fieldLink RX9 13 "LightestRulesModel" "now" "[I") (by decide +kernel)) (fun _ h9 => h9) rfl dX9_day_15 ?_
        refine lv_iconst (v := 5) hx hb dX9_day_18 (by decide) ?_
        refine lv_iload_n hx hb dX9_day_19 rfl (lv_at hl 1 rfl) ?_
        refine lv_imul hx hb dX9_day_20 ?_
        refine lv_aload_n hx hb dX9_day_21 rfl (lv_at hl 0 rfl) ?_
        refine va_get (D := (dC, dI)) (ci := 9) (v := .ref (A 27)) (C := RX9) (T := TX9) (N := 34) hx hb hts i9 hown hK hP 25 (wc_25 A cI cJ cZ z_14) rfl 5 (by decide) (hts (.fieldLink RX9 13 "LightestRulesModel" "now" "[I") (by decide +kernel)) (fun _ h9 => h9) rfl dX9_day_22 ?_
        refine lv_iconst (v := 5) hx hb dX9_day_25 (by decide) ?_
        refine lv_iload_n hx hb dX9_day_26 rfl (lv_at hl 1 rfl) ?_
        refine lv_imul hx hb dX9_day_27 ?_
        refine lv_topi (fun y_18 ey_18 => ?_)
        have hf := lt_at ey_18 hf; clear ey_18
        obtain ⟨n_19, hf⟩ := rg_el hf
        refine va_iald hx hb hK hP 27 0 (wc_27 A cI cJ cZ z_14) rfl n_19 dX9_day_28 ?_
        refine lv_topi (fun a_20 ea_20 => ?_)
        have hf := lt_at ea_20 hf; clear ea_20
        refine lv_aload_n hx hb dX9_day_29 rfl (lv_at hl 0 rfl) ?_
        refine va_get (D := (dC, dI)) (ci := 9) (v := .ref (A 27)) (C := RX9) (T := TX9) (N := 34) hx hb hts i9 hown hK hP 25 (wc_25 A cI cJ cZ z_14) rfl 5 (by decide) (hts (.fieldLink RX9 13 "LightestRulesModel" "now" "[I") (by decide +kernel)) (fun _ h9 => h9) rfl dX9_day_30 ?_
        refine lv_iconst (v := 5) hx hb dX9_day_33 (by decide) ?_
        refine lv_iload_n hx hb dX9_day_34 rfl (lv_at hl 1 rfl) ?_
        refine lv_imul hx hb dX9_day_35 ?_
        refine lv_iconst (v := 3) hx hb dX9_day_36 (by decide) ?_
        refine lv_iadd hx hb dX9_day_37 ?_
        refine lv_topi (fun y_21 ey_21 => ?_)
        have hf := lt_at ey_21 hf; clear ey_21
        obtain ⟨n_22, hf⟩ := rg_el hf
        refine va_iald hx hb hK hP 27 0 (wc_27 A cI cJ cZ z_14) rfl n_22 dX9_day_38 ?_
        refine lv_topi (fun a_23 ea_23 => ?_)
        have hf := lt_at ea_23 hf; clear ea_23
        refine lv_isub hx hb dX9_day_39 ?_
        refine lv_iconst (v := 2) hx hb dX9_day_40 (by decide) ?_
        refine lv_aload_n hx hb dX9_day_41 rfl (lv_at hl 0 rfl) ?_
        refine va_get (D := (dC, dI)) (ci := 9) (v := .int (z_14.1 25 8)) (C := RX9) (T := TX9) (N := 34) hx hb hts i9 hown hK hP 25 (wc_25 A cI cJ cZ z_14) rfl 8 (by decide) (hts (.fieldLink RX9 107 "LightestRulesModel" "burn" "I") (by decide +kernel)) (fun _ h9 => h9) rfl dX9_day_42 ?_
        refine lv_imul hx hb dX9_day_45 ?_
        refine lv_isub hx hb dX9_day_46 ?_
        obtain ⟨r_24, z_25, h_26, hf⟩ := cl_el hf
        refine callSI (As := [.int ((a_20 - a_23) - ((2 : Int32) * (z_14.1 25 8)))]) (rest := [.int ((5 : Int32) * x1_15), .ref (A 27)]) ⟨hx, hb, hml, hown, hts⟩ (tX9_left (l := l) (dC := dC) (dI := dI) (t0 := t0) (cI := cI) (cJ := cJ) (cZ := cZ) hA h_26) (va_cwS 1 hts gX9_day_X9_left rfl rfl rfl (by decide +kernel) ⟨Nat.le_of_ble_eq_true rfl, Nat.le_of_ble_eq_true rfl⟩) hK hZ hP hS rfl rfl hl.1 (Nat.le_of_ble_eq_true rfl) ⟨Nat.zero_le _, Nat.zero_le _⟩ dX9_day_47 (fun H locs hP hS => ?_)
        obtain ⟨n_27, hf⟩ := rg_el hf
        refine va_iast hx hb hK hP (wD hA cI cJ cZ z_25) hS 27 0 (wc_27 A cI cJ cZ z_25) rfl n_27 dX9_day_50 (fun H locs hP _ hS => ?_)
        rw [wa_27 A cI cJ cZ z_25 ((5 : Int32) * x1_15).toNatClampNeg r_24] at hP
        obtain ⟨z_28, hP, hf⟩ := lt_P (P := fun q => wIs dC dI A cI cJ cZ q H) hP hf
        refine lv_aload_n hx hb dX9_day_51 rfl (lv_at hl 0 rfl) ?_
        refine va_get (D := (dC, dI)) (ci := 9) (v := .ref (A 27)) (C := RX9) (T := TX9) (N := 34) hx hb hts i9 hown hK hP 25 (wc_25 A cI cJ cZ z_28) rfl 5 (by decide) (hts (.fieldLink RX9 13 "LightestRulesModel" "now" "[I") (by decide +kernel)) (fun _ h9 => h9) rfl dX9_day_52 ?_
        refine lv_iconst (v := 5) hx hb dX9_day_55 (by decide) ?_
        refine lv_iload_n hx hb dX9_day_56 rfl (lv_at hl 1 rfl) ?_
        refine lv_imul hx hb dX9_day_57 ?_
        refine lv_iconst (v := 3) hx hb dX9_day_58 (by decide) ?_
        refine lv_iadd hx hb dX9_day_59 ?_
        refine lv_iconst (v := 0) hx hb dX9_day_60 (by decide) ?_
        obtain ⟨n_29, hf⟩ := rg_el hf
        refine va_iast hx hb hK hP (wD hA cI cJ cZ z_28) hS 27 0 (wc_27 A cI cJ cZ z_28) rfl n_29 dX9_day_61 (fun H locs hP _ hS => ?_)
        rw [wa_27 A cI cJ cZ z_28 (((5 : Int32) * x1_15) + (3 : Int32)).toNatClampNeg (0 : Int32)] at hP
        obtain ⟨z_30, hP, hf⟩ := lt_P (P := fun q => wIs dC dI A cI cJ cZ q H) hP hf
        obtain ⟨x1_31, ex1_31⟩ : ∃ q : Int32, q = x1_15 + (1 : Int32) := ⟨_, rfl⟩
        refine lv_iinc (v := x1_31) (lv' := [(1, .int x1_31), (0, .ref (A 25))]) hx hb dX9_day_62 hl (k := 1) rfl (by rw [ex1_31]; rfl) (by decide) rfl (fun ls hl => ?_)
        have hf := lt_at ex1_31 hf; clear ex1_31
        refine lv_goto (tgt := 6) hx hb dX9_day_65 (by decide) ?_
        exact ihK_4 _ _ _ _ _ hf hP hS (lv_sub hl [1, 0] rfl)
  exact hLK_4 FU _ _ _ _ _ hf hP hS (lv_sub hl [1, 0] rfl)
set_option maxHeartbeats 4000000 in
set_option maxRecDepth 100000 in
theorem tX2_lightestBut_2 {l : Launch} {dC : Nat → ClassId} {dI : Nat → Nat → Nat} {A : Nat → Nat} {t0 : Nat} {cI cJ cZ : ClassId} (hA : dst A) {p0 : Int32} {z : Mem} {r : Int32} {z' : Mem} (hf : fX2_lightestBut_2 p0 z = some (r, z')) : MI l dC dI A t0 cI cJ cZ yX2_lightestBut wsX2_lightestBut 3 [.ref (A 2), .int p0] z r z' := by
  refine Met.ofW (cc := cX2_lightestBut) (maxL := 5) (ret := (some .int)) (by decide) rfl ?_
  intro p e s m args below meth c s₁ B hml hv
  obtain ⟨rfl, hP, hK, hZ⟩ := hv
  have hx := B.exec
  have hb := B.bytes
  have hr := B.returns
  have hts := atoms_spec (ws := wsX2_lightestBut) B.pre
  have hown : s.vm.findClass RX2 = some m.cls := findClass_of_methodNamed B.named
  have hlocks := B.notSynchronized
  have hS : va_S (fr A) s.heap s.heap [] := va_S.rf
  have i2 : ∀ w ∈ wsX20, w ∈ wsX2_lightestBut := fun _ h => List.mem_cons_of_mem _ (List.mem_append_right _ h)
  have hl := lv_entry ([.ref (A 2), .int p0]) (n := 5) (Nat.le_of_ble_eq_true rfl)
  rw [lg_entry_eq]
  generalize (lg_sl ([.ref (A 2), .int p0]) ++ List.replicate (5 - (lg_sl ([.ref (A 2), .int p0])).length) Slot.unset).toArray = ls at hl ⊢
  have hl : lv_has ls 5 [(0, .ref (A 2)), (1, .int p0)] := hl
  have hP : wIs dC dI A cI cJ cZ z s.heap := hP
  rw [fX2_lightestBut_2] at hf
  refine lv_bipush (v := -9) hx hb dX2_lightestBut_0 (by decide) ?_
  refine lv_istore_n (lv' := [(2, .int (-9 : Int32)), (0, .ref (A 2)), (1, .int p0)]) hx hb dX2_lightestBut_2 rfl hl (by decide) rfl (fun ls hl => ?_)
  refine lv_iconst (v := 0) hx hb dX2_lightestBut_3 (by decide) ?_
  refine lv_istore_n (lv' := [(3, .int (0 : Int32)), (2, .int (-9 : Int32)), (0, .ref (A 2)), (1, .int p0)]) hx hb dX2_lightestBut_4 rfl hl (by decide) rfl (fun ls hl => ?_)
  obtain ⟨K_1, eK_1, hf⟩ := fX2_lightestBut_2_L5_g hf
  have hEK_1 : ∀ (x2_3 : Int32) (x3_4 : Int32) (z_2 : Mem) (H : Heap) (locs : List Loc) (ls : Array Slot), K_1 x2_3 x3_4 z_2 = some (r, z') → wIs dC dI A cI cJ cZ z_2 H → va_S (fr A) s.heap H locs → lv_has ls 5 [(0, .ref (A 2)), (1, .int p0), (2, .int x2_3), (3, .int x3_4)] → WI p l e wsX2_lightestBut 3 s m [.ref (A 2), .int p0] below meth c dC dI A cI cJ cZ r z' H locs (F0 m 60 ls []) := by
    intro x2_3 x3_4 z_2 H locs ls hf hP hS hl
    have hf := ap3 eK_1 hf
    refine lv_iload_n hx hb dX2_lightestBut_60 rfl (lv_at hl 2 rfl) ?_
    exact retI hx hb hr hlocks hP hS hf dX2_lightestBut_61
  have hLK_1 : ∀ (n_8 : Nat) (x2_6 : Int32) (x3_7 : Int32) (z_5 : Mem) (H : Heap) (locs : List Loc) (ls : Array Slot), fX2_lightestBut_2_L5 K_1 p0 n_8 x2_6 x3_7 z_5 = some (r, z') → wIs dC dI A cI cJ cZ z_5 H → va_S (fr A) s.heap H locs → lv_has ls 5 [(0, .ref (A 2)), (1, .int p0), (2, .int x2_6), (3, .int x3_7)] → WI p l e wsX2_lightestBut 3 s m [.ref (A 2), .int p0] below meth c dC dI A cI cJ cZ r z' H locs (F0 m 5 ls []) := by
    intro n_8
    induction n_8 with
    | zero => intro x2_6 x3_7 z_5 H locs ls hf; rw [fX2_lightestBut_2_L5_0] at hf; cases hf
    | succ n_8 ihK_1 =>
      intro x2_6 x3_7 z_5 H locs ls hf hP hS hl
      rw [fX2_lightestBut_2_L5_s] at hf
      refine lv_iload_n hx hb dX2_lightestBut_5 rfl (lv_at hl 3 rfl) ?_
      refine lv_aload_n hx hb dX2_lightestBut_6 rfl (lv_at hl 0 rfl) ?_
      refine va_get (D := (dC, dI)) (ci := 2) (v := .int (z_5.1 2 1)) (C := RX2) (T := TX2) (N := 4) hx hb hts i2 hown hK hP 2 (wc_2 A cI cJ cZ z_5) rfl 1 (by decide) (hts (.fieldLink RX2 15 "LightestRules$People" "size" "I") (by decide +kernel)) (fun _ h9 => h9) rfl dX2_lightestBut_7 ?_
      refine lv_icmp_ge (tgt := 60) hx hb dX2_lightestBut_10 (by decide) (fun c_9 => ?_) (fun c_9 => ?_)
      · have hf := it_t c_9 hf
        exact hEK_1 _ _ _ _ _ _ hf hP hS (lv_sub hl [0, 1, 2, 3] rfl)
      · have hf := it_f c_9 hf
        refine lv_iload_n hx hb dX2_lightestBut_13 rfl (lv_at hl 1 rfl) ?_
        refine lv_iload_n hx hb dX2_lightestBut_14 rfl (lv_at hl 3 rfl) ?_
        refine lv_ishr hx hb dX2_lightestBut_15 ?_
        refine lv_iconst (v := 1) hx hb dX2_lightestBut_16 (by decide) ?_
        refine lv_iand hx hb dX2_lightestBut_17 ?_
        obtain ⟨K_10, eK_10, hf⟩ := jn_el hf
        have hK_10 : ∀ (v_11 : Int32) (z_12 : Mem) (H : Heap) (locs : List Loc) (ls : Array Slot), K_10 v_11 z_12 = some (r, z') → wIs dC dI A cI cJ cZ z_12 H → va_S (fr A) s.heap H locs → lv_has ls 5 [(0, .ref (A 2)), (1, .int p0), (2, .int x2_6), (3, .int x3_7)] → WI p l e wsX2_lightestBut 3 s m [.ref (A 2), .int p0] below meth c dC dI A cI cJ cZ r z' H locs (F0 m 26 ls [.int v_11]) := by
          intro v_11 z_12 H locs ls hf hP hS hl
          have hf := ap2 eK_10 hf
          refine lv_istore (lv' := [(4, .int v_11), (0, .ref (A 2)), (1, .int p0), (2, .int x2_6), (3, .int x3_7)]) hx hb dX2_lightestBut_26 hl (by decide) rfl (fun ls hl => ?_)
          refine lv_iload hx hb dX2_lightestBut_28 (lv_at hl 0 rfl) ?_
          refine lv_if_eq (tgt := 54) hx hb dX2_lightestBut_30 (by decide) (fun c_13 => ?_) (fun c_13 => ?_)
          · have hf := it_t c_13 hf
            obtain ⟨x3_14, ex3_14⟩ : ∃ q : Int32, q = x3_7 + (1 : Int32) := ⟨_, rfl⟩
            refine lv_iinc (v := x3_14) (lv' := [(3, .int x3_14), (4, .int v_11), (0, .ref (A 2)), (1, .int p0), (2, .int x2_6)]) hx hb dX2_lightestBut_54 hl (k := 4) rfl (by rw [ex3_14]; rfl) (by decide) rfl (fun ls hl => ?_)
            have hf := lt_at ex3_14 hf; clear ex3_14
            refine lv_goto (tgt := 5) hx hb dX2_lightestBut_57 (by decide) ?_
            exact ihK_1 _ _ _ _ _ _ hf hP hS (lv_sub hl [2, 3, 4, 0] rfl)
          · have hf := it_f c_13 hf
            refine lv_iload_n hx hb dX2_lightestBut_33 rfl (lv_at hl 3 rfl) ?_
            refine lv_bipush (v := -9) hx hb dX2_lightestBut_34 (by decide) ?_
            refine lv_icmp_eq (tgt := 52) hx hb dX2_lightestBut_36 (by decide) (fun c_15 => ?_) (fun c_15 => ?_)
            · have hf := it_t c_15 hf
              refine lv_iload_n hx hb dX2_lightestBut_52 rfl (lv_at hl 4 rfl) ?_
              refine lv_istore_n (lv' := [(2, .int x3_7), (4, .int v_11), (0, .ref (A 2)), (1, .int p0), (3, .int x3_7)]) hx hb dX2_lightestBut_53 rfl hl (by decide) rfl (fun ls hl => ?_)
              obtain ⟨x3_16, ex3_16⟩ : ∃ q : Int32, q = x3_7 + (1 : Int32) := ⟨_, rfl⟩
              refine lv_iinc (v := x3_16) (lv' := [(3, .int x3_16), (2, .int x3_7), (4, .int v_11), (0, .ref (A 2)), (1, .int p0)]) hx hb dX2_lightestBut_54 hl (k := 4) rfl (by rw [ex3_16]; rfl) (by decide) rfl (fun ls hl => ?_)
              have hf := lt_at ex3_16 hf; clear ex3_16
              refine lv_goto (tgt := 5) hx hb dX2_lightestBut_57 (by decide) ?_
              exact ihK_1 _ _ _ _ _ _ hf hP hS (lv_sub hl [3, 4, 1, 0] rfl)
            · have hf := it_f c_15 hf
              refine lv_aload_n hx hb dX2_lightestBut_39 rfl (lv_at hl 1 rfl) ?_
              refine lv_iload_n hx hb dX2_lightestBut_40 rfl (lv_at hl 4 rfl) ?_
              obtain ⟨r_17, z_18, h_19, hf⟩ := cl_el hf
              refine callVI (As := [.int x3_7]) (rest := []) (ci := 2) (q0 := 2) ⟨hx, hb, hml, hown, hts⟩ (tX2_noonWeight_2 (l := l) (dC := dC) (dI := dI) (t0 := t0) (cI := cI) (cJ := cJ) (cZ := cZ) hA h_19) (cwV 1 hts gX2_lightestBut_X2_noonWeight rfl rfl rfl (by decide +kernel) ⟨Nat.le_of_ble_eq_true rfl, Nat.le_of_ble_eq_true rfl⟩) hK hZ hP hS rfl (wc_2 A cI cJ cZ z_12) rfl rfl rfl hl.1 (Nat.le_of_ble_eq_true rfl) ⟨Nat.zero_le _, Nat.zero_le _⟩ dX2_lightestBut_41 (fun H locs hP hS => ?_)
              refine lv_aload_n hx hb dX2_lightestBut_44 rfl (lv_at hl 1 rfl) ?_
              refine lv_iload_n hx hb dX2_lightestBut_45 rfl (lv_at hl 3 rfl) ?_
              obtain ⟨r_20, z_21, h_22, hf⟩ := cl_el hf
              refine callVI (As := [.int x2_6]) (rest := [.int r_17]) (ci := 2) (q0 := 2) ⟨hx, hb, hml, hown, hts⟩ (tX2_noonWeight_2 (l := l) (dC := dC) (dI := dI) (t0 := t0) (cI := cI) (cJ := cJ) (cZ := cZ) hA h_22) (cwV 1 hts gX2_lightestBut_X2_noonWeight rfl rfl rfl (by decide +kernel) ⟨Nat.le_of_ble_eq_true rfl, Nat.le_of_ble_eq_true rfl⟩) hK hZ hP hS rfl (wc_2 A cI cJ cZ z_18) rfl rfl rfl hl.1 (Nat.le_of_ble_eq_true rfl) ⟨Nat.zero_le _, Nat.zero_le _⟩ dX2_lightestBut_46 (fun H locs hP hS => ?_)
              refine lv_icmp_ge (tgt := 54) hx hb dX2_lightestBut_49 (by decide) (fun c_23 => ?_) (fun c_23 => ?_)
              · have hf := it_t c_23 hf
                obtain ⟨x3_24, ex3_24⟩ : ∃ q : Int32, q = x3_7 + (1 : Int32) := ⟨_, rfl⟩
                refine lv_iinc (v := x3_24) (lv' := [(3, .int x3_24), (4, .int v_11), (0, .ref (A 2)), (1, .int p0), (2, .int x2_6)]) hx hb dX2_lightestBut_54 hl (k := 4) rfl (by rw [ex3_24]; rfl) (by decide) rfl (fun ls hl => ?_)
                have hf := lt_at ex3_24 hf; clear ex3_24
                refine lv_goto (tgt := 5) hx hb dX2_lightestBut_57 (by decide) ?_
                exact ihK_1 _ _ _ _ _ _ hf hP hS (lv_sub hl [2, 3, 4, 0] rfl)
              · have hf := it_f c_23 hf
                refine lv_iload_n hx hb dX2_lightestBut_52 rfl (lv_at hl 4 rfl) ?_
                refine lv_istore_n (lv' := [(2, .int x3_7), (4, .int v_11), (0, .ref (A 2)), (1, .int p0), (3, .int x3_7)]) hx hb dX2_lightestBut_53 rfl hl (by decide) rfl (fun ls hl => ?_)
                obtain ⟨x3_25, ex3_25⟩ : ∃ q : Int32, q = x3_7 + (1 : Int32) := ⟨_, rfl⟩
                refine lv_iinc (v := x3_25) (lv' := [(3, .int x3_25), (2, .int x3_7), (4, .int v_11), (0, .ref (A 2)), (1, .int p0)]) hx hb dX2_lightestBut_54 hl (k := 4) rfl (by rw [ex3_25]; rfl) (by decide) rfl (fun ls hl => ?_)
                have hf := lt_at ex3_25 hf; clear ex3_25
                refine lv_goto (tgt := 5) hx hb dX2_lightestBut_57 (by decide) ?_
                exact ihK_1 _ _ _ _ _ _ hf hP hS (lv_sub hl [3, 4, 1, 0] rfl)
        refine lv_if_ne (tgt := 25) hx hb dX2_lightestBut_18 (by decide) (fun c_26 => ?_) (fun c_26 => ?_)
        · have hf := it_f c_26 hf
          refine lv_iconst (v := 0) hx hb dX2_lightestBut_25 (by decide) ?_
          exact hK_10 _ _ _ _ _ hf hP hS (lv_sub hl [0, 1, 2, 3] rfl)
        · have hf := it_t c_26 hf
          refine lv_iconst (v := 1) hx hb dX2_lightestBut_21 (by decide) ?_
          refine lv_goto (tgt := 26) hx hb dX2_lightestBut_22 (by decide) ?_
          exact hK_10 _ _ _ _ _ hf hP hS (lv_sub hl [0, 1, 2, 3] rfl)
  exact hLK_1 FU _ _ _ _ _ _ hf hP hS (lv_sub hl [2, 3, 1, 0] rfl)
