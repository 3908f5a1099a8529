set_option maxHeartbeats 4000000 in
set_option maxRecDepth 100000 in
theorem tX1_firstFault {l : Launch} {dC : Nat → ClassId} {dI : Nat → Nat → Nat} {A : Nat → Nat} {t0 : Nat} {cI cJ cZ : ClassId} (hA : dst A)  {z : Mem} {r : Int32} {z' : Mem} (hf : fX1_firstFault z = some (r, z')) : MI l dC dI A t0 cI cJ cZ yX1_firstFault wsX1_firstFault 1 [.ref (A 1)] z r z' := by
  refine Met.ofW (cc := cX1_firstFault) (maxL := 2) (ret := (some .int)) (by decide) rfl ?_
  intro p e s m args below meth c s₁ B hml hv
  obtain ⟨rfl, hP, hK, hZ⟩ := hv
  have hx := B.exec
  have hb := B.bytes
  have hr := B.returns
  have hts := atoms_spec (ws := wsX1_firstFault) B.pre
  have hown : s.vm.findClass RX1 = some m.cls := findClass_of_methodNamed B.named
  have hlocks := B.notSynchronized
  have hS : va_S (fr A) s.heap s.heap [] := va_S.rf
  have i1 : ∀ w ∈ wsX10, w ∈ wsX1_firstFault := fun _ h => List.mem_cons_of_mem _ (List.mem_append_right _ h)
  have hl := lv_entry ([.ref (A 1)]) (n := 2) (Nat.le_of_ble_eq_true rfl)
  rw [lg_entry_eq]
  generalize (lg_sl ([.ref (A 1)]) ++ List.replicate (2 - (lg_sl ([.ref (A 1)])).length) Slot.unset).toArray = ls at hl ⊢
  have hl : lv_has ls 2 [(0, .ref (A 1))] := hl
  have hP : wIs dC dI A cI cJ cZ z s.heap := hP
  rw [fX1_firstFault] at hf
  refine lv_iconst (v := 0) hx hb dX1_firstFault_0 (by decide) ?_
  refine lv_istore_n (lv' := [(1, .int (0 : Int32)), (0, .ref (A 1))]) hx hb dX1_firstFault_1 rfl hl (by decide) rfl (fun ls hl => ?_)
  obtain ⟨K_1, eK_1, hf⟩ := fX1_firstFault_L2_g hf
  have hEK_1 : ∀ (x1_3 : Int32) (z_2 : Mem) (H : Heap) (locs : List Loc) (ls : Array Slot), K_1 x1_3 z_2 = some (r, z') → wIs dC dI A cI cJ cZ z_2 H → va_S (fr A) s.heap H locs → lv_has ls 2 [(0, .ref (A 1)), (1, .int x1_3)] → WI p l e wsX1_firstFault 1 s m [.ref (A 1)] below meth c dC dI A cI cJ cZ r z' H locs (F0 m 31 ls []) := by
    intro x1_3 z_2 H locs ls hf hP hS hl
    have hf := ap2 eK_1 hf
    refine lv_aload_n hx hb dX1_firstFault_31 rfl (lv_at hl 0 rfl) ?_
    refine va_get (D := (dC, dI)) (ci := 1) (v := .int (z_2.1 1 1)) (C := RX1) (T := TX1) (N := 2) hx hb hts i1 hown hK hP 1 (wc_1 A cI cJ cZ z_2) rfl 1 (by decide) (hts (.fieldLink RX1 15 "LightestRules$LandText" "length" "I") (by decide +kernel)) (fun _ h9 => h9) rfl dX1_firstFault_32 ?_
    refine lv_iconst (v := 4) hx hb dX1_firstFault_35 (by decide) ?_
    refine lv_icmp_lt (tgt := 56) hx hb dX1_firstFault_36 (by decide) (fun c_4 => ?_) (fun c_4 => ?_)
    · have hf := it_t c_4 hf
      refine lv_aload_n hx hb dX1_firstFault_56 rfl (lv_at hl 0 rfl) ?_
      refine va_get (D := (dC, dI)) (ci := 1) (v := .int (z_2.1 1 1)) (C := RX1) (T := TX1) (N := 2) hx hb hts i1 hown hK hP 1 (wc_1 A cI cJ cZ z_2) rfl 1 (by decide) (hts (.fieldLink RX1 15 "LightestRules$LandText" "length" "I") (by decide +kernel)) (fun _ h9 => h9) rfl dX1_firstFault_57 ?_
      exact retI hx hb hr hlocks hP hS hf dX1_firstFault_60
    · have hf := it_f c_4 hf
      refine lv_aload_n hx hb dX1_firstFault_39 rfl (lv_at hl 0 rfl) ?_
      refine va_get (D := (dC, dI)) (ci := 1) (v := .int (z_2.1 1 1)) (C := RX1) (T := TX1) (N := 2) hx hb hts i1 hown hK hP 1 (wc_1 A cI cJ cZ z_2) rfl 1 (by decide) (hts (.fieldLink RX1 15 "LightestRules$LandText" "length" "I") (by decide +kernel)) (fun _ h9 => h9) rfl dX1_firstFault_40 ?_
      refine lv_iconst (v := 4) hx hb dX1_firstFault_43 (by decide) ?_
      refine lv_isub hx hb dX1_firstFault_44 ?_
      refine lv_bipush (v := 6) hx hb dX1_firstFault_45 (by decide) ?_
      obtain ⟨n_5, hf⟩ := nz_el hf
      refine lv_irem hx hb dX1_firstFault_47 n_5 ?_
      refine lv_if_ne (tgt := 56) hx hb dX1_firstFault_48 (by decide) (fun c_6 => ?_) (fun c_6 => ?_)
      · have hf := it_f c_6 hf
        refine lv_aload_n hx hb dX1_firstFault_56 rfl (lv_at hl 0 rfl) ?_
        refine va_get (D := (dC, dI)) (ci := 1) (v := .int (z_2.1 1 1)) (C := RX1) (T := TX1) (N := 2) hx hb hts i1 hown hK hP 1 (wc_1 A cI cJ cZ z_2) rfl 1 (by decide) (hts (.fieldLink RX1 15 "LightestRules$LandText" "length" "I") (by decide +kernel)) (fun _ h9 => h9) rfl dX1_firstFault_57 ?_
        exact retI hx hb hr hlocks hP hS hf dX1_firstFault_60
      · have hf := it_t c_6 hf
        refine lv_bipush (v := -9) hx hb dX1_firstFault_51 (by decide) ?_
        refine lv_goto (tgt := 60) hx hb dX1_firstFault_53 (by decide) ?_
        exact retI hx hb hr hlocks hP hS hf dX1_firstFault_60
  have hLK_1 : ∀ (n_9 : Nat) (x1_8 : Int32) (z_7 : Mem) (H : Heap) (locs : List Loc) (ls : Array Slot), fX1_firstFault_L2 K_1  n_9 x1_8 z_7 = some (r, z') → wIs dC dI A cI cJ cZ z_7 H → va_S (fr A) s.heap H locs → lv_has ls 2 [(0, .ref (A 1)), (1, .int x1_8)] → WI p l e wsX1_firstFault 1 s m [.ref (A 1)] below meth c dC dI A cI cJ cZ r z' H locs (F0 m 2 ls []) := by
    intro n_9
    induction n_9 with
    | zero => intro x1_8 z_7 H locs ls hf; rw [fX1_firstFault_L2_0] at hf; cases hf
    | succ n_9 ihK_1 =>
      intro x1_8 z_7 H locs ls hf hP hS hl
      rw [fX1_firstFault_L2_s] at hf
      refine lv_iload_n hx hb dX1_firstFault_2 rfl (lv_at hl 1 rfl) ?_
      refine lv_aload_n hx hb dX1_firstFault_3 rfl (lv_at hl 0 rfl) ?_
      refine va_get (D := (dC, dI)) (ci := 1) (v := .int (z_7.1 1 1)) (C := RX1) (T := TX1) (N := 2) hx hb hts i1 hown hK hP 1 (wc_1 A cI cJ cZ z_7) rfl 1 (by decide) (hts (.fieldLink RX1 15 "LightestRules$LandText" "length" "I") (by decide +kernel)) (fun _ h9 => h9) rfl dX1_firstFault_4 ?_
      refine lv_icmp_ge (tgt := 31) hx hb dX1_firstFault_7 (by decide) (fun c_10 => ?_) (fun c_10 => ?_)
      · have hf := it_t c_10 hf
        exact hEK_1 _ _ _ _ _ hf hP hS (lv_sub hl [0, 1] rfl)
      · have hf := it_f c_10 hf
        refine lv_iload_n hx hb dX1_firstFault_10 rfl (lv_at hl 1 rfl) ?_
        refine lv_aload_n hx hb dX1_firstFault_11 rfl (lv_at hl 0 rfl) ?_
        refine va_get (D := (dC, dI)) (ci := 1) (v := .ref (A 10)) (C := RX1) (T := TX1) (N := 2) hx hb hts i1 hown hK hP 1 (wc_1 A cI cJ cZ z_7) rfl 0 (by decide) (hts (.fieldLink RX1 11 "LightestRules$LandText" "bytes" "[I") (by decide +kernel)) (fun _ h9 => h9) rfl dX1_firstFault_12 ?_
        refine lv_iload_n hx hb dX1_firstFault_15 rfl (lv_at hl 1 rfl) ?_
        obtain ⟨n_11, hf⟩ := rg_el hf
        refine va_iald hx hb hK hP 10 0 (wc_10 A cI cJ cZ z_7) rfl n_11 dX1_firstFault_16 ?_
        refine lv_topi (fun a_12 ea_12 => ?_)
        have hf := lt_at ea_12 hf; clear ea_12
        obtain ⟨r_13, z_14, h_15, hf⟩ := cl_el hf
        refine callSI (As := [.int x1_8, .int a_12]) (rest := []) ⟨hx, hb, hml, hown, hts⟩ (tX1_mayStandAt (l := l) (dC := dC) (dI := dI) (t0 := t0) (cI := cI) (cJ := cJ) (cZ := cZ) hA h_15) (va_cwS 2 hts gX1_firstFault_X1_mayStandAt rfl rfl rfl (by decide +kernel) ⟨Nat.le_of_ble_eq_true rfl, Nat.le_of_ble_eq_true rfl⟩) hK hZ hP hS rfl rfl hl.1 (Nat.le_of_ble_eq_true rfl) ⟨Nat.zero_le _, Nat.zero_le _⟩ dX1_firstFault_17 (fun H locs hP hS => ?_)
        refine lv_if_ne (tgt := 25) hx hb dX1_firstFault_20 (by decide) (fun c_16 => ?_) (fun c_16 => ?_)
        · have hf := it_f c_16 hf
          obtain ⟨x1_17, ex1_17⟩ : ∃ q : Int32, q = x1_8 + (1 : Int32) := ⟨_, rfl⟩
          refine lv_iinc (v := x1_17) (lv' := [(1, .int x1_17), (0, .ref (A 1))]) hx hb dX1_firstFault_25 hl (k := 1) rfl (by rw [ex1_17]; rfl) (by decide) rfl (fun ls hl => ?_)
          have hf := lt_at ex1_17 hf; clear ex1_17
          refine lv_goto (tgt := 2) hx hb dX1_firstFault_28 (by decide) ?_
          exact ihK_1 _ _ _ _ _ hf hP hS (lv_sub hl [1, 0] rfl)
        · have hf := it_t c_16 hf
          refine lv_iload_n hx hb dX1_firstFault_23 rfl (lv_at hl 1 rfl) ?_
          exact retI hx hb hr hlocks hP hS hf dX1_firstFault_24
  exact hLK_1 FU _ _ _ _ _ hf hP hS (lv_sub hl [1, 0] rfl)
set_option maxHeartbeats 4000000 in
set_option maxRecDepth 100000 in
theorem tX8_fault {l : Launch} {dC : Nat → ClassId} {dI : Nat → Nat → Nat} {A : Nat → Nat} {t0 : Nat} {cI cJ cZ : ClassId} (hA : dst A)  {z : Mem} {r : Int32} {z' : Mem} (hf : fX8_fault z = some (r, z')) : MI l dC dI A t0 cI cJ cZ yX8_fault wsX8_fault 2 [.ref (A 0)] z r z' := by
  refine Met.ofW (cc := cX8_fault) (maxL := 1) (ret := (some .int)) (by decide) rfl ?_
  intro p e s m args below meth c s₁ B hml hv
  obtain ⟨rfl, hP, hK, hZ⟩ := hv
  have hx := B.exec
  have hb := B.bytes
  have hr := B.returns
  have hts := atoms_spec (ws := wsX8_fault) B.pre
  have hown : s.vm.findClass RX8 = some m.cls := findClass_of_methodNamed B.named
  have hlocks := B.notSynchronized
  have hS : va_S (fr A) s.heap s.heap [] := va_S.rf
  have i8 : ∀ w ∈ wsX80, w ∈ wsX8_fault := fun _ h => List.mem_cons_of_mem _ (List.mem_append_left _ (List.mem_append_right _ h))
  have hl := lv_entry ([.ref (A 0)]) (n := 1) (Nat.le_of_ble_eq_true rfl)
  rw [lg_entry_eq]
  generalize (lg_sl ([.ref (A 0)]) ++ List.replicate (1 - (lg_sl ([.ref (A 0)])).length) Slot.unset).toArray = ls at hl ⊢
  have hl : lv_has ls 1 [(0, .ref (A 0))] := hl
  have hP : wIs dC dI A cI cJ cZ z s.heap := hP
  rw [fX8_fault] at hf
  refine lv_aload_n hx hb dX8_fault_0 rfl (lv_at hl 0 rfl) ?_
  refine va_get (D := (dC, dI)) (ci := 8) (v := .ref (A 1)) (C := RX8) (T := TX8) (N := 9) hx hb hts i8 hown hK hP 0 (wc_0 A cI cJ cZ z) rfl 0 (by decide) (hts (.fieldLink RX8 10 "LightestRules" "text" "LLightestRules$LandText;") (by decide +kernel)) (fun _ h9 => h9) rfl dX8_fault_1 ?_
  obtain ⟨r_1, z_2, h_3, hf⟩ := cl_el hf
  refine callVI (As := []) (rest := []) (ci := 1) (q0 := 1) ⟨hx, hb, hml, hown, hts⟩ (tX1_firstFault (l := l) (dC := dC) (dI := dI) (t0 := t0) (cI := cI) (cJ := cJ) (cZ := cZ) hA h_3) (cwV 0 hts gX8_fault_X1_firstFault rfl rfl rfl (by decide +kernel) ⟨Nat.le_of_ble_eq_true rfl, Nat.le_of_ble_eq_true rfl⟩) hK hZ hP hS rfl (wc_1 A cI cJ cZ z) rfl rfl rfl hl.1 (Nat.le_of_ble_eq_true rfl) ⟨Nat.zero_le _, Nat.zero_le _⟩ dX8_fault_4 (fun H locs hP hS => ?_)
  exact retI hx hb hr hlocks hP hS hf dX8_fault_7
set_option maxHeartbeats 4000000 in
set_option maxRecDepth 100000 in
theorem tX9_figure {l : Launch} {dC : Nat → ClassId} {dI : Nat → Nat → Nat} {A : Nat → Nat} {t0 : Nat} {cI cJ cZ : ClassId} (hA : dst A) {p0 : Int32} {p1 : Int32} {z : Mem} {r : Int32} {z' : Mem} (hf : fX9_figure p0 p1 z = some (r, z')) : MI l dC dI A t0 cI cJ cZ yX9_figure wsX9_figure 1 [.ref (A 25), .int p0, .int p1] z r z' := by
  refine Met.ofW (cc := cX9_figure) (maxL := 4) (ret := (some .int)) (by decide) rfl ?_
  intro p e s m args below meth c s₁ B hml hv
  obtain ⟨rfl, hP, hK, hZ⟩ := hv
  have hx := B.exec
  have hb := B.bytes
  have hr := B.returns
  have hts := atoms_spec (ws := wsX9_figure) B.pre
  have hown : s.vm.findClass RX9 = some m.cls := findClass_of_methodNamed B.named
  have hlocks := B.notSynchronized
  have hS : va_S (fr A) s.heap s.heap [] := va_S.rf
  have i9 : ∀ w ∈ wsX90, w ∈ wsX9_figure := fun _ h => List.mem_cons_of_mem _ (List.mem_append_right _ h)
  have hl := lv_entry ([.ref (A 25), .int p0, .int p1]) (n := 4) (Nat.le_of_ble_eq_true rfl)
  rw [lg_entry_eq]
  generalize (lg_sl ([.ref (A 25), .int p0, .int p1]) ++ List.replicate (4 - (lg_sl ([.ref (A 25), .int p0, .int p1])).length) Slot.unset).toArray = ls at hl ⊢
  have hl : lv_has ls 4 [(0, .ref (A 25)), (1, .int p0), (2, .int p1)] := hl
  have hP : wIs dC dI A cI cJ cZ z s.heap := hP
  rw [fX9_figure] at hf
  refine lv_aload_n hx hb dX9_figure_0 rfl (lv_at hl 0 rfl) ?_
  refine va_get (D := (dC, dI)) (ci := 9) (v := .int (z.1 25 13)) (C := RX9) (T := TX9) (N := 34) hx hb hts i9 hown hK hP 25 (wc_25 A cI cJ cZ z) rfl 13 (by decide) (hts (.fieldLink RX9 78 "LightestRulesModel" "faultAt" "I") (by decide +kernel)) (fun _ h9 => h9) rfl dX9_figure_1 ?_
  refine lv_bipush (v := -9) hx hb dX9_figure_4 (by decide) ?_
  obtain ⟨K_1, eK_1, hf⟩ := jn_el hf
  have hK_1 : ∀ (v_2 : Int32) (z_3 : Mem) (H : Heap) (locs : List Loc) (ls : Array Slot), K_1 v_2 z_3 = some (r, z') → wIs dC dI A cI cJ cZ z_3 H → va_S (fr A) s.heap H locs → lv_has ls 4 [(0, .ref (A 25)), (1, .int p0), (2, .int p1)] → WI p l e wsX9_figure 1 s m [.ref (A 25), .int p0, .int p1] below meth c dC dI A cI cJ cZ r z' H locs (F0 m 36 ls [.int v_2]) := by
    intro v_2 z_3 H locs ls hf hP hS hl
    have hf := ap2 eK_1 hf
    refine lv_istore_n (lv' := [(3, .int v_2), (0, .ref (A 25)), (1, .int p0), (2, .int p1)]) hx hb dX9_figure_36 rfl hl (by decide) rfl (fun ls hl => ?_)
    refine lv_iload_n hx hb dX9_figure_37 rfl (lv_at hl 0 rfl) ?_
    refine lv_i2l hx hb dX9_figure_38 rfl ?_
    refine lv_iload_n hx hb dX9_figure_39 rfl (lv_at hl 2 rfl) ?_
    refine lv_i2l hx hb dX9_figure_40 rfl ?_
    refine lv_iload_n hx hb dX9_figure_41 rfl (lv_at hl 3 rfl) ?_
    refine lv_i2l hx hb dX9_figure_42 rfl ?_
    obtain ⟨r_4, z_5, h_6, hf⟩ := cl_el hf
    refine callSI (As := [.long (v_2.toInt64), .long (p0.toInt64), .long (p1.toInt64)]) (rest := []) ⟨hx, hb, hml, hown, hts⟩ (tX9_in (l := l) (dC := dC) (dI := dI) (t0 := t0) (cI := cI) (cJ := cJ) (cZ := cZ) hA h_6) (va_cwS 3 hts gX9_figure_X9_in rfl rfl rfl (by decide +kernel) ⟨Nat.le_of_ble_eq_true rfl, Nat.le_of_ble_eq_true rfl⟩) hK hZ hP hS rfl rfl hl.1 (Nat.le_of_ble_eq_true rfl) ⟨Nat.zero_le _, Nat.zero_le _⟩ dX9_figure_43 (fun H locs hP hS => ?_)
    refine lv_if_ne (tgt := 75) hx hb dX9_figure_46 (by decide) (fun c_7 => ?_) (fun c_7 => ?_)
    · have hf := it_f c_7 hf
      refine lv_aload_n hx hb dX9_figure_75 rfl (lv_at hl 1 rfl) ?_
      refine lv_dup hx hb dX9_figure_76 rfl ?_
      refine va_get (D := (dC, dI)) (ci := 9) (v := .int (z_5.1 25 12)) (C := RX9) (T := TX9) (N := 34) hx hb hts i9 hown hK hP 25 (wc_25 A cI cJ cZ z_5) rfl 12 (by decide) (hts (.fieldLink RX9 81 "LightestRulesModel" "at" "I") (by decide +kernel)) (fun _ h9 => h9) rfl dX9_figure_77 ?_
      refine lv_iconst (v := 1) hx hb dX9_figure_80 (by decide) ?_
      refine lv_iadd hx hb dX9_figure_81 ?_
      refine lv_topi (fun y_8 ey_8 => ?_)
      have hf := lt_at ey_8 hf; clear ey_8
      refine va_put (D := (dC, dI)) (ci := 9) (v := .int y_8) (ty := .int) (C := RX9) (T := TX9) (N := 34) hx hb hts i9 tyX9 tyX9_ok nmX9 hown hK hP (wD hA cI cJ cZ z_5) hS 25 (wc_25 A cI cJ cZ z_5) rfl 12 (by decide) (hts (.fieldLink RX9 81 "LightestRulesModel" "at" "I") (by decide +kernel)) (fun _ h9 => h9) rfl (by decide +kernel) rfl rfl (Nat.le_of_ble_eq_true rfl) dX9_figure_82 (fun H locs hP _ hS => ?_)
      rw [ws_25_12 A cI cJ cZ z_5 y_8] at hP
      obtain ⟨z_9, hP, hf⟩ := lt_P (P := fun q => wIs dC dI A cI cJ cZ q H) hP hf
      refine lv_iload_n hx hb dX9_figure_85 rfl (lv_at hl 0 rfl) ?_
      exact retI hx hb hr hlocks hP hS hf dX9_figure_86
    · have hf := it_t c_7 hf
      refine lv_aload_n hx hb dX9_figure_49 rfl (lv_at hl 1 rfl) ?_
      refine lv_aload_n hx hb dX9_figure_50 rfl (lv_at hl 1 rfl) ?_
      refine va_get (D := (dC, dI)) (ci := 9) (v := .int (z_5.1 25 13)) (C := RX9) (T := TX9) (N := 34) hx hb hts i9 hown hK hP 25 (wc_25 A cI cJ cZ z_5) rfl 13 (by decide) (hts (.fieldLink RX9 78 "LightestRulesModel" "faultAt" "I") (by decide +kernel)) (fun _ h9 => h9) rfl dX9_figure_51 ?_
      refine lv_bipush (v := -9) hx hb dX9_figure_54 (by decide) ?_
      refine lv_icmp_ne (tgt := 66) hx hb dX9_figure_56 (by decide) (fun c_10 => ?_) (fun c_10 => ?_)
      · have hf := it_f c_10 hf
        refine lv_aload_n hx hb dX9_figure_66 rfl (lv_at hl 1 rfl) ?_
        refine va_get (D := (dC, dI)) (ci := 9) (v := .int (z_5.1 25 13)) (C := RX9) (T := TX9) (N := 34) hx hb hts i9 hown hK hP 25 (wc_25 A cI cJ cZ z_5) rfl 13 (by decide) (hts (.fieldLink RX9 78 "LightestRulesModel" "faultAt" "I") (by decide +kernel)) (fun _ h9 => h9) rfl dX9_figure_67 ?_
        refine lv_topi (fun y_11 ey_11 => ?_)
        have hf := lt_at ey_11 hf; clear ey_11
        refine va_put (D := (dC, dI)) (ci := 9) (v := .int y_11) (ty := .int) (C := RX9) (T := TX9) (N := 34) hx hb hts i9 tyX9 tyX9_ok nmX9 hown hK hP (wD hA cI cJ cZ z_5) hS 25 (wc_25 A cI cJ cZ z_5) rfl 13 (by decide) (hts (.fieldLink RX9 78 "LightestRulesModel" "faultAt" "I") (by decide +kernel)) (fun _ h9 => h9) rfl (by decide +kernel) rfl rfl (Nat.le_of_ble_eq_true rfl) dX9_figure_70 (fun H locs hP _ hS => ?_)
        rw [ws_25_13 A cI cJ cZ z_5 y_11] at hP
        obtain ⟨z_12, hP, hf⟩ := lt_P (P := fun q => wIs dC dI A cI cJ cZ q H) hP hf
        refine lv_iconst (v := 0) hx hb dX9_figure_73 (by decide) ?_
        exact retI hx hb hr hlocks hP hS hf dX9_figure_74
      · have hf := it_t c_10 hf
        refine lv_aload_n hx hb dX9_figure_59 rfl (lv_at hl 1 rfl) ?_
        refine va_get (D := (dC, dI)) (ci := 9) (v := .int (z_5.1 25 12)) (C := RX9) (T := TX9) (N := 34) hx hb hts i9 hown hK hP 25 (wc_25 A cI cJ cZ z_5) rfl 12 (by decide) (hts (.fieldLink RX9 81 "LightestRulesModel" "at" "I") (by decide +kernel)) (fun _ h9 => h9) rfl dX9_figure_60 ?_
        refine lv_goto (tgt := 70) hx hb dX9_figure_63 (by decide) ?_
        refine lv_topi (fun y_13 ey_13 => ?_)
        have hf := lt_at ey_13 hf; clear ey_13
        refine va_put (D := (dC, dI)) (ci := 9) (v := .int y_13) (ty := .int) (C := RX9) (T := TX9) (N := 34) hx hb hts i9 tyX9 tyX9_ok nmX9 hown hK hP (wD hA cI cJ cZ z_5) hS 25 (wc_25 A cI cJ cZ z_5) rfl 13 (by decide) (hts (.fieldLink RX9 78 "LightestRulesModel" "faultAt" "I") (by decide +kernel)) (fun _ h9 => h9) rfl (by decide +kernel) rfl rfl (Nat.le_of_ble_eq_true rfl) dX9_figure_70 (fun H locs hP _ hS => ?_)
        rw [ws_25_13 A cI cJ cZ z_5 y_13] at hP
        obtain ⟨z_14, hP, hf⟩ := lt_P (P := fun q => wIs dC dI A cI cJ cZ q H) hP hf
        refine lv_iconst (v := 0) hx hb dX9_figure_73 (by decide) ?_
        exact retI hx hb hr hlocks hP hS hf dX9_figure_74
  refine lv_icmp_ne (tgt := 35) hx hb dX9_figure_6 (by decide) (fun c_15 => ?_) (fun c_15 => ?_)
  · have hf := it_f c_15 hf
    refine lv_iconst (v := -1) hx hb dX9_figure_35 (by decide) ?_
    exact hK_1 _ _ _ _ _ hf hP hS (lv_sub hl [0, 1, 2] rfl)
  · have hf := it_t c_15 hf
    refine lv_aload_n hx hb dX9_figure_9 rfl (lv_at hl 0 rfl) ?_
    refine va_get (D := (dC, dI)) (ci := 9) (v := .int (z.1 25 12)) (C := RX9) (T := TX9) (N := 34) hx hb hts i9 hown hK hP 25 (wc_25 A cI cJ cZ z) rfl 12 (by decide) (hts (.fieldLink RX9 81 "LightestRulesModel" "at" "I") (by decide +kernel)) (fun _ h9 => h9) rfl dX9_figure_10 ?_
    refine lv_aload_n hx hb dX9_figure_13 rfl (lv_at hl 0 rfl) ?_
    refine va_get (D := (dC, dI)) (ci := 9) (v := .int (z.1 25 11)) (C := RX9) (T := TX9) (N := 34) hx hb hts i9 hown hK hP 25 (wc_25 A cI cJ cZ z) rfl 11 (by decide) (hts (.fieldLink RX9 73 "LightestRulesModel" "length" "I") (by decide +kernel)) (fun _ h9 => h9) rfl dX9_figure_14 ?_
    refine lv_icmp_ge (tgt := 35) hx hb dX9_figure_17 (by decide) (fun c_16 => ?_) (fun c_16 => ?_)
    · have hf := it_t c_16 hf
      refine lv_iconst (v := -1) hx hb dX9_figure_35 (by decide) ?_
      exact hK_1 _ _ _ _ _ hf hP hS (lv_sub hl [0, 1, 2] rfl)
    · have hf := it_f c_16 hf
      refine lv_aload_n hx hb dX9_figure_20 rfl (lv_at hl 0 rfl) ?_
      refine va_get (D := (dC, dI)) (ci := 9) (v := .ref (A 28)) (C := RX9) (T := TX9) (N := 34) hx hb hts i9 hown hK hP 25 (wc_25 A cI cJ cZ z) rfl 10 (by decide) (hts (.fieldLink RX9 16 "LightestRulesModel" "text" "[I") (by decide +kernel)) (fun _ h9 => h9) rfl dX9_figure_21 ?_
      refine lv_aload_n hx hb dX9_figure_24 rfl (lv_at hl 0 rfl) ?_
      refine va_get (D := (dC, dI)) (ci := 9) (v := .int (z.1 25 12)) (C := RX9) (T := TX9) (N := 34) hx hb hts i9 hown hK hP 25 (wc_25 A cI cJ cZ z) rfl 12 (by decide) (hts (.fieldLink RX9 81 "LightestRulesModel" "at" "I") (by decide +kernel)) (fun _ h9 => h9) rfl dX9_figure_25 ?_
      refine lv_topi (fun y_17 ey_17 => ?_)
      have hf := lt_at ey_17 hf; clear ey_17
      obtain ⟨n_18, hf⟩ := rg_el hf
      refine va_iald hx hb hK hP 28 0 (wc_28 A cI cJ cZ z) rfl n_18 dX9_figure_28 ?_
      refine lv_topi (fun a_19 ea_19 => ?_)
      have hf := lt_at ea_19 hf; clear ea_19
      refine lv_bipush (v := 48) hx hb dX9_figure_29 (by decide) ?_
      refine lv_isub hx hb dX9_figure_31 ?_
      refine lv_goto (tgt := 36) hx hb dX9_figure_32 (by decide) ?_
      exact hK_1 _ _ _ _ _ hf hP hS (lv_sub hl [0, 1, 2] rfl)
set_option maxHeartbeats 4000000 in
set_option maxRecDepth 100000 in
theorem tX9_readText {l : Launch} {dC : Nat → ClassId} {dI : Nat → Nat → Nat} {A : Nat → Nat} {t0 : Nat} {cI cJ cZ : ClassId} (hA : dst A)  {z : Mem} {r : Int32} {z' : Mem} (hf : fX9_readText z = some (r, z')) : MI l dC dI A t0 cI cJ cZ yX9_readText wsX9_readText 2 [.ref (A 25)] z r z' := by
  refine Met.ofW (cc := cX9_readText) (maxL := 4) (ret := (some .int)) (by decide) rfl ?_
  intro p e s m args below meth c s₁ B hml hv
  obtain ⟨rfl, hP, hK, hZ⟩ := hv
  have hx := B.exec
  have hb := B.bytes
  have hr := B.returns
  have hts := atoms_spec (ws := wsX9_readText) B.pre
  have hown : s.vm.findClass RX9 = some m.cls := findClass_of_methodNamed B.named
  have hlocks := B.notSynchronized
  have hS : va_S (fr A) s.heap s.heap [] := va_S.rf
  have i9 : ∀ w ∈ wsX90, w ∈ wsX9_readText := fun _ h => List.mem_cons_of_mem _ (List.mem_append_right _ h)
  have hl := lv_entry ([.ref (A 25)]) (n := 4) (Nat.le_of_ble_eq_true rfl)
  rw [lg_entry_eq]
  generalize (lg_sl ([.ref (A 25)]) ++ List.replicate (4 - (lg_sl ([.ref (A 25)])).length) Slot.unset).toArray = ls at hl ⊢
  have hl : lv_has ls 4 [(0, .ref (A 25))] := hl
  have hP : wIs dC dI A cI cJ cZ z s.heap := hP
  rw [fX9_readText] at hf
  refine lv_aload_n hx hb dX9_readText_0 rfl (lv_at hl 0 rfl) ?_
  refine lv_iconst (v := 0) hx hb dX9_readText_1 (by decide) ?_
  refine va_put (D := (dC, dI)) (ci := 9) (v := .int (0 : Int32)) (ty := .int) (C := RX9) (T := TX9) (N := 34) hx hb hts i9 tyX9 tyX9_ok nmX9 hown hK hP (wD hA cI cJ cZ z) hS 25 (wc_25 A cI cJ cZ z) rfl 12 (by decide) (hts (.fieldLink RX9 81 "LightestRulesModel" "at" "I") (by decide +kernel)) (fun _ h9 => h9) rfl (by decide +kernel) rfl rfl (Nat.le_of_ble_eq_true rfl) dX9_readText_2 (fun H locs hP _ hS => ?_)
  rw [ws_25_12 A cI cJ cZ z (0 : Int32)] at hP
  obtain ⟨z_1, hP, hf⟩ := lt_P (P := fun q => wIs dC dI A cI cJ cZ q H) hP hf
  refine lv_aload_n hx hb dX9_readText_5 rfl (lv_at hl 0 rfl) ?_
  refine lv_bipush (v := -9) hx hb dX9_readText_6 (by decide) ?_
  refine va_put (D := (dC, dI)) (ci := 9) (v := .int (-9 : Int32)) (ty := .int) (C := RX9) (T := TX9) (N := 34) hx hb hts i9 tyX9 tyX9_ok nmX9 hown hK hP (wD hA cI cJ cZ z_1) hS 25 (wc_25 A cI cJ cZ z_1) rfl 13 (by decide) (hts (.fieldLink RX9 78 "LightestRulesModel" "faultAt" "I") (by decide +kernel)) (fun _ h9 => h9) rfl (by decide +kernel) rfl rfl (Nat.le_of_ble_eq_true rfl) dX9_readText_8 (fun H locs hP _ hS => ?_)
  rw [ws_25_13 A cI cJ cZ z_1 (-9 : Int32)] at hP
  obtain ⟨z_2, hP, hf⟩ := lt_P (P := fun q => wIs dC dI A cI cJ cZ q H) hP hf
  refine lv_aload_n hx hb dX9_readText_11 rfl (lv_at hl 0 rfl) ?_
  refine lv_iconst (v := 0) hx hb dX9_readText_12 (by decide) ?_
  refine va_put (D := (dC, dI)) (ci := 9) (v := .int (0 : Int32)) (ty := .int) (C := RX9) (T := TX9) (N := 34) hx hb hts i9 tyX9 tyX9_ok nmX9 hown hK hP (wD hA cI cJ cZ z_2) hS 25 (wc_25 A cI cJ cZ z_2) rfl 1 (by decide) (hts (.fieldLink RX9 84 "LightestRulesModel" "readMany" "I") (by decide +kernel)) (fun _ h9 => h9) rfl (by decide +kernel) rfl rfl (Nat.le_of_ble_eq_true rfl) dX9_readText_13 (fun H locs hP _ hS => ?_)
  rw [ws_25_1 A cI cJ cZ z_2 (0 : Int32)] at hP
  obtain ⟨z_3, hP, hf⟩ := lt_P (P := fun q => wIs dC dI A cI cJ cZ q H) hP hf
  refine lv_aload_n hx hb dX9_readText_16 rfl (lv_at hl 0 rfl) ?_
  refine va_get (D := (dC, dI)) (ci := 9) (v := .int (z_3.1 25 11)) (C := RX9) (T := TX9) (N := 34) hx hb hts i9 hown hK hP 25 (wc_25 A cI cJ cZ z_3) rfl 11 (by decide) (hts (.fieldLink RX9 73 "LightestRulesModel" "length" "I") (by decide +kernel)) (fun _ h9 => h9) rfl dX9_readText_17 ?_
  refine lv_if_eq (tgt := 34) hx hb dX9_readText_20 (by decide) (fun c_4 => ?_) (fun c_4 => ?_)
  · have hf := it_t c_4 hf
    refine lv_iconst (v := 0) hx hb dX9_readText_34 (by decide) ?_
    exact retI hx hb hr hlocks hP hS hf dX9_readText_35
  · have hf := it_f c_4 hf
    refine lv_aload_n hx hb dX9_readText_23 rfl (lv_at hl 0 rfl) ?_
    refine va_get (D := (dC, dI)) (ci := 9) (v := .ref (A 28)) (C := RX9) (T := TX9) (N := 34) hx hb hts i9 hown hK hP 25 (wc_25 A cI cJ cZ z_3) rfl 10 (by decide) (hts (.fieldLink RX9 16 "LightestRulesModel" "text" "[I") (by decide +kernel)) (fun _ h9 => h9) rfl dX9_readText_24 ?_
    refine lv_iconst (v := 0) hx hb dX9_readText_27 (by decide) ?_
    obtain ⟨n_5, hf⟩ := rg_el hf
    refine va_iald hx hb hK hP 28 0 (wc_28 A cI cJ cZ z_3) rfl n_5 dX9_readText_28 ?_
    refine lv_topi (fun a_6 ea_6 => ?_)
    have hf := lt_at ea_6 hf; clear ea_6
    refine lv_bipush (v := 82) hx hb dX9_readText_29 (by decide) ?_
    refine lv_icmp_eq (tgt := 36) hx hb dX9_readText_31 (by decide) (fun c_7 => ?_) (fun c_7 => ?_)
    · have hf := it_t c_7 hf
      refine lv_aload_n hx hb dX9_readText_36 rfl (lv_at hl 0 rfl) ?_
      refine lv_iconst (v := 1) hx hb dX9_readText_37 (by decide) ?_
      refine va_put (D := (dC, dI)) (ci := 9) (v := .int (1 : Int32)) (ty := .int) (C := RX9) (T := TX9) (N := 34) hx hb hts i9 tyX9 tyX9_ok nmX9 hown hK hP (wD hA cI cJ cZ z_3) hS 25 (wc_25 A cI cJ cZ z_3) rfl 12 (by decide) (hts (.fieldLink RX9 81 "LightestRulesModel" "at" "I") (by decide +kernel)) (fun _ h9 => h9) rfl (by decide +kernel) rfl rfl (Nat.le_of_ble_eq_true rfl) dX9_readText_38 (fun H locs hP _ hS => ?_)
      rw [ws_25_12 A cI cJ cZ z_3 (1 : Int32)] at hP
      obtain ⟨z_8, hP, hf⟩ := lt_P (P := fun q => wIs dC dI A cI cJ cZ q H) hP hf
      refine lv_aload_n hx hb dX9_readText_41 rfl (lv_at hl 0 rfl) ?_
      refine lv_aload_n hx hb dX9_readText_42 rfl (lv_at hl 0 rfl) ?_
      refine lv_iconst (v := 0) hx hb dX9_readText_43 (by decide) ?_
      refine lv_iconst (v := 2) hx hb dX9_readText_44 (by decide) ?_
      obtain ⟨r_9, z_10, h_11, hf⟩ := cl_el hf
      refine callVI (As := [.int (0 : Int32), .int (2 : Int32)]) (rest := [.ref (A 25)]) (ci := 9) (q0 := 25) ⟨hx, hb, hml, hown, hts⟩ (tX9_figure (l := l) (dC := dC) (dI := dI) (t0 := t0) (cI := cI) (cJ := cJ) (cZ := cZ) hA h_11) (cwV 2 hts gX9_readText_X9_figure rfl rfl rfl (by decide +kernel) ⟨Nat.le_of_ble_eq_true rfl, Nat.le_of_ble_eq_true rfl⟩) hK hZ hP hS rfl (wc_25 A cI cJ cZ z_8) rfl rfl rfl hl.1 (Nat.le_of_ble_eq_true rfl) ⟨Nat.zero_le _, Nat.zero_le _⟩ dX9_readText_45 (fun H locs hP hS => ?_)
      refine va_put (D := (dC, dI)) (ci := 9) (v := .int r_9) (ty := .int) (C := RX9) (T := TX9) (N := 34) hx hb hts i9 tyX9 tyX9_ok nmX9 hown hK hP (wD hA cI cJ cZ z_10) hS 25 (wc_25 A cI cJ cZ z_10) rfl 2 (by decide) (hts (.fieldLink RX9 91 "LightestRulesModel" "readRule" "I") (by decide +kernel)) (fun _ h9 => h9) rfl (by decide +kernel) rfl rfl (Nat.le_of_ble_eq_true rfl) dX9_readText_48 (fun H locs hP _ hS => ?_)
      rw [ws_25_2 A cI cJ cZ z_10 r_9] at hP
      obtain ⟨z_12, hP, hf⟩ := lt_P (P := fun q => wIs dC dI A cI cJ cZ q H) hP hf
      refine lv_aload_n hx hb dX9_readText_51 rfl (lv_at hl 0 rfl) ?_
      refine lv_aload_n hx hb dX9_readText_52 rfl (lv_at hl 0 rfl) ?_
      refine lv_iconst (v := 0) hx hb dX9_readText_53 (by decide) ?_
      refine lv_bipush (v := 9) hx hb dX9_readText_54 (by decide) ?_
      obtain ⟨r_13, z_14, h_15, hf⟩ := cl_el hf
      refine callVI (As := [.int (0 : Int32), .int (9 : Int32)]) (rest := [.ref (A 25)]) (ci := 9) (q0 := 25) ⟨hx, hb, hml, hown, hts⟩ (tX9_figure (l := l) (dC := dC) (dI := dI) (t0 := t0) (cI := cI) (cJ := cJ) (cZ := cZ) hA h_15) (cwV 2 hts gX9_readText_X9_figure rfl rfl rfl (by decide +kernel) ⟨Nat.le_of_ble_eq_true rfl, Nat.le_of_ble_eq_true rfl⟩) hK hZ hP hS rfl (wc_25 A cI cJ cZ z_12) rfl rfl rfl hl.1 (Nat.le_of_ble_eq_true rfl) ⟨Nat.zero_le _, Nat.zero_le _⟩ dX9_readText_56 (fun H locs hP hS => ?_)
      refine va_put (D := (dC, dI)) (ci := 9) (v := .int r_13) (ty := .int) (C := RX9) (T := TX9) (N := 34) hx hb hts i9 tyX9 tyX9_ok nmX9 hown hK hP (wD hA cI cJ cZ z_14) hS 25 (wc_25 A cI cJ cZ z_14) rfl 3 (by decide) (hts (.fieldLink RX9 94 "LightestRulesModel" "readBurn" "I") (by decide +kernel)) (fun _ h9 => h9) rfl (by decide +kernel) rfl rfl (Nat.le_of_ble_eq_true rfl) dX9_readText_59 (fun H locs hP _ hS => ?_)
      rw [ws_25_3 A cI cJ cZ z_14 r_13] at hP
      obtain ⟨z_16, hP, hf⟩ := lt_P (P := fun q => wIs dC dI A cI cJ cZ q H) hP hf
      refine lv_aload_n hx hb dX9_readText_62 rfl (lv_at hl 0 rfl) ?_
      refine lv_aload_n hx hb dX9_readText_63 rfl (lv_at hl 0 rfl) ?_
      refine lv_iconst (v := 0) hx hb dX9_readText_64 (by decide) ?_
      refine lv_bipush (v := 9) hx hb dX9_readText_65 (by decide) ?_
      obtain ⟨r_17, z_18, h_19, hf⟩ := cl_el hf
      refine callVI (As := [.int (0 : Int32), .int (9 : Int32)]) (rest := [.ref (A 25)]) (ci := 9) (q0 := 25) ⟨hx, hb, hml, hown, hts⟩ (tX9_figure (l := l) (dC := dC) (dI := dI) (t0 := t0) (cI := cI) (cJ := cJ) (cZ := cZ) hA h_19) (cwV 2 hts gX9_readText_X9_figure rfl rfl rfl (by decide +kernel) ⟨Nat.le_of_ble_eq_true rfl, Nat.le_of_ble_eq_true rfl⟩) hK hZ hP hS rfl (wc_25 A cI cJ cZ z_16) rfl rfl rfl hl.1 (Nat.le_of_ble_eq_true rfl) ⟨Nat.zero_le _, Nat.zero_le _⟩ dX9_readText_67 (fun H locs hP hS => ?_)
      refine va_put (D := (dC, dI)) (ci := 9) (v := .int r_17) (ty := .int) (C := RX9) (T := TX9) (N := 34) hx hb hts i9 tyX9 tyX9_ok nmX9 hown hK hP (wD hA cI cJ cZ z_18) hS 25 (wc_25 A cI cJ cZ z_18) rfl 4 (by decide) (hts (.fieldLink RX9 97 "LightestRulesModel" "readIll" "I") (by decide +kernel)) (fun _ h9 => h9) rfl (by decide +kernel) rfl rfl (Nat.le_of_ble_eq_true rfl) dX9_readText_70 (fun H locs hP _ hS => ?_)
      rw [ws_25_4 A cI cJ cZ z_18 r_17] at hP
      obtain ⟨z_20, hP, hf⟩ := lt_P (P := fun q => wIs dC dI A cI cJ cZ q H) hP hf
      obtain ⟨K_21, eK_21, hf⟩ := fX9_readText_L73_g hf
      have hEK_21 : ∀ (z_22 : Mem) (H : Heap) (locs : List Loc) (ls : Array Slot), K_21 z_22 = some (r, z') → wIs dC dI A cI cJ cZ z_22 H → va_S (fr A) s.heap H locs → lv_has ls 4 [(0, .ref (A 25))] → WI p l e wsX9_readText 2 s m [.ref (A 25)] below meth c dC dI A cI cJ cZ r z' H locs (F0 m 225 ls []) := by
        intro z_22 H locs ls hf hP hS hl
        have hf := ap1 eK_21 hf
        refine lv_aload_n hx hb dX9_readText_225 rfl (lv_at hl 0 rfl) ?_
        refine va_get (D := (dC, dI)) (ci := 9) (v := .int (z_22.1 25 13)) (C := RX9) (T := TX9) (N := 34) hx hb hts i9 hown hK hP 25 (wc_25 A cI cJ cZ z_22) rfl 13 (by decide) (hts (.fieldLink RX9 78 "LightestRulesModel" "faultAt" "I") (by decide +kernel)) (fun _ h9 => h9) rfl dX9_readText_226 ?_
        exact retI hx hb hr hlocks hP hS hf dX9_readText_229
      have hLK_21 : ∀ (n_24 : Nat) (z_23 : Mem) (H : Heap) (locs : List Loc) (ls : Array Slot), fX9_readText_L73 K_21  n_24 z_23 = some (r, z') → wIs dC dI A cI cJ cZ z_23 H → va_S (fr A) s.heap H locs → lv_has ls 4 [(0, .ref (A 25))] → WI p l e wsX9_readText 2 s m [.ref (A 25)] below meth c dC dI A cI cJ cZ r z' H locs (F0 m 73 ls []) := by
        intro n_24
        induction n_24 with
        | zero => intro z_23 H locs ls hf; rw [fX9_readText_L73_0] at hf; cases hf
        | succ n_24 ihK_21 =>
          intro z_23 H locs ls hf hP hS hl
          rw [fX9_readText_L73_s] at hf
          refine lv_aload_n hx hb dX9_readText_73 rfl (lv_at hl 0 rfl) ?_
          refine va_get (D := (dC, dI)) (ci := 9) (v := .int (z_23.1 25 13)) (C := RX9) (T := TX9) (N := 34) hx hb hts i9 hown hK hP 25 (wc_25 A cI cJ cZ z_23) rfl 13 (by decide) (hts (.fieldLink RX9 78 "LightestRulesModel" "faultAt" "I") (by decide +kernel)) (fun _ h9 => h9) rfl dX9_readText_74 ?_
          refine lv_bipush (v := -9) hx hb dX9_readText_77 (by decide) ?_
          refine lv_icmp_ne (tgt := 225) hx hb dX9_readText_79 (by decide) (fun c_25 => ?_) (fun c_25 => ?_)
          · have hf := it_f c_25 hf
            exact hEK_21 _ _ _ _ hf hP hS (lv_sub hl [0] rfl)
          · have hf := it_t c_25 hf
            refine lv_aload_n hx hb dX9_readText_82 rfl (lv_at hl 0 rfl) ?_
            refine va_get (D := (dC, dI)) (ci := 9) (v := .int (z_23.1 25 12)) (C := RX9) (T := TX9) (N := 34) hx hb hts i9 hown hK hP 25 (wc_25 A cI cJ cZ z_23) rfl 12 (by decide) (hts (.fieldLink RX9 81 "LightestRulesModel" "at" "I") (by decide +kernel)) (fun _ h9 => h9) rfl dX9_readText_83 ?_
            refine lv_aload_n hx hb dX9_readText_86 rfl (lv_at hl 0 rfl) ?_
            refine va_get (D := (dC, dI)) (ci := 9) (v := .int (z_23.1 25 11)) (C := RX9) (T := TX9) (N := 34) hx hb hts i9 hown hK hP 25 (wc_25 A cI cJ cZ z_23) rfl 11 (by decide) (hts (.fieldLink RX9 73 "LightestRulesModel" "length" "I") (by decide +kernel)) (fun _ h9 => h9) rfl dX9_readText_87 ?_
            refine lv_icmp_ge (tgt := 225) hx hb dX9_readText_90 (by decide) (fun c_26 => ?_) (fun c_26 => ?_)
            · have hf := it_t c_26 hf
              exact hEK_21 _ _ _ _ hf hP hS (lv_sub hl [0] rfl)
            · have hf := it_f c_26 hf
              refine lv_aload_n hx hb dX9_readText_93 rfl (lv_at hl 0 rfl) ?_
              refine va_get (D := (dC, dI)) (ci := 9) (v := .ref (A 28)) (C := RX9) (T := TX9) (N := 34) hx hb hts i9 hown hK hP 25 (wc_25 A cI cJ cZ z_23) rfl 10 (by decide) (hts (.fieldLink RX9 16 "LightestRulesModel" "text" "[I") (by decide +kernel)) (fun _ h9 => h9) rfl dX9_readText_94 ?_
              refine lv_aload_n hx hb dX9_readText_97 rfl (lv_at hl 0 rfl) ?_
              refine va_get (D := (dC, dI)) (ci := 9) (v := .int (z_23.1 25 12)) (C := RX9) (T := TX9) (N := 34) hx hb hts i9 hown hK hP 25 (wc_25 A cI cJ cZ z_23) rfl 12 (by decide) (hts (.fieldLink RX9 81 "LightestRulesModel" "at" "I") (by decide +kernel)) (fun _ h9 => h9) rfl dX9_readText_98 ?_
              refine lv_topi (fun y_27 ey_27 => ?_)
              have hf := lt_at ey_27 hf; clear ey_27
              obtain ⟨n_28, hf⟩ := rg_el hf
              refine va_iald hx hb hK hP 28 0 (wc_28 A cI cJ cZ z_23) rfl n_28 dX9_readText_101 ?_
              refine lv_topi (fun a_29 ea_29 => ?_)
              have hf := lt_at ea_29 hf; clear ea_29
              refine lv_bipush (v := 80) hx hb dX9_readText_102 (by decide) ?_
              refine lv_icmp_ne (tgt := 214) hx hb dX9_readText_104 (by decide) (fun c_30 => ?_) (fun c_30 => ?_)
              · have hf := it_f c_30 hf
                refine lv_aload_n hx hb dX9_readText_214 rfl (lv_at hl 0 rfl) ?_
                refine lv_aload_n hx hb dX9_readText_215 rfl (lv_at hl 0 rfl) ?_
                refine va_get (D := (dC, dI)) (ci := 9) (v := .int (z_23.1 25 12)) (C := RX9) (T := TX9) (N := 34) hx hb hts i9 hown hK hP 25 (wc_25 A cI cJ cZ z_23) rfl 12 (by decide) (hts (.fieldLink RX9 81 "LightestRulesModel" "at" "I") (by decide +kernel)) (fun _ h9 => h9) rfl dX9_readText_216 ?_
                refine lv_topi (fun y_31 ey_31 => ?_)
                have hf := lt_at ey_31 hf; clear ey_31
                refine va_put (D := (dC, dI)) (ci := 9) (v := .int y_31) (ty := .int) (C := RX9) (T := TX9) (N := 34) hx hb hts i9 tyX9 tyX9_ok nmX9 hown hK hP (wD hA cI cJ cZ z_23) hS 25 (wc_25 A cI cJ cZ z_23) rfl 13 (by decide) (hts (.fieldLink RX9 78 "LightestRulesModel" "faultAt" "I") (by decide +kernel)) (fun _ h9 => h9) rfl (by decide +kernel) rfl rfl (Nat.le_of_ble_eq_true rfl) dX9_readText_219 (fun H locs hP _ hS => ?_)
                rw [ws_25_13 A cI cJ cZ z_23 y_31] at hP
                obtain ⟨z_32, hP, hf⟩ := lt_P (P := fun q => wIs dC dI A cI cJ cZ q H) hP hf
                refine lv_goto (tgt := 73) hx hb dX9_readText_222 (by decide) ?_
                exact ihK_21 _ _ _ _ hf hP hS (lv_sub hl [0] rfl)
              · have hf := it_t c_30 hf
                refine lv_aload_n hx hb dX9_readText_107 rfl (lv_at hl 0 rfl) ?_
                refine va_get (D := (dC, dI)) (ci := 9) (v := .int (z_23.1 25 1)) (C := RX9) (T := TX9) (N := 34) hx hb hts i9 hown hK hP 25 (wc_25 A cI cJ cZ z_23) rfl 1 (by decide) (hts (.fieldLink RX9 84 "LightestRulesModel" "readMany" "I") (by decide +kernel)) (fun _ h9 => h9) rfl dX9_readText_108 ?_
                refine lv_iconst (v := 5) hx hb dX9_readText_111 (by decide) ?_
                refine lv_icmp_ge (tgt := 214) hx hb dX9_readText_112 (by decide) (fun c_33 => ?_) (fun c_33 => ?_)
                · have hf := it_t c_33 hf
                  refine lv_aload_n hx hb dX9_readText_214 rfl (lv_at hl 0 rfl) ?_
                  refine lv_aload_n hx hb dX9_readText_215 rfl (lv_at hl 0 rfl) ?_
                  refine va_get (D := (dC, dI)) (ci := 9) (v := .int (z_23.1 25 12)) (C := RX9) (T := TX9) (N := 34) hx hb hts i9 hown hK hP 25 (wc_25 A cI cJ cZ z_23) rfl 12 (by decide) (hts (.fieldLink RX9 81 "LightestRulesModel" "at" "I") (by decide +kernel)) (fun _ h9 => h9) rfl dX9_readText_216 ?_
                  refine lv_topi (fun y_34 ey_34 => ?_)
                  have hf := lt_at ey_34 hf; clear ey_34
                  refine va_put (D := (dC, dI)) (ci := 9) (v := .int y_34) (ty := .int) (C := RX9) (T := TX9) (N := 34) hx hb hts i9 tyX9 tyX9_ok nmX9 hown hK hP (wD hA cI cJ cZ z_23) hS 25 (wc_25 A cI cJ cZ z_23) rfl 13 (by decide) (hts (.fieldLink RX9 78 "LightestRulesModel" "faultAt" "I") (by decide +kernel)) (fun _ h9 => h9) rfl (by decide +kernel) rfl rfl (Nat.le_of_ble_eq_true rfl) dX9_readText_219 (fun H locs hP _ hS => ?_)
                  rw [ws_25_13 A cI cJ cZ z_23 y_34] at hP
                  obtain ⟨z_35, hP, hf⟩ := lt_P (P := fun q => wIs dC dI A cI cJ cZ q H) hP hf
                  refine lv_goto (tgt := 73) hx hb dX9_readText_222 (by decide) ?_
                  exact ihK_21 _ _ _ _ hf hP hS (lv_sub hl [0] rfl)
                · have hf := it_f c_33 hf
                  refine lv_aload_n hx hb dX9_readText_115 rfl (lv_at hl 0 rfl) ?_
                  refine lv_dup hx hb dX9_readText_116 rfl ?_
                  refine va_get (D := (dC, dI)) (ci := 9) (v := .int (z_23.1 25 12)) (C := RX9) (T := TX9) (N := 34) hx hb hts i9 hown hK hP 25 (wc_25 A cI cJ cZ z_23) rfl 12 (by decide) (hts (.fieldLink RX9 81 "LightestRulesModel" "at" "I") (by decide +kernel)) (fun _ h9 => h9) rfl dX9_readText_117 ?_
                  refine lv_iconst (v := 1) hx hb dX9_readText_120 (by decide) ?_
                  refine lv_iadd hx hb dX9_readText_121 ?_
                  refine lv_topi (fun y_36 ey_36 => ?_)
                  have hf := lt_at ey_36 hf; clear ey_36
                  refine va_put (D := (dC, dI)) (ci := 9) (v := .int y_36) (ty := .int) (C := RX9) (T := TX9) (N := 34) hx hb hts i9 tyX9 tyX9_ok nmX9 hown hK hP (wD hA cI cJ cZ z_23) hS 25 (wc_25 A cI cJ cZ z_23) rfl 12 (by decide) (hts (.fieldLink RX9 81 "LightestRulesModel" "at" "I") (by decide +kernel)) (fun _ h9 => h9) rfl (by decide +kernel) rfl rfl (Nat.le_of_ble_eq_true rfl) dX9_readText_122 (fun H locs hP _ hS => ?_)
                  rw [ws_25_12 A cI cJ cZ z_23 y_36] at hP
                  obtain ⟨z_37, hP, hf⟩ := lt_P (P := fun q => wIs dC dI A cI cJ cZ q H) hP hf
                  refine lv_iconst (v := 5) hx hb dX9_readText_125 (by decide) ?_
                  refine lv_aload_n hx hb dX9_readText_126 rfl (lv_at hl 0 rfl) ?_
                  refine va_get (D := (dC, dI)) (ci := 9) (v := .int (z_37.1 25 1)) (C := RX9) (T := TX9) (N := 34) hx hb hts i9 hown hK hP 25 (wc_25 A cI cJ cZ z_37) rfl 1 (by decide) (hts (.fieldLink RX9 84 "LightestRulesModel" "readMany" "I") (by decide +kernel)) (fun _ h9 => h9) rfl dX9_readText_127 ?_
                  refine lv_imul hx hb dX9_readText_130 ?_
                  refine lv_topi (fun x1_38 ex1_38 => ?_)
                  have hf := lt_at ex1_38 hf; clear ex1_38
                  refine lv_istore_n (lv' := [(1, .int x1_38), (0, .ref (A 25))]) hx hb dX9_readText_131 rfl hl (by decide) rfl (fun ls hl => ?_)
                  refine lv_aload_n hx hb dX9_readText_132 rfl (lv_at hl 1 rfl) ?_
                  refine lv_iconst (v := 1) hx hb dX9_readText_133 (by decide) ?_
                  refine lv_bipush (v := 9) hx hb dX9_readText_134 (by decide) ?_
                  obtain ⟨r_39, z_40, h_41, hf⟩ := cl_el hf
                  refine callVI (As := [.int (1 : Int32), .int (9 : Int32)]) (rest := []) (ci := 9) (q0 := 25) ⟨hx, hb, hml, hown, hts⟩ (tX9_figure (l := l) (dC := dC) (dI := dI) (t0 := t0) (cI := cI) (cJ := cJ) (cZ := cZ) hA h_41) (cwV 2 hts gX9_readText_X9_figure rfl rfl rfl (by decide +kernel) ⟨Nat.le_of_ble_eq_true rfl, Nat.le_of_ble_eq_true rfl⟩) hK hZ hP hS rfl (wc_25 A cI cJ cZ z_37) rfl rfl rfl hl.1 (Nat.le_of_ble_eq_true rfl) ⟨Nat.zero_le _, Nat.zero_le _⟩ dX9_readText_136 (fun H locs hP hS => ?_)
                  refine lv_istore_n (lv' := [(2, .int r_39), (1, .int x1_38), (0, .ref (A 25))]) hx hb dX9_readText_139 rfl hl (by decide) rfl (fun ls hl => ?_)
                  refine lv_aload_n hx hb dX9_readText_140 rfl (lv_at hl 2 rfl) ?_
                  refine lv_iconst (v := 0) hx hb dX9_readText_141 (by decide) ?_
                  refine lv_bipush (v := 9) hx hb dX9_readText_142 (by decide) ?_
                  obtain ⟨r_42, z_43, h_44, hf⟩ := cl_el hf
                  refine callVI (As := [.int (0 : Int32), .int (9 : Int32)]) (rest := []) (ci := 9) (q0 := 25) ⟨hx, hb, hml, hown, hts⟩ (tX9_figure (l := l) (dC := dC) (dI := dI) (t0 := t0) (cI := cI) (cJ := cJ) (cZ := cZ) hA h_44) (cwV 2 hts gX9_readText_X9_figure rfl rfl rfl (by decide +kernel) ⟨Nat.le_of_ble_eq_true rfl, Nat.le_of_ble_eq_true rfl⟩) hK hZ hP hS rfl (wc_25 A cI cJ cZ z_40) rfl rfl rfl hl.1 (Nat.le_of_ble_eq_true rfl) ⟨Nat.zero_le _, Nat.zero_le _⟩ dX9_readText_144 (fun H locs hP hS => ?_)
                  refine lv_istore_n (lv' := [(3, .int r_42), (2, .int r_39), (1, .int x1_38), (0, .ref (A 25))]) hx hb dX9_readText_147 rfl hl (by decide) rfl (fun ls hl => ?_)
                  refine lv_aload_n hx hb dX9_readText_148 rfl (lv_at hl 3 rfl) ?_
                  refine va_get (D := (dC, dI)) (ci := 9) (v := .ref (A 26)) (C := RX9) (T := TX9) (N := 34) hx hb hts i9 hown hK hP 25 (wc_25 A cI cJ cZ z_43) rfl 0 (by decide) (hts (.fieldLink RX9 7 "LightestRulesModel" "read" "[I") (by decide +kernel)) (fun _ h9 => h9) rfl dX9_readText_149 ?_
                  refine lv_iload_n hx hb dX9_readText_152 rfl (lv_at hl 2 rfl) ?_
                  refine lv_bipush (v := 100) hx hb dX9_readText_153 (by decide) ?_
                  refine lv_iload_n hx hb dX9_readText_155 rfl (lv_at hl 1 rfl) ?_
                  refine lv_imul hx hb dX9_readText_156 ?_
                  refine lv_bipush (v := 10) hx hb dX9_readText_157 (by decide) ?_
                  refine lv_iload_n hx hb dX9_readText_159 rfl (lv_at hl 0 rfl) ?_
                  refine lv_imul hx hb dX9_readText_160 ?_
                  refine lv_iadd hx hb dX9_readText_161 ?_
                  refine lv_aload_n hx hb dX9_readText_162 rfl (lv_at hl 3 rfl) ?_
                  refine lv_iconst (v := 0) hx hb dX9_readText_163 (by decide) ?_
                  refine lv_bipush (v := 9) hx hb dX9_readText_164 (by decide) ?_
                  obtain ⟨r_45, z_46, h_47, hf⟩ := cl_el hf
                  refine callVI (As := [.int (0 : Int32), .int (9 : Int32)]) (rest := [.int (((100 : Int32) * r_39) + ((10 : Int32) * r_42)), .int x1_38, .ref (A 26)]) (ci := 9) (q0 := 25) ⟨hx, hb, hml, hown, hts⟩ (tX9_figure (l := l) (dC := dC) (dI := dI) (t0 := t0) (cI := cI) (cJ := cJ) (cZ := cZ) hA h_47) (cwV 2 hts gX9_readText_X9_figure rfl rfl rfl (by decide +kernel) ⟨Nat.le_of_ble_eq_true rfl, Nat.le_of_ble_eq_true rfl⟩) hK hZ hP hS rfl (wc_25 A cI cJ cZ z_43) rfl rfl rfl hl.1 (Nat.le_of_ble_eq_true rfl) ⟨Nat.zero_le _, Nat.zero_le _⟩ dX9_readText_166 (fun H locs hP hS => ?_)
                  refine lv_iadd hx hb dX9_readText_169 ?_
                  refine lv_topi (fun y_48 ey_48 => ?_)
                  have hf := lt_at ey_48 hf; clear ey_48
                  obtain ⟨n_49, hf⟩ := rg_el hf
                  refine va_iast hx hb hK hP (wD hA cI cJ cZ z_46) hS 26 0 (wc_26 A cI cJ cZ z_46) rfl n_49 dX9_readText_170 (fun H locs hP _ hS => ?_)
                  rw [wa_26 A cI cJ cZ z_46 x1_38.toNatClampNeg y_48] at hP
                  obtain ⟨z_50, hP, hf⟩ := lt_P (P := fun q => wIs dC dI A cI cJ cZ q H) hP hf
                  refine lv_aload_n hx hb dX9_readText_171 rfl (lv_at hl 3 rfl) ?_
                  refine va_get (D := (dC, dI)) (ci := 9) (v := .ref (A 26)) (C := RX9) (T := TX9) (N := 34) hx hb hts i9 hown hK hP 25 (wc_25 A cI cJ cZ z_50) rfl 0 (by decide) (hts (.fieldLink RX9 7 "LightestRulesModel" "read" "[I") (by decide +kernel)) (fun _ h9 => h9) rfl dX9_readText_172 ?_
                  refine lv_iload_n hx hb dX9_readText_175 rfl (lv_at hl 2 rfl) ?_
                  refine lv_iconst (v := 1) hx hb dX9_readText_176 (by decide) ?_
                  refine lv_iadd hx hb dX9_readText_177 ?_
                  refine lv_aload_n hx hb dX9_readText_178 rfl (lv_at hl 3 rfl) ?_
                  refine lv_iconst (v := 0) hx hb dX9_readText_179 (by decide) ?_
                  refine lv_bipush (v := 9) hx hb dX9_readText_180 (by decide) ?_
                  obtain ⟨r_51, z_52, h_53, hf⟩ := cl_el hf
                  refine callVI (As := [.int (0 : Int32), .int (9 : Int32)]) (rest := [.int (x1_38 + (1 : Int32)), .ref (A 26)]) (ci := 9) (q0 := 25) ⟨hx, hb, hml, hown, hts⟩ (tX9_figure (l := l) (dC := dC) (dI := dI) (t0 := t0) (cI := cI) (cJ := cJ) (cZ := cZ) hA h_53) (cwV 2 hts gX9_readText_X9_figure rfl rfl rfl (by decide +kernel) ⟨Nat.le_of_ble_eq_true rfl, Nat.le_of_ble_eq_true rfl⟩) hK hZ hP hS rfl (wc_25 A cI cJ cZ z_50) rfl rfl rfl hl.1 (Nat.le_of_ble_eq_true rfl) ⟨Nat.zero_le _, Nat.zero_le _⟩ dX9_readText_182 (fun H locs hP hS => ?_)
                  obtain ⟨n_54, hf⟩ := rg_el hf
                  refine va_iast hx hb hK hP (wD hA cI cJ cZ z_52) hS 26 0 (wc_26 A cI cJ cZ z_52) rfl n_54 dX9_readText_185 (fun H locs hP _ hS => ?_)
                  rw [wa_26 A cI cJ cZ z_52 (x1_38 + (1 : Int32)).toNatClampNeg r_51] at hP
                  obtain ⟨z_55, hP, hf⟩ := lt_P (P := fun q => wIs dC dI A cI cJ cZ q H) hP hf
                  refine lv_aload_n hx hb dX9_readText_186 rfl (lv_at hl 3 rfl) ?_
                  refine va_get (D := (dC, dI)) (ci := 9) (v := .ref (A 26)) (C := RX9) (T := TX9) (N := 34) hx hb hts i9 hown hK hP 25 (wc_25 A cI cJ cZ z_55) rfl 0 (by decide) (hts (.fieldLink RX9 7 "LightestRulesModel" "read" "[I") (by decide +kernel)) (fun _ h9 => h9) rfl dX9_readText_187 ?_
                  refine lv_iload_n hx hb dX9_readText_190 rfl (lv_at hl 2 rfl) ?_
                  refine lv_iconst (v := 2) hx hb dX9_readText_191 (by decide) ?_
                  refine lv_iadd hx hb dX9_readText_192 ?_
                  refine lv_aload_n hx hb dX9_readText_193 rfl (lv_at hl 3 rfl) ?_
                  refine lv_iconst (v := 0) hx hb dX9_readText_194 (by decide) ?_
                  refine lv_bipush (v := 9) hx hb dX9_readText_195 (by decide) ?_
                  obtain ⟨r_56, z_57, h_58, hf⟩ := cl_el hf
                  refine callVI (As := [.int (0 : Int32), .int (9 : Int32)]) (rest := [.int (x1_38 + (2 : Int32)), .ref (A 26)]) (ci := 9) (q0 := 25) ⟨hx, hb, hml, hown, hts⟩ (tX9_figure (l := l) (dC := dC) (dI := dI) (t0 := t0) (cI := cI) (cJ := cJ) (cZ := cZ) hA h_58) (cwV 2 hts gX9_readText_X9_figure rfl rfl rfl (by decide +kernel) ⟨Nat.le_of_ble_eq_true rfl, Nat.le_of_ble_eq_true rfl⟩) hK hZ hP hS rfl (wc_25 A cI cJ cZ z_55) rfl rfl rfl hl.1 (Nat.le_of_ble_eq_true rfl) ⟨Nat.zero_le _, Nat.zero_le _⟩ dX9_readText_197 (fun H locs hP hS => ?_)
                  obtain ⟨n_59, hf⟩ := rg_el hf
                  refine va_iast hx hb hK hP (wD hA cI cJ cZ z_57) hS 26 0 (wc_26 A cI cJ cZ z_57) rfl n_59 dX9_readText_200 (fun H locs hP _ hS => ?_)
                  rw [wa_26 A cI cJ cZ z_57 (x1_38 + (2 : Int32)).toNatClampNeg r_56] at hP
                  obtain ⟨z_60, hP, hf⟩ := lt_P (P := fun q => wIs dC dI A cI cJ cZ q H) hP hf
                  refine lv_aload_n hx hb dX9_readText_201 rfl (lv_at hl 3 rfl) ?_
                  refine lv_dup hx hb dX9_readText_202 rfl ?_
                  refine va_get (D := (dC, dI)) (ci := 9) (v := .int (z_60.1 25 1)) (C := RX9) (T := TX9) (N := 34) hx hb hts i9 hown hK hP 25 (wc_25 A cI cJ cZ z_60) rfl 1 (by decide) (hts (.fieldLink RX9 84 "LightestRulesModel" "readMany" "I") (by decide +kernel)) (fun _ h9 => h9) rfl dX9_readText_203 ?_
                  refine lv_iconst (v := 1) hx hb dX9_readText_206 (by decide) ?_
                  refine lv_iadd hx hb dX9_readText_207 ?_
                  refine lv_topi (fun y_61 ey_61 => ?_)
                  have hf := lt_at ey_61 hf; clear ey_61
                  refine va_put (D := (dC, dI)) (ci := 9) (v := .int y_61) (ty := .int) (C := RX9) (T := TX9) (N := 34) hx hb hts i9 tyX9 tyX9_ok nmX9 hown hK hP (wD hA cI cJ cZ z_60) hS 25 (wc_25 A cI cJ cZ z_60) rfl 1 (by decide) (hts (.fieldLink RX9 84 "LightestRulesModel" "readMany" "I") (by decide +kernel)) (fun _ h9 => h9) rfl (by decide +kernel) rfl rfl (Nat.le_of_ble_eq_true rfl) dX9_readText_208 (fun H locs hP _ hS => ?_)
                  rw [ws_25_1 A cI cJ cZ z_60 y_61] at hP
                  obtain ⟨z_62, hP, hf⟩ := lt_P (P := fun q => wIs dC dI A cI cJ cZ q H) hP hf
                  refine lv_goto (tgt := 73) hx hb dX9_readText_211 (by decide) ?_
                  exact ihK_21 _ _ _ _ hf hP hS (lv_sub hl [3] rfl)
      exact hLK_21 FU _ _ _ _ hf hP hS (lv_sub hl [0] rfl)
    · have hf := it_f c_7 hf
      refine lv_iconst (v := 0) hx hb dX9_readText_34 (by decide) ?_
      exact retI hx hb hr hlocks hP hS hf dX9_readText_35
set_option maxHeartbeats 4000000 in
set_option maxRecDepth 100000 in
theorem tX9_fault {l : Launch} {dC : Nat → ClassId} {dI : Nat → Nat → Nat} {A : Nat → Nat} {t0 : Nat} {cI cJ cZ : ClassId} (hA : dst A)  {z : Mem} {r : Int32} {z' : Mem} (hf : fX9_fault z = some (r, z')) : MI l dC dI A t0 cI cJ cZ yX9_fault wsX9_fault 3 [.ref (A 25)] z r z' := by
  refine Met.ofW (cc := cX9_fault) (maxL := 1) (ret := (some .int)) (by decide) rfl ?_
  intro p e s m args below meth c s₁ B hml hv
  obtain ⟨rfl, hP, hK, hZ⟩ := hv
  have hx := B.exec
  have hb := B.bytes
  have hr := B.returns
  have hts := atoms_spec (ws := wsX9_fault) B.pre
  have hown : s.vm.findClass RX9 = some m.cls := findClass_of_methodNamed B.named
  have hlocks := B.notSynchronized
  have hS : va_S (fr A) s.heap s.heap [] := va_S.rf
  have hl := lv_entry ([.ref (A 25)]) (n := 1) (Nat.le_of_ble_eq_true rfl)
  rw [lg_entry_eq]
  generalize (lg_sl ([.ref (A 25)]) ++ List.replicate (1 - (lg_sl ([.ref (A 25)])).length) Slot.unset).toArray = ls at hl ⊢
  have hl : lv_has ls 1 [(0, .ref (A 25))] := hl
  have hP : wIs dC dI A cI cJ cZ z s.heap := hP
  rw [fX9_fault] at hf
  refine lv_aload_n hx hb dX9_fault_0 rfl (lv_at hl 0 rfl) ?_
  obtain ⟨r_1, z_2, h_3, hf⟩ := cl_el hf
  refine callVI (As := []) (rest := []) (ci := 9) (q0 := 25) ⟨hx, hb, hml, hown, hts⟩ (tX9_readText (l := l) (dC := dC) (dI := dI) (t0 := t0) (cI := cI) (cJ := cJ) (cZ := cZ) hA h_3) (cwV 0 hts gX9_fault_X9_readText rfl rfl rfl (by decide +kernel) ⟨Nat.le_of_ble_eq_true rfl, Nat.le_of_ble_eq_true rfl⟩) hK hZ hP hS rfl (wc_25 A cI cJ cZ z) rfl rfl rfl hl.1 (Nat.le_of_ble_eq_true rfl) ⟨Nat.zero_le _, Nat.zero_le _⟩ dX9_fault_1 (fun H locs hP hS => ?_)
  exact retI hx hb hr hlocks hP hS hf dX9_fault_4
set_option maxHeartbeats 4000000 in
set_option maxRecDepth 100000 in
theorem tX1_figure {l : Launch} {dC : Nat → ClassId} {dI : Nat → Nat → Nat} {A : Nat → Nat} {t0 : Nat} {cI cJ cZ : ClassId} (hA : dst A) {p0 : Int32} {z : Mem} {r : Int32} {z' : Mem} (hf : fX1_figure p0 z = some (r, z')) : MI l dC dI A t0 cI cJ cZ yX1_figure wsX1_figure 0 [.ref (A 1), .int p0] z r z' := by
  refine Met.ofW (cc := cX1_figure) (maxL := 2) (ret := (some .int)) (by decide) rfl ?_
  intro p e s m args below meth c s₁ B hml hv
  obtain ⟨rfl, hP, hK, hZ⟩ := hv
  have hx := B.exec
  have hb := B.bytes
  have hr := B.returns
  have hts := atoms_spec (ws := wsX1_figure) B.pre
  have hown : s.vm.findClass RX1 = some m.cls := findClass_of_methodNamed B.named
  have hlocks := B.notSynchronized
  have hS : va_S (fr A) s.heap s.heap [] := va_S.rf
  have i1 : ∀ w ∈ wsX10, w ∈ wsX1_figure := fun _ h => List.mem_cons_of_mem _ (List.mem_append_right _ h)
  have hl := lv_entry ([.ref (A 1), .int p0]) (n := 2) (Nat.le_of_ble_eq_true rfl)
  rw [lg_entry_eq]
  generalize (lg_sl ([.ref (A 1), .int p0]) ++ List.replicate (2 - (lg_sl ([.ref (A 1), .int p0])).length) Slot.unset).toArray = ls at hl ⊢
  have hl : lv_has ls 2 [(0, .ref (A 1)), (1, .int p0)] := hl
  have hP : wIs dC dI A cI cJ cZ z s.heap := hP
  rw [fX1_figure] at hf
  refine lv_iload_n hx hb dX1_figure_0 rfl (lv_at hl 1 rfl) ?_
  refine lv_if_lt (tgt := 12) hx hb dX1_figure_1 (by decide) (fun c_1 => ?_) (fun c_1 => ?_)
  · have hf := it_t c_1 hf
    refine lv_iconst (v := 0) hx hb dX1_figure_12 (by decide) ?_
    refine lv_goto (tgt := 25) hx hb dX1_figure_13 (by decide) ?_
    exact retI hx hb hr hlocks hP hS hf dX1_figure_25
  · have hf := it_f c_1 hf
    refine lv_iload_n hx hb dX1_figure_4 rfl (lv_at hl 1 rfl) ?_
    refine lv_aload_n hx hb dX1_figure_5 rfl (lv_at hl 0 rfl) ?_
    refine va_get (D := (dC, dI)) (ci := 1) (v := .int (z.1 1 1)) (C := RX1) (T := TX1) (N := 2) hx hb hts i1 hown hK hP 1 (wc_1 A cI cJ cZ z) rfl 1 (by decide) (hts (.fieldLink RX1 15 "LightestRules$LandText" "length" "I") (by decide +kernel)) (fun _ h9 => h9) rfl dX1_figure_6 ?_
    refine lv_icmp_lt (tgt := 16) hx hb dX1_figure_9 (by decide) (fun c_2 => ?_) (fun c_2 => ?_)
    · have hf := it_t c_2 hf
      refine lv_aload_n hx hb dX1_figure_16 rfl (lv_at hl 0 rfl) ?_
      refine va_get (D := (dC, dI)) (ci := 1) (v := .ref (A 10)) (C := RX1) (T := TX1) (N := 2) hx hb hts i1 hown hK hP 1 (wc_1 A cI cJ cZ z) rfl 0 (by decide) (hts (.fieldLink RX1 11 "LightestRules$LandText" "bytes" "[I") (by decide +kernel)) (fun _ h9 => h9) rfl dX1_figure_17 ?_
      refine lv_iload_n hx hb dX1_figure_20 rfl (lv_at hl 1 rfl) ?_
      obtain ⟨n_3, hf⟩ := rg_el hf
      refine va_iald hx hb hK hP 10 0 (wc_10 A cI cJ cZ z) rfl n_3 dX1_figure_21 ?_
      refine lv_topi (fun a_4 ea_4 => ?_)
      have hf := lt_at ea_4 hf; clear ea_4
      refine lv_bipush (v := 48) hx hb dX1_figure_22 (by decide) ?_
      refine lv_isub hx hb dX1_figure_24 ?_
      exact retI hx hb hr hlocks hP hS hf dX1_figure_25
    · have hf := it_f c_2 hf
      refine lv_iconst (v := 0) hx hb dX1_figure_12 (by decide) ?_
      refine lv_goto (tgt := 25) hx hb dX1_figure_13 (by decide) ?_
      exact retI hx hb hr hlocks hP hS hf dX1_figure_25
set_option maxHeartbeats 4000000 in
set_option maxRecDepth 100000 in
theorem tJ7_fill_53178_11 {l : Launch} {dC : Nat → ClassId} {dI : Nat → Nat → Nat} {A : Nat → Nat} {t0 : Nat} {cI cJ cZ : ClassId} (hA : dst A) {p1 : Int32} {z : Mem} {ru : Unit} {z' : Mem} (hf : fJ7_fill_53178_11 p1 z = some (ru, z')) : MV l dC dI A t0 cI cJ cZ yJ7_fill_53178 wsJ7_fill_53178 0 [.ref (A 11), .int p1] z z' := by
  refine Met.ofW (cc := cJ7_fill_53178) (maxL := 4) (ret := none) (by decide) rfl ?_
  intro p e s m args below meth c s₁ B hml hv
  obtain ⟨rfl, hP, hK, hZ⟩ := hv
  have hx := B.exec
  have hb := B.bytes
  have hr := B.returns
  have hts := atoms_spec (ws := wsJ7_fill_53178) B.pre
  have hown : s.vm.findClass RJ7 = some m.cls := findClass_of_methodNamed B.named
  have hlocks := B.notSynchronized
  have hS : va_S (fr A) s.heap s.heap [] := va_S.rf
  have hl := lv_entry ([.ref (A 11), .int p1]) (n := 4) (Nat.le_of_ble_eq_true rfl)
  rw [lg_entry_eq]
  generalize (lg_sl ([.ref (A 11), .int p1]) ++ List.replicate (4 - (lg_sl ([.ref (A 11), .int p1])).length) Slot.unset).toArray = ls at hl ⊢
  have hl : lv_has ls 4 [(0, .ref (A 11)), (1, .int p1)] := hl
  have hP : wIs dC dI A cI cJ cZ z s.heap := hP
  rw [fJ7_fill_53178_11] at hf
  refine lv_iconst (v := 0) hx hb dJ7_fill_53178_0 (by decide) ?_
  refine lv_istore_n (lv' := [(2, .int (0 : Int32)), (0, .ref (A 11)), (1, .int p1)]) hx hb dJ7_fill_53178_1 rfl hl (by decide) rfl (fun ls hl => ?_)
  refine lv_aload_n hx hb dJ7_fill_53178_2 rfl (lv_at hl 1 rfl) ?_
  refine va_alen hx hb hK hP 11 0 (wc_11 A cI cJ cZ z) rfl (v := 26) rfl dJ7_fill_53178_3 ?_
  refine lv_istore_n (lv' := [(3, .int (26 : Int32)), (2, .int (0 : Int32)), (0, .ref (A 11)), (1, .int p1)]) hx hb dJ7_fill_53178_4 rfl hl (by decide) rfl (fun ls hl => ?_)
  obtain ⟨K_1, eK_1, hf⟩ := fJ7_fill_53178_11_L5_g hf
  have hEK_1 : ∀ (x2_3 : Int32) (z_2 : Mem) (H : Heap) (locs : List Loc) (ls : Array Slot), K_1 x2_3 z_2 = some (ru, z') → wIs dC dI A cI cJ cZ z_2 H → va_S (fr A) s.heap H locs → lv_has ls 4 [(0, .ref (A 11)), (1, .int p1), (2, .int x2_3), (3, .int (26 : Int32))] → WV p l e wsJ7_fill_53178 0 s m [.ref (A 11), .int p1] below meth c dC dI A cI cJ cZ z' H locs (F0 m 20 ls []) := by
    intro x2_3 z_2 H locs ls hf hP hS hl
    have hf := ap2 eK_1 hf
    exact retV hx hb hr hlocks hP hS hf dJ7_fill_53178_20
  have hLK_1 : ∀ (n_6 : Nat) (x2_5 : Int32) (z_4 : Mem) (H : Heap) (locs : List Loc) (ls : Array Slot), fJ7_fill_53178_11_L5 K_1 p1 n_6 x2_5 z_4 = some (ru, z') → wIs dC dI A cI cJ cZ z_4 H → va_S (fr A) s.heap H locs → lv_has ls 4 [(0, .ref (A 11)), (1, .int p1), (2, .int x2_5), (3, .int (26 : Int32))] → WV p l e wsJ7_fill_53178 0 s m [.ref (A 11), .int p1] below meth c dC dI A cI cJ cZ z' H locs (F0 m 5 ls []) := by
    intro n_6
    induction n_6 with
    | zero => intro x2_5 z_4 H locs ls hf; rw [fJ7_fill_53178_11_L5_0] at hf; cases hf
    | succ n_6 ihK_1 =>
      intro x2_5 z_4 H locs ls hf hP hS hl
      rw [fJ7_fill_53178_11_L5_s] at hf
      refine lv_iload_n hx hb dJ7_fill_53178_5 rfl (lv_at hl 2 rfl) ?_
      refine lv_iload_n hx hb dJ7_fill_53178_6 rfl (lv_at hl 3 rfl) ?_
      refine lv_icmp_ge (tgt := 20) hx hb dJ7_fill_53178_7 (by decide) (fun c_7 => ?_) (fun c_7 => ?_)
      · have hf := it_t c_7 hf
        exact hEK_1 _ _ _ _ _ hf hP hS (lv_sub hl [0, 1, 2, 3] rfl)
      · have hf := it_f c_7 hf
        refine lv_aload_n hx hb dJ7_fill_53178_10 rfl (lv_at hl 0 rfl) ?_
        refine lv_iload_n hx hb dJ7_fill_53178_11 rfl (lv_at hl 2 rfl) ?_
        refine lv_iload_n hx hb dJ7_fill_53178_12 rfl (lv_at hl 1 rfl) ?_
        obtain ⟨n_8, hf⟩ := rg_el hf
        refine va_iast hx hb hK hP (wD hA cI cJ cZ z_4) hS 11 0 (wc_11 A cI cJ cZ z_4) rfl n_8 dJ7_fill_53178_13 (fun H locs hP _ hS => ?_)
        rw [wa_11 A cI cJ cZ z_4 x2_5.toNatClampNeg p1] at hP
        obtain ⟨z_9, hP, hf⟩ := lt_P (P := fun q => wIs dC dI A cI cJ cZ q H) hP hf
        obtain ⟨x2_10, ex2_10⟩ : ∃ q : Int32, q = x2_5 + (1 : Int32) := ⟨_, rfl⟩
        refine lv_iinc (v := x2_10) (lv' := [(2, .int x2_10), (0, .ref (A 11)), (1, .int p1), (3, .int (26 : Int32))]) hx hb dJ7_fill_53178_14 hl (k := 2) rfl (by rw [ex2_10]; rfl) (by decide) rfl (fun ls hl => ?_)
        have hf := lt_at ex2_10 hf; clear ex2_10
        refine lv_goto (tgt := 5) hx hb dJ7_fill_53178_17 (by decide) ?_
        exact ihK_1 _ _ _ _ _ hf hP hS (lv_sub hl [1, 2, 0, 3] rfl)
  exact hLK_1 FU _ _ _ _ _ hf hP hS (lv_sub hl [2, 3, 1, 0] rfl)
