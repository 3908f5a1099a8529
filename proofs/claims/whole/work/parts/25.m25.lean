set_option maxHeartbeats 4000000 in
set_option maxRecDepth 100000 in
theorem tX4_rowsFrom_d0 {l : Launch} {dC : Nat → ClassId} {dI : Nat → Nat → Nat} {A : Nat → Nat} {t0 : Nat} {cI cJ cZ : ClassId} (hA : dst A) {p1 : Int32} {z : Mem} {r : Int32} {z' : Mem} (hf : fX4_rowsFrom_d0 p1 z = some (r, z')) : MI l dC dI A t0 cI cJ cZ yX4_rowsFrom wsX4_rowsFrom 7 [.ref (A 6), .int p1] z r z' := by
  refine Met.ofW (cc := cX4_rowsFrom) (maxL := 6) (ret := (some .int)) (by decide) rfl ?_
  intro p e s m args below meth c s₁ B hml hv
  obtain ⟨rfl, hP, hK, hZ⟩ := hv
  have hx := B.exec
  have hb := B.bytes
  have hr := B.returns
  have hts := atoms_spec (ws := wsX4_rowsFrom) B.pre
  have hown : s.vm.findClass RX4 = some m.cls := findClass_of_methodNamed B.named
  have hlocks := B.notSynchronized
  have hS : va_S (fr A) s.heap s.heap [] := va_S.rf
  have hl := lv_entry ([.ref (A 6), .int p1]) (n := 6) (Nat.le_of_ble_eq_true rfl)
  rw [lg_entry_eq]
  generalize (lg_sl ([.ref (A 6), .int p1]) ++ List.replicate (6 - (lg_sl ([.ref (A 6), .int p1])).length) Slot.unset).toArray = ls at hl ⊢
  have hl : lv_has ls 6 [(0, .ref (A 6)), (1, .int p1)] := hl
  have hP : wIs dC dI A cI cJ cZ z s.heap := hP
  rw [fX4_rowsFrom_d0] at hf
  refine lv_iload_n hx hb dX4_rowsFrom_0 rfl (lv_at hl 1 rfl) ?_
  refine lv_if_lt (tgt := 9) hx hb dX4_rowsFrom_1 (by decide) (fun c_1 => ?_) (fun c_1 => ?_)
  · have hf := it_t c_1 hf
    refine lv_iconst (v := 1) hx hb dX4_rowsFrom_9 (by decide) ?_
    exact retI hx hb hr hlocks hP hS hf dX4_rowsFrom_10
  · have hf := it_f c_1 hf
    refine lv_iload_n hx hb dX4_rowsFrom_4 rfl (lv_at hl 1 rfl) ?_
    refine lv_iconst (v := 5) hx hb dX4_rowsFrom_5 (by decide) ?_
    refine lv_icmp_lt (tgt := 11) hx hb dX4_rowsFrom_6 (by decide) (fun c_2 => ?_) (fun c_2 => ?_)
    · have hf := it_t c_2 hf
      refine lv_aload_n hx hb dX4_rowsFrom_11 rfl (lv_at hl 0 rfl) ?_
      refine lv_iload_n hx hb dX4_rowsFrom_12 rfl (lv_at hl 1 rfl) ?_
      obtain ⟨r_3, z_4, h_5, hf⟩ := cl_el hf
      refine callVI (As := [.int p1]) (rest := []) (ci := 4) (q0 := 6) ⟨hx, hb, hml, hown, hts⟩ (tX4_fewestFor (l := l) (dC := dC) (dI := dI) (t0 := t0) (cI := cI) (cJ := cJ) (cZ := cZ) hA h_5) (cwV 1 hts gX4_rowsFrom_X4_fewestFor rfl rfl rfl (by decide +kernel) ⟨Nat.le_of_ble_eq_true rfl, Nat.le_of_ble_eq_true rfl⟩) hK hZ hP hS rfl (wc_6 A cI cJ cZ z) rfl rfl rfl hl.1 (Nat.le_of_ble_eq_true rfl) ⟨Nat.zero_le _, Nat.zero_le _⟩ dX4_rowsFrom_13 (fun H locs hP hS => ?_)
      refine lv_istore_n (lv' := [(2, .int r_3), (0, .ref (A 6)), (1, .int p1)]) hx hb dX4_rowsFrom_16 rfl hl (by decide) rfl (fun ls hl => ?_)
      refine lv_aload_n hx hb dX4_rowsFrom_17 rfl (lv_at hl 1 rfl) ?_
      refine lv_iload_n hx hb dX4_rowsFrom_18 rfl (lv_at hl 2 rfl) ?_
      obtain ⟨r_6, z_7, h_8, hf⟩ := cl_el hf
      refine callVI (As := [.int p1]) (rest := []) (ci := 4) (q0 := 6) ⟨hx, hb, hml, hown, hts⟩ (tX4_greatestFor (l := l) (dC := dC) (dI := dI) (t0 := t0) (cI := cI) (cJ := cJ) (cZ := cZ) hA h_8) (cwV 1 hts gX4_rowsFrom_X4_greatestFor rfl rfl rfl (by decide +kernel) ⟨Nat.le_of_ble_eq_true rfl, Nat.le_of_ble_eq_true rfl⟩) hK hZ hP hS rfl (wc_6 A cI cJ cZ z_4) rfl rfl rfl hl.1 (Nat.le_of_ble_eq_true rfl) ⟨Nat.zero_le _, Nat.zero_le _⟩ dX4_rowsFrom_19 (fun H locs hP hS => ?_)
      refine lv_istore_n (lv' := [(3, .int r_6), (2, .int r_3), (0, .ref (A 6)), (1, .int p1)]) hx hb dX4_rowsFrom_22 rfl hl (by decide) rfl (fun ls hl => ?_)
      refine lv_aload_n hx hb dX4_rowsFrom_23 rfl (lv_at hl 2 rfl) ?_
      refine lv_iload_n hx hb dX4_rowsFrom_24 rfl (lv_at hl 3 rfl) ?_
      obtain ⟨r_9, z_10, h_11, hf⟩ := cl_el hf
      refine callVI (As := [.int p1]) (rest := []) (ci := 4) (q0 := 6) ⟨hx, hb, hml, hown, hts⟩ (tX4_anySearched (l := l) (dC := dC) (dI := dI) (t0 := t0) (cI := cI) (cJ := cJ) (cZ := cZ) hA h_11) (cwV 1 hts gX4_rowsFrom_X4_anySearched rfl rfl rfl (by decide +kernel) ⟨Nat.le_of_ble_eq_true rfl, Nat.le_of_ble_eq_true rfl⟩) hK hZ hP hS rfl (wc_6 A cI cJ cZ z_7) rfl rfl rfl hl.1 (Nat.le_of_ble_eq_true rfl) ⟨Nat.zero_le _, Nat.zero_le _⟩ dX4_rowsFrom_25 (fun H locs hP hS => ?_)
      refine lv_if_ne (tgt := 49) hx hb dX4_rowsFrom_28 (by decide) (fun c_12 => ?_) (fun c_12 => ?_)
      · have hf := it_f c_12 hf
        refine lv_iconst (v := 0) hx hb dX4_rowsFrom_49 (by decide) ?_
        refine lv_istore (lv' := [(4, .int (0 : Int32)), (3, .int r_6), (2, .int r_3), (0, .ref (A 6)), (1, .int p1)]) hx hb dX4_rowsFrom_50 hl (by decide) rfl (fun ls hl => ?_)
        refine lv_iload_n hx hb dX4_rowsFrom_52 rfl (lv_at hl 2 rfl) ?_
        refine lv_istore (lv' := [(5, .int r_3), (4, .int (0 : Int32)), (3, .int r_6), (2, .int r_3), (0, .ref (A 6)), (1, .int p1)]) hx hb dX4_rowsFrom_53 hl (by decide) rfl (fun ls hl => ?_)
        obtain ⟨K_13, eK_13, hf⟩ := fX4_rowsFrom_d0_L55_g hf
        have hEK_13 : ∀ (x4_15 : Int32) (x5_16 : Int32) (z_14 : Mem) (H : Heap) (locs : List Loc) (ls : Array Slot), K_13 x4_15 x5_16 z_14 = some (r, z') → wIs dC dI A cI cJ cZ z_14 H → va_S (fr A) s.heap H locs → lv_has ls 6 [(0, .ref (A 6)), (1, .int p1), (2, .int r_3), (3, .int r_6), (4, .int x4_15), (5, .int x5_16)] → WI p l e wsX4_rowsFrom 7 s m [.ref (A 6), .int p1] below meth c dC dI A cI cJ cZ r z' H locs (F0 m 103 ls []) := by
          intro x4_15 x5_16 z_14 H locs ls hf hP hS hl
          have hf := ap3 eK_13 hf
          refine lv_iload hx hb dX4_rowsFrom_103 (lv_at hl 4 rfl) ?_
          exact retI hx hb hr hlocks hP hS hf dX4_rowsFrom_105
        have hLK_13 : ∀ (n_20 : Nat) (x4_18 : Int32) (x5_19 : Int32) (z_17 : Mem) (H : Heap) (locs : List Loc) (ls : Array Slot), fX4_rowsFrom_d0_L55 K_13 p1 r_6 n_20 x4_18 x5_19 z_17 = some (r, z') → wIs dC dI A cI cJ cZ z_17 H → va_S (fr A) s.heap H locs → lv_has ls 6 [(0, .ref (A 6)), (1, .int p1), (2, .int r_3), (3, .int r_6), (4, .int x4_18), (5, .int x5_19)] → WI p l e wsX4_rowsFrom 7 s m [.ref (A 6), .int p1] below meth c dC dI A cI cJ cZ r z' H locs (F0 m 55 ls []) := by
          intro n_20
          induction n_20 with
          | zero => intro x4_18 x5_19 z_17 H locs ls hf; rw [fX4_rowsFrom_d0_L55_0] at hf; cases hf
          | succ n_20 ihK_13 =>
            intro x4_18 x5_19 z_17 H locs ls hf hP hS hl
            rw [fX4_rowsFrom_d0_L55_s] at hf
            refine lv_iload hx hb dX4_rowsFrom_55 (lv_at hl 5 rfl) ?_
            refine lv_iload_n hx hb dX4_rowsFrom_57 rfl (lv_at hl 3 rfl) ?_
            refine lv_icmp_gt (tgt := 103) hx hb dX4_rowsFrom_58 (by decide) (fun c_21 => ?_) (fun c_21 => ?_)
            · have hf := it_t c_21 hf
              exact hEK_13 _ _ _ _ _ _ hf hP hS (lv_sub hl [0, 1, 2, 3, 4, 5] rfl)
            · have hf := it_f c_21 hf
              refine lv_aload_n hx hb dX4_rowsFrom_61 rfl (lv_at hl 0 rfl) ?_
              refine lv_iload_n hx hb dX4_rowsFrom_62 rfl (lv_at hl 1 rfl) ?_
              refine lv_iload hx hb dX4_rowsFrom_63 (lv_at hl 5 rfl) ?_
              obtain ⟨r_22, z_23, h_24, hf⟩ := cl_el hf
              refine callVV (As := [.int p1, .int x5_19]) (rest := []) (ci := 4) (q0 := 6) ⟨hx, hb, hml, hown, hts⟩ (tX4_give (l := l) (dC := dC) (dI := dI) (t0 := t0) (cI := cI) (cJ := cJ) (cZ := cZ) hA h_24) (cwV 2 hts gX4_rowsFrom_X4_give rfl rfl rfl (by decide +kernel) ⟨Nat.le_of_ble_eq_true rfl, Nat.le_of_ble_eq_true rfl⟩) hK hZ hP hS rfl (wc_6 A cI cJ cZ z_17) rfl rfl rfl hl.1 (Nat.le_of_ble_eq_true rfl) ⟨Nat.zero_le _, Nat.zero_le _⟩ dX4_rowsFrom_65 (fun H locs hP hS => ?_)
              refine lv_iload hx hb dX4_rowsFrom_68 (lv_at hl 4 rfl) ?_
              refine lv_aload_n hx hb dX4_rowsFrom_70 rfl (lv_at hl 0 rfl) ?_
              refine lv_iload_n hx hb dX4_rowsFrom_71 rfl (lv_at hl 1 rfl) ?_
              refine lv_iload hx hb dX4_rowsFrom_72 (lv_at hl 5 rfl) ?_
              refine lv_iload hx hb dX4_rowsFrom_74 (lv_at hl 5 rfl) ?_
              refine lv_aload_n hx hb dX4_rowsFrom_76 rfl (lv_at hl 0 rfl) ?_
              refine lv_iload_n hx hb dX4_rowsFrom_77 rfl (lv_at hl 1 rfl) ?_
              refine lv_iconst (v := 1) hx hb dX4_rowsFrom_78 (by decide) ?_
              refine lv_iadd hx hb dX4_rowsFrom_79 ?_
              obtain ⟨r_25, z_26, h_27, hf⟩ := cl_el hf
              refine callSI (As := [.ref (A 6), .int (p1 + (1 : Int32))]) (rest := [.int x5_19, .int x5_19, .int p1, .ref (A 6), .int x4_18]) ⟨hx, hb, hml, hown, hts⟩ (tX4_rowsFrom_d1 (l := l) (dC := dC) (dI := dI) (t0 := t0) (cI := cI) (cJ := cJ) (cZ := cZ) hA h_27) (va_cwS 2 hts gX4_rowsFrom_X4_rowsFrom rfl rfl rfl (by decide +kernel) ⟨Nat.le_of_ble_eq_true rfl, Nat.le_of_ble_eq_true rfl⟩) hK hZ hP hS rfl rfl hl.1 (Nat.le_of_ble_eq_true rfl) ⟨Nat.zero_le _, Nat.zero_le _⟩ dX4_rowsFrom_80 (fun H locs hP hS => ?_)
              obtain ⟨r_28, z_29, h_30, hf⟩ := cl_el hf
              refine callVI (As := [.int p1, .int x5_19, .int x5_19, .int r_25]) (rest := [.int x4_18]) (ci := 4) (q0 := 6) ⟨hx, hb, hml, hown, hts⟩ (tX4_noted (l := l) (dC := dC) (dI := dI) (t0 := t0) (cI := cI) (cJ := cJ) (cZ := cZ) hA h_30) (cwV 4 hts gX4_rowsFrom_X4_noted rfl rfl rfl (by decide +kernel) ⟨Nat.le_of_ble_eq_true rfl, Nat.le_of_ble_eq_true rfl⟩) hK hZ hP hS rfl (wc_6 A cI cJ cZ z_26) rfl rfl rfl hl.1 (Nat.le_of_ble_eq_true rfl) ⟨Nat.zero_le _, Nat.zero_le _⟩ dX4_rowsFrom_83 (fun H locs hP hS => ?_)
              refine lv_iadd hx hb dX4_rowsFrom_86 ?_
              refine lv_topi (fun x4_31 ex4_31 => ?_)
              have hf := lt_at ex4_31 hf; clear ex4_31
              refine lv_istore (lv' := [(4, .int x4_31), (0, .ref (A 6)), (1, .int p1), (2, .int r_3), (3, .int r_6), (5, .int x5_19)]) hx hb dX4_rowsFrom_87 hl (by decide) rfl (fun ls hl => ?_)
              refine lv_aload_n hx hb dX4_rowsFrom_89 rfl (lv_at hl 1 rfl) ?_
              refine lv_iload_n hx hb dX4_rowsFrom_90 rfl (lv_at hl 2 rfl) ?_
              refine lv_iload hx hb dX4_rowsFrom_91 (lv_at hl 5 rfl) ?_
              refine lv_ineg hx hb dX4_rowsFrom_93 ?_
              obtain ⟨r_32, z_33, h_34, hf⟩ := cl_el hf
              refine callVV (As := [.int p1, .int (-x5_19)]) (rest := []) (ci := 4) (q0 := 6) ⟨hx, hb, hml, hown, hts⟩ (tX4_give (l := l) (dC := dC) (dI := dI) (t0 := t0) (cI := cI) (cJ := cJ) (cZ := cZ) hA h_34) (cwV 2 hts gX4_rowsFrom_X4_give rfl rfl rfl (by decide +kernel) ⟨Nat.le_of_ble_eq_true rfl, Nat.le_of_ble_eq_true rfl⟩) hK hZ hP hS rfl (wc_6 A cI cJ cZ z_29) rfl rfl rfl hl.1 (Nat.le_of_ble_eq_true rfl) ⟨Nat.zero_le _, Nat.zero_le _⟩ dX4_rowsFrom_94 (fun H locs hP hS => ?_)
              obtain ⟨x5_35, ex5_35⟩ : ∃ q : Int32, q = x5_19 + (1 : Int32) := ⟨_, rfl⟩
              refine lv_iinc (v := x5_35) (lv' := [(5, .int x5_35), (4, .int x4_31), (0, .ref (A 6)), (1, .int p1), (2, .int r_3), (3, .int r_6)]) hx hb dX4_rowsFrom_97 hl (k := 5) rfl (by rw [ex5_35]; rfl) (by decide) rfl (fun ls hl => ?_)
              have hf := lt_at ex5_35 hf; clear ex5_35
              refine lv_goto (tgt := 55) hx hb dX4_rowsFrom_100 (by decide) ?_
              exact ihK_13 _ _ _ _ _ _ hf hP hS (lv_sub hl [2, 3, 4, 5, 1, 0] rfl)
        exact hLK_13 FU _ _ _ _ _ _ hf hP hS (lv_sub hl [4, 5, 3, 2, 1, 0] rfl)
      · have hf := it_t c_12 hf
        refine lv_bipush (v := 10) hx hb dX4_rowsFrom_31 (by decide) ?_
        refine lv_aload_n hx hb dX4_rowsFrom_33 rfl (lv_at hl 2 rfl) ?_
        refine lv_iload_n hx hb dX4_rowsFrom_34 rfl (lv_at hl 3 rfl) ?_
        refine lv_iload_n hx hb dX4_rowsFrom_35 rfl (lv_at hl 1 rfl) ?_
        refine lv_iload_n hx hb dX4_rowsFrom_36 rfl (lv_at hl 0 rfl) ?_
        refine lv_aload_n hx hb dX4_rowsFrom_37 rfl (lv_at hl 2 rfl) ?_
        refine lv_iload_n hx hb dX4_rowsFrom_38 rfl (lv_at hl 3 rfl) ?_
        refine lv_iconst (v := 1) hx hb dX4_rowsFrom_39 (by decide) ?_
        refine lv_iadd hx hb dX4_rowsFrom_40 ?_
        obtain ⟨r_36, z_37, h_38, hf⟩ := cl_el hf
        refine callSI (As := [.ref (A 6), .int (p1 + (1 : Int32))]) (rest := [.int r_6, .int r_3, .int p1, .ref (A 6), .int (10 : Int32)]) ⟨hx, hb, hml, hown, hts⟩ (tX4_rowsFrom_d1 (l := l) (dC := dC) (dI := dI) (t0 := t0) (cI := cI) (cJ := cJ) (cZ := cZ) hA h_38) (va_cwS 2 hts gX4_rowsFrom_X4_rowsFrom rfl rfl rfl (by decide +kernel) ⟨Nat.le_of_ble_eq_true rfl, Nat.le_of_ble_eq_true rfl⟩) hK hZ hP hS rfl rfl hl.1 (Nat.le_of_ble_eq_true rfl) ⟨Nat.zero_le _, Nat.zero_le _⟩ dX4_rowsFrom_41 (fun H locs hP hS => ?_)
        obtain ⟨r_39, z_40, h_41, hf⟩ := cl_el hf
        refine callVI (As := [.int p1, .int r_3, .int r_6, .int r_36]) (rest := [.int (10 : Int32)]) (ci := 4) (q0 := 6) ⟨hx, hb, hml, hown, hts⟩ (tX4_noted (l := l) (dC := dC) (dI := dI) (t0 := t0) (cI := cI) (cJ := cJ) (cZ := cZ) hA h_41) (cwV 4 hts gX4_rowsFrom_X4_noted rfl rfl rfl (by decide +kernel) ⟨Nat.le_of_ble_eq_true rfl, Nat.le_of_ble_eq_true rfl⟩) hK hZ hP hS rfl (wc_6 A cI cJ cZ z_37) rfl rfl rfl hl.1 (Nat.le_of_ble_eq_true rfl) ⟨Nat.zero_le _, Nat.zero_le _⟩ dX4_rowsFrom_44 (fun H locs hP hS => ?_)
        refine lv_imul hx hb dX4_rowsFrom_47 ?_
        exact retI hx hb hr hlocks hP hS hf dX4_rowsFrom_48
    · have hf := it_f c_2 hf
      refine lv_iconst (v := 1) hx hb dX4_rowsFrom_9 (by decide) ?_
      exact retI hx hb hr hlocks hP hS hf dX4_rowsFrom_10
set_option maxHeartbeats 4000000 in
set_option maxRecDepth 100000 in
theorem tX4_fittingRows {l : Launch} {dC : Nat → ClassId} {dI : Nat → Nat → Nat} {A : Nat → Nat} {t0 : Nat} {cI cJ cZ : ClassId} (hA : dst A)  {z : Mem} {r : Int32} {z' : Mem} (hf : fX4_fittingRows z = some (r, z')) : MI l dC dI A t0 cI cJ cZ yX4_fittingRows wsX4_fittingRows 8 [.ref (A 6)] z r z' := by
  refine Met.ofW (cc := cX4_fittingRows) (maxL := 1) (ret := (some .int)) (by decide) rfl ?_
  intro p e s m args below meth c s₁ B hml hv
  obtain ⟨rfl, hP, hK, hZ⟩ := hv
  have hx := B.exec
  have hb := B.bytes
  have hr := B.returns
  have hts := atoms_spec (ws := wsX4_fittingRows) B.pre
  have hown : s.vm.findClass RX4 = some m.cls := findClass_of_methodNamed B.named
  have hlocks := B.notSynchronized
  have hS : va_S (fr A) s.heap s.heap [] := va_S.rf
  have i4 : ∀ w ∈ wsX40, w ∈ wsX4_fittingRows := fun _ h => List.mem_cons_of_mem _ (List.mem_append_right _ h)
  have hl := lv_entry ([.ref (A 6)]) (n := 1) (Nat.le_of_ble_eq_true rfl)
  rw [lg_entry_eq]
  generalize (lg_sl ([.ref (A 6)]) ++ List.replicate (1 - (lg_sl ([.ref (A 6)])).length) Slot.unset).toArray = ls at hl ⊢
  have hl : lv_has ls 1 [(0, .ref (A 6))] := hl
  have hP : wIs dC dI A cI cJ cZ z s.heap := hP
  rw [fX4_fittingRows] at hf
  refine lv_aload_n hx hb dX4_fittingRows_0 rfl (lv_at hl 0 rfl) ?_
  refine va_get (D := (dC, dI)) (ci := 4) (v := .int (z.1 6 6)) (C := RX4) (T := TX4) (N := 7) hx hb hts i4 hown hK hP 6 (wc_6 A cI cJ cZ z) rfl 6 (by decide) (hts (.fieldLink RX4 33 "LightestRules$Searches" "fresh" "Z") (by decide +kernel)) (fun _ h9 => h9) rfl dX4_fittingRows_1 ?_
  refine lv_if_ne (tgt := 39) hx hb dX4_fittingRows_4 (by decide) (fun c_1 => ?_) (fun c_1 => ?_)
  · have hf := it_f c_1 hf
    refine lv_aload_n hx hb dX4_fittingRows_39 rfl (lv_at hl 0 rfl) ?_
    refine va_get (D := (dC, dI)) (ci := 4) (v := .int (z.1 6 5)) (C := RX4) (T := TX4) (N := 7) hx hb hts i4 hown hK hP 6 (wc_6 A cI cJ cZ z) rfl 5 (by decide) (hts (.fieldLink RX4 30 "LightestRules$Searches" "found" "I") (by decide +kernel)) (fun _ h9 => h9) rfl dX4_fittingRows_40 ?_
    exact retI hx hb hr hlocks hP hS hf dX4_fittingRows_43
  · have hf := it_t c_1 hf
    refine lv_aload_n hx hb dX4_fittingRows_7 rfl (lv_at hl 0 rfl) ?_
    refine va_get (D := (dC, dI)) (ci := 4) (v := .ref (A 19)) (C := RX4) (T := TX4) (N := 7) hx hb hts i4 hown hK hP 6 (wc_6 A cI cJ cZ z) rfl 2 (by decide) (hts (.fieldLink RX4 20 "LightestRules$Searches" "least" "[I") (by decide +kernel)) (fun _ h9 => h9) rfl dX4_fittingRows_8 ?_
    refine lv_bipush (v := 10) hx hb dX4_fittingRows_11 (by decide) ?_
    obtain ⟨r_2, z_3, h_4, hf⟩ := cl_el hf
    refine callSV (As := [.ref (A 19), .int (10 : Int32)]) (rest := []) ⟨hx, hb, hml, hown, hts⟩ (tJ7_fill_53178_19 (l := l) (dC := dC) (dI := dI) (t0 := t0) (cI := cI) (cJ := cJ) (cZ := cZ) hA h_4) (va_cwS 2 hts gX4_fittingRows_J7_fill_53178 rfl rfl rfl (by decide +kernel) ⟨Nat.le_of_ble_eq_true rfl, Nat.le_of_ble_eq_true rfl⟩) hK hZ hP hS rfl rfl hl.1 (Nat.le_of_ble_eq_true rfl) ⟨Nat.zero_le _, Nat.zero_le _⟩ dX4_fittingRows_13 (fun H locs hP hS => ?_)
    refine lv_aload_n hx hb dX4_fittingRows_16 rfl (lv_at hl 0 rfl) ?_
    refine va_get (D := (dC, dI)) (ci := 4) (v := .ref (A 20)) (C := RX4) (T := TX4) (N := 7) hx hb hts i4 hown hK hP 6 (wc_6 A cI cJ cZ z_3) rfl 3 (by decide) (hts (.fieldLink RX4 23 "LightestRules$Searches" "most" "[I") (by decide +kernel)) (fun _ h9 => h9) rfl dX4_fittingRows_17 ?_
    refine lv_bipush (v := -9) hx hb dX4_fittingRows_20 (by decide) ?_
    obtain ⟨r_5, z_6, h_7, hf⟩ := cl_el hf
    refine callSV (As := [.ref (A 20), .int (-9 : Int32)]) (rest := []) ⟨hx, hb, hml, hown, hts⟩ (tJ7_fill_53178_20 (l := l) (dC := dC) (dI := dI) (t0 := t0) (cI := cI) (cJ := cJ) (cZ := cZ) hA h_7) (va_cwS 2 hts gX4_fittingRows_J7_fill_53178 rfl rfl rfl (by decide +kernel) ⟨Nat.le_of_ble_eq_true rfl, Nat.le_of_ble_eq_true rfl⟩) hK hZ hP hS rfl rfl hl.1 (Nat.le_of_ble_eq_true rfl) ⟨Nat.zero_le _, Nat.zero_le _⟩ dX4_fittingRows_22 (fun H locs hP hS => ?_)
    refine lv_aload_n hx hb dX4_fittingRows_25 rfl (lv_at hl 0 rfl) ?_
    refine lv_aload_n hx hb dX4_fittingRows_26 rfl (lv_at hl 0 rfl) ?_
    refine lv_iconst (v := 0) hx hb dX4_fittingRows_27 (by decide) ?_
    obtain ⟨r_8, z_9, h_10, hf⟩ := cl_el hf
    refine callSI (As := [.ref (A 6), .int (0 : Int32)]) (rest := [.ref (A 6)]) ⟨hx, hb, hml, hown, hts⟩ (tX4_rowsFrom_d0 (l := l) (dC := dC) (dI := dI) (t0 := t0) (cI := cI) (cJ := cJ) (cZ := cZ) hA h_10) (va_cwS 2 hts gX4_fittingRows_X4_rowsFrom rfl rfl rfl (by decide +kernel) ⟨Nat.le_of_ble_eq_true rfl, Nat.le_of_ble_eq_true rfl⟩) hK hZ hP hS rfl rfl hl.1 (Nat.le_of_ble_eq_true rfl) ⟨Nat.zero_le _, Nat.zero_le _⟩ dX4_fittingRows_28 (fun H locs hP hS => ?_)
    refine va_put (D := (dC, dI)) (ci := 4) (v := .int r_8) (ty := .int) (C := RX4) (T := TX4) (N := 7) hx hb hts i4 tyX4 tyX4_ok nmX4 hown hK hP (wD hA cI cJ cZ z_9) hS 6 (wc_6 A cI cJ cZ z_9) rfl 5 (by decide) (hts (.fieldLink RX4 30 "LightestRules$Searches" "found" "I") (by decide +kernel)) (fun _ h9 => h9) rfl (by decide +kernel) rfl rfl (Nat.le_of_ble_eq_true rfl) dX4_fittingRows_31 (fun H locs hP _ hS => ?_)
    rw [ws_6_5 A cI cJ cZ z_9 r_8] at hP
    obtain ⟨z_11, hP, hf⟩ := lt_P (P := fun q => wIs dC dI A cI cJ cZ q H) hP hf
    refine lv_aload_n hx hb dX4_fittingRows_34 rfl (lv_at hl 0 rfl) ?_
    refine lv_iconst (v := 1) hx hb dX4_fittingRows_35 (by decide) ?_
    refine va_put (D := (dC, dI)) (ci := 4) (v := .int (1 : Int32)) (ty := .boolean) (C := RX4) (T := TX4) (N := 7) hx hb hts i4 tyX4 tyX4_ok nmX4 hown hK hP (wD hA cI cJ cZ z_11) hS 6 (wc_6 A cI cJ cZ z_11) rfl 6 (by decide) (hts (.fieldLink RX4 33 "LightestRules$Searches" "fresh" "Z") (by decide +kernel)) (fun _ h9 => h9) rfl (by decide +kernel) rfl rfl (Nat.le_of_ble_eq_true rfl) dX4_fittingRows_36 (fun H locs hP _ hS => ?_)
    rw [ws_6_6 A cI cJ cZ z_11 (1 : Int32)] at hP
    obtain ⟨z_12, hP, hf⟩ := lt_P (P := fun q => wIs dC dI A cI cJ cZ q H) hP hf
    refine lv_aload_n hx hb dX4_fittingRows_39 rfl (lv_at hl 0 rfl) ?_
    refine va_get (D := (dC, dI)) (ci := 4) (v := .int (z_12.1 6 5)) (C := RX4) (T := TX4) (N := 7) hx hb hts i4 hown hK hP 6 (wc_6 A cI cJ cZ z_12) rfl 5 (by decide) (hts (.fieldLink RX4 30 "LightestRules$Searches" "found" "I") (by decide +kernel)) (fun _ h9 => h9) rfl dX4_fittingRows_40 ?_
    exact retI hx hb hr hlocks hP hS hf dX4_fittingRows_43
set_option maxHeartbeats 4000000 in
set_option maxRecDepth 100000 in
theorem tX8_rows {l : Launch} {dC : Nat → ClassId} {dI : Nat → Nat → Nat} {A : Nat → Nat} {t0 : Nat} {cI cJ cZ : ClassId} (hA : dst A)  {z : Mem} {r : Int32} {z' : Mem} (hf : fX8_rows z = some (r, z')) : MI l dC dI A t0 cI cJ cZ yX8_rows wsX8_rows 9 [.ref (A 0)] z r z' := by
  refine Met.ofW (cc := cX8_rows) (maxL := 1) (ret := (some .int)) (by decide) rfl ?_
  intro p e s m args below meth c s₁ B hml hv
  obtain ⟨rfl, hP, hK, hZ⟩ := hv
  have hx := B.exec
  have hb := B.bytes
  have hr := B.returns
  have hts := atoms_spec (ws := wsX8_rows) B.pre
  have hown : s.vm.findClass RX8 = some m.cls := findClass_of_methodNamed B.named
  have hlocks := B.notSynchronized
  have hS : va_S (fr A) s.heap s.heap [] := va_S.rf
  have i8 : ∀ w ∈ wsX80, w ∈ wsX8_rows := fun _ h => List.mem_cons_of_mem _ (List.mem_append_left _ (List.mem_append_right _ h))
  have hl := lv_entry ([.ref (A 0)]) (n := 1) (Nat.le_of_ble_eq_true rfl)
  rw [lg_entry_eq]
  generalize (lg_sl ([.ref (A 0)]) ++ List.replicate (1 - (lg_sl ([.ref (A 0)])).length) Slot.unset).toArray = ls at hl ⊢
  have hl : lv_has ls 1 [(0, .ref (A 0))] := hl
  have hP : wIs dC dI A cI cJ cZ z s.heap := hP
  rw [fX8_rows] at hf
  refine lv_aload_n hx hb dX8_rows_0 rfl (lv_at hl 0 rfl) ?_
  refine va_get (D := (dC, dI)) (ci := 8) (v := .ref (A 6)) (C := RX8) (T := TX8) (N := 9) hx hb hts i8 hown hK hP 0 (wc_0 A cI cJ cZ z) rfl 5 (by decide) (hts (.fieldLink RX8 47 "LightestRules" "searches" "LLightestRules$Searches;") (by decide +kernel)) (fun _ h9 => h9) rfl dX8_rows_1 ?_
  obtain ⟨r_1, z_2, h_3, hf⟩ := cl_el hf
  refine callVI (As := []) (rest := []) (ci := 4) (q0 := 6) ⟨hx, hb, hml, hown, hts⟩ (tX4_fittingRows (l := l) (dC := dC) (dI := dI) (t0 := t0) (cI := cI) (cJ := cJ) (cZ := cZ) hA h_3) (cwV 0 hts gX8_rows_X4_fittingRows rfl rfl rfl (by decide +kernel) ⟨Nat.le_of_ble_eq_true rfl, Nat.le_of_ble_eq_true rfl⟩) hK hZ hP hS rfl (wc_6 A cI cJ cZ z) rfl rfl rfl hl.1 (Nat.le_of_ble_eq_true rfl) ⟨Nat.zero_le _, Nat.zero_le _⟩ dX8_rows_4 (fun H locs hP hS => ?_)
  exact retI hx hb hr hlocks hP hS hf dX8_rows_7
set_option maxHeartbeats 4000000 in
set_option maxRecDepth 100000 in
theorem tX9_fits {l : Launch} {dC : Nat → ClassId} {dI : Nat → Nat → Nat} {A : Nat → Nat} {t0 : Nat} {cI cJ cZ : ClassId} (hA : dst A) {p0 : Int32} {z : Mem} {r : Int32} {z' : Mem} (hf : fX9_fits p0 z = some (r, z')) : MI l dC dI A t0 cI cJ cZ yX9_fits wsX9_fits 0 [.ref (A 25), .int p0] z r z' := by
  refine Met.ofW (cc := cX9_fits) (maxL := 7) (ret := (some .boolean)) (by decide) rfl ?_
  intro p e s m args below meth c s₁ B hml hv
  obtain ⟨rfl, hP, hK, hZ⟩ := hv
  have hx := B.exec
  have hb := B.bytes
  have hr := B.returns
  have hts := atoms_spec (ws := wsX9_fits) B.pre
  have hown : s.vm.findClass RX9 = some m.cls := findClass_of_methodNamed B.named
  have hlocks := B.notSynchronized
  have hS : va_S (fr A) s.heap s.heap [] := va_S.rf
  have i9 : ∀ w ∈ wsX90, w ∈ wsX9_fits := fun _ h => List.mem_cons_of_mem _ (List.mem_append_right _ h)
  have hl := lv_entry ([.ref (A 25), .int p0]) (n := 7) (Nat.le_of_ble_eq_true rfl)
  rw [lg_entry_eq]
  generalize (lg_sl ([.ref (A 25), .int p0]) ++ List.replicate (7 - (lg_sl ([.ref (A 25), .int p0])).length) Slot.unset).toArray = ls at hl ⊢
  have hl : lv_has ls 7 [(0, .ref (A 25)), (1, .int p0)] := hl
  have hP : wIs dC dI A cI cJ cZ z s.heap := hP
  rw [fX9_fits] at hf
  refine lv_iconst (v := 1) hx hb dX9_fits_0 (by decide) ?_
  refine lv_istore_n (lv' := [(2, .int (1 : Int32)), (0, .ref (A 25)), (1, .int p0)]) hx hb dX9_fits_1 rfl hl (by decide) rfl (fun ls hl => ?_)
  refine lv_iconst (v := 0) hx hb dX9_fits_2 (by decide) ?_
  refine lv_istore_n (lv' := [(3, .int (0 : Int32)), (2, .int (1 : Int32)), (0, .ref (A 25)), (1, .int p0)]) hx hb dX9_fits_3 rfl hl (by decide) rfl (fun ls hl => ?_)
  obtain ⟨K_1, eK_1, hf⟩ := fX9_fits_L4_g hf
  have hEK_1 : ∀ (x2_3 : Int32) (x3_4 : Int32) (z_2 : Mem) (H : Heap) (locs : List Loc) (ls : Array Slot), K_1 x2_3 x3_4 z_2 = some (r, z') → wIs dC dI A cI cJ cZ z_2 H → va_S (fr A) s.heap H locs → lv_has ls 7 [(0, .ref (A 25)), (1, .int p0), (2, .int x2_3), (3, .int x3_4)] → WI p l e wsX9_fits 0 s m [.ref (A 25), .int p0] below meth c dC dI A cI cJ cZ r z' H locs (F0 m 89 ls []) := by
    intro x2_3 x3_4 z_2 H locs ls hf hP hS hl
    have hf := ap3 eK_1 hf
    refine lv_iload_n hx hb dX9_fits_89 rfl (lv_at hl 2 rfl) ?_
    obtain ⟨hnn, hf⟩ := bo_el hf
    exact retZ hx hb hr hlocks hnn hP hS hf dX9_fits_90
  have hLK_1 : ∀ (n_8 : Nat) (x2_6 : Int32) (x3_7 : Int32) (z_5 : Mem) (H : Heap) (locs : List Loc) (ls : Array Slot), fX9_fits_L4 K_1 p0 n_8 x2_6 x3_7 z_5 = some (r, z') → wIs dC dI A cI cJ cZ z_5 H → va_S (fr A) s.heap H locs → lv_has ls 7 [(0, .ref (A 25)), (1, .int p0), (2, .int x2_6), (3, .int x3_7)] → WI p l e wsX9_fits 0 s m [.ref (A 25), .int p0] below meth c dC dI A cI cJ cZ r z' H locs (F0 m 4 ls []) := by
    intro n_8
    induction n_8 with
    | zero => intro x2_6 x3_7 z_5 H locs ls hf; rw [fX9_fits_L4_0] at hf; cases hf
    | succ n_8 ihK_1 =>
      intro x2_6 x3_7 z_5 H locs ls hf hP hS hl
      rw [fX9_fits_L4_s] at hf
      refine lv_iload_n hx hb dX9_fits_4 rfl (lv_at hl 3 rfl) ?_
      refine lv_aload_n hx hb dX9_fits_5 rfl (lv_at hl 0 rfl) ?_
      refine va_get (D := (dC, dI)) (ci := 9) (v := .int (z_5.1 25 21)) (C := RX9) (T := TX9) (N := 34) hx hb hts i9 hown hK hP 25 (wc_25 A cI cJ cZ z_5) rfl 21 (by decide) (hts (.fieldLink RX9 171 "LightestRulesModel" "searches" "I") (by decide +kernel)) (fun _ h9 => h9) rfl dX9_fits_6 ?_
      refine lv_icmp_ge (tgt := 89) hx hb dX9_fits_9 (by decide) (fun c_9 => ?_) (fun c_9 => ?_)
      · have hf := it_t c_9 hf
        exact hEK_1 _ _ _ _ _ _ hf hP hS (lv_sub hl [0, 1, 2, 3] rfl)
      · have hf := it_f c_9 hf
        refine lv_iload_n hx hb dX9_fits_12 rfl (lv_at hl 2 rfl) ?_
        refine lv_if_eq (tgt := 89) hx hb dX9_fits_13 (by decide) (fun c_10 => ?_) (fun c_10 => ?_)
        · have hf := it_t c_10 hf
          exact hEK_1 _ _ _ _ _ _ hf hP hS (lv_sub hl [0, 1, 2, 3] rfl)
        · have hf := it_f c_10 hf
          refine lv_iconst (v := 0) hx hb dX9_fits_16 (by decide) ?_
          refine lv_istore (lv' := [(4, .int (0 : Int32)), (0, .ref (A 25)), (1, .int p0), (2, .int x2_6), (3, .int x3_7)]) hx hb dX9_fits_17 hl (by decide) rfl (fun ls hl => ?_)
          refine lv_iload_n hx hb dX9_fits_19 rfl (lv_at hl 2 rfl) ?_
          refine lv_istore (lv' := [(5, .int p0), (4, .int (0 : Int32)), (0, .ref (A 25)), (1, .int p0), (2, .int x2_6), (3, .int x3_7)]) hx hb dX9_fits_20 hl (by decide) rfl (fun ls hl => ?_)
          refine lv_iconst (v := 0) hx hb dX9_fits_22 (by decide) ?_
          refine lv_istore (lv' := [(6, .int (0 : Int32)), (5, .int p0), (4, .int (0 : Int32)), (0, .ref (A 25)), (1, .int p0), (2, .int x2_6), (3, .int x3_7)]) hx hb dX9_fits_23 hl (by decide) rfl (fun ls hl => ?_)
          obtain ⟨K_11, eK_11, hf⟩ := fX9_fits_L25_g hf
          have hEK_11 : ∀ (x4_13 : Int32) (x5_14 : Int32) (x6_15 : Int32) (z_12 : Mem) (H : Heap) (locs : List Loc) (ls : Array Slot), K_11 x4_13 x5_14 x6_15 z_12 = some (r, z') → wIs dC dI A cI cJ cZ z_12 H → va_S (fr A) s.heap H locs → lv_has ls 7 [(0, .ref (A 25)), (1, .int p0), (2, .int x2_6), (3, .int x3_7), (4, .int x4_13), (5, .int x5_14), (6, .int x6_15)] → WI p l e wsX9_fits 0 s m [.ref (A 25), .int p0] below meth c dC dI A cI cJ cZ r z' H locs (F0 m 66 ls []) := by
            intro x4_13 x5_14 x6_15 z_12 H locs ls hf hP hS hl
            have hf := ap4 eK_11 hf
            refine lv_iload hx hb dX9_fits_66 (lv_at hl 4 rfl) ?_
            refine lv_aload_n hx hb dX9_fits_68 rfl (lv_at hl 0 rfl) ?_
            refine va_get (D := (dC, dI)) (ci := 9) (v := .ref (A 34)) (C := RX9) (T := TX9) (N := 34) hx hb hts i9 hown hK hP 25 (wc_25 A cI cJ cZ z_12) rfl 23 (by decide) (hts (.fieldLink RX9 34 "LightestRulesModel" "together" "[I") (by decide +kernel)) (fun _ h9 => h9) rfl dX9_fits_69 ?_
            refine lv_iload_n hx hb dX9_fits_72 rfl (lv_at hl 3 rfl) ?_
            obtain ⟨n_16, hf⟩ := rg_el hf
            refine va_iald hx hb hK hP 34 0 (wc_34 A cI cJ cZ z_12) rfl n_16 dX9_fits_73 ?_
            refine lv_topi (fun a_17 ea_17 => ?_)
            have hf := lt_at ea_17 hf; clear ea_17
            refine lv_icmp_ne (tgt := 81) hx hb dX9_fits_74 (by decide) (fun c_18 => ?_) (fun c_18 => ?_)
            · have hf := it_f c_18 hf
              refine lv_iconst (v := 0) hx hb dX9_fits_81 (by decide) ?_
              refine lv_istore_n (lv' := [(2, .int (0 : Int32)), (0, .ref (A 25)), (1, .int p0), (3, .int x3_7), (4, .int x4_13), (5, .int x5_14), (6, .int x6_15)]) hx hb dX9_fits_82 rfl hl (by decide) rfl (fun ls hl => ?_)
              obtain ⟨x3_19, ex3_19⟩ : ∃ q : Int32, q = x3_7 + (1 : Int32) := ⟨_, rfl⟩
              refine lv_iinc (v := x3_19) (lv' := [(3, .int x3_19), (2, .int (0 : Int32)), (0, .ref (A 25)), (1, .int p0), (4, .int x4_13), (5, .int x5_14), (6, .int x6_15)]) hx hb dX9_fits_83 hl (k := 3) rfl (by rw [ex3_19]; rfl) (by decide) rfl (fun ls hl => ?_)
              have hf := lt_at ex3_19 hf; clear ex3_19
              refine lv_goto (tgt := 4) hx hb dX9_fits_86 (by decide) ?_
              exact ihK_1 _ _ _ _ _ _ hf hP hS (lv_sub hl [2, 3, 1, 0] rfl)
            · have hf := it_t c_18 hf
              refine lv_iconst (v := 1) hx hb dX9_fits_77 (by decide) ?_
              refine lv_goto (tgt := 82) hx hb dX9_fits_78 (by decide) ?_
              refine lv_istore_n (lv' := [(2, .int (1 : Int32)), (0, .ref (A 25)), (1, .int p0), (3, .int x3_7), (4, .int x4_13), (5, .int x5_14), (6, .int x6_15)]) hx hb dX9_fits_82 rfl hl (by decide) rfl (fun ls hl => ?_)
              obtain ⟨x3_20, ex3_20⟩ : ∃ q : Int32, q = x3_7 + (1 : Int32) := ⟨_, rfl⟩
              refine lv_iinc (v := x3_20) (lv' := [(3, .int x3_20), (2, .int (1 : Int32)), (0, .ref (A 25)), (1, .int p0), (4, .int x4_13), (5, .int x5_14), (6, .int x6_15)]) hx hb dX9_fits_83 hl (k := 3) rfl (by rw [ex3_20]; rfl) (by decide) rfl (fun ls hl => ?_)
              have hf := lt_at ex3_20 hf; clear ex3_20
              refine lv_goto (tgt := 4) hx hb dX9_fits_86 (by decide) ?_
              exact ihK_1 _ _ _ _ _ _ hf hP hS (lv_sub hl [2, 3, 1, 0] rfl)
          have hLK_11 : ∀ (n_25 : Nat) (x4_22 : Int32) (x5_23 : Int32) (x6_24 : Int32) (z_21 : Mem) (H : Heap) (locs : List Loc) (ls : Array Slot), fX9_fits_L25 K_11 x3_7 n_25 x4_22 x5_23 x6_24 z_21 = some (r, z') → wIs dC dI A cI cJ cZ z_21 H → va_S (fr A) s.heap H locs → lv_has ls 7 [(0, .ref (A 25)), (1, .int p0), (2, .int x2_6), (3, .int x3_7), (4, .int x4_22), (5, .int x5_23), (6, .int x6_24)] → WI p l e wsX9_fits 0 s m [.ref (A 25), .int p0] below meth c dC dI A cI cJ cZ r z' H locs (F0 m 25 ls []) := by
            intro n_25
            induction n_25 with
            | zero => intro x4_22 x5_23 x6_24 z_21 H locs ls hf; rw [fX9_fits_L25_0] at hf; cases hf
            | succ n_25 ihK_11 =>
              intro x4_22 x5_23 x6_24 z_21 H locs ls hf hP hS hl
              rw [fX9_fits_L25_s] at hf
              refine lv_iload hx hb dX9_fits_25 (lv_at hl 6 rfl) ?_
              refine lv_iconst (v := 5) hx hb dX9_fits_27 (by decide) ?_
              refine lv_icmp_ge (tgt := 66) hx hb dX9_fits_28 (by decide) (fun c_26 => ?_) (fun c_26 => ?_)
              · have hf := it_t c_26 hf
                exact hEK_11 _ _ _ _ _ _ _ hf hP hS (lv_sub hl [0, 1, 2, 3, 4, 5, 6] rfl)
              · have hf := it_f c_26 hf
                refine lv_iload hx hb dX9_fits_31 (lv_at hl 4 rfl) ?_
                refine lv_aload_n hx hb dX9_fits_33 rfl (lv_at hl 0 rfl) ?_
                refine va_get (D := (dC, dI)) (ci := 9) (v := .ref (A 33)) (C := RX9) (T := TX9) (N := 34) hx hb hts i9 hown hK hP 25 (wc_25 A cI cJ cZ z_21) rfl 22 (by decide) (hts (.fieldLink RX9 31 "LightestRulesModel" "searched" "[I") (by decide +kernel)) (fun _ h9 => h9) rfl dX9_fits_34 ?_
                refine lv_iload_n hx hb dX9_fits_37 rfl (lv_at hl 3 rfl) ?_
                obtain ⟨n_27, hf⟩ := rg_el hf
                refine va_iald hx hb hK hP 33 0 (wc_33 A cI cJ cZ z_21) rfl n_27 dX9_fits_38 ?_
                refine lv_topi (fun a_28 ea_28 => ?_)
                have hf := lt_at ea_28 hf; clear ea_28
                refine lv_iload hx hb dX9_fits_39 (lv_at hl 6 rfl) ?_
                refine lv_ishr hx hb dX9_fits_41 ?_
                refine lv_iconst (v := 1) hx hb dX9_fits_42 (by decide) ?_
                refine lv_iand hx hb dX9_fits_43 ?_
                refine lv_iload hx hb dX9_fits_44 (lv_at hl 5 rfl) ?_
                refine lv_bipush (v := 10) hx hb dX9_fits_46 (by decide) ?_
                obtain ⟨n_29, hf⟩ := nz_el hf
                refine lv_irem hx hb dX9_fits_48 n_29 ?_
                refine lv_imul hx hb dX9_fits_49 ?_
                refine lv_iadd hx hb dX9_fits_50 ?_
                refine lv_topi (fun x4_30 ex4_30 => ?_)
                have hf := lt_at ex4_30 hf; clear ex4_30
                refine lv_istore (lv' := [(4, .int x4_30), (0, .ref (A 25)), (1, .int p0), (2, .int x2_6), (3, .int x3_7), (5, .int x5_23), (6, .int x6_24)]) hx hb dX9_fits_51 hl (by decide) rfl (fun ls hl => ?_)
                refine lv_iload hx hb dX9_fits_53 (lv_at hl 5 rfl) ?_
                refine lv_bipush (v := 10) hx hb dX9_fits_55 (by decide) ?_
                obtain ⟨n_31, hf⟩ := nz_el hf
                refine lv_idiv hx hb dX9_fits_57 n_31 ?_
                refine lv_topi (fun x5_32 ex5_32 => ?_)
                have hf := lt_at ex5_32 hf; clear ex5_32
                refine lv_istore (lv' := [(5, .int x5_32), (4, .int x4_30), (0, .ref (A 25)), (1, .int p0), (2, .int x2_6), (3, .int x3_7), (6, .int x6_24)]) hx hb dX9_fits_58 hl (by decide) rfl (fun ls hl => ?_)
                obtain ⟨x6_33, ex6_33⟩ : ∃ q : Int32, q = x6_24 + (1 : Int32) := ⟨_, rfl⟩
                refine lv_iinc (v := x6_33) (lv' := [(6, .int x6_33), (5, .int x5_32), (4, .int x4_30), (0, .ref (A 25)), (1, .int p0), (2, .int x2_6), (3, .int x3_7)]) hx hb dX9_fits_60 hl (k := 6) rfl (by rw [ex6_33]; rfl) (by decide) rfl (fun ls hl => ?_)
                have hf := lt_at ex6_33 hf; clear ex6_33
                refine lv_goto (tgt := 25) hx hb dX9_fits_63 (by decide) ?_
                exact ihK_11 _ _ _ _ _ _ _ hf hP hS (lv_sub hl [3, 4, 5, 6, 2, 1, 0] rfl)
          exact hLK_11 FU _ _ _ _ _ _ _ hf hP hS (lv_sub hl [3, 4, 5, 6, 2, 1, 0] rfl)
  exact hLK_1 FU _ _ _ _ _ _ hf hP hS (lv_sub hl [2, 3, 1, 0] rfl)
set_option maxHeartbeats 4000000 in
set_option maxRecDepth 100000 in
theorem tX9_tenTo {l : Launch} {dC : Nat → ClassId} {dI : Nat → Nat → Nat} {A : Nat → Nat} {t0 : Nat} {cI cJ cZ : ClassId} (hA : dst A) {p0 : Int32} {z : Mem} {r : Int32} {z' : Mem} (hf : fX9_tenTo p0 z = some (r, z')) : MI l dC dI A t0 cI cJ cZ yX9_tenTo wsX9_tenTo 0 [.int p0] z r z' := by
  refine Met.ofW (cc := cX9_tenTo) (maxL := 3) (ret := (some .int)) (by decide) rfl ?_
  intro p e s m args below meth c s₁ B hml hv
  obtain ⟨rfl, hP, hK, hZ⟩ := hv
  have hx := B.exec
  have hb := B.bytes
  have hr := B.returns
  have hts := atoms_spec (ws := wsX9_tenTo) B.pre
  have hown : s.vm.findClass RX9 = some m.cls := findClass_of_methodNamed B.named
  have hlocks := B.notSynchronized
  have hS : va_S (fr A) s.heap s.heap [] := va_S.rf
  have hl := lv_entry ([.int p0]) (n := 3) (Nat.le_of_ble_eq_true rfl)
  rw [lg_entry_eq]
  generalize (lg_sl ([.int p0]) ++ List.replicate (3 - (lg_sl ([.int p0])).length) Slot.unset).toArray = ls at hl ⊢
  have hl : lv_has ls 3 [(0, .int p0)] := hl
  have hP : wIs dC dI A cI cJ cZ z s.heap := hP
  rw [fX9_tenTo] at hf
  refine lv_iconst (v := 1) hx hb dX9_tenTo_0 (by decide) ?_
  refine lv_istore_n (lv' := [(1, .int (1 : Int32)), (0, .int p0)]) hx hb dX9_tenTo_1 rfl hl (by decide) rfl (fun ls hl => ?_)
  refine lv_iconst (v := 0) hx hb dX9_tenTo_2 (by decide) ?_
  refine lv_istore_n (lv' := [(2, .int (0 : Int32)), (1, .int (1 : Int32)), (0, .int p0)]) hx hb dX9_tenTo_3 rfl hl (by decide) rfl (fun ls hl => ?_)
  obtain ⟨K_1, eK_1, hf⟩ := fX9_tenTo_L4_g hf
  have hEK_1 : ∀ (x1_3 : Int32) (x2_4 : Int32) (z_2 : Mem) (H : Heap) (locs : List Loc) (ls : Array Slot), K_1 x1_3 x2_4 z_2 = some (r, z') → wIs dC dI A cI cJ cZ z_2 H → va_S (fr A) s.heap H locs → lv_has ls 3 [(0, .int p0), (1, .int x1_3), (2, .int x2_4)] → WI p l e wsX9_tenTo 0 s m [.int p0] below meth c dC dI A cI cJ cZ r z' H locs (F0 m 20 ls []) := by
    intro x1_3 x2_4 z_2 H locs ls hf hP hS hl
    have hf := ap3 eK_1 hf
    refine lv_iload_n hx hb dX9_tenTo_20 rfl (lv_at hl 1 rfl) ?_
    exact retI hx hb hr hlocks hP hS hf dX9_tenTo_21
  have hLK_1 : ∀ (n_8 : Nat) (x1_6 : Int32) (x2_7 : Int32) (z_5 : Mem) (H : Heap) (locs : List Loc) (ls : Array Slot), fX9_tenTo_L4 K_1 p0 n_8 x1_6 x2_7 z_5 = some (r, z') → wIs dC dI A cI cJ cZ z_5 H → va_S (fr A) s.heap H locs → lv_has ls 3 [(0, .int p0), (1, .int x1_6), (2, .int x2_7)] → WI p l e wsX9_tenTo 0 s m [.int p0] below meth c dC dI A cI cJ cZ r z' H locs (F0 m 4 ls []) := by
    intro n_8
    induction n_8 with
    | zero => intro x1_6 x2_7 z_5 H locs ls hf; rw [fX9_tenTo_L4_0] at hf; cases hf
    | succ n_8 ihK_1 =>
      intro x1_6 x2_7 z_5 H locs ls hf hP hS hl
      rw [fX9_tenTo_L4_s] at hf
      refine lv_iload_n hx hb dX9_tenTo_4 rfl (lv_at hl 2 rfl) ?_
      refine lv_iload_n hx hb dX9_tenTo_5 rfl (lv_at hl 0 rfl) ?_
      refine lv_icmp_ge (tgt := 20) hx hb dX9_tenTo_6 (by decide) (fun c_9 => ?_) (fun c_9 => ?_)
      · have hf := it_t c_9 hf
        exact hEK_1 _ _ _ _ _ _ hf hP hS (lv_sub hl [0, 1, 2] rfl)
      · have hf := it_f c_9 hf
        refine lv_iload_n hx hb dX9_tenTo_9 rfl (lv_at hl 1 rfl) ?_
        refine lv_bipush (v := 10) hx hb dX9_tenTo_10 (by decide) ?_
        refine lv_imul hx hb dX9_tenTo_12 ?_
        refine lv_topi (fun x1_10 ex1_10 => ?_)
        have hf := lt_at ex1_10 hf; clear ex1_10
        refine lv_istore_n (lv' := [(1, .int x1_10), (0, .int p0), (2, .int x2_7)]) hx hb dX9_tenTo_13 rfl hl (by decide) rfl (fun ls hl => ?_)
        obtain ⟨x2_11, ex2_11⟩ : ∃ q : Int32, q = x2_7 + (1 : Int32) := ⟨_, rfl⟩
        refine lv_iinc (v := x2_11) (lv' := [(2, .int x2_11), (1, .int x1_10), (0, .int p0)]) hx hb dX9_tenTo_14 hl (k := 2) rfl (by rw [ex2_11]; rfl) (by decide) rfl (fun ls hl => ?_)
        have hf := lt_at ex2_11 hf; clear ex2_11
        refine lv_goto (tgt := 4) hx hb dX9_tenTo_17 (by decide) ?_
        exact ihK_1 _ _ _ _ _ _ hf hP hS (lv_sub hl [2, 1, 0] rfl)
  exact hLK_1 FU _ _ _ _ _ _ hf hP hS (lv_sub hl [2, 1, 0] rfl)
set_option maxHeartbeats 4000000 in
set_option maxRecDepth 100000 in
theorem tX9_layRows {l : Launch} {dC : Nat → ClassId} {dI : Nat → Nat → Nat} {A : Nat → Nat} {t0 : Nat} {cI cJ cZ : ClassId} (hA : dst A)  {z : Mem} {r : Int32} {z' : Mem} (hf : fX9_layRows z = some (r, z')) : MI l dC dI A t0 cI cJ cZ yX9_layRows wsX9_layRows 1 [.ref (A 25)] z r z' := by
  refine Met.ofW (cc := cX9_layRows) (maxL := 5) (ret := (some .int)) (by decide) rfl ?_
  intro p e s m args below meth c s₁ B hml hv
  obtain ⟨rfl, hP, hK, hZ⟩ := hv
  have hx := B.exec
  have hb := B.bytes
  have hr := B.returns
  have hts := atoms_spec (ws := wsX9_layRows) B.pre
  have hown : s.vm.findClass RX9 = some m.cls := findClass_of_methodNamed B.named
  have hlocks := B.notSynchronized
  have hS : va_S (fr A) s.heap s.heap [] := va_S.rf
  have i9 : ∀ w ∈ wsX90, w ∈ wsX9_layRows := fun _ h => List.mem_cons_of_mem _ (List.mem_append_right _ h)
  have hl := lv_entry ([.ref (A 25)]) (n := 5) (Nat.le_of_ble_eq_true rfl)
  rw [lg_entry_eq]
  generalize (lg_sl ([.ref (A 25)]) ++ List.replicate (5 - (lg_sl ([.ref (A 25)])).length) Slot.unset).toArray = ls at hl ⊢
  have hl : lv_has ls 5 [(0, .ref (A 25))] := hl
  have hP : wIs dC dI A cI cJ cZ z s.heap := hP
  rw [fX9_layRows] at hf
  refine lv_iconst (v := 0) hx hb dX9_layRows_0 (by decide) ?_
  refine lv_istore_n (lv' := [(1, .int (0 : Int32)), (0, .ref (A 25))]) hx hb dX9_layRows_1 rfl hl (by decide) rfl (fun ls hl => ?_)
  refine lv_iconst (v := 0) hx hb dX9_layRows_2 (by decide) ?_
  refine lv_istore_n (lv' := [(2, .int (0 : Int32)), (1, .int (0 : Int32)), (0, .ref (A 25))]) hx hb dX9_layRows_3 rfl hl (by decide) rfl (fun ls hl => ?_)
  obtain ⟨K_1, eK_1, hf⟩ := fX9_layRows_L4_g hf
  have hEK_1 : ∀ (x2_3 : Int32) (z_2 : Mem) (H : Heap) (locs : List Loc) (ls : Array Slot), K_1 x2_3 z_2 = some (r, z') → wIs dC dI A cI cJ cZ z_2 H → va_S (fr A) s.heap H locs → lv_has ls 5 [(0, .ref (A 25)), (1, .int (0 : Int32)), (2, .int x2_3)] → WI p l e wsX9_layRows 1 s m [.ref (A 25)] below meth c dC dI A cI cJ cZ r z' H locs (F0 m 30 ls []) := by
    intro x2_3 z_2 H locs ls hf hP hS hl
    have hf := ap2 eK_1 hf
    refine lv_iconst (v := 0) hx hb dX9_layRows_30 (by decide) ?_
    refine lv_istore_n (lv' := [(2, .int (0 : Int32)), (0, .ref (A 25)), (1, .int (0 : Int32))]) hx hb dX9_layRows_31 rfl hl (by decide) rfl (fun ls hl => ?_)
    obtain ⟨K_4, eK_4, hf⟩ := fX9_layRows_L32_g hf
    have hEK_4 : ∀ (x1_6 : Int32) (x2_7 : Int32) (z_5 : Mem) (H : Heap) (locs : List Loc) (ls : Array Slot), K_4 x1_6 x2_7 z_5 = some (r, z') → wIs dC dI A cI cJ cZ z_5 H → va_S (fr A) s.heap H locs → lv_has ls 5 [(0, .ref (A 25)), (1, .int x1_6), (2, .int x2_7)] → WI p l e wsX9_layRows 1 s m [.ref (A 25)] below meth c dC dI A cI cJ cZ r z' H locs (F0 m 135 ls []) := by
      intro x1_6 x2_7 z_5 H locs ls hf hP hS hl
      have hf := ap3 eK_4 hf
      refine lv_iload_n hx hb dX9_layRows_135 rfl (lv_at hl 1 rfl) ?_
      exact retI hx hb hr hlocks hP hS hf dX9_layRows_136
    have hLK_4 : ∀ (n_11 : Nat) (x1_9 : Int32) (x2_10 : Int32) (z_8 : Mem) (H : Heap) (locs : List Loc) (ls : Array Slot), fX9_layRows_L32 K_4  n_11 x1_9 x2_10 z_8 = some (r, z') → wIs dC dI A cI cJ cZ z_8 H → va_S (fr A) s.heap H locs → lv_has ls 5 [(0, .ref (A 25)), (1, .int x1_9), (2, .int x2_10)] → WI p l e wsX9_layRows 1 s m [.ref (A 25)] below meth c dC dI A cI cJ cZ r z' H locs (F0 m 32 ls []) := by
      intro n_11
      induction n_11 with
      | zero => intro x1_9 x2_10 z_8 H locs ls hf; rw [fX9_layRows_L32_0] at hf; cases hf
      | succ n_11 ihK_4 =>
        intro x1_9 x2_10 z_8 H locs ls hf hP hS hl
        rw [fX9_layRows_L32_s] at hf
        refine lv_iload_n hx hb dX9_layRows_32 rfl (lv_at hl 2 rfl) ?_
        refine lv_ldc hx hb hown (hts (.constant RX9 174 (100000)) (by decide +kernel)) dX9_layRows_33 ?_
        refine lv_icmp_ge (tgt := 135) hx hb dX9_layRows_35 (by decide) (fun c_12 => ?_) (fun c_12 => ?_)
        · have hf := it_t c_12 hf
          exact hEK_4 _ _ _ _ _ _ hf hP hS (lv_sub hl [0, 1, 2] rfl)
        · have hf := it_f c_12 hf
          refine lv_aload_n hx hb dX9_layRows_38 rfl (lv_at hl 0 rfl) ?_
          refine lv_iload_n hx hb dX9_layRows_39 rfl (lv_at hl 2 rfl) ?_
          obtain ⟨r_13, z_14, h_15, hf⟩ := cl_el hf
          refine callVI (As := [.int x2_10]) (rest := []) (ci := 9) (q0 := 25) ⟨hx, hb, hml, hown, hts⟩ (tX9_fits (l := l) (dC := dC) (dI := dI) (t0 := t0) (cI := cI) (cJ := cJ) (cZ := cZ) hA h_15) (cwV 1 hts gX9_layRows_X9_fits rfl rfl rfl (by decide +kernel) ⟨Nat.le_of_ble_eq_true rfl, Nat.le_of_ble_eq_true rfl⟩) hK hZ hP hS rfl (wc_25 A cI cJ cZ z_8) rfl rfl rfl hl.1 (Nat.le_of_ble_eq_true rfl) ⟨Nat.zero_le _, Nat.zero_le _⟩ dX9_layRows_40 (fun H locs hP hS => ?_)
          refine lv_if_eq (tgt := 129) hx hb dX9_layRows_43 (by decide) (fun c_16 => ?_) (fun c_16 => ?_)
          · have hf := it_t c_16 hf
            obtain ⟨x2_17, ex2_17⟩ : ∃ q : Int32, q = x2_10 + (1 : Int32) := ⟨_, rfl⟩
            refine lv_iinc (v := x2_17) (lv' := [(2, .int x2_17), (0, .ref (A 25)), (1, .int x1_9)]) hx hb dX9_layRows_129 hl (k := 2) rfl (by rw [ex2_17]; rfl) (by decide) rfl (fun ls hl => ?_)
            have hf := lt_at ex2_17 hf; clear ex2_17
            refine lv_goto (tgt := 32) hx hb dX9_layRows_132 (by decide) ?_
            exact ihK_4 _ _ _ _ _ _ hf hP hS (lv_sub hl [1, 2, 0] rfl)
          · have hf := it_f c_16 hf
            obtain ⟨x1_18, ex1_18⟩ : ∃ q : Int32, q = x1_9 + (1 : Int32) := ⟨_, rfl⟩
            refine lv_iinc (v := x1_18) (lv' := [(1, .int x1_18), (0, .ref (A 25)), (2, .int x2_10)]) hx hb dX9_layRows_46 hl (k := 1) rfl (by rw [ex1_18]; rfl) (by decide) rfl (fun ls hl => ?_)
            have hf := lt_at ex1_18 hf; clear ex1_18
            refine lv_iconst (v := 0) hx hb dX9_layRows_49 (by decide) ?_
            refine lv_istore_n (lv' := [(3, .int (0 : Int32)), (1, .int x1_18), (0, .ref (A 25)), (2, .int x2_10)]) hx hb dX9_layRows_50 rfl hl (by decide) rfl (fun ls hl => ?_)
            obtain ⟨K_19, eK_19, hf⟩ := fX9_layRows_L51_g hf
            have hEK_19 : ∀ (x3_21 : Int32) (z_20 : Mem) (H : Heap) (locs : List Loc) (ls : Array Slot), K_19 x3_21 z_20 = some (r, z') → wIs dC dI A cI cJ cZ z_20 H → va_S (fr A) s.heap H locs → lv_has ls 5 [(0, .ref (A 25)), (1, .int x1_18), (2, .int x2_10), (3, .int x3_21)] → WI p l e wsX9_layRows 1 s m [.ref (A 25)] below meth c dC dI A cI cJ cZ r z' H locs (F0 m 129 ls []) := by
              intro x3_21 z_20 H locs ls hf hP hS hl
              have hf := ap2 eK_19 hf
              obtain ⟨x2_22, ex2_22⟩ : ∃ q : Int32, q = x2_10 + (1 : Int32) := ⟨_, rfl⟩
              refine lv_iinc (v := x2_22) (lv' := [(2, .int x2_22), (0, .ref (A 25)), (1, .int x1_18), (3, .int x3_21)]) hx hb dX9_layRows_129 hl (k := 2) rfl (by rw [ex2_22]; rfl) (by decide) rfl (fun ls hl => ?_)
              have hf := lt_at ex2_22 hf; clear ex2_22
              refine lv_goto (tgt := 32) hx hb dX9_layRows_132 (by decide) ?_
              exact ihK_4 _ _ _ _ _ _ hf hP hS (lv_sub hl [1, 2, 0] rfl)
            have hLK_19 : ∀ (n_25 : Nat) (x3_24 : Int32) (z_23 : Mem) (H : Heap) (locs : List Loc) (ls : Array Slot), fX9_layRows_L51 K_19 x2_10 n_25 x3_24 z_23 = some (r, z') → wIs dC dI A cI cJ cZ z_23 H → va_S (fr A) s.heap H locs → lv_has ls 5 [(0, .ref (A 25)), (1, .int x1_18), (2, .int x2_10), (3, .int x3_24)] → WI p l e wsX9_layRows 1 s m [.ref (A 25)] below meth c dC dI A cI cJ cZ r z' H locs (F0 m 51 ls []) := by
              intro n_25
              induction n_25 with
              | zero => intro x3_24 z_23 H locs ls hf; rw [fX9_layRows_L51_0] at hf; cases hf
              | succ n_25 ihK_19 =>
                intro x3_24 z_23 H locs ls hf hP hS hl
                rw [fX9_layRows_L51_s] at hf
                refine lv_iload_n hx hb dX9_layRows_51 rfl (lv_at hl 3 rfl) ?_
                refine lv_iconst (v := 5) hx hb dX9_layRows_52 (by decide) ?_
                refine lv_icmp_ge (tgt := 129) hx hb dX9_layRows_53 (by decide) (fun c_26 => ?_) (fun c_26 => ?_)
                · have hf := it_t c_26 hf
                  exact hEK_19 _ _ _ _ _ hf hP hS (lv_sub hl [0, 1, 2, 3] rfl)
                · have hf := it_f c_26 hf
                  refine lv_iload_n hx hb dX9_layRows_56 rfl (lv_at hl 2 rfl) ?_
                  refine lv_iload_n hx hb dX9_layRows_57 rfl (lv_at hl 3 rfl) ?_
                  obtain ⟨r_27, z_28, h_29, hf⟩ := cl_el hf
                  refine callSI (As := [.int x3_24]) (rest := [.int x2_10]) ⟨hx, hb, hml, hown, hts⟩ (tX9_tenTo (l := l) (dC := dC) (dI := dI) (t0 := t0) (cI := cI) (cJ := cJ) (cZ := cZ) hA h_29) (va_cwS 1 hts gX9_layRows_X9_tenTo rfl rfl rfl (by decide +kernel) ⟨Nat.le_of_ble_eq_true rfl, Nat.le_of_ble_eq_true rfl⟩) hK hZ hP hS rfl rfl hl.1 (Nat.le_of_ble_eq_true rfl) ⟨Nat.zero_le _, Nat.zero_le _⟩ dX9_layRows_58 (fun H locs hP hS => ?_)
                  obtain ⟨n_30, hf⟩ := nz_el hf
                  refine lv_idiv hx hb dX9_layRows_61 n_30 ?_
                  refine lv_bipush (v := 10) hx hb dX9_layRows_62 (by decide) ?_
                  obtain ⟨n_31, hf⟩ := nz_el hf
                  refine lv_irem hx hb dX9_layRows_64 n_31 ?_
                  refine lv_topi (fun x4_32 ex4_32 => ?_)
                  have hf := lt_at ex4_32 hf; clear ex4_32
                  refine lv_istore (lv' := [(4, .int x4_32), (0, .ref (A 25)), (1, .int x1_18), (2, .int x2_10), (3, .int x3_24)]) hx hb dX9_layRows_65 hl (by decide) rfl (fun ls hl => ?_)
                  refine lv_aload_n hx hb dX9_layRows_67 rfl (lv_at hl 1 rfl) ?_
                  refine va_get (D := (dC, dI)) (ci := 9) (v := .ref (A 35)) (C := RX9) (T := TX9) (N := 34) hx hb hts i9 hown hK hP 25 (wc_25 A cI cJ cZ z_28) rfl 24 (by decide) (hts (.fieldLink RX9 37 "LightestRulesModel" "leastOf" "[I") (by decide +kernel)) (fun _ h9 => h9) rfl dX9_layRows_68 ?_
                  refine lv_iload_n hx hb dX9_layRows_71 rfl (lv_at hl 4 rfl) ?_
                  refine lv_iload hx hb dX9_layRows_72 (lv_at hl 0 rfl) ?_
                  refine lv_aload_n hx hb dX9_layRows_74 rfl (lv_at hl 1 rfl) ?_
                  refine va_get (D := (dC, dI)) (ci := 9) (v := .ref (A 35)) (C := RX9) (T := TX9) (N := 34) hx hb hts i9 hown hK hP 25 (wc_25 A cI cJ cZ z_28) rfl 24 (by decide) (hts (.fieldLink RX9 37 "LightestRulesModel" "leastOf" "[I") (by decide +kernel)) (fun _ h9 => h9) rfl dX9_layRows_75 ?_
                  refine lv_iload_n hx hb dX9_layRows_78 rfl (lv_at hl 4 rfl) ?_
                  obtain ⟨n_33, hf⟩ := rg_el hf
                  refine va_iald hx hb hK hP 35 0 (wc_35 A cI cJ cZ z_28) rfl n_33 dX9_layRows_79 ?_
                  refine lv_topi (fun a_34 ea_34 => ?_)
                  have hf := lt_at ea_34 hf; clear ea_34
                  obtain ⟨K_35, eK_35, hf⟩ := jn_el hf
                  have hK_35 : ∀ (v_36 : Int32) (z_37 : Mem) (H : Heap) (locs : List Loc) (ls : Array Slot), K_35 v_36 z_37 = some (r, z') → wIs dC dI A cI cJ cZ z_37 H → va_S (fr A) s.heap H locs → lv_has ls 5 [(4, .int x4_32), (0, .ref (A 25)), (1, .int x1_18), (2, .int x2_10), (3, .int x3_24)] → WI p l e wsX9_layRows 1 s m [.ref (A 25)] below meth c dC dI A cI cJ cZ r z' H locs (F0 m 94 ls [.int v_36, .int x3_24, .ref (A 35)]) := by
                    intro v_36 z_37 H locs ls hf hP hS hl
                    have hf := ap2 eK_35 hf
                    obtain ⟨n_38, hf⟩ := rg_el hf
                    refine va_iast hx hb hK hP (wD hA cI cJ cZ z_37) hS 35 0 (wc_35 A cI cJ cZ z_37) rfl n_38 dX9_layRows_94 (fun H locs hP _ hS => ?_)
                    rw [wa_35 A cI cJ cZ z_37 x3_24.toNatClampNeg v_36] at hP
                    obtain ⟨z_39, hP, hf⟩ := lt_P (P := fun q => wIs dC dI A cI cJ cZ q H) hP hf
                    refine lv_aload_n hx hb dX9_layRows_95 rfl (lv_at hl 1 rfl) ?_
                    refine va_get (D := (dC, dI)) (ci := 9) (v := .ref (A 36)) (C := RX9) (T := TX9) (N := 34) hx hb hts i9 hown hK hP 25 (wc_25 A cI cJ cZ z_39) rfl 25 (by decide) (hts (.fieldLink RX9 40 "LightestRulesModel" "mostOf" "[I") (by decide +kernel)) (fun _ h9 => h9) rfl dX9_layRows_96 ?_
                    refine lv_iload_n hx hb dX9_layRows_99 rfl (lv_at hl 4 rfl) ?_
                    refine lv_iload hx hb dX9_layRows_100 (lv_at hl 0 rfl) ?_
                    refine lv_aload_n hx hb dX9_layRows_102 rfl (lv_at hl 1 rfl) ?_
                    refine va_get (D := (dC, dI)) (ci := 9) (v := .ref (A 36)) (C := RX9) (T := TX9) (N := 34) hx hb hts i9 hown hK hP 25 (wc_25 A cI cJ cZ z_39) rfl 25 (by decide) (hts (.fieldLink RX9 40 "LightestRulesModel" "mostOf" "[I") (by decide +kernel)) (fun _ h9 => h9) rfl dX9_layRows_103 ?_
                    refine lv_iload_n hx hb dX9_layRows_106 rfl (lv_at hl 4 rfl) ?_
                    obtain ⟨n_40, hf⟩ := rg_el hf
                    refine va_iald hx hb hK hP 36 0 (wc_36 A cI cJ cZ z_39) rfl n_40 dX9_layRows_107 ?_
                    refine lv_topi (fun a_41 ea_41 => ?_)
                    have hf := lt_at ea_41 hf; clear ea_41
                    refine lv_icmp_le (tgt := 116) hx hb dX9_layRows_108 (by decide) (fun c_42 => ?_) (fun c_42 => ?_)
                    · have hf := it_t c_42 hf
                      refine lv_aload_n hx hb dX9_layRows_116 rfl (lv_at hl 1 rfl) ?_
                      refine va_get (D := (dC, dI)) (ci := 9) (v := .ref (A 36)) (C := RX9) (T := TX9) (N := 34) hx hb hts i9 hown hK hP 25 (wc_25 A cI cJ cZ z_39) rfl 25 (by decide) (hts (.fieldLink RX9 40 "LightestRulesModel" "mostOf" "[I") (by decide +kernel)) (fun _ h9 => h9) rfl dX9_layRows_117 ?_
                      refine lv_iload_n hx hb dX9_layRows_120 rfl (lv_at hl 4 rfl) ?_
                      obtain ⟨n_43, hf⟩ := rg_el hf
                      refine va_iald hx hb hK hP 36 0 (wc_36 A cI cJ cZ z_39) rfl n_43 dX9_layRows_121 ?_
                      refine lv_topi (fun a_44 ea_44 => ?_)
                      have hf := lt_at ea_44 hf; clear ea_44
                      obtain ⟨n_45, hf⟩ := rg_el hf
                      refine va_iast hx hb hK hP (wD hA cI cJ cZ z_39) hS 36 0 (wc_36 A cI cJ cZ z_39) rfl n_45 dX9_layRows_122 (fun H locs hP _ hS => ?_)
                      rw [wa_36 A cI cJ cZ z_39 x3_24.toNatClampNeg a_44] at hP
                      obtain ⟨z_46, hP, hf⟩ := lt_P (P := fun q => wIs dC dI A cI cJ cZ q H) hP hf
                      obtain ⟨x3_47, ex3_47⟩ : ∃ q : Int32, q = x3_24 + (1 : Int32) := ⟨_, rfl⟩
                      refine lv_iinc (v := x3_47) (lv' := [(3, .int x3_47), (4, .int x4_32), (0, .ref (A 25)), (1, .int x1_18), (2, .int x2_10)]) hx hb dX9_layRows_123 hl (k := 4) rfl (by rw [ex3_47]; rfl) (by decide) rfl (fun ls hl => ?_)
                      have hf := lt_at ex3_47 hf; clear ex3_47
                      refine lv_goto (tgt := 51) hx hb dX9_layRows_126 (by decide) ?_
                      exact ihK_19 _ _ _ _ _ hf hP hS (lv_sub hl [2, 3, 4, 0] rfl)
                    · have hf := it_f c_42 hf
                      refine lv_iload hx hb dX9_layRows_111 (lv_at hl 0 rfl) ?_
                      refine lv_goto (tgt := 122) hx hb dX9_layRows_113 (by decide) ?_
                      obtain ⟨n_48, hf⟩ := rg_el hf
                      refine va_iast hx hb hK hP (wD hA cI cJ cZ z_39) hS 36 0 (wc_36 A cI cJ cZ z_39) rfl n_48 dX9_layRows_122 (fun H locs hP _ hS => ?_)
                      rw [wa_36 A cI cJ cZ z_39 x3_24.toNatClampNeg x4_32] at hP
                      obtain ⟨z_49, hP, hf⟩ := lt_P (P := fun q => wIs dC dI A cI cJ cZ q H) hP hf
                      obtain ⟨x3_50, ex3_50⟩ : ∃ q : Int32, q = x3_24 + (1 : Int32) := ⟨_, rfl⟩
                      refine lv_iinc (v := x3_50) (lv' := [(3, .int x3_50), (4, .int x4_32), (0, .ref (A 25)), (1, .int x1_18), (2, .int x2_10)]) hx hb dX9_layRows_123 hl (k := 4) rfl (by rw [ex3_50]; rfl) (by decide) rfl (fun ls hl => ?_)
                      have hf := lt_at ex3_50 hf; clear ex3_50
                      refine lv_goto (tgt := 51) hx hb dX9_layRows_126 (by decide) ?_
                      exact ihK_19 _ _ _ _ _ hf hP hS (lv_sub hl [2, 3, 4, 0] rfl)
                  refine lv_icmp_ge (tgt := 88) hx hb dX9_layRows_80 (by decide) (fun c_51 => ?_) (fun c_51 => ?_)
                  · have hf := it_t c_51 hf
                    refine lv_aload_n hx hb dX9_layRows_88 rfl (lv_at hl 1 rfl) ?_
                    refine va_get (D := (dC, dI)) (ci := 9) (v := .ref (A 35)) (C := RX9) (T := TX9) (N := 34) hx hb hts i9 hown hK hP 25 (wc_25 A cI cJ cZ z_28) rfl 24 (by decide) (hts (.fieldLink RX9 37 "LightestRulesModel" "leastOf" "[I") (by decide +kernel)) (fun _ h9 => h9) rfl dX9_layRows_89 ?_
                    refine lv_iload_n hx hb dX9_layRows_92 rfl (lv_at hl 4 rfl) ?_
                    obtain ⟨n_52, hf⟩ := rg_el hf
                    refine va_iald hx hb hK hP 35 0 (wc_35 A cI cJ cZ z_28) rfl n_52 dX9_layRows_93 ?_
                    refine lv_topi (fun a_53 ea_53 => ?_)
                    have hf := lt_at ea_53 hf; clear ea_53
                    exact hK_35 _ _ _ _ _ hf hP hS (lv_sub hl [0, 1, 2, 3, 4] rfl)
                  · have hf := it_f c_51 hf
                    refine lv_iload hx hb dX9_layRows_83 (lv_at hl 0 rfl) ?_
                    refine lv_goto (tgt := 94) hx hb dX9_layRows_85 (by decide) ?_
                    exact hK_35 _ _ _ _ _ hf hP hS (lv_sub hl [0, 1, 2, 3, 4] rfl)
            exact hLK_19 FU _ _ _ _ _ hf hP hS (lv_sub hl [2, 1, 3, 0] rfl)
    exact hLK_4 FU _ _ _ _ _ _ hf hP hS (lv_sub hl [1, 2, 0] rfl)
  have hLK_1 : ∀ (n_56 : Nat) (x2_55 : Int32) (z_54 : Mem) (H : Heap) (locs : List Loc) (ls : Array Slot), fX9_layRows_L4 K_1  n_56 x2_55 z_54 = some (r, z') → wIs dC dI A cI cJ cZ z_54 H → va_S (fr A) s.heap H locs → lv_has ls 5 [(0, .ref (A 25)), (1, .int (0 : Int32)), (2, .int x2_55)] → WI p l e wsX9_layRows 1 s m [.ref (A 25)] below meth c dC dI A cI cJ cZ r z' H locs (F0 m 4 ls []) := by
    intro n_56
    induction n_56 with
    | zero => intro x2_55 z_54 H locs ls hf; rw [fX9_layRows_L4_0] at hf; cases hf
    | succ n_56 ihK_1 =>
      intro x2_55 z_54 H locs ls hf hP hS hl
      rw [fX9_layRows_L4_s] at hf
      refine lv_iload_n hx hb dX9_layRows_4 rfl (lv_at hl 2 rfl) ?_
      refine lv_iconst (v := 5) hx hb dX9_layRows_5 (by decide) ?_
      refine lv_icmp_ge (tgt := 30) hx hb dX9_layRows_6 (by decide) (fun c_57 => ?_) (fun c_57 => ?_)
      · have hf := it_t c_57 hf
        exact hEK_1 _ _ _ _ _ hf hP hS (lv_sub hl [0, 1, 2] rfl)
      · have hf := it_f c_57 hf
        refine lv_aload_n hx hb dX9_layRows_9 rfl (lv_at hl 0 rfl) ?_
        refine va_get (D := (dC, dI)) (ci := 9) (v := .ref (A 35)) (C := RX9) (T := TX9) (N := 34) hx hb hts i9 hown hK hP 25 (wc_25 A cI cJ cZ z_54) rfl 24 (by decide) (hts (.fieldLink RX9 37 "LightestRulesModel" "leastOf" "[I") (by decide +kernel)) (fun _ h9 => h9) rfl dX9_layRows_10 ?_
        refine lv_iload_n hx hb dX9_layRows_13 rfl (lv_at hl 2 rfl) ?_
        refine lv_bipush (v := 9) hx hb dX9_layRows_14 (by decide) ?_
        obtain ⟨n_58, hf⟩ := rg_el hf
        refine va_iast hx hb hK hP (wD hA cI cJ cZ z_54) hS 35 0 (wc_35 A cI cJ cZ z_54) rfl n_58 dX9_layRows_16 (fun H locs hP _ hS => ?_)
        rw [wa_35 A cI cJ cZ z_54 x2_55.toNatClampNeg (9 : Int32)] at hP
        obtain ⟨z_59, hP, hf⟩ := lt_P (P := fun q => wIs dC dI A cI cJ cZ q H) hP hf
        refine lv_aload_n hx hb dX9_layRows_17 rfl (lv_at hl 0 rfl) ?_
        refine va_get (D := (dC, dI)) (ci := 9) (v := .ref (A 36)) (C := RX9) (T := TX9) (N := 34) hx hb hts i9 hown hK hP 25 (wc_25 A cI cJ cZ z_59) rfl 25 (by decide) (hts (.fieldLink RX9 40 "LightestRulesModel" "mostOf" "[I") (by decide +kernel)) (fun _ h9 => h9) rfl dX9_layRows_18 ?_
        refine lv_iload_n hx hb dX9_layRows_21 rfl (lv_at hl 2 rfl) ?_
        refine lv_iconst (v := 0) hx hb dX9_layRows_22 (by decide) ?_
        obtain ⟨n_60, hf⟩ := rg_el hf
        refine va_iast hx hb hK hP (wD hA cI cJ cZ z_59) hS 36 0 (wc_36 A cI cJ cZ z_59) rfl n_60 dX9_layRows_23 (fun H locs hP _ hS => ?_)
        rw [wa_36 A cI cJ cZ z_59 x2_55.toNatClampNeg (0 : Int32)] at hP
        obtain ⟨z_61, hP, hf⟩ := lt_P (P := fun q => wIs dC dI A cI cJ cZ q H) hP hf
        obtain ⟨x2_62, ex2_62⟩ : ∃ q : Int32, q = x2_55 + (1 : Int32) := ⟨_, rfl⟩
        refine lv_iinc (v := x2_62) (lv' := [(2, .int x2_62), (0, .ref (A 25)), (1, .int (0 : Int32))]) hx hb dX9_layRows_24 hl (k := 2) rfl (by rw [ex2_62]; rfl) (by decide) rfl (fun ls hl => ?_)
        have hf := lt_at ex2_62 hf; clear ex2_62
        refine lv_goto (tgt := 4) hx hb dX9_layRows_27 (by decide) ?_
        exact ihK_1 _ _ _ _ _ hf hP hS (lv_sub hl [1, 2, 0] rfl)
  exact hLK_1 FU _ _ _ _ _ hf hP hS (lv_sub hl [2, 1, 0] rfl)
