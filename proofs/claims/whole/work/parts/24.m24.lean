set_option maxHeartbeats 4000000 in
set_option maxRecDepth 100000 in
theorem tX4_rowsFrom_d4 {l : Launch} {dC : Nat → ClassId} {dI : Nat → Nat → Nat} {A : Nat → Nat} {t0 : Nat} {cI cJ cZ : ClassId} (hA : dst A) {p1 : Int32} {z : Mem} {r : Int32} {z' : Mem} (hf : fX4_rowsFrom_d4 p1 z = some (r, z')) : MI l dC dI A t0 cI cJ cZ yX4_rowsFrom wsX4_rowsFrom 3 [.ref (A 6), .int p1] z r z' := by
  refine Met.ofW (cc := cX4_rowsFrom) (maxL := 6) (ret := (some .int)) (by decide) rfl ?_
  intro p e s m args below meth c s₁ B hml hv
  obtain ⟨rfl, hP, hK, hZ⟩ := hv
  have hx := B.exec
  have hb := B.bytes
  have hr := B.returns
  have hts := atoms_spec (ws := wsX4_rowsFrom) B.pre
  have hown : s.vm.findClass RX4 = some m.cls := findClass_of_methodNamed B.named
  have hlocks := B.notSynchronized
  have hS : va_S (fr A) s.heap s.heap [] := va_S.rf
  have hl := lv_entry ([.ref (A 6), .int p1]) (n := 6) (Nat.le_of_ble_eq_true rfl)
  rw [lg_entry_eq]
  generalize (lg_sl ([.ref (A 6), .int p1]) ++ List.replicate (6 - (lg_sl ([.ref (A 6), .int p1])).length) Slot.unset).toArray = ls at hl ⊢
  have hl : lv_has ls 6 [(0, .ref (A 6)), (1, .int p1)] := hl
  have hP : wIs dC dI A cI cJ cZ z s.heap := hP
  rw [fX4_rowsFrom_d4] at hf
  refine lv_iload_n hx hb dX4_rowsFrom_0 rfl (lv_at hl 1 rfl) ?_
  refine lv_if_lt (tgt := 9) hx hb dX4_rowsFrom_1 (by decide) (fun c_1 => ?_) (fun c_1 => ?_)
  · have hf := it_t c_1 hf
    refine lv_iconst (v := 1) hx hb dX4_rowsFrom_9 (by decide) ?_
    exact retI hx hb hr hlocks hP hS hf dX4_rowsFrom_10
  · have hf := it_f c_1 hf
    refine lv_iload_n hx hb dX4_rowsFrom_4 rfl (lv_at hl 1 rfl) ?_
    refine lv_iconst (v := 5) hx hb dX4_rowsFrom_5 (by decide) ?_
    refine lv_icmp_lt (tgt := 11) hx hb dX4_rowsFrom_6 (by decide) (fun c_2 => ?_) (fun c_2 => ?_)
    · have hf := it_t c_2 hf
      refine lv_aload_n hx hb dX4_rowsFrom_11 rfl (lv_at hl 0 rfl) ?_
      refine lv_iload_n hx hb dX4_rowsFrom_12 rfl (lv_at hl 1 rfl) ?_
      obtain ⟨r_3, z_4, h_5, hf⟩ := cl_el hf
      refine callVI (As := [.int p1]) (rest := []) (ci := 4) (q0 := 6) ⟨hx, hb, hml, hown, hts⟩ (tX4_fewestFor (l := l) (dC := dC) (dI := dI) (t0 := t0) (cI := cI) (cJ := cJ) (cZ := cZ) hA h_5) (cwV 1 hts gX4_rowsFrom_X4_fewestFor rfl rfl rfl (by decide +kernel) ⟨Nat.le_of_ble_eq_true rfl, Nat.le_of_ble_eq_true rfl⟩) hK hZ hP hS rfl (wc_6 A cI cJ cZ z) rfl rfl rfl hl.1 (Nat.le_of_ble_eq_true rfl) ⟨Nat.zero_le _, Nat.zero_le _⟩ dX4_rowsFrom_13 (fun H locs hP hS => ?_)
      refine lv_istore_n (lv' := [(2, .int r_3), (0, .ref (A 6)), (1, .int p1)]) hx hb dX4_rowsFrom_16 rfl hl (by decide) rfl (fun ls hl => ?_)
      refine lv_aload_n hx hb dX4_rowsFrom_17 rfl (lv_at hl 1 rfl) ?_
      refine lv_iload_n hx hb dX4_rowsFrom_18 rfl (lv_at hl 2 rfl) ?_
      obtain ⟨r_6, z_7, h_8, hf⟩ := cl_el hf
      refine callVI (As := [.int p1]) (rest := []) (ci := 4) (q0 := 6) ⟨hx, hb, hml, hown, hts⟩ (tX4_greatestFor (l := l) (dC := dC) (dI := dI) (t0 := t0) (cI := cI) (cJ := cJ) (cZ := cZ) hA h_8) (cwV 1 hts gX4_rowsFrom_X4_greatestFor rfl rfl rfl (by decide +kernel) ⟨Nat.le_of_ble_eq_true rfl, Nat.le_of_ble_eq_true rfl⟩) hK hZ hP hS rfl (wc_6 A cI cJ cZ z_4) rfl rfl rfl hl.1 (Nat.le_of_ble_eq_true rfl) ⟨Nat.zero_le _, Nat.zero_le _⟩ dX4_rowsFrom_19 (fun H locs hP hS => ?_)
      refine lv_istore_n (lv' := [(3, .int r_6), (2, .int r_3), (0, .ref (A 6)), (1, .int p1)]) hx hb dX4_rowsFrom_22 rfl hl (by decide) rfl (fun ls hl => ?_)
      refine lv_aload_n hx hb dX4_rowsFrom_23 rfl (lv_at hl 2 rfl) ?_
      refine lv_iload_n hx hb dX4_rowsFrom_24 rfl (lv_at hl 3 rfl) ?_
      obtain ⟨r_9, z_10, h_11, hf⟩ := cl_el hf
      refine callVI (As := [.int p1]) (rest := []) (ci := 4) (q0 := 6) ⟨hx, hb, hml, hown, hts⟩ (tX4_anySearched (l := l) (dC := dC) (dI := dI) (t0 := t0) (cI := cI) (cJ := cJ) (cZ := cZ) hA h_11) (cwV 1 hts gX4_rowsFrom_X4_anySearched rfl rfl rfl (by decide +kernel) ⟨Nat.le_of_ble_eq_true rfl, Nat.le_of_ble_eq_true rfl⟩) hK hZ hP hS rfl (wc_6 A cI cJ cZ z_7) rfl rfl rfl hl.1 (Nat.le_of_ble_eq_true rfl) ⟨Nat.zero_le _, Nat.zero_le _⟩ dX4_rowsFrom_25 (fun H locs hP hS => ?_)
      refine lv_if_ne (tgt := 49) hx hb dX4_rowsFrom_28 (by decide) (fun c_12 => ?_) (fun c_12 => ?_)
      · have hf := it_f c_12 hf
        refine lv_iconst (v := 0) hx hb dX4_rowsFrom_49 (by decide) ?_
        refine lv_istore (lv' := [(4, .int (0 : Int32)), (3, .int r_6), (2, .int r_3), (0, .ref (A 6)), (1, .int p1)]) hx hb dX4_rowsFrom_50 hl (by decide) rfl (fun ls hl => ?_)
        refine lv_iload_n hx hb dX4_rowsFrom_52 rfl (lv_at hl 2 rfl) ?_
        refine lv_istore (lv' := [(5, .int r_3), (4, .int (0 : Int32)), (3, .int r_6), (2, .int r_3), (0, .ref (A 6)), (1, .int p1)]) hx hb dX4_rowsFrom_53 hl (by decide) rfl (fun ls hl => ?_)
        obtain ⟨K_13, eK_13, hf⟩ := fX4_rowsFrom_d4_L55_g hf
        have hEK_13 : ∀ (x4_15 : Int32) (x5_16 : Int32) (z_14 : Mem) (H : Heap) (locs : List Loc) (ls : Array Slot), K_13 x4_15 x5_16 z_14 = some (r, z') → wIs dC dI A cI cJ cZ z_14 H → va_S (fr A) s.heap H locs → lv_has ls 6 [(0, .ref (A 6)), (1, .int p1), (2, .int r_3), (3, .int r_6), (4, .int x4_15), (5, .int x5_16)] → WI p l e wsX4_rowsFrom 3 s m [.ref (A 6), .int p1] below meth c dC dI A cI cJ cZ r z' H locs (F0 m 103 ls []) := by
          intro x4_15 x5_16 z_14 H locs ls hf hP hS hl
          have hf := ap3 eK_13 hf
          refine lv_iload hx hb dX4_rowsFrom_103 (lv_at hl 4 rfl) ?_
          exact retI hx hb hr hlocks hP hS hf dX4_rowsFrom_105
        have hLK_13 : ∀ (n_20 : Nat) (x4_18 : Int32) (x5_19 : Int32) (z_17 : Mem) (H : Heap) (locs : List Loc) (ls : Array Slot), fX4_rowsFrom_d4_L55 K_13 p1 r_6 n_20 x4_18 x5_19 z_17 = some (r, z') → wIs dC dI A cI cJ cZ z_17 H → va_S (fr A) s.heap H locs → lv_has ls 6 [(0, .ref (A 6)), (1, .int p1), (2, .int r_3), (3, .int r_6), (4, .int x4_18), (5, .int x5_19)] → WI p l e wsX4_rowsFrom 3 s m [.ref (A 6), .int p1] below meth c dC dI A cI cJ cZ r z' H locs (F0 m 55 ls []) := by
          intro n_20
          induction n_20 with
          | zero => intro x4_18 x5_19 z_17 H locs ls hf; rw [fX4_rowsFrom_d4_L55_0] at hf; cases hf
          | succ n_20 ihK_13 =>
            intro x4_18 x5_19 z_17 H locs ls hf hP hS hl
            rw [fX4_rowsFrom_d4_L55_s] at hf
            refine lv_iload hx hb dX4_rowsFrom_55 (lv_at hl 5 rfl) ?_
            refine lv_iload_n hx hb dX4_rowsFrom_57 rfl (lv_at hl 3 rfl) ?_
            refine lv_icmp_gt (tgt := 103) hx hb dX4_rowsFrom_58 (by decide) (fun c_21 => ?_) (fun c_21 => ?_)
            · have hf := it_t c_21 hf
              exact hEK_13 _ _ _ _ _ _ hf hP hS (lv_sub hl [0, 1, 2, 3, 4, 5] rfl)
            · have hf := it_f c_21 hf
              refine lv_aload_n hx hb dX4_rowsFrom_61 rfl (lv_at hl 0 rfl) ?_
              refine lv_iload_n hx hb dX4_rowsFrom_62 rfl (lv_at hl 1 rfl) ?_
              refine lv_iload hx hb dX4_rowsFrom_63 (lv_at hl 5 rfl) ?_
              obtain ⟨r_22, z_23, h_24, hf⟩ := cl_el hf
              refine callVV (As := [.int p1, .int x5_19]) (rest := []) (ci := 4) (q0 := 6) ⟨hx, hb, hml, hown, hts⟩ (tX4_give (l := l) (dC := dC) (dI := dI) (t0 := t0) (cI := cI) (cJ := cJ) (cZ := cZ) hA h_24) (cwV 2 hts gX4_rowsFrom_X4_give rfl rfl rfl (by decide +kernel) ⟨Nat.le_of_ble_eq_true rfl, Nat.le_of_ble_eq_true rfl⟩) hK hZ hP hS rfl (wc_6 A cI cJ cZ z_17) rfl rfl rfl hl.1 (Nat.le_of_ble_eq_true rfl) ⟨Nat.zero_le _, Nat.zero_le _⟩ dX4_rowsFrom_65 (fun H locs hP hS => ?_)
              refine lv_iload hx hb dX4_rowsFrom_68 (lv_at hl 4 rfl) ?_
              refine lv_aload_n hx hb dX4_rowsFrom_70 rfl (lv_at hl 0 rfl) ?_
              refine lv_iload_n hx hb dX4_rowsFrom_71 rfl (lv_at hl 1 rfl) ?_
              refine lv_iload hx hb dX4_rowsFrom_72 (lv_at hl 5 rfl) ?_
              refine lv_iload hx hb dX4_rowsFrom_74 (lv_at hl 5 rfl) ?_
              refine lv_aload_n hx hb dX4_rowsFrom_76 rfl (lv_at hl 0 rfl) ?_
              refine lv_iload_n hx hb dX4_rowsFrom_77 rfl (lv_at hl 1 rfl) ?_
              refine lv_iconst (v := 1) hx hb dX4_rowsFrom_78 (by decide) ?_
              refine lv_iadd hx hb dX4_rowsFrom_79 ?_
              obtain ⟨r_25, z_26, h_27, hf⟩ := cl_el hf
              refine callSI (As := [.ref (A 6), .int (p1 + (1 : Int32))]) (rest := [.int x5_19, .int x5_19, .int p1, .ref (A 6), .int x4_18]) ⟨hx, hb, hml, hown, hts⟩ (tX4_rowsFrom_d5 (l := l) (dC := dC) (dI := dI) (t0 := t0) (cI := cI) (cJ := cJ) (cZ := cZ) hA h_27) (va_cwS 2 hts gX4_rowsFrom_X4_rowsFrom rfl rfl rfl (by decide +kernel) ⟨Nat.le_of_ble_eq_true rfl, Nat.le_of_ble_eq_true rfl⟩) hK hZ hP hS rfl rfl hl.1 (Nat.le_of_ble_eq_true rfl) ⟨Nat.zero_le _, Nat.zero_le _⟩ dX4_rowsFrom_80 (fun H locs hP hS => ?_)
              obtain ⟨r_28, z_29, h_30, hf⟩ := cl_el hf
              refine callVI (As := [.int p1, .int x5_19, .int x5_19, .int r_25]) (rest := [.int x4_18]) (ci := 4) (q0 := 6) ⟨hx, hb, hml, hown, hts⟩ (tX4_noted (l := l) (dC := dC) (dI := dI) (t0 := t0) (cI := cI) (cJ := cJ) (cZ := cZ) hA h_30) (cwV 4 hts gX4_rowsFrom_X4_noted rfl rfl rfl (by decide +kernel) ⟨Nat.le_of_ble_eq_true rfl, Nat.le_of_ble_eq_true rfl⟩) hK hZ hP hS rfl (wc_6 A cI cJ cZ z_26) rfl rfl rfl hl.1 (Nat.le_of_ble_eq_true rfl) ⟨Nat.zero_le _, Nat.zero_le _⟩ dX4_rowsFrom_83 (fun H locs hP hS => ?_)
              refine lv_iadd hx hb dX4_rowsFrom_86 ?_
              refine lv_topi (fun x4_31 ex4_31 => ?_)
              have hf := lt_at ex4_31 hf; clear ex4_31
              refine lv_istore (lv' := [(4, .int x4_31), (0, .ref (A 6)), (1, .int p1), (2, .int r_3), (3, .int r_6), (5, .int x5_19)]) hx hb dX4_rowsFrom_87 hl (by decide) rfl (fun ls hl => ?_)
              refine lv_aload_n hx hb dX4_rowsFrom_89 rfl (lv_at hl 1 rfl) ?_
              refine lv_iload_n hx hb dX4_rowsFrom_90 rfl (lv_at hl 2 rfl) ?_
              refine lv_iload hx hb dX4_rowsFrom_91 (lv_at hl 5 rfl) ?_
              refine lv_ineg hx hb dX4_rowsFrom_93 ?_
              obtain ⟨r_32, z_33, h_34, hf⟩ := cl_el hf
              refine callVV (As := [.int p1, .int (-x5_19)]) (rest := []) (ci := 4) (q0 := 6) ⟨hx, hb, hml, hown, hts⟩ (tX4_give (l := l) (dC := dC) (dI := dI) (t0 := t0) (cI := cI) (cJ := cJ) (cZ := cZ) hA h_34) (cwV 2 hts gX4_rowsFrom_X4_give rfl rfl rfl (by decide +kernel) ⟨Nat.le_of_ble_eq_true rfl, Nat.le_of_ble_eq_true rfl⟩) hK hZ hP hS rfl (wc_6 A cI cJ cZ z_29) rfl rfl rfl hl.1 (Nat.le_of_ble_eq_true rfl) ⟨Nat.zero_le _, Nat.zero_le _⟩ dX4_rowsFrom_94 (fun H locs hP hS => ?_)
              obtain ⟨x5_35, ex5_35⟩ : ∃ q : Int32, q = x5_19 + (1 : Int32) := ⟨_, rfl⟩
              refine lv_iinc (v := x5_35) (lv' := [(5, .int x5_35), (4, .int x4_31), (0, .ref (A 6)), (1, .int p1), (2, .int r_3), (3, .int r_6)]) hx hb dX4_rowsFrom_97 hl (k := 5) rfl (by rw [ex5_35]; rfl) (by decide) rfl (fun ls hl => ?_)
              have hf := lt_at ex5_35 hf; clear ex5_35
              refine lv_goto (tgt := 55) hx hb dX4_rowsFrom_100 (by decide) ?_
              exact ihK_13 _ _ _ _ _ _ hf hP hS (lv_sub hl [2, 3, 4, 5, 1, 0] rfl)
        exact hLK_13 FU _ _ _ _ _ _ hf hP hS (lv_sub hl [4, 5, 3, 2, 1, 0] rfl)
      · have hf := it_t c_12 hf
        refine lv_bipush (v := 10) hx hb dX4_rowsFrom_31 (by decide) ?_
        refine lv_aload_n hx hb dX4_rowsFrom_33 rfl (lv_at hl 2 rfl) ?_
        refine lv_iload_n hx hb dX4_rowsFrom_34 rfl (lv_at hl 3 rfl) ?_
        refine lv_iload_n hx hb dX4_rowsFrom_35 rfl (lv_at hl 1 rfl) ?_
        refine lv_iload_n hx hb dX4_rowsFrom_36 rfl (lv_at hl 0 rfl) ?_
        refine lv_aload_n hx hb dX4_rowsFrom_37 rfl (lv_at hl 2 rfl) ?_
        refine lv_iload_n hx hb dX4_rowsFrom_38 rfl (lv_at hl 3 rfl) ?_
        refine lv_iconst (v := 1) hx hb dX4_rowsFrom_39 (by decide) ?_
        refine lv_iadd hx hb dX4_rowsFrom_40 ?_
        obtain ⟨r_36, z_37, h_38, hf⟩ := cl_el hf
        refine callSI (As := [.ref (A 6), .int (p1 + (1 : Int32))]) (rest := [.int r_6, .int r_3, .int p1, .ref (A 6), .int (10 : Int32)]) ⟨hx, hb, hml, hown, hts⟩ (tX4_rowsFrom_d5 (l := l) (dC := dC) (dI := dI) (t0 := t0) (cI := cI) (cJ := cJ) (cZ := cZ) hA h_38) (va_cwS 2 hts gX4_rowsFrom_X4_rowsFrom rfl rfl rfl (by decide +kernel) ⟨Nat.le_of_ble_eq_true rfl, Nat.le_of_ble_eq_true rfl⟩) hK hZ hP hS rfl rfl hl.1 (Nat.le_of_ble_eq_true rfl) ⟨Nat.zero_le _, Nat.zero_le _⟩ dX4_rowsFrom_41 (fun H locs hP hS => ?_)
        obtain ⟨r_39, z_40, h_41, hf⟩ := cl_el hf
        refine callVI (As := [.int p1, .int r_3, .int r_6, .int r_36]) (rest := [.int (10 : Int32)]) (ci := 4) (q0 := 6) ⟨hx, hb, hml, hown, hts⟩ (tX4_noted (l := l) (dC := dC) (dI := dI) (t0 := t0) (cI := cI) (cJ := cJ) (cZ := cZ) hA h_41) (cwV 4 hts gX4_rowsFrom_X4_noted rfl rfl rfl (by decide +kernel) ⟨Nat.le_of_ble_eq_true rfl, Nat.le_of_ble_eq_true rfl⟩) hK hZ hP hS rfl (wc_6 A cI cJ cZ z_37) rfl rfl rfl hl.1 (Nat.le_of_ble_eq_true rfl) ⟨Nat.zero_le _, Nat.zero_le _⟩ dX4_rowsFrom_44 (fun H locs hP hS => ?_)
        refine lv_imul hx hb dX4_rowsFrom_47 ?_
        exact retI hx hb hr hlocks hP hS hf dX4_rowsFrom_48
    · have hf := it_f c_2 hf
      refine lv_iconst (v := 1) hx hb dX4_rowsFrom_9 (by decide) ?_
      exact retI hx hb hr hlocks hP hS hf dX4_rowsFrom_10
set_option maxHeartbeats 4000000 in
set_option maxRecDepth 100000 in
theorem tX4_rowsFrom_d3 {l : Launch} {dC : Nat → ClassId} {dI : Nat → Nat → Nat} {A : Nat → Nat} {t0 : Nat} {cI cJ cZ : ClassId} (hA : dst A) {p1 : Int32} {z : Mem} {r : Int32} {z' : Mem} (hf : fX4_rowsFrom_d3 p1 z = some (r, z')) : MI l dC dI A t0 cI cJ cZ yX4_rowsFrom wsX4_rowsFrom 4 [.ref (A 6), .int p1] z r z' := by
  refine Met.ofW (cc := cX4_rowsFrom) (maxL := 6) (ret := (some .int)) (by decide) rfl ?_
  intro p e s m args below meth c s₁ B hml hv
  obtain ⟨rfl, hP, hK, hZ⟩ := hv
  have hx := B.exec
  have hb := B.bytes
  have hr := B.returns
  have hts := atoms_spec (ws := wsX4_rowsFrom) B.pre
  have hown : s.vm.findClass RX4 = some m.cls := findClass_of_methodNamed B.named
  have hlocks := B.notSynchronized
  have hS : va_S (fr A) s.heap s.heap [] := va_S.rf
  have hl := lv_entry ([.ref (A 6), .int p1]) (n := 6) (Nat.le_of_ble_eq_true rfl)
  rw [lg_entry_eq]
  generalize (lg_sl ([.ref (A 6), .int p1]) ++ List.replicate (6 - (lg_sl ([.ref (A 6), .int p1])).length) Slot.unset).toArray = ls at hl ⊢
  have hl : lv_has ls 6 [(0, .ref (A 6)), (1, .int p1)] := hl
  have hP : wIs dC dI A cI cJ cZ z s.heap := hP
  rw [fX4_rowsFrom_d3] at hf
  refine lv_iload_n hx hb dX4_rowsFrom_0 rfl (lv_at hl 1 rfl) ?_
  refine lv_if_lt (tgt := 9) hx hb dX4_rowsFrom_1 (by decide) (fun c_1 => ?_) (fun c_1 => ?_)
  · have hf := it_t c_1 hf
    refine lv_iconst (v := 1) hx hb dX4_rowsFrom_9 (by decide) ?_
    exact retI hx hb hr hlocks hP hS hf dX4_rowsFrom_10
  · have hf := it_f c_1 hf
    refine lv_iload_n hx hb dX4_rowsFrom_4 rfl (lv_at hl 1 rfl) ?_
    refine lv_iconst (v := 5) hx hb dX4_rowsFrom_5 (by decide) ?_
    refine lv_icmp_lt (tgt := 11) hx hb dX4_rowsFrom_6 (by decide) (fun c_2 => ?_) (fun c_2 => ?_)
    · have hf := it_t c_2 hf
      refine lv_aload_n hx hb dX4_rowsFrom_11 rfl (lv_at hl 0 rfl) ?_
      refine lv_iload_n hx hb dX4_rowsFrom_12 rfl (lv_at hl 1 rfl) ?_
      obtain ⟨r_3, z_4, h_5, hf⟩ := cl_el hf
      refine callVI (As := [.int p1]) (rest := []) (ci := 4) (q0 := 6) ⟨hx, hb, hml, hown, hts⟩ (tX4_fewestFor (l := l) (dC := dC) (dI := dI) (t0 := t0) (cI := cI) (cJ := cJ) (cZ := cZ) hA h_5) (cwV 1 hts gX4_rowsFrom_X4_fewestFor rfl rfl rfl (by decide +kernel) ⟨Nat.le_of_ble_eq_true rfl, Nat.le_of_ble_eq_true rfl⟩) hK hZ hP hS rfl (wc_6 A cI cJ cZ z) rfl rfl rfl hl.1 (Nat.le_of_ble_eq_true rfl) ⟨Nat.zero_le _, Nat.zero_le _⟩ dX4_rowsFrom_13 (fun H locs hP hS => ?_)
      refine lv_istore_n (lv' := [(2, .int r_3), (0, .ref (A 6)), (1, .int p1)]) hx hb dX4_rowsFrom_16 rfl hl (by decide) rfl (fun ls hl => ?_)
      refine lv_aload_n hx hb dX4_rowsFrom_17 rfl (lv_at hl 1 rfl) ?_
      refine lv_iload_n hx hb dX4_rowsFrom_18 rfl (lv_at hl 2 rfl) ?_
      obtain ⟨r_6, z_7, h_8, hf⟩ := cl_el hf
      refine callVI (As := [.int p1]) (rest := []) (ci := 4) (q0 := 6) ⟨hx, hb, hml, hown, hts⟩ (tX4_greatestFor (l := l) (dC := dC) (dI := dI) (t0 := t0) (cI := cI) (cJ := cJ) (cZ := cZ) hA h_8) (cwV 1 hts gX4_rowsFrom_X4_greatestFor rfl rfl rfl (by decide +kernel) ⟨Nat.le_of_ble_eq_true rfl, Nat.le_of_ble_eq_true rfl⟩) hK hZ hP hS rfl (wc_6 A cI cJ cZ z_4) rfl rfl rfl hl.1 (Nat.le_of_ble_eq_true rfl) ⟨Nat.zero_le _, Nat.zero_le _⟩ dX4_rowsFrom_19 (fun H locs hP hS => ?_)
      refine lv_istore_n (lv' := [(3, .int r_6), (2, .int r_3), (0, .ref (A 6)), (1, .int p1)]) hx hb dX4_rowsFrom_22 rfl hl (by decide) rfl (fun ls hl => ?_)
      refine lv_aload_n hx hb dX4_rowsFrom_23 rfl (lv_at hl 2 rfl) ?_
      refine lv_iload_n hx hb dX4_rowsFrom_24 rfl (lv_at hl 3 rfl) ?_
      obtain ⟨r_9, z_10, h_11, hf⟩ := cl_el hf
      refine callVI (As := [.int p1]) (rest := []) (ci := 4) (q0 := 6) ⟨hx, hb, hml, hown, hts⟩ (tX4_anySearched (l := l) (dC := dC) (dI := dI) (t0 := t0) (cI := cI) (cJ := cJ) (cZ := cZ) hA h_11) (cwV 1 hts gX4_rowsFrom_X4_anySearched rfl rfl rfl (by decide +kernel) ⟨Nat.le_of_ble_eq_true rfl, Nat.le_of_ble_eq_true rfl⟩) hK hZ hP hS rfl (wc_6 A cI cJ cZ z_7) rfl rfl rfl hl.1 (Nat.le_of_ble_eq_true rfl) ⟨Nat.zero_le _, Nat.zero_le _⟩ dX4_rowsFrom_25 (fun H locs hP hS => ?_)
      refine lv_if_ne (tgt := 49) hx hb dX4_rowsFrom_28 (by decide) (fun c_12 => ?_) (fun c_12 => ?_)
      · have hf := it_f c_12 hf
        refine lv_iconst (v := 0) hx hb dX4_rowsFrom_49 (by decide) ?_
        refine lv_istore (lv' := [(4, .int (0 : Int32)), (3, .int r_6), (2, .int r_3), (0, .ref (A 6)), (1, .int p1)]) hx hb dX4_rowsFrom_50 hl (by decide) rfl (fun ls hl => ?_)
        refine lv_iload_n hx hb dX4_rowsFrom_52 rfl (lv_at hl 2 rfl) ?_
        refine lv_istore (lv' := [(5, .int r_3), (4, .int (0 : Int32)), (3, .int r_6), (2, .int r_3), (0, .ref (A 6)), (1, .int p1)]) hx hb dX4_rowsFrom_53 hl (by decide) rfl (fun ls hl => ?_)
        obtain ⟨K_13, eK_13, hf⟩ := fX4_rowsFrom_d3_L55_g hf
        have hEK_13 : ∀ (x4_15 : Int32) (x5_16 : Int32) (z_14 : Mem) (H : Heap) (locs : List Loc) (ls : Array Slot), K_13 x4_15 x5_16 z_14 = some (r, z') → wIs dC dI A cI cJ cZ z_14 H → va_S (fr A) s.heap H locs → lv_has ls 6 [(0, .ref (A 6)), (1, .int p1), (2, .int r_3), (3, .int r_6), (4, .int x4_15), (5, .int x5_16)] → WI p l e wsX4_rowsFrom 4 s m [.ref (A 6), .int p1] below meth c dC dI A cI cJ cZ r z' H locs (F0 m 103 ls []) := by
          intro x4_15 x5_16 z_14 H locs ls hf hP hS hl
          have hf := ap3 eK_13 hf
          refine lv_iload hx hb dX4_rowsFrom_103 (lv_at hl 4 rfl) ?_
          exact retI hx hb hr hlocks hP hS hf dX4_rowsFrom_105
        have hLK_13 : ∀ (n_20 : Nat) (x4_18 : Int32) (x5_19 : Int32) (z_17 : Mem) (H : Heap) (locs : List Loc) (ls : Array Slot), fX4_rowsFrom_d3_L55 K_13 p1 r_6 n_20 x4_18 x5_19 z_17 = some (r, z') → wIs dC dI A cI cJ cZ z_17 H → va_S (fr A) s.heap H locs → lv_has ls 6 [(0, .ref (A 6)), (1, .int p1), (2, .int r_3), (3, .int r_6), (4, .int x4_18), (5, .int x5_19)] → WI p l e wsX4_rowsFrom 4 s m [.ref (A 6), .int p1] below meth c dC dI A cI cJ cZ r z' H locs (F0 m 55 ls []) := by
          intro n_20
          induction n_20 with
          | zero => intro x4_18 x5_19 z_17 H locs ls hf; rw [fX4_rowsFrom_d3_L55_0] at hf; cases hf
          | succ n_20 ihK_13 =>
            intro x4_18 x5_19 z_17 H locs ls hf hP hS hl
            rw [fX4_rowsFrom_d3_L55_s] at hf
            refine lv_iload hx hb dX4_rowsFrom_55 (lv_at hl 5 rfl) ?_
            refine lv_iload_n hx hb dX4_rowsFrom_57 rfl (lv_at hl 3 rfl) ?_
            refine lv_icmp_gt (tgt := 103) hx hb dX4_rowsFrom_58 (by decide) (fun c_21 => ?_) (fun c_21 => ?_)
            · have hf := it_t c_21 hf
              exact hEK_13 _ _ _ _ _ _ hf hP hS (lv_sub hl [0, 1, 2, 3, 4, 5] rfl)
            · have hf := it_f c_21 hf
              refine lv_aload_n hx hb dX4_rowsFrom_61 rfl (lv_at hl 0 rfl) ?_
              refine lv_iload_n hx hb dX4_rowsFrom_62 rfl (lv_at hl 1 rfl) ?_
              refine lv_iload hx hb dX4_rowsFrom_63 (lv_at hl 5 rfl) ?_
              obtain ⟨r_22, z_23, h_24, hf⟩ := cl_el hf
              refine callVV (As := [.int p1, .int x5_19]) (rest := []) (ci := 4) (q0 := 6) ⟨hx, hb, hml, hown, hts⟩ (tX4_give (l := l) (dC := dC) (dI := dI) (t0 := t0) (cI := cI) (cJ := cJ) (cZ := cZ) hA h_24) (cwV 2 hts gX4_rowsFrom_X4_give rfl rfl rfl (by decide +kernel) ⟨Nat.le_of_ble_eq_true rfl, Nat.le_of_ble_eq_true rfl⟩) hK hZ hP hS rfl (wc_6 A cI cJ cZ z_17) rfl rfl rfl hl.1 (Nat.le_of_ble_eq_true rfl) ⟨Nat.zero_le _, Nat.zero_le _⟩ dX4_rowsFrom_65 (fun H locs hP hS => ?_)
              refine lv_iload hx hb dX4_rowsFrom_68 (lv_at hl 4 rfl) ?_
              refine lv_aload_n hx hb dX4_rowsFrom_70 rfl (lv_at hl 0 rfl) ?_
              refine lv_iload_n hx hb dX4_rowsFrom_71 rfl (lv_at hl 1 rfl) ?_
              refine lv_iload hx hb dX4_rowsFrom_72 (lv_at hl 5 rfl) ?_
              refine lv_iload hx hb dX4_rowsFrom_74 (lv_at hl 5 rfl) ?_
              refine lv_aload_n hx hb dX4_rowsFrom_76 rfl (lv_at hl 0 rfl) ?_
              refine lv_iload_n hx hb dX4_rowsFrom_77 rfl (lv_at hl 1 rfl) ?_
              refine lv_iconst (v := 1) hx hb dX4_rowsFrom_78 (by decide) ?_
              refine lv_iadd hx hb dX4_rowsFrom_79 ?_
              obtain ⟨r_25, z_26, h_27, hf⟩ := cl_el hf
              refine callSI (As := [.ref (A 6), .int (p1 + (1 : Int32))]) (rest := [.int x5_19, .int x5_19, .int p1, .ref (A 6), .int x4_18]) ⟨hx, hb, hml, hown, hts⟩ (tX4_rowsFrom_d4 (l := l) (dC := dC) (dI := dI) (t0 := t0) (cI := cI) (cJ := cJ) (cZ := cZ) hA h_27) (va_cwS 2 hts gX4_rowsFrom_X4_rowsFrom rfl rfl rfl (by decide +kernel) ⟨Nat.le_of_ble_eq_true rfl, Nat.le_of_ble_eq_true rfl⟩) hK hZ hP hS rfl rfl hl.1 (Nat.le_of_ble_eq_true rfl) ⟨Nat.zero_le _, Nat.zero_le _⟩ dX4_rowsFrom_80 (fun H locs hP hS => ?_)
              obtain ⟨r_28, z_29, h_30, hf⟩ := cl_el hf
              refine callVI (As := [.int p1, .int x5_19, .int x5_19, .int r_25]) (rest := [.int x4_18]) (ci := 4) (q0 := 6) ⟨hx, hb, hml, hown, hts⟩ (tX4_noted (l := l) (dC := dC) (dI := dI) (t0 := t0) (cI := cI) (cJ := cJ) (cZ := cZ) hA h_30) (cwV 4 hts gX4_rowsFrom_X4_noted rfl rfl rfl (by decide +kernel) ⟨Nat.le_of_ble_eq_true rfl, Nat.le_of_ble_eq_true rfl⟩) hK hZ hP hS rfl (wc_6 A cI cJ cZ z_26) rfl rfl rfl hl.1 (Nat.le_of_ble_eq_true rfl) ⟨Nat.zero_le _, Nat.zero_le _⟩ dX4_rowsFrom_83 (fun H locs hP hS => ?_)
              refine lv_iadd hx hb dX4_rowsFrom_86 ?_
              refine lv_topi (fun x4_31 ex4_31 => ?_)
              have hf := lt_at ex4_31 hf; clear ex4_31
              refine lv_istore (lv' := [(4, .int x4_31), (0, .ref (A 6)), (1, .int p1), (2, .int r_3), (3, .int r_6), (5, .int x5_19)]) hx hb dX4_rowsFrom_87 hl (by decide) rfl (fun ls hl => ?_)
              refine lv_aload_n hx hb dX4_rowsFrom_89 rfl (lv_at hl 1 rfl) ?_
              refine lv_iload_n hx hb dX4_rowsFrom_90 rfl (lv_at hl 2 rfl) ?_
              refine lv_iload hx hb dX4_rowsFrom_91 (lv_at hl 5 rfl) ?_
              refine lv_ineg hx hb dX4_rowsFrom_93 ?_
              obtain ⟨r_32, z_33, h_34, hf⟩ := cl_el hf
              refine callVV (As := [.int p1, .int (-x5_19)]) (rest := []) (ci := 4) (q0 := 6) ⟨hx, hb, hml, hown, hts⟩ (tX4_give (l := l) (dC := dC) (dI := dI) (t0 := t0) (cI := cI) (cJ := cJ) (cZ := cZ) hA h_34) (cwV 2 hts gX4_rowsFrom_X4_give rfl rfl rfl (by decide +kernel) ⟨Nat.le_of_ble_eq_true rfl, Nat.le_of_ble_eq_true rfl⟩) hK hZ hP hS rfl (wc_6 A cI cJ cZ z_29) rfl rfl rfl hl.1 (Nat.le_of_ble_eq_true rfl) ⟨Nat.zero_le _, Nat.zero_le _⟩ dX4_rowsFrom_94 (fun H locs hP hS => ?_)
              obtain ⟨x5_35, ex5_35⟩ : ∃ q : Int32, q = x5_19 + (1 : Int32) := ⟨_, rfl⟩
              refine lv_iinc (v := x5_35) (lv' := [(5, .int x5_35), (4, .int x4_31), (0, .ref (A 6)), (1, .int p1), (2, .int r_3), (3, .int r_6)]) hx hb dX4_rowsFrom_97 hl (k := 5) rfl (by rw [ex5_35]; rfl) (by decide) rfl (fun ls hl => ?_)
              have hf := lt_at ex5_35 hf; clear ex5_35
              refine lv_goto (tgt := 55) hx hb dX4_rowsFrom_100 (by decide) ?_
              exact ihK_13 _ _ _ _ _ _ hf hP hS (lv_sub hl [2, 3, 4, 5, 1, 0] rfl)
        exact hLK_13 FU _ _ _ _ _ _ hf hP hS (lv_sub hl [4, 5, 3, 2, 1, 0] rfl)
      · have hf := it_t c_12 hf
        refine lv_bipush (v := 10) hx hb dX4_rowsFrom_31 (by decide) ?_
        refine lv_aload_n hx hb dX4_rowsFrom_33 rfl (lv_at hl 2 rfl) ?_
        refine lv_iload_n hx hb dX4_rowsFrom_34 rfl (lv_at hl 3 rfl) ?_
        refine lv_iload_n hx hb dX4_rowsFrom_35 rfl (lv_at hl 1 rfl) ?_
        refine lv_iload_n hx hb dX4_rowsFrom_36 rfl (lv_at hl 0 rfl) ?_
        refine lv_aload_n hx hb dX4_rowsFrom_37 rfl (lv_at hl 2 rfl) ?_
        refine lv_iload_n hx hb dX4_rowsFrom_38 rfl (lv_at hl 3 rfl) ?_
        refine lv_iconst (v := 1) hx hb dX4_rowsFrom_39 (by decide) ?_
        refine lv_iadd hx hb dX4_rowsFrom_40 ?_
        obtain ⟨r_36, z_37, h_38, hf⟩ := cl_el hf
        refine callSI (As := [.ref (A 6), .int (p1 + (1 : Int32))]) (rest := [.int r_6, .int r_3, .int p1, .ref (A 6), .int (10 : Int32)]) ⟨hx, hb, hml, hown, hts⟩ (tX4_rowsFrom_d4 (l := l) (dC := dC) (dI := dI) (t0 := t0) (cI := cI) (cJ := cJ) (cZ := cZ) hA h_38) (va_cwS 2 hts gX4_rowsFrom_X4_rowsFrom rfl rfl rfl (by decide +kernel) ⟨Nat.le_of_ble_eq_true rfl, Nat.le_of_ble_eq_true rfl⟩) hK hZ hP hS rfl rfl hl.1 (Nat.le_of_ble_eq_true rfl) ⟨Nat.zero_le _, Nat.zero_le _⟩ dX4_rowsFrom_41 (fun H locs hP hS => ?_)
        obtain ⟨r_39, z_40, h_41, hf⟩ := cl_el hf
        refine callVI (As := [.int p1, .int r_3, .int r_6, .int r_36]) (rest := [.int (10 : Int32)]) (ci := 4) (q0 := 6) ⟨hx, hb, hml, hown, hts⟩ (tX4_noted (l := l) (dC := dC) (dI := dI) (t0 := t0) (cI := cI) (cJ := cJ) (cZ := cZ) hA h_41) (cwV 4 hts gX4_rowsFrom_X4_noted rfl rfl rfl (by decide +kernel) ⟨Nat.le_of_ble_eq_true rfl, Nat.le_of_ble_eq_true rfl⟩) hK hZ hP hS rfl (wc_6 A cI cJ cZ z_37) rfl rfl rfl hl.1 (Nat.le_of_ble_eq_true rfl) ⟨Nat.zero_le _, Nat.zero_le _⟩ dX4_rowsFrom_44 (fun H locs hP hS => ?_)
        refine lv_imul hx hb dX4_rowsFrom_47 ?_
        exact retI hx hb hr hlocks hP hS hf dX4_rowsFrom_48
    · have hf := it_f c_2 hf
      refine lv_iconst (v := 1) hx hb dX4_rowsFrom_9 (by decide) ?_
      exact retI hx hb hr hlocks hP hS hf dX4_rowsFrom_10
set_option maxHeartbeats 4000000 in
set_option maxRecDepth 100000 in
theorem tX4_rowsFrom_d2 {l : Launch} {dC : Nat → ClassId} {dI : Nat → Nat → Nat} {A : Nat → Nat} {t0 : Nat} {cI cJ cZ : ClassId} (hA : dst A) {p1 : Int32} {z : Mem} {r : Int32} {z' : Mem} (hf : fX4_rowsFrom_d2 p1 z = some (r, z')) : MI l dC dI A t0 cI cJ cZ yX4_rowsFrom wsX4_rowsFrom 5 [.ref (A 6), .int p1] z r z' := by
  refine Met.ofW (cc := cX4_rowsFrom) (maxL := 6) (ret := (some .int)) (by decide) rfl ?_
  intro p e s m args below meth c s₁ B hml hv
  obtain ⟨rfl, hP, hK, hZ⟩ := hv
  have hx := B.exec
  have hb := B.bytes
  have hr := B.returns
  have hts := atoms_spec (ws := wsX4_rowsFrom) B.pre
  have hown : s.vm.findClass RX4 = some m.cls := findClass_of_methodNamed B.named
  have hlocks := B.notSynchronized
  have hS : va_S (fr A) s.heap s.heap [] := va_S.rf
  have hl := lv_entry ([.ref (A 6), .int p1]) (n := 6) (Nat.le_of_ble_eq_true rfl)
  rw [lg_entry_eq]
  generalize (lg_sl ([.ref (A 6), .int p1]) ++ List.replicate (6 - (lg_sl ([.ref (A 6), .int p1])).length) Slot.unset).toArray = ls at hl ⊢
  have hl : lv_has ls 6 [(0, .ref (A 6)), (1, .int p1)] := hl
  have hP : wIs dC dI A cI cJ cZ z s.heap := hP
  rw [fX4_rowsFrom_d2] at hf
  refine lv_iload_n hx hb dX4_rowsFrom_0 rfl (lv_at hl 1 rfl) ?_
  refine lv_if_lt (tgt := 9) hx hb dX4_rowsFrom_1 (by decide) (fun c_1 => ?_) (fun c_1 => ?_)
  · have hf := it_t c_1 hf
    refine lv_iconst (v := 1) hx hb dX4_rowsFrom_9 (by decide) ?_
    exact retI hx hb hr hlocks hP hS hf dX4_rowsFrom_10
  · have hf := it_f c_1 hf
    refine lv_iload_n hx hb dX4_rowsFrom_4 rfl (lv_at hl 1 rfl) ?_
    refine lv_iconst (v := 5) hx hb dX4_rowsFrom_5 (by decide) ?_
    refine lv_icmp_lt (tgt := 11) hx hb dX4_rowsFrom_6 (by decide) (fun c_2 => ?_) (fun c_2 => ?_)
    · have hf := it_t c_2 hf
      refine lv_aload_n hx hb dX4_rowsFrom_11 rfl (lv_at hl 0 rfl) ?_
      refine lv_iload_n hx hb dX4_rowsFrom_12 rfl (lv_at hl 1 rfl) ?_
      obtain ⟨r_3, z_4, h_5, hf⟩ := cl_el hf
      refine callVI (As := [.int p1]) (rest := []) (ci := 4) (q0 := 6) ⟨hx, hb, hml, hown, hts⟩ (tX4_fewestFor (l := l) (dC := dC) (dI := dI) (t0 := t0) (cI := cI) (cJ := cJ) (cZ := cZ) hA h_5) (cwV 1 hts gX4_rowsFrom_X4_fewestFor rfl rfl rfl (by decide +kernel) ⟨Nat.le_of_ble_eq_true rfl, Nat.le_of_ble_eq_true rfl⟩) hK hZ hP hS rfl (wc_6 A cI cJ cZ z) rfl rfl rfl hl.1 (Nat.le_of_ble_eq_true rfl) ⟨Nat.zero_le _, Nat.zero_le _⟩ dX4_rowsFrom_13 (fun H locs hP hS => ?_)
      refine lv_istore_n (lv' := [(2, .int r_3), (0, .ref (A 6)), (1, .int p1)]) hx hb dX4_rowsFrom_16 rfl hl (by decide) rfl (fun ls hl => ?_)
      refine lv_aload_n hx hb dX4_rowsFrom_17 rfl (lv_at hl 1 rfl) ?_
      refine lv_iload_n hx hb dX4_rowsFrom_18 rfl (lv_at hl 2 rfl) ?_
      obtain ⟨r_6, z_7, h_8, hf⟩ := cl_el hf
      refine callVI (As := [.int p1]) (rest := []) (ci := 4) (q0 := 6) ⟨hx, hb, hml, hown, hts⟩ (tX4_greatestFor (l := l) (dC := dC) (dI := dI) (t0 := t0) (cI := cI) (cJ := cJ) (cZ := cZ) hA h_8) (cwV 1 hts gX4_rowsFrom_X4_greatestFor rfl rfl rfl (by decide +kernel) ⟨Nat.le_of_ble_eq_true rfl, Nat.le_of_ble_eq_true rfl⟩) hK hZ hP hS rfl (wc_6 A cI cJ cZ z_4) rfl rfl rfl hl.1 (Nat.le_of_ble_eq_true rfl) ⟨Nat.zero_le _, Nat.zero_le _⟩ dX4_rowsFrom_19 (fun H locs hP hS => ?_)
      refine lv_istore_n (lv' := [(3, .int r_6), (2, .int r_3), (0, .ref (A 6)), (1, .int p1)]) hx hb dX4_rowsFrom_22 rfl hl (by decide) rfl (fun ls hl => ?_)
      refine lv_aload_n hx hb dX4_rowsFrom_23 rfl (lv_at hl 2 rfl) ?_
      refine lv_iload_n hx hb dX4_rowsFrom_24 rfl (lv_at hl 3 rfl) ?_
      obtain ⟨r_9, z_10, h_11, hf⟩ := cl_el hf
      refine callVI (As := [.int p1]) (rest := []) (ci := 4) (q0 := 6) ⟨hx, hb, hml, hown, hts⟩ (tX4_anySearched (l := l) (dC := dC) (dI := dI) (t0 := t0) (cI := cI) (cJ := cJ) (cZ := cZ) hA h_11) (cwV 1 hts gX4_rowsFrom_X4_anySearched rfl rfl rfl (by decide +kernel) ⟨Nat.le_of_ble_eq_true rfl, Nat.le_of_ble_eq_true rfl⟩) hK hZ hP hS rfl (wc_6 A cI cJ cZ z_7) rfl rfl rfl hl.1 (Nat.le_of_ble_eq_true rfl) ⟨Nat.zero_le _, Nat.zero_le _⟩ dX4_rowsFrom_25 (fun H locs hP hS => ?_)
      refine lv_if_ne (tgt := 49) hx hb dX4_rowsFrom_28 (by decide) (fun c_12 => ?_) (fun c_12 => ?_)
      · have hf := it_f c_12 hf
        refine lv_iconst (v := 0) hx hb dX4_rowsFrom_49 (by decide) ?_
        refine lv_istore (lv' := [(4, .int (0 : Int32)), (3, .int r_6), (2, .int r_3), (0, .ref (A 6)), (1, .int p1)]) hx hb dX4_rowsFrom_50 hl (by decide) rfl (fun ls hl => ?_)
        refine lv_iload_n hx hb dX4_rowsFrom_52 rfl (lv_at hl 2 rfl) ?_
        refine lv_istore (lv' := [(5, .int r_3), (4, .int (0 : Int32)), (3, .int r_6), (2, .int r_3), (0, .ref (A 6)), (1, .int p1)]) hx hb dX4_rowsFrom_53 hl (by decide) rfl (fun ls hl => ?_)
        obtain ⟨K_13, eK_13, hf⟩ := fX4_rowsFrom_d2_L55_g hf
        have hEK_13 : ∀ (x4_15 : Int32) (x5_16 : Int32) (z_14 : Mem) (H : Heap) (locs : List Loc) (ls : Array Slot), K_13 x4_15 x5_16 z_14 = some (r, z') → wIs dC dI A cI cJ cZ z_14 H → va_S (fr A) s.heap H locs → lv_has ls 6 [(0, .ref (A 6)), (1, .int p1), (2, .int r_3), (3, .int r_6), (4, .int x4_15), (5, .int x5_16)] → WI p l e wsX4_rowsFrom 5 s m [.ref (A 6), .int p1] below meth c dC dI A cI cJ cZ r z' H locs (F0 m 103 ls []) := by
          intro x4_15 x5_16 z_14 H locs ls hf hP hS hl
          have hf := ap3 eK_13 hf
          refine lv_iload hx hb dX4_rowsFrom_103 (lv_at hl 4 rfl) ?_
          exact retI hx hb hr hlocks hP hS hf dX4_rowsFrom_105
        have hLK_13 : ∀ (n_20 : Nat) (x4_18 : Int32) (x5_19 : Int32) (z_17 : Mem) (H : Heap) (locs : List Loc) (ls : Array Slot), fX4_rowsFrom_d2_L55 K_13 p1 r_6 n_20 x4_18 x5_19 z_17 = some (r, z') → wIs dC dI A cI cJ cZ z_17 H → va_S (fr A) s.heap H locs → lv_has ls 6 [(0, .ref (A 6)), (1, .int p1), (2, .int r_3), (3, .int r_6), (4, .int x4_18), (5, .int x5_19)] → WI p l e wsX4_rowsFrom 5 s m [.ref (A 6), .int p1] below meth c dC dI A cI cJ cZ r z' H locs (F0 m 55 ls []) := by
          intro n_20
          induction n_20 with
          | zero => intro x4_18 x5_19 z_17 H locs ls hf; rw [fX4_rowsFrom_d2_L55_0] at hf; cases hf
          | succ n_20 ihK_13 =>
            intro x4_18 x5_19 z_17 H locs ls hf hP hS hl
            rw [fX4_rowsFrom_d2_L55_s] at hf
            refine lv_iload hx hb dX4_rowsFrom_55 (lv_at hl 5 rfl) ?_
            refine lv_iload_n hx hb dX4_rowsFrom_57 rfl (lv_at hl 3 rfl) ?_
            refine lv_icmp_gt (tgt := 103) hx hb dX4_rowsFrom_58 (by decide) (fun c_21 => ?_) (fun c_21 => ?_)
            · have hf := it_t c_21 hf
              exact hEK_13 _ _ _ _ _ _ hf hP hS (lv_sub hl [0, 1, 2, 3, 4, 5] rfl)
            · have hf := it_f c_21 hf
              refine lv_aload_n hx hb dX4_rowsFrom_61 rfl (lv_at hl 0 rfl) ?_
              refine lv_iload_n hx hb dX4_rowsFrom_62 rfl (lv_at hl 1 rfl) ?_
              refine lv_iload hx hb dX4_rowsFrom_63 (lv_at hl 5 rfl) ?_
              obtain ⟨r_22, z_23, h_24, hf⟩ := cl_el hf
              refine callVV (As := [.int p1, .int x5_19]) (rest := []) (ci := 4) (q0 := 6) ⟨hx, hb, hml, hown, hts⟩ (tX4_give (l := l) (dC := dC) (dI := dI) (t0 := t0) (cI := cI) (cJ := cJ) (cZ := cZ) hA h_24) (cwV 2 hts gX4_rowsFrom_X4_give rfl rfl rfl (by decide +kernel) ⟨Nat.le_of_ble_eq_true rfl, Nat.le_of_ble_eq_true rfl⟩) hK hZ hP hS rfl (wc_6 A cI cJ cZ z_17) rfl rfl rfl hl.1 (Nat.le_of_ble_eq_true rfl) ⟨Nat.zero_le _, Nat.zero_le _⟩ dX4_rowsFrom_65 (fun H locs hP hS => ?_)
              refine lv_iload hx hb dX4_rowsFrom_68 (lv_at hl 4 rfl) ?_
              refine lv_aload_n hx hb dX4_rowsFrom_70 rfl (lv_at hl 0 rfl) ?_
              refine lv_iload_n hx hb dX4_rowsFrom_71 rfl (lv_at hl 1 rfl) ?_
              refine lv_iload hx hb dX4_rowsFrom_72 (lv_at hl 5 rfl) ?_
              refine lv_iload hx hb dX4_rowsFrom_74 (lv_at hl 5 rfl) ?_
              refine lv_aload_n hx hb dX4_rowsFrom_76 rfl (lv_at hl 0 rfl) ?_
              refine lv_iload_n hx hb dX4_rowsFrom_77 rfl (lv_at hl 1 rfl) ?_
              refine lv_iconst (v := 1) hx hb dX4_rowsFrom_78 (by decide) ?_
              refine lv_iadd hx hb dX4_rowsFrom_79 ?_
              obtain ⟨r_25, z_26, h_27, hf⟩ := cl_el hf
              refine callSI (As := [.ref (A 6), .int (p1 + (1 : Int32))]) (rest := [.int x5_19, .int x5_19, .int p1, .ref (A 6), .int x4_18]) ⟨hx, hb, hml, hown, hts⟩ (tX4_rowsFrom_d3 (l := l) (dC := dC) (dI := dI) (t0 := t0) (cI := cI) (cJ := cJ) (cZ := cZ) hA h_27) (va_cwS 2 hts gX4_rowsFrom_X4_rowsFrom rfl rfl rfl (by decide +kernel) ⟨Nat.le_of_ble_eq_true rfl, Nat.le_of_ble_eq_true rfl⟩) hK hZ hP hS rfl rfl hl.1 (Nat.le_of_ble_eq_true rfl) ⟨Nat.zero_le _, Nat.zero_le _⟩ dX4_rowsFrom_80 (fun H locs hP hS => ?_)
              obtain ⟨r_28, z_29, h_30, hf⟩ := cl_el hf
              refine callVI (As := [.int p1, .int x5_19, .int x5_19, .int r_25]) (rest := [.int x4_18]) (ci := 4) (q0 := 6) ⟨hx, hb, hml, hown, hts⟩ (tX4_noted (l := l) (dC := dC) (dI := dI) (t0 := t0) (cI := cI) (cJ := cJ) (cZ := cZ) hA h_30) (cwV 4 hts gX4_rowsFrom_X4_noted rfl rfl rfl (by decide +kernel) ⟨Nat.le_of_ble_eq_true rfl, Nat.le_of_ble_eq_true rfl⟩) hK hZ hP hS rfl (wc_6 A cI cJ cZ z_26) rfl rfl rfl hl.1 (Nat.le_of_ble_eq_true rfl) ⟨Nat.zero_le _, Nat.zero_le _⟩ dX4_rowsFrom_83 (fun H locs hP hS => ?_)
              refine lv_iadd hx hb dX4_rowsFrom_86 ?_
              refine lv_topi (fun x4_31 ex4_31 => ?_)
              have hf := lt_at ex4_31 hf; clear ex4_31
              refine lv_istore (lv' := [(4, .int x4_31), (0, .ref (A 6)), (1, .int p1), (2, .int r_3), (3, .int r_6), (5, .int x5_19)]) hx hb dX4_rowsFrom_87 hl (by decide) rfl (fun ls hl => ?_)
              refine lv_aload_n hx hb dX4_rowsFrom_89 rfl (lv_at hl 1 rfl) ?_
              refine lv_iload_n hx hb dX4_rowsFrom_90 rfl (lv_at hl 2 rfl) ?_
              refine lv_iload hx hb dX4_rowsFrom_91 (lv_at hl 5 rfl) ?_
              refine lv_ineg hx hb dX4_rowsFrom_93 ?_
              obtain ⟨r_32, z_33, h_34, hf⟩ := cl_el hf
              refine callVV (As := [.int p1, .int (-x5_19)]) (rest := []) (ci := 4) (q0 := 6) ⟨hx, hb, hml, hown, hts⟩ (tX4_give (l := l) (dC := dC) (dI := dI) (t0 := t0) (cI := cI) (cJ := cJ) (cZ := cZ) hA h_34) (cwV 2 hts gX4_rowsFrom_X4_give rfl rfl rfl (by decide +kernel) ⟨Nat.le_of_ble_eq_true rfl, Nat.le_of_ble_eq_true rfl⟩) hK hZ hP hS rfl (wc_6 A cI cJ cZ z_29) rfl rfl rfl hl.1 (Nat.le_of_ble_eq_true rfl) ⟨Nat.zero_le _, Nat.zero_le _⟩ dX4_rowsFrom_94 (fun H locs hP hS => ?_)
              obtain ⟨x5_35, ex5_35⟩ : ∃ q : Int32, q = x5_19 + (1 : Int32) := ⟨_, rfl⟩
              refine lv_iinc (v := x5_35) (lv' := [(5, .int x5_35), (4, .int x4_31), (0, .ref (A 6)), (1, .int p1), (2, .int r_3), (3, .int r_6)]) hx hb dX4_rowsFrom_97 hl (k := 5) rfl (by rw [ex5_35]; rfl) (by decide) rfl (fun ls hl => ?_)
              have hf := lt_at ex5_35 hf; clear ex5_35
              refine lv_goto (tgt := 55) hx hb dX4_rowsFrom_100 (by decide) ?_
              exact ihK_13 _ _ _ _ _ _ hf hP hS (lv_sub hl [2, 3, 4, 5, 1, 0] rfl)
        exact hLK_13 FU _ _ _ _ _ _ hf hP hS (lv_sub hl [4, 5, 3, 2, 1, 0] rfl)
      · have hf := it_t c_12 hf
        refine lv_bipush (v := 10) hx hb dX4_rowsFrom_31 (by decide) ?_
        refine lv_aload_n hx hb dX4_rowsFrom_33 rfl (lv_at hl 2 rfl) ?_
        refine lv_iload_n hx hb dX4_rowsFrom_34 rfl (lv_at hl 3 rfl) ?_
        refine lv_iload_n hx hb dX4_rowsFrom_35 rfl (lv_at hl 1 rfl) ?_
        refine lv_iload_n hx hb dX4_rowsFrom_36 rfl (lv_at hl 0 rfl) ?_
        refine lv_aload_n hx hb dX4_rowsFrom_37 rfl (lv_at hl 2 rfl) ?_
        refine lv_iload_n hx hb dX4_rowsFrom_38 rfl (lv_at hl 3 rfl) ?_
        refine lv_iconst (v := 1) hx hb dX4_rowsFrom_39 (by decide) ?_
        refine lv_iadd hx hb dX4_rowsFrom_40 ?_
        obtain ⟨r_36, z_37, h_38, hf⟩ := cl_el hf
        refine callSI (As := [.ref (A 6), .int (p1 + (1 : Int32))]) (rest := [.int r_6, .int r_3, .int p1, .ref (A 6), .int (10 : Int32)]) ⟨hx, hb, hml, hown, hts⟩ (tX4_rowsFrom_d3 (l := l) (dC := dC) (dI := dI) (t0 := t0) (cI := cI) (cJ := cJ) (cZ := cZ) hA h_38) (va_cwS 2 hts gX4_rowsFrom_X4_rowsFrom rfl rfl rfl (by decide +kernel) ⟨Nat.le_of_ble_eq_true rfl, Nat.le_of_ble_eq_true rfl⟩) hK hZ hP hS rfl rfl hl.1 (Nat.le_of_ble_eq_true rfl) ⟨Nat.zero_le _, Nat.zero_le _⟩ dX4_rowsFrom_41 (fun H locs hP hS => ?_)
        obtain ⟨r_39, z_40, h_41, hf⟩ := cl_el hf
        refine callVI (As := [.int p1, .int r_3, .int r_6, .int r_36]) (rest := [.int (10 : Int32)]) (ci := 4) (q0 := 6) ⟨hx, hb, hml, hown, hts⟩ (tX4_noted (l := l) (dC := dC) (dI := dI) (t0 := t0) (cI := cI) (cJ := cJ) (cZ := cZ) hA h_41) (cwV 4 hts gX4_rowsFrom_X4_noted rfl rfl rfl (by decide +kernel) ⟨Nat.le_of_ble_eq_true rfl, Nat.le_of_ble_eq_true rfl⟩) hK hZ hP hS rfl (wc_6 A cI cJ cZ z_37) rfl rfl rfl hl.1 (Nat.le_of_ble_eq_true rfl) ⟨Nat.zero_le _, Nat.zero_le _⟩ dX4_rowsFrom_44 (fun H locs hP hS => ?_)
        refine lv_imul hx hb dX4_rowsFrom_47 ?_
        exact retI hx hb hr hlocks hP hS hf dX4_rowsFrom_48
    · have hf := it_f c_2 hf
      refine lv_iconst (v := 1) hx hb dX4_rowsFrom_9 (by decide) ?_
      exact retI hx hb hr hlocks hP hS hf dX4_rowsFrom_10
set_option maxHeartbeats 4000000 in
set_option maxRecDepth 100000 in
theorem tX4_rowsFrom_d1 {l : Launch} {dC : Nat → ClassId} {dI : Nat → Nat → Nat} {A : Nat → Nat} {t0 : Nat} {cI cJ cZ : ClassId} (hA : dst A) {p1 : Int32} {z : Mem} {r : Int32} {z' : Mem} (hf : fX4_rowsFrom_d1 p1 z = some (r, z')) : MI l dC dI A t0 cI cJ cZ yX4_rowsFrom wsX4_rowsFrom 6 [.ref (A 6), .int p1] z r z' := by
  refine Met.ofW (cc := cX4_rowsFrom) (maxL := 6) (ret := (some .int)) (by decide) rfl ?_
  intro p e s m args below meth c s₁ B hml hv
  obtain ⟨rfl, hP, hK, hZ⟩ := hv
  have hx := B.exec
  have hb := B.bytes
  have hr := B.returns
  have hts := atoms_spec (ws := wsX4_rowsFrom) B.pre
  have hown : s.vm.findClass RX4 = some m.cls := findClass_of_methodNamed B.named
  have hlocks := B.notSynchronized
  have hS : va_S (fr A) s.heap s.heap [] := va_S.rf
  have hl := lv_entry ([.ref (A 6), .int p1]) (n := 6) (Nat.le_of_ble_eq_true rfl)
  rw [lg_entry_eq]
  generalize (lg_sl ([.ref (A 6), .int p1]) ++ List.replicate (6 - (lg_sl ([.ref (A 6), .int p1])).length) Slot.unset).toArray = ls at hl ⊢
  have hl : lv_has ls 6 [(0, .ref (A 6)), (1, .int p1)] := hl
  have hP : wIs dC dI A cI cJ cZ z s.heap := hP
  rw [fX4_rowsFrom_d1] at hf
  refine lv_iload_n hx hb dX4_rowsFrom_0 rfl (lv_at hl 1 rfl) ?_
  refine lv_if_lt (tgt := 9) hx hb dX4_rowsFrom_1 (by decide) (fun c_1 => ?_) (fun c_1 => ?_)
  · have hf := it_t c_1 hf
    refine lv_iconst (v := 1) hx hb dX4_rowsFrom_9 (by decide) ?_
    exact retI hx hb hr hlocks hP hS hf dX4_rowsFrom_10
  · have hf := it_f c_1 hf
    refine lv_iload_n hx hb dX4_rowsFrom_4 rfl (lv_at hl 1 rfl) ?_
    refine lv_iconst (v := 5) hx hb dX4_rowsFrom_5 (by decide) ?_
    refine lv_icmp_lt (tgt := 11) hx hb dX4_rowsFrom_6 (by decide) (fun c_2 => ?_) (fun c_2 => ?_)
    · have hf := it_t c_2 hf
      refine lv_aload_n hx hb dX4_rowsFrom_11 rfl (lv_at hl 0 rfl) ?_
      refine lv_iload_n hx hb dX4_rowsFrom_12 rfl (lv_at hl 1 rfl) ?_
      obtain ⟨r_3, z_4, h_5, hf⟩ := cl_el hf
      refine callVI (As := [.int p1]) (rest := []) (ci := 4) (q0 := 6) ⟨hx, hb, hml, hown, hts⟩ (tX4_fewestFor (l := l) (dC := dC) (dI := dI) (t0 := t0) (cI := cI) (cJ := cJ) (cZ := cZ) hA h_5) (cwV 1 hts gX4_rowsFrom_X4_fewestFor rfl rfl rfl (by decide +kernel) ⟨Nat.le_of_ble_eq_true rfl, Nat.le_of_ble_eq_true rfl⟩) hK hZ hP hS rfl (wc_6 A cI cJ cZ z) rfl rfl rfl hl.1 (Nat.le_of_ble_eq_true rfl) ⟨Nat.zero_le _, Nat.zero_le _⟩ dX4_rowsFrom_13 (fun H locs hP hS => ?_)
      refine lv_istore_n (lv' := [(2, .int r_3), (0, .ref (A 6)), (1, .int p1)]) hx hb dX4_rowsFrom_16 rfl hl (by decide) rfl (fun ls hl => ?_)
      refine lv_aload_n hx hb dX4_rowsFrom_17 rfl (lv_at hl 1 rfl) ?_
      refine lv_iload_n hx hb dX4_rowsFrom_18 rfl (lv_at hl 2 rfl) ?_
      obtain ⟨r_6, z_7, h_8, hf⟩ := cl_el hf
      refine callVI (As := [.int p1]) (rest := []) (ci := 4) (q0 := 6) ⟨hx, hb, hml, hown, hts⟩ (tX4_greatestFor (l := l) (dC := dC) (dI := dI) (t0 := t0) (cI := cI) (cJ := cJ) (cZ := cZ) hA h_8) (cwV 1 hts gX4_rowsFrom_X4_greatestFor rfl rfl rfl (by decide +kernel) ⟨Nat.le_of_ble_eq_true rfl, Nat.le_of_ble_eq_true rfl⟩) hK hZ hP hS rfl (wc_6 A cI cJ cZ z_4) rfl rfl rfl hl.1 (Nat.le_of_ble_eq_true rfl) ⟨Nat.zero_le _, Nat.zero_le _⟩ dX4_rowsFrom_19 (fun H locs hP hS => ?_)
      refine lv_istore_n (lv' := [(3, .int r_6), (2, .int r_3), (0, .ref (A 6)), (1, .int p1)]) hx hb dX4_rowsFrom_22 rfl hl (by decide) rfl (fun ls hl => ?_)
      refine lv_aload_n hx hb dX4_rowsFrom_23 rfl (lv_at hl 2 rfl) ?_
      refine lv_iload_n hx hb dX4_rowsFrom_24 rfl (lv_at hl 3 rfl) ?_
      obtain ⟨r_9, z_10, h_11, hf⟩ := cl_el hf
      refine callVI (As := [.int p1]) (rest := []) (ci := 4) (q0 := 6) ⟨hx, hb, hml, hown, hts⟩ (tX4_anySearched (l := l) (dC := dC) (dI := dI) (t0 := t0) (cI := cI) (cJ := cJ) (cZ := cZ) hA h_11) (cwV 1 hts gX4_rowsFrom_X4_anySearched rfl rfl rfl (by decide +kernel) ⟨Nat.le_of_ble_eq_true rfl, Nat.le_of_ble_eq_true rfl⟩) hK hZ hP hS rfl (wc_6 A cI cJ cZ z_7) rfl rfl rfl hl.1 (Nat.le_of_ble_eq_true rfl) ⟨Nat.zero_le _, Nat.zero_le _⟩ dX4_rowsFrom_25 (fun H locs hP hS => ?_)
      refine lv_if_ne (tgt := 49) hx hb dX4_rowsFrom_28 (by decide) (fun c_12 => ?_) (fun c_12 => ?_)
      · have hf := it_f c_12 hf
        refine lv_iconst (v := 0) hx hb dX4_rowsFrom_49 (by decide) ?_
        refine lv_istore (lv' := [(4, .int (0 : Int32)), (3, .int r_6), (2, .int r_3), (0, .ref (A 6)), (1, .int p1)]) hx hb dX4_rowsFrom_50 hl (by decide) rfl (fun ls hl => ?_)
        refine lv_iload_n hx hb dX4_rowsFrom_52 rfl (lv_at hl 2 rfl) ?_
        refine lv_istore (lv' := [(5, .int r_3), (4, .int (0 : Int32)), (3, .int r_6), (2, .int r_3), (0, .ref (A 6)), (1, .int p1)]) hx hb dX4_rowsFrom_53 hl (by decide) rfl (fun ls hl => ?_)
        obtain ⟨K_13, eK_13, hf⟩ := fX4_rowsFrom_d1_L55_g hf
        have hEK_13 : ∀ (x4_15 : Int32) (x5_16 : Int32) (z_14 : Mem) (H : Heap) (locs : List Loc) (ls : Array Slot), K_13 x4_15 x5_16 z_14 = some (r, z') → wIs dC dI A cI cJ cZ z_14 H → va_S (fr A) s.heap H locs → lv_has ls 6 [(0, .ref (A 6)), (1, .int p1), (2, .int r_3), (3, .int r_6), (4, .int x4_15), (5, .int x5_16)] → WI p l e wsX4_rowsFrom 6 s m [.ref (A 6), .int p1] below meth c dC dI A cI cJ cZ r z' H locs (F0 m 103 ls []) := by
          intro x4_15 x5_16 z_14 H locs ls hf hP hS hl
          have hf := ap3 eK_13 hf
          refine lv_iload hx hb dX4_rowsFrom_103 (lv_at hl 4 rfl) ?_
          exact retI hx hb hr hlocks hP hS hf dX4_rowsFrom_105
        have hLK_13 : ∀ (n_20 : Nat) (x4_18 : Int32) (x5_19 : Int32) (z_17 : Mem) (H : Heap) (locs : List Loc) (ls : Array Slot), fX4_rowsFrom_d1_L55 K_13 p1 r_6 n_20 x4_18 x5_19 z_17 = some (r, z') → wIs dC dI A cI cJ cZ z_17 H → va_S (fr A) s.heap H locs → lv_has ls 6 [(0, .ref (A 6)), (1, .int p1), (2, .int r_3), (3, .int r_6), (4, .int x4_18), (5, .int x5_19)] → WI p l e wsX4_rowsFrom 6 s m [.ref (A 6), .int p1] below meth c dC dI A cI cJ cZ r z' H locs (F0 m 55 ls []) := by
          intro n_20
          induction n_20 with
          | zero => intro x4_18 x5_19 z_17 H locs ls hf; rw [fX4_rowsFrom_d1_L55_0] at hf; cases hf
          | succ n_20 ihK_13 =>
            intro x4_18 x5_19 z_17 H locs ls hf hP hS hl
            rw [fX4_rowsFrom_d1_L55_s] at hf
            refine lv_iload hx hb dX4_rowsFrom_55 (lv_at hl 5 rfl) ?_
            refine lv_iload_n hx hb dX4_rowsFrom_57 rfl (lv_at hl 3 rfl) ?_
            refine lv_icmp_gt (tgt := 103) hx hb dX4_rowsFrom_58 (by decide) (fun c_21 => ?_) (fun c_21 => ?_)
            · have hf := it_t c_21 hf
              exact hEK_13 _ _ _ _ _ _ hf hP hS (lv_sub hl [0, 1, 2, 3, 4, 5] rfl)
            · have hf := it_f c_21 hf
              refine lv_aload_n hx hb dX4_rowsFrom_61 rfl (lv_at hl 0 rfl) ?_
              refine lv_iload_n hx hb dX4_rowsFrom_62 rfl (lv_at hl 1 rfl) ?_
              refine lv_iload hx hb dX4_rowsFrom_63 (lv_at hl 5 rfl) ?_
              obtain ⟨r_22, z_23, h_24, hf⟩ := cl_el hf
              refine callVV (As := [.int p1, .int x5_19]) (rest := []) (ci := 4) (q0 := 6) ⟨hx, hb, hml, hown, hts⟩ (tX4_give (l := l) (dC := dC) (dI := dI) (t0 := t0) (cI := cI) (cJ := cJ) (cZ := cZ) hA h_24) (cwV 2 hts gX4_rowsFrom_X4_give rfl rfl rfl (by decide +kernel) ⟨Nat.le_of_ble_eq_true rfl, Nat.le_of_ble_eq_true rfl⟩) hK hZ hP hS rfl (wc_6 A cI cJ cZ z_17) rfl rfl rfl hl.1 (Nat.le_of_ble_eq_true rfl) ⟨Nat.zero_le _, Nat.zero_le _⟩ dX4_rowsFrom_65 (fun H locs hP hS => ?_)
              refine lv_iload hx hb dX4_rowsFrom_68 (lv_at hl 4 rfl) ?_
              refine lv_aload_n hx hb dX4_rowsFrom_70 rfl (lv_at hl 0 rfl) ?_
              refine lv_iload_n hx hb dX4_rowsFrom_71 rfl (lv_at hl 1 rfl) ?_
              refine lv_iload hx hb dX4_rowsFrom_72 (lv_at hl 5 rfl) ?_
              refine lv_iload hx hb dX4_rowsFrom_74 (lv_at hl 5 rfl) ?_
              refine lv_aload_n hx hb dX4_rowsFrom_76 rfl (lv_at hl 0 rfl) ?_
              refine lv_iload_n hx hb dX4_rowsFrom_77 rfl (lv_at hl 1 rfl) ?_
              refine lv_iconst (v := 1) hx hb dX4_rowsFrom_78 (by decide) ?_
              refine lv_iadd hx hb dX4_rowsFrom_79 ?_
              obtain ⟨r_25, z_26, h_27, hf⟩ := cl_el hf
              refine callSI (As := [.ref (A 6), .int (p1 + (1 : Int32))]) (rest := [.int x5_19, .int x5_19, .int p1, .ref (A 6), .int x4_18]) ⟨hx, hb, hml, hown, hts⟩ (tX4_rowsFrom_d2 (l := l) (dC := dC) (dI := dI) (t0 := t0) (cI := cI) (cJ := cJ) (cZ := cZ) hA h_27) (va_cwS 2 hts gX4_rowsFrom_X4_rowsFrom rfl rfl rfl (by decide +kernel) ⟨Nat.le_of_ble_eq_true rfl, Nat.le_of_ble_eq_true rfl⟩) hK hZ hP hS rfl rfl hl.1 (Nat.le_of_ble_eq_true rfl) ⟨Nat.zero_le _, Nat.zero_le _⟩ dX4_rowsFrom_80 (fun H locs hP hS => ?_)
              obtain ⟨r_28, z_29, h_30, hf⟩ := cl_el hf
              refine callVI (As := [.int p1, .int x5_19, .int x5_19, .int r_25]) (rest := [.int x4_18]) (ci := 4) (q0 := 6) ⟨hx, hb, hml, hown, hts⟩ (tX4_noted (l := l) (dC := dC) (dI := dI) (t0 := t0) (cI := cI) (cJ := cJ) (cZ := cZ) hA h_30) (cwV 4 hts gX4_rowsFrom_X4_noted rfl rfl rfl (by decide +kernel) ⟨Nat.le_of_ble_eq_true rfl, Nat.le_of_ble_eq_true rfl⟩) hK hZ hP hS rfl (wc_6 A cI cJ cZ z_26) rfl rfl rfl hl.1 (Nat.le_of_ble_eq_true rfl) ⟨Nat.zero_le _, Nat.zero_le _⟩ dX4_rowsFrom_83 (fun H locs hP hS => ?_)
              refine lv_iadd hx hb dX4_rowsFrom_86 ?_
              refine lv_topi (fun x4_31 ex4_31 => ?_)
              have hf := lt_at ex4_31 hf; clear ex4_31
              refine lv_istore (lv' := [(4, .int x4_31), (0, .ref (A 6)), (1, .int p1), (2, .int r_3), (3, .int r_6), (5, .int x5_19)]) hx hb dX4_rowsFrom_87 hl (by decide) rfl (fun ls hl => ?_)
              refine lv_aload_n hx hb dX4_rowsFrom_89 rfl (lv_at hl 1 rfl) ?_
              refine lv_iload_n hx hb dX4_rowsFrom_90 rfl (lv_at hl 2 rfl) ?_
              refine lv_iload hx hb dX4_rowsFrom_91 (lv_at hl 5 rfl) ?_
              refine lv_ineg hx hb dX4_rowsFrom_93 ?_
              obtain ⟨r_32, z_33, h_34, hf⟩ := cl_el hf
              refine callVV (As := [.int p1, .int (-x5_19)]) (rest := []) (ci := 4) (q0 := 6) ⟨hx, hb, hml, hown, hts⟩ (tX4_give (l := l) (dC := dC) (dI := dI) (t0 := t0) (cI := cI) (cJ := cJ) (cZ := cZ) hA h_34) (cwV 2 hts gX4_rowsFrom_X4_give rfl rfl rfl (by decide +kernel) ⟨Nat.le_of_ble_eq_true rfl, Nat.le_of_ble_eq_true rfl⟩) hK hZ hP hS rfl (wc_6 A cI cJ cZ z_29) rfl rfl rfl hl.1 (Nat.le_of_ble_eq_true rfl) ⟨Nat.zero_le _, Nat.zero_le _⟩ dX4_rowsFrom_94 (fun H locs hP hS => ?_)
              obtain ⟨x5_35, ex5_35⟩ : ∃ q : Int32, q = x5_19 + (1 : Int32) := ⟨_, rfl⟩
              refine lv_iinc (v := x5_35) (lv' := [(5, .int x5_35), (4, .int x4_31), (0, .ref (A 6)), (1, .int p1), (2, .int r_3), (3, .int r_6)]) hx hb dX4_rowsFrom_97 hl (k := 5) rfl (by rw [ex5_35]; rfl) (by decide) rfl (fun ls hl => ?_)
              have hf := lt_at ex5_35 hf; clear ex5_35
              refine lv_goto (tgt := 55) hx hb dX4_rowsFrom_100 (by decide) ?_
              exact ihK_13 _ _ _ _ _ _ hf hP hS (lv_sub hl [2, 3, 4, 5, 1, 0] rfl)
        exact hLK_13 FU _ _ _ _ _ _ hf hP hS (lv_sub hl [4, 5, 3, 2, 1, 0] rfl)
      · have hf := it_t c_12 hf
        refine lv_bipush (v := 10) hx hb dX4_rowsFrom_31 (by decide) ?_
        refine lv_aload_n hx hb dX4_rowsFrom_33 rfl (lv_at hl 2 rfl) ?_
        refine lv_iload_n hx hb dX4_rowsFrom_34 rfl (lv_at hl 3 rfl) ?_
        refine lv_iload_n hx hb dX4_rowsFrom_35 rfl (lv_at hl 1 rfl) ?_
        refine lv_iload_n hx hb dX4_rowsFrom_36 rfl (lv_at hl 0 rfl) ?_
        refine lv_aload_n hx hb dX4_rowsFrom_37 rfl (lv_at hl 2 rfl) ?_
        refine lv_iload_n hx hb dX4_rowsFrom_38 rfl (lv_at hl 3 rfl) ?_
        refine lv_iconst (v := 1) hx hb dX4_rowsFrom_39 (by decide) ?_
        refine lv_iadd hx hb dX4_rowsFrom_40 ?_
        obtain ⟨r_36, z_37, h_38, hf⟩ := cl_el hf
        refine callSI (As := [.ref (A 6), .int (p1 + (1 : Int32))]) (rest := [.int r_6, .int r_3, .int p1, .ref (A 6), .int (10 : Int32)]) ⟨hx, hb, hml, hown, hts⟩ (tX4_rowsFrom_d2 (l := l) (dC := dC) (dI := dI) (t0 := t0) (cI := cI) (cJ := cJ) (cZ := cZ) hA h_38) (va_cwS 2 hts gX4_rowsFrom_X4_rowsFrom rfl rfl rfl (by decide +kernel) ⟨Nat.le_of_ble_eq_true rfl, Nat.le_of_ble_eq_true rfl⟩) hK hZ hP hS rfl rfl hl.1 (Nat.le_of_ble_eq_true rfl) ⟨Nat.zero_le _, Nat.zero_le _⟩ dX4_rowsFrom_41 (fun H locs hP hS => ?_)
        obtain ⟨r_39, z_40, h_41, hf⟩ := cl_el hf
        refine callVI (As := [.int p1, .int r_3, .int r_6, .int r_36]) (rest := [.int (10 : Int32)]) (ci := 4) (q0 := 6) ⟨hx, hb, hml, hown, hts⟩ (tX4_noted (l := l) (dC := dC) (dI := dI) (t0 := t0) (cI := cI) (cJ := cJ) (cZ := cZ) hA h_41) (cwV 4 hts gX4_rowsFrom_X4_noted rfl rfl rfl (by decide +kernel) ⟨Nat.le_of_ble_eq_true rfl, Nat.le_of_ble_eq_true rfl⟩) hK hZ hP hS rfl (wc_6 A cI cJ cZ z_37) rfl rfl rfl hl.1 (Nat.le_of_ble_eq_true rfl) ⟨Nat.zero_le _, Nat.zero_le _⟩ dX4_rowsFrom_44 (fun H locs hP hS => ?_)
        refine lv_imul hx hb dX4_rowsFrom_47 ?_
        exact retI hx hb hr hlocks hP hS hf dX4_rowsFrom_48
    · have hf := it_f c_2 hf
      refine lv_iconst (v := 1) hx hb dX4_rowsFrom_9 (by decide) ?_
      exact retI hx hb hr hlocks hP hS hf dX4_rowsFrom_10
