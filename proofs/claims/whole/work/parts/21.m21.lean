set_option maxHeartbeats 4000000 in
set_option maxRecDepth 100000 in
theorem tX9_ones {l : Launch} {dC : Nat → ClassId} {dI : Nat → Nat → Nat} {A : Nat → Nat} {t0 : Nat} {cI cJ cZ : ClassId} (hA : dst A) {p0 : Int32} {z : Mem} {r : Int32} {z' : Mem} (hf : fX9_ones p0 z = some (r, z')) : MI l dC dI A t0 cI cJ cZ yX9_ones wsX9_ones 0 [.int p0] z r z' := by
  refine Met.ofW (cc := cX9_ones) (maxL := 3) (ret := (some .int)) (by decide) rfl ?_
  intro p e s m args below meth c s₁ B hml hv
  obtain ⟨rfl, hP, hK, hZ⟩ := hv
  have hx := B.exec
  have hb := B.bytes
  have hr := B.returns
  have hts := atoms_spec (ws := wsX9_ones) B.pre
  have hown : s.vm.findClass RX9 = some m.cls := findClass_of_methodNamed B.named
  have hlocks := B.notSynchronized
  have hS : va_S (fr A) s.heap s.heap [] := va_S.rf
  have hl := lv_entry ([.int p0]) (n := 3) (Nat.le_of_ble_eq_true rfl)
  rw [lg_entry_eq]
  generalize (lg_sl ([.int p0]) ++ List.replicate (3 - (lg_sl ([.int p0])).length) Slot.unset).toArray = ls at hl ⊢
  have hl : lv_has ls 3 [(0, .int p0)] := hl
  have hP : wIs dC dI A cI cJ cZ z s.heap := hP
  rw [fX9_ones] at hf
  refine lv_iconst (v := 0) hx hb dX9_ones_0 (by decide) ?_
  refine lv_istore_n (lv' := [(1, .int (0 : Int32)), (0, .int p0)]) hx hb dX9_ones_1 rfl hl (by decide) rfl (fun ls hl => ?_)
  refine lv_iconst (v := 0) hx hb dX9_ones_2 (by decide) ?_
  refine lv_istore_n (lv' := [(2, .int (0 : Int32)), (1, .int (0 : Int32)), (0, .int p0)]) hx hb dX9_ones_3 rfl hl (by decide) rfl (fun ls hl => ?_)
  obtain ⟨K_1, eK_1, hf⟩ := fX9_ones_L4_g hf
  have hEK_1 : ∀ (x1_3 : Int32) (x2_4 : Int32) (z_2 : Mem) (H : Heap) (locs : List Loc) (ls : Array Slot), K_1 x1_3 x2_4 z_2 = some (r, z') → wIs dC dI A cI cJ cZ z_2 H → va_S (fr A) s.heap H locs → lv_has ls 3 [(0, .int p0), (1, .int x1_3), (2, .int x2_4)] → WI p l e wsX9_ones 0 s m [.int p0] below meth c dC dI A cI cJ cZ r z' H locs (F0 m 24 ls []) := by
    intro x1_3 x2_4 z_2 H locs ls hf hP hS hl
    have hf := ap3 eK_1 hf
    refine lv_iload_n hx hb dX9_ones_24 rfl (lv_at hl 1 rfl) ?_
    exact retI hx hb hr hlocks hP hS hf dX9_ones_25
  have hLK_1 : ∀ (n_8 : Nat) (x1_6 : Int32) (x2_7 : Int32) (z_5 : Mem) (H : Heap) (locs : List Loc) (ls : Array Slot), fX9_ones_L4 K_1 p0 n_8 x1_6 x2_7 z_5 = some (r, z') → wIs dC dI A cI cJ cZ z_5 H → va_S (fr A) s.heap H locs → lv_has ls 3 [(0, .int p0), (1, .int x1_6), (2, .int x2_7)] → WI p l e wsX9_ones 0 s m [.int p0] below meth c dC dI A cI cJ cZ r z' H locs (F0 m 4 ls []) := by
    intro n_8
    induction n_8 with
    | zero => intro x1_6 x2_7 z_5 H locs ls hf; rw [fX9_ones_L4_0] at hf; cases hf
    | succ n_8 ihK_1 =>
      intro x1_6 x2_7 z_5 H locs ls hf hP hS hl
      rw [fX9_ones_L4_s] at hf
      refine lv_iload_n hx hb dX9_ones_4 rfl (lv_at hl 2 rfl) ?_
      refine lv_bipush (v := 9) hx hb dX9_ones_5 (by decide) ?_
      refine lv_icmp_ge (tgt := 24) hx hb dX9_ones_7 (by decide) (fun c_9 => ?_) (fun c_9 => ?_)
      · have hf := it_t c_9 hf
        exact hEK_1 _ _ _ _ _ _ hf hP hS (lv_sub hl [0, 1, 2] rfl)
      · have hf := it_f c_9 hf
        refine lv_iload_n hx hb dX9_ones_10 rfl (lv_at hl 1 rfl) ?_
        refine lv_iload_n hx hb dX9_ones_11 rfl (lv_at hl 0 rfl) ?_
        refine lv_iload_n hx hb dX9_ones_12 rfl (lv_at hl 2 rfl) ?_
        refine lv_ishr hx hb dX9_ones_13 ?_
        refine lv_iconst (v := 1) hx hb dX9_ones_14 (by decide) ?_
        refine lv_iand hx hb dX9_ones_15 ?_
        refine lv_iadd hx hb dX9_ones_16 ?_
        refine lv_topi (fun x1_10 ex1_10 => ?_)
        have hf := lt_at ex1_10 hf; clear ex1_10
        refine lv_istore_n (lv' := [(1, .int x1_10), (0, .int p0), (2, .int x2_7)]) hx hb dX9_ones_17 rfl hl (by decide) rfl (fun ls hl => ?_)
        obtain ⟨x2_11, ex2_11⟩ : ∃ q : Int32, q = x2_7 + (1 : Int32) := ⟨_, rfl⟩
        refine lv_iinc (v := x2_11) (lv' := [(2, .int x2_11), (1, .int x1_10), (0, .int p0)]) hx hb dX9_ones_18 hl (k := 2) rfl (by rw [ex2_11]; rfl) (by decide) rfl (fun ls hl => ?_)
        have hf := lt_at ex2_11 hf; clear ex2_11
        refine lv_goto (tgt := 4) hx hb dX9_ones_21 (by decide) ?_
        exact ihK_1 _ _ _ _ _ _ hf hP hS (lv_sub hl [2, 1, 0] rfl)
  exact hLK_1 FU _ _ _ _ _ _ hf hP hS (lv_sub hl [2, 1, 0] rfl)
set_option maxHeartbeats 4000000 in
set_option maxRecDepth 100000 in
theorem tX9_weigh {l : Launch} {dC : Nat → ClassId} {dI : Nat → Nat → Nat} {A : Nat → Nat} {t0 : Nat} {cI cJ cZ : ClassId} (hA : dst A) {p0 : Int32} {p1 : Int32} {p2 : Int32} {z : Mem} {r : Int32} {z' : Mem} (hf : fX9_weigh p0 p1 p2 z = some (r, z')) : MI l dC dI A t0 cI cJ cZ yX9_weigh wsX9_weigh 1 [.ref (A 25), .int p0, .int p1, .int p2] z r z' := by
  refine Met.ofW (cc := cX9_weigh) (maxL := 4) (ret := (some .int)) (by decide) rfl ?_
  intro p e s m args below meth c s₁ B hml hv
  obtain ⟨rfl, hP, hK, hZ⟩ := hv
  have hx := B.exec
  have hb := B.bytes
  have hr := B.returns
  have hts := atoms_spec (ws := wsX9_weigh) B.pre
  have hown : s.vm.findClass RX9 = some m.cls := findClass_of_methodNamed B.named
  have hlocks := B.notSynchronized
  have hS : va_S (fr A) s.heap s.heap [] := va_S.rf
  have i9 : ∀ w ∈ wsX90, w ∈ wsX9_weigh := fun _ h => List.mem_cons_of_mem _ (List.mem_append_right _ h)
  have hl := lv_entry ([.ref (A 25), .int p0, .int p1, .int p2]) (n := 4) (Nat.le_of_ble_eq_true rfl)
  rw [lg_entry_eq]
  generalize (lg_sl ([.ref (A 25), .int p0, .int p1, .int p2]) ++ List.replicate (4 - (lg_sl ([.ref (A 25), .int p0, .int p1, .int p2])).length) Slot.unset).toArray = ls at hl ⊢
  have hl : lv_has ls 4 [(0, .ref (A 25)), (1, .int p0), (2, .int p1), (3, .int p2)] := hl
  have hP : wIs dC dI A cI cJ cZ z s.heap := hP
  rw [fX9_weigh] at hf
  refine lv_iload_n hx hb dX9_weigh_0 rfl (lv_at hl 1 rfl) ?_
  refine lv_i2l hx hb dX9_weigh_1 rfl ?_
  refine lv_lconst (v := 1) hx hb dX9_weigh_2 rfl ?_
  refine lv_ldc2 hx hb hown (hts (.constantLong RX9 159 (511)) (by decide +kernel)) dX9_weigh_3 ?_
  obtain ⟨r_1, z_2, h_3, hf⟩ := cl_el hf
  refine callSI (As := [.long (p0.toInt64), .long (1 : Int64), .long (511 : Int64)]) (rest := []) ⟨hx, hb, hml, hown, hts⟩ (tX9_in (l := l) (dC := dC) (dI := dI) (t0 := t0) (cI := cI) (cJ := cJ) (cZ := cZ) hA h_3) (va_cwS 3 hts gX9_weigh_X9_in rfl rfl rfl (by decide +kernel) ⟨Nat.le_of_ble_eq_true rfl, Nat.le_of_ble_eq_true rfl⟩) hK hZ hP hS rfl rfl hl.1 (Nat.le_of_ble_eq_true rfl) ⟨Nat.zero_le _, Nat.zero_le _⟩ dX9_weigh_6 (fun H locs hP hS => ?_)
  refine lv_if_eq (tgt := 53) hx hb dX9_weigh_9 (by decide) (fun c_4 => ?_) (fun c_4 => ?_)
  · have hf := it_t c_4 hf
    refine lv_bipush (v := -2) hx hb dX9_weigh_53 (by decide) ?_
    exact retI hx hb hr hlocks hP hS hf dX9_weigh_55
  · have hf := it_f c_4 hf
    refine lv_iload_n hx hb dX9_weigh_12 rfl (lv_at hl 2 rfl) ?_
    refine lv_i2l hx hb dX9_weigh_13 rfl ?_
    refine lv_lconst (v := 1) hx hb dX9_weigh_14 rfl ?_
    refine lv_ldc2 hx hb hown (hts (.constantLong RX9 159 (511)) (by decide +kernel)) dX9_weigh_15 ?_
    obtain ⟨r_5, z_6, h_7, hf⟩ := cl_el hf
    refine callSI (As := [.long (p1.toInt64), .long (1 : Int64), .long (511 : Int64)]) (rest := []) ⟨hx, hb, hml, hown, hts⟩ (tX9_in (l := l) (dC := dC) (dI := dI) (t0 := t0) (cI := cI) (cJ := cJ) (cZ := cZ) hA h_7) (va_cwS 3 hts gX9_weigh_X9_in rfl rfl rfl (by decide +kernel) ⟨Nat.le_of_ble_eq_true rfl, Nat.le_of_ble_eq_true rfl⟩) hK hZ hP hS rfl rfl hl.1 (Nat.le_of_ble_eq_true rfl) ⟨Nat.zero_le _, Nat.zero_le _⟩ dX9_weigh_18 (fun H locs hP hS => ?_)
    refine lv_if_eq (tgt := 53) hx hb dX9_weigh_21 (by decide) (fun c_8 => ?_) (fun c_8 => ?_)
    · have hf := it_t c_8 hf
      refine lv_bipush (v := -2) hx hb dX9_weigh_53 (by decide) ?_
      exact retI hx hb hr hlocks hP hS hf dX9_weigh_55
    · have hf := it_f c_8 hf
      refine lv_iload_n hx hb dX9_weigh_24 rfl (lv_at hl 1 rfl) ?_
      refine lv_iload_n hx hb dX9_weigh_25 rfl (lv_at hl 2 rfl) ?_
      refine lv_iand hx hb dX9_weigh_26 ?_
      refine lv_if_ne (tgt := 53) hx hb dX9_weigh_27 (by decide) (fun c_9 => ?_) (fun c_9 => ?_)
      · have hf := it_f c_9 hf
        refine lv_bipush (v := -2) hx hb dX9_weigh_53 (by decide) ?_
        exact retI hx hb hr hlocks hP hS hf dX9_weigh_55
      · have hf := it_t c_9 hf
        refine lv_iload_n hx hb dX9_weigh_30 rfl (lv_at hl 1 rfl) ?_
        obtain ⟨r_10, z_11, h_12, hf⟩ := cl_el hf
        refine callSI (As := [.int p0]) (rest := []) ⟨hx, hb, hml, hown, hts⟩ (tX9_ones (l := l) (dC := dC) (dI := dI) (t0 := t0) (cI := cI) (cJ := cJ) (cZ := cZ) hA h_12) (va_cwS 1 hts gX9_weigh_X9_ones rfl rfl rfl (by decide +kernel) ⟨Nat.le_of_ble_eq_true rfl, Nat.le_of_ble_eq_true rfl⟩) hK hZ hP hS rfl rfl hl.1 (Nat.le_of_ble_eq_true rfl) ⟨Nat.zero_le _, Nat.zero_le _⟩ dX9_weigh_31 (fun H locs hP hS => ?_)
        refine lv_iload_n hx hb dX9_weigh_34 rfl (lv_at hl 2 rfl) ?_
        obtain ⟨r_13, z_14, h_15, hf⟩ := cl_el hf
        refine callSI (As := [.int p1]) (rest := [.int r_10]) ⟨hx, hb, hml, hown, hts⟩ (tX9_ones (l := l) (dC := dC) (dI := dI) (t0 := t0) (cI := cI) (cJ := cJ) (cZ := cZ) hA h_15) (va_cwS 1 hts gX9_weigh_X9_ones rfl rfl rfl (by decide +kernel) ⟨Nat.le_of_ble_eq_true rfl, Nat.le_of_ble_eq_true rfl⟩) hK hZ hP hS rfl rfl hl.1 (Nat.le_of_ble_eq_true rfl) ⟨Nat.zero_le _, Nat.zero_le _⟩ dX9_weigh_35 (fun H locs hP hS => ?_)
        refine lv_icmp_ne (tgt := 53) hx hb dX9_weigh_38 (by decide) (fun c_16 => ?_) (fun c_16 => ?_)
        · have hf := it_f c_16 hf
          refine lv_bipush (v := -2) hx hb dX9_weigh_53 (by decide) ?_
          exact retI hx hb hr hlocks hP hS hf dX9_weigh_55
        · have hf := it_t c_16 hf
          refine lv_iload_n hx hb dX9_weigh_41 rfl (lv_at hl 3 rfl) ?_
          refine lv_i2l hx hb dX9_weigh_42 rfl ?_
          refine lv_lconst (v := 0) hx hb dX9_weigh_43 rfl ?_
          refine lv_ldc2 hx hb hown (hts (.constantLong RX9 127 (2)) (by decide +kernel)) dX9_weigh_44 ?_
          obtain ⟨r_17, z_18, h_19, hf⟩ := cl_el hf
          refine callSI (As := [.long (p2.toInt64), .long (0 : Int64), .long (2 : Int64)]) (rest := []) ⟨hx, hb, hml, hown, hts⟩ (tX9_in (l := l) (dC := dC) (dI := dI) (t0 := t0) (cI := cI) (cJ := cJ) (cZ := cZ) hA h_19) (va_cwS 3 hts gX9_weigh_X9_in rfl rfl rfl (by decide +kernel) ⟨Nat.le_of_ble_eq_true rfl, Nat.le_of_ble_eq_true rfl⟩) hK hZ hP hS rfl rfl hl.1 (Nat.le_of_ble_eq_true rfl) ⟨Nat.zero_le _, Nat.zero_le _⟩ dX9_weigh_47 (fun H locs hP hS => ?_)
          refine lv_if_ne (tgt := 56) hx hb dX9_weigh_50 (by decide) (fun c_20 => ?_) (fun c_20 => ?_)
          · have hf := it_f c_20 hf
            refine lv_aload_n hx hb dX9_weigh_56 rfl (lv_at hl 0 rfl) ?_
            refine va_get (D := (dC, dI)) (ci := 9) (v := .int (z_18.1 25 17)) (C := RX9) (T := TX9) (N := 34) hx hb hts i9 hown hK hP 25 (wc_25 A cI cJ cZ z_18) rfl 17 (by decide) (hts (.fieldLink RX9 164 "LightestRulesModel" "weighings" "I") (by decide +kernel)) (fun _ h9 => h9) rfl dX9_weigh_57 ?_
            refine lv_bipush (v := 10) hx hb dX9_weigh_60 (by decide) ?_
            refine lv_icmp_ne (tgt := 68) hx hb dX9_weigh_62 (by decide) (fun c_21 => ?_) (fun c_21 => ?_)
            · have hf := it_f c_21 hf
              refine lv_aload_n hx hb dX9_weigh_68 rfl (lv_at hl 0 rfl) ?_
              refine va_get (D := (dC, dI)) (ci := 9) (v := .ref (A 30)) (C := RX9) (T := TX9) (N := 34) hx hb hts i9 hown hK hP 25 (wc_25 A cI cJ cZ z_18) rfl 18 (by decide) (hts (.fieldLink RX9 22 "LightestRulesModel" "lefts" "[I") (by decide +kernel)) (fun _ h9 => h9) rfl dX9_weigh_69 ?_
              refine lv_aload_n hx hb dX9_weigh_72 rfl (lv_at hl 0 rfl) ?_
              refine va_get (D := (dC, dI)) (ci := 9) (v := .int (z_18.1 25 17)) (C := RX9) (T := TX9) (N := 34) hx hb hts i9 hown hK hP 25 (wc_25 A cI cJ cZ z_18) rfl 17 (by decide) (hts (.fieldLink RX9 164 "LightestRulesModel" "weighings" "I") (by decide +kernel)) (fun _ h9 => h9) rfl dX9_weigh_73 ?_
              refine lv_iload_n hx hb dX9_weigh_76 rfl (lv_at hl 1 rfl) ?_
              obtain ⟨n_22, hf⟩ := rg_el hf
              refine va_iast hx hb hK hP (wD hA cI cJ cZ z_18) hS 30 0 (wc_30 A cI cJ cZ z_18) rfl n_22 dX9_weigh_77 (fun H locs hP _ hS => ?_)
              rw [wa_30 A cI cJ cZ z_18 (z_18.1 25 17).toNatClampNeg p0] at hP
              obtain ⟨z_23, hP, hf⟩ := lt_P (P := fun q => wIs dC dI A cI cJ cZ q H) hP hf
              refine lv_aload_n hx hb dX9_weigh_78 rfl (lv_at hl 0 rfl) ?_
              refine va_get (D := (dC, dI)) (ci := 9) (v := .ref (A 31)) (C := RX9) (T := TX9) (N := 34) hx hb hts i9 hown hK hP 25 (wc_25 A cI cJ cZ z_23) rfl 19 (by decide) (hts (.fieldLink RX9 25 "LightestRulesModel" "rights" "[I") (by decide +kernel)) (fun _ h9 => h9) rfl dX9_weigh_79 ?_
              refine lv_aload_n hx hb dX9_weigh_82 rfl (lv_at hl 0 rfl) ?_
              refine va_get (D := (dC, dI)) (ci := 9) (v := .int (z_23.1 25 17)) (C := RX9) (T := TX9) (N := 34) hx hb hts i9 hown hK hP 25 (wc_25 A cI cJ cZ z_23) rfl 17 (by decide) (hts (.fieldLink RX9 164 "LightestRulesModel" "weighings" "I") (by decide +kernel)) (fun _ h9 => h9) rfl dX9_weigh_83 ?_
              refine lv_iload_n hx hb dX9_weigh_86 rfl (lv_at hl 2 rfl) ?_
              obtain ⟨n_24, hf⟩ := rg_el hf
              refine va_iast hx hb hK hP (wD hA cI cJ cZ z_23) hS 31 0 (wc_31 A cI cJ cZ z_23) rfl n_24 dX9_weigh_87 (fun H locs hP _ hS => ?_)
              rw [wa_31 A cI cJ cZ z_23 (z_23.1 25 17).toNatClampNeg p1] at hP
              obtain ⟨z_25, hP, hf⟩ := lt_P (P := fun q => wIs dC dI A cI cJ cZ q H) hP hf
              refine lv_aload_n hx hb dX9_weigh_88 rfl (lv_at hl 0 rfl) ?_
              refine va_get (D := (dC, dI)) (ci := 9) (v := .ref (A 32)) (C := RX9) (T := TX9) (N := 34) hx hb hts i9 hown hK hP 25 (wc_25 A cI cJ cZ z_25) rfl 20 (by decide) (hts (.fieldLink RX9 28 "LightestRulesModel" "comes" "[I") (by decide +kernel)) (fun _ h9 => h9) rfl dX9_weigh_89 ?_
              refine lv_aload_n hx hb dX9_weigh_92 rfl (lv_at hl 0 rfl) ?_
              refine va_get (D := (dC, dI)) (ci := 9) (v := .int (z_25.1 25 17)) (C := RX9) (T := TX9) (N := 34) hx hb hts i9 hown hK hP 25 (wc_25 A cI cJ cZ z_25) rfl 17 (by decide) (hts (.fieldLink RX9 164 "LightestRulesModel" "weighings" "I") (by decide +kernel)) (fun _ h9 => h9) rfl dX9_weigh_93 ?_
              refine lv_iload_n hx hb dX9_weigh_96 rfl (lv_at hl 3 rfl) ?_
              obtain ⟨n_26, hf⟩ := rg_el hf
              refine va_iast hx hb hK hP (wD hA cI cJ cZ z_25) hS 32 0 (wc_32 A cI cJ cZ z_25) rfl n_26 dX9_weigh_97 (fun H locs hP _ hS => ?_)
              rw [wa_32 A cI cJ cZ z_25 (z_25.1 25 17).toNatClampNeg p2] at hP
              obtain ⟨z_27, hP, hf⟩ := lt_P (P := fun q => wIs dC dI A cI cJ cZ q H) hP hf
              refine lv_aload_n hx hb dX9_weigh_98 rfl (lv_at hl 0 rfl) ?_
              refine lv_dup hx hb dX9_weigh_99 rfl ?_
              refine va_get (D := (dC, dI)) (ci := 9) (v := .int (z_27.1 25 17)) (C := RX9) (T := TX9) (N := 34) hx hb hts i9 hown hK hP 25 (wc_25 A cI cJ cZ z_27) rfl 17 (by decide) (hts (.fieldLink RX9 164 "LightestRulesModel" "weighings" "I") (by decide +kernel)) (fun _ h9 => h9) rfl dX9_weigh_100 ?_
              refine lv_iconst (v := 1) hx hb dX9_weigh_103 (by decide) ?_
              refine lv_iadd hx hb dX9_weigh_104 ?_
              refine lv_topi (fun y_28 ey_28 => ?_)
              have hf := lt_at ey_28 hf; clear ey_28
              refine va_put (D := (dC, dI)) (ci := 9) (v := .int y_28) (ty := .int) (C := RX9) (T := TX9) (N := 34) hx hb hts i9 tyX9 tyX9_ok nmX9 hown hK hP (wD hA cI cJ cZ z_27) hS 25 (wc_25 A cI cJ cZ z_27) rfl 17 (by decide) (hts (.fieldLink RX9 164 "LightestRulesModel" "weighings" "I") (by decide +kernel)) (fun _ h9 => h9) rfl (by decide +kernel) rfl rfl (Nat.le_of_ble_eq_true rfl) dX9_weigh_105 (fun H locs hP _ hS => ?_)
              rw [ws_25_17 A cI cJ cZ z_27 y_28] at hP
              obtain ⟨z_29, hP, hf⟩ := lt_P (P := fun q => wIs dC dI A cI cJ cZ q H) hP hf
              refine lv_aload_n hx hb dX9_weigh_108 rfl (lv_at hl 0 rfl) ?_
              refine va_get (D := (dC, dI)) (ci := 9) (v := .int (z_29.1 25 17)) (C := RX9) (T := TX9) (N := 34) hx hb hts i9 hown hK hP 25 (wc_25 A cI cJ cZ z_29) rfl 17 (by decide) (hts (.fieldLink RX9 164 "LightestRulesModel" "weighings" "I") (by decide +kernel)) (fun _ h9 => h9) rfl dX9_weigh_109 ?_
              exact retI hx hb hr hlocks hP hS hf dX9_weigh_112
            · have hf := it_t c_21 hf
              refine lv_bipush (v := -4) hx hb dX9_weigh_65 (by decide) ?_
              exact retI hx hb hr hlocks hP hS hf dX9_weigh_67
          · have hf := it_t c_20 hf
            refine lv_bipush (v := -2) hx hb dX9_weigh_53 (by decide) ?_
            exact retI hx hb hr hlocks hP hS hf dX9_weigh_55
set_option maxHeartbeats 4000000 in
set_option maxRecDepth 100000 in
theorem tX6_clear {l : Launch} {dC : Nat → ClassId} {dI : Nat → Nat → Nat} {A : Nat → Nat} {t0 : Nat} {cI cJ cZ : ClassId} (hA : dst A)  {z : Mem} {ru : Unit} {z' : Mem} (hf : fX6_clear z = some (ru, z')) : MV l dC dI A t0 cI cJ cZ yX6_clear wsX6_clear 0 [.ref (A 5)] z z' := by
  refine Met.ofW (cc := cX6_clear) (maxL := 1) (ret := none) (by decide) rfl ?_
  intro p e s m args below meth c s₁ B hml hv
  obtain ⟨rfl, hP, hK, hZ⟩ := hv
  have hx := B.exec
  have hb := B.bytes
  have hr := B.returns
  have hts := atoms_spec (ws := wsX6_clear) B.pre
  have hown : s.vm.findClass RX6 = some m.cls := findClass_of_methodNamed B.named
  have hlocks := B.notSynchronized
  have hS : va_S (fr A) s.heap s.heap [] := va_S.rf
  have i6 : ∀ w ∈ wsX60, w ∈ wsX6_clear := fun _ h => List.mem_cons_of_mem _ (List.mem_append_right _ h)
  have hl := lv_entry ([.ref (A 5)]) (n := 1) (Nat.le_of_ble_eq_true rfl)
  rw [lg_entry_eq]
  generalize (lg_sl ([.ref (A 5)]) ++ List.replicate (1 - (lg_sl ([.ref (A 5)])).length) Slot.unset).toArray = ls at hl ⊢
  have hl : lv_has ls 1 [(0, .ref (A 5))] := hl
  have hP : wIs dC dI A cI cJ cZ z s.heap := hP
  rw [fX6_clear] at hf
  refine lv_aload_n hx hb dX6_clear_0 rfl (lv_at hl 0 rfl) ?_
  refine lv_iconst (v := 0) hx hb dX6_clear_1 (by decide) ?_
  refine va_put (D := (dC, dI)) (ci := 6) (v := .int (0 : Int32)) (ty := .int) (C := RX6) (T := TX6) (N := 4) hx hb hts i6 tyX6 tyX6_ok nmX6 hown hK hP (wD hA cI cJ cZ z) hS 5 (wc_5 A cI cJ cZ z) rfl 3 (by decide) (hts (.fieldLink RX6 19 "LightestRules$Weighings" "length" "I") (by decide +kernel)) (fun _ h9 => h9) rfl (by decide +kernel) rfl rfl (Nat.le_of_ble_eq_true rfl) dX6_clear_2 (fun H locs hP _ hS => ?_)
  rw [ws_5_3 A cI cJ cZ z (0 : Int32)] at hP
  obtain ⟨z_1, hP, hf⟩ := lt_P (P := fun q => wIs dC dI A cI cJ cZ q H) hP hf
  exact retV hx hb hr hlocks hP hS hf dX6_clear_5
set_option maxHeartbeats 4000000 in
set_option maxRecDepth 100000 in
theorem tX8_unweigh {l : Launch} {dC : Nat → ClassId} {dI : Nat → Nat → Nat} {A : Nat → Nat} {t0 : Nat} {cI cJ cZ : ClassId} (hA : dst A)  {z : Mem} {r : Int32} {z' : Mem} (hf : fX8_unweigh z = some (r, z')) : MI l dC dI A t0 cI cJ cZ yX8_unweigh wsX8_unweigh 1 [.ref (A 0)] z r z' := by
  refine Met.ofW (cc := cX8_unweigh) (maxL := 2) (ret := (some .int)) (by decide) rfl ?_
  intro p e s m args below meth c s₁ B hml hv
  obtain ⟨rfl, hP, hK, hZ⟩ := hv
  have hx := B.exec
  have hb := B.bytes
  have hr := B.returns
  have hts := atoms_spec (ws := wsX8_unweigh) B.pre
  have hown : s.vm.findClass RX8 = some m.cls := findClass_of_methodNamed B.named
  have hlocks := B.notSynchronized
  have hS : va_S (fr A) s.heap s.heap [] := va_S.rf
  have i8 : ∀ w ∈ wsX80, w ∈ wsX8_unweigh := fun _ h => List.mem_cons_of_mem _ (List.mem_append_left _ (List.mem_append_right _ h))
  have hl := lv_entry ([.ref (A 0)]) (n := 2) (Nat.le_of_ble_eq_true rfl)
  rw [lg_entry_eq]
  generalize (lg_sl ([.ref (A 0)]) ++ List.replicate (2 - (lg_sl ([.ref (A 0)])).length) Slot.unset).toArray = ls at hl ⊢
  have hl : lv_has ls 2 [(0, .ref (A 0))] := hl
  have hP : wIs dC dI A cI cJ cZ z s.heap := hP
  rw [fX8_unweigh] at hf
  refine lv_aload_n hx hb dX8_unweigh_0 rfl (lv_at hl 0 rfl) ?_
  refine va_get (D := (dC, dI)) (ci := 8) (v := .ref (A 5)) (C := RX8) (T := TX8) (N := 9) hx hb hts i8 hown hK hP 0 (wc_0 A cI cJ cZ z) rfl 4 (by decide) (hts (.fieldLink RX8 40 "LightestRules" "weighings" "LLightestRules$Weighings;") (by decide +kernel)) (fun _ h9 => h9) rfl dX8_unweigh_1 ?_
  obtain ⟨r_1, z_2, h_3, hf⟩ := cl_el hf
  refine callVI (As := []) (rest := []) (ci := 6) (q0 := 5) ⟨hx, hb, hml, hown, hts⟩ (tX6_length (l := l) (dC := dC) (dI := dI) (t0 := t0) (cI := cI) (cJ := cJ) (cZ := cZ) hA h_3) (cwV 0 hts gX8_unweigh_X6_length rfl rfl rfl (by decide +kernel) ⟨Nat.le_of_ble_eq_true rfl, Nat.le_of_ble_eq_true rfl⟩) hK hZ hP hS rfl (wc_5 A cI cJ cZ z) rfl rfl rfl hl.1 (Nat.le_of_ble_eq_true rfl) ⟨Nat.zero_le _, Nat.zero_le _⟩ dX8_unweigh_4 (fun H locs hP hS => ?_)
  refine lv_istore_n (lv' := [(1, .int r_1), (0, .ref (A 0))]) hx hb dX8_unweigh_7 rfl hl (by decide) rfl (fun ls hl => ?_)
  refine lv_aload_n hx hb dX8_unweigh_8 rfl (lv_at hl 1 rfl) ?_
  refine va_get (D := (dC, dI)) (ci := 8) (v := .ref (A 5)) (C := RX8) (T := TX8) (N := 9) hx hb hts i8 hown hK hP 0 (wc_0 A cI cJ cZ z_2) rfl 4 (by decide) (hts (.fieldLink RX8 40 "LightestRules" "weighings" "LLightestRules$Weighings;") (by decide +kernel)) (fun _ h9 => h9) rfl dX8_unweigh_9 ?_
  obtain ⟨r_4, z_5, h_6, hf⟩ := cl_el hf
  refine callVV (As := []) (rest := []) (ci := 6) (q0 := 5) ⟨hx, hb, hml, hown, hts⟩ (tX6_clear (l := l) (dC := dC) (dI := dI) (t0 := t0) (cI := cI) (cJ := cJ) (cZ := cZ) hA h_6) (cwV 0 hts gX8_unweigh_X6_clear rfl rfl rfl (by decide +kernel) ⟨Nat.le_of_ble_eq_true rfl, Nat.le_of_ble_eq_true rfl⟩) hK hZ hP hS rfl (wc_5 A cI cJ cZ z_2) rfl rfl rfl hl.1 (Nat.le_of_ble_eq_true rfl) ⟨Nat.zero_le _, Nat.zero_le _⟩ dX8_unweigh_12 (fun H locs hP hS => ?_)
  refine lv_iload_n hx hb dX8_unweigh_15 rfl (lv_at hl 0 rfl) ?_
  exact retI hx hb hr hlocks hP hS hf dX8_unweigh_16
set_option maxHeartbeats 4000000 in
set_option maxRecDepth 100000 in
theorem tX9_unweigh {l : Launch} {dC : Nat → ClassId} {dI : Nat → Nat → Nat} {A : Nat → Nat} {t0 : Nat} {cI cJ cZ : ClassId} (hA : dst A)  {z : Mem} {r : Int32} {z' : Mem} (hf : fX9_unweigh z = some (r, z')) : MI l dC dI A t0 cI cJ cZ yX9_unweigh wsX9_unweigh 0 [.ref (A 25)] z r z' := by
  refine Met.ofW (cc := cX9_unweigh) (maxL := 2) (ret := (some .int)) (by decide) rfl ?_
  intro p e s m args below meth c s₁ B hml hv
  obtain ⟨rfl, hP, hK, hZ⟩ := hv
  have hx := B.exec
  have hb := B.bytes
  have hr := B.returns
  have hts := atoms_spec (ws := wsX9_unweigh) B.pre
  have hown : s.vm.findClass RX9 = some m.cls := findClass_of_methodNamed B.named
  have hlocks := B.notSynchronized
  have hS : va_S (fr A) s.heap s.heap [] := va_S.rf
  have i9 : ∀ w ∈ wsX90, w ∈ wsX9_unweigh := fun _ h => List.mem_cons_of_mem _ (List.mem_append_right _ h)
  have hl := lv_entry ([.ref (A 25)]) (n := 2) (Nat.le_of_ble_eq_true rfl)
  rw [lg_entry_eq]
  generalize (lg_sl ([.ref (A 25)]) ++ List.replicate (2 - (lg_sl ([.ref (A 25)])).length) Slot.unset).toArray = ls at hl ⊢
  have hl : lv_has ls 2 [(0, .ref (A 25))] := hl
  have hP : wIs dC dI A cI cJ cZ z s.heap := hP
  rw [fX9_unweigh] at hf
  refine lv_aload_n hx hb dX9_unweigh_0 rfl (lv_at hl 0 rfl) ?_
  refine va_get (D := (dC, dI)) (ci := 9) (v := .int (z.1 25 17)) (C := RX9) (T := TX9) (N := 34) hx hb hts i9 hown hK hP 25 (wc_25 A cI cJ cZ z) rfl 17 (by decide) (hts (.fieldLink RX9 164 "LightestRulesModel" "weighings" "I") (by decide +kernel)) (fun _ h9 => h9) rfl dX9_unweigh_1 ?_
  refine lv_topi (fun x1_1 ex1_1 => ?_)
  have hf := lt_at ex1_1 hf; clear ex1_1
  refine lv_istore_n (lv' := [(1, .int x1_1), (0, .ref (A 25))]) hx hb dX9_unweigh_4 rfl hl (by decide) rfl (fun ls hl => ?_)
  refine lv_aload_n hx hb dX9_unweigh_5 rfl (lv_at hl 1 rfl) ?_
  refine lv_iconst (v := 0) hx hb dX9_unweigh_6 (by decide) ?_
  refine va_put (D := (dC, dI)) (ci := 9) (v := .int (0 : Int32)) (ty := .int) (C := RX9) (T := TX9) (N := 34) hx hb hts i9 tyX9 tyX9_ok nmX9 hown hK hP (wD hA cI cJ cZ z) hS 25 (wc_25 A cI cJ cZ z) rfl 17 (by decide) (hts (.fieldLink RX9 164 "LightestRulesModel" "weighings" "I") (by decide +kernel)) (fun _ h9 => h9) rfl (by decide +kernel) rfl rfl (Nat.le_of_ble_eq_true rfl) dX9_unweigh_7 (fun H locs hP _ hS => ?_)
  rw [ws_25_17 A cI cJ cZ z (0 : Int32)] at hP
  obtain ⟨z_2, hP, hf⟩ := lt_P (P := fun q => wIs dC dI A cI cJ cZ q H) hP hf
  refine lv_iload_n hx hb dX9_unweigh_10 rfl (lv_at hl 0 rfl) ?_
  exact retI hx hb hr hlocks hP hS hf dX9_unweigh_11
set_option maxHeartbeats 4000000 in
set_option maxRecDepth 100000 in
theorem tX6_suspectsBy {l : Launch} {dC : Nat → ClassId} {dI : Nat → Nat → Nat} {A : Nat → Nat} {t0 : Nat} {cI cJ cZ : ClassId} (hA : dst A) {p0 : Int32} {p1 : Int32} {z : Mem} {r : Int32} {z' : Mem} (hf : fX6_suspectsBy p0 p1 z = some (r, z')) : MI l dC dI A t0 cI cJ cZ yX6_suspectsBy wsX6_suspectsBy 0 [.ref (A 5), .int p0, .int p1] z r z' := by
  refine Met.ofW (cc := cX6_suspectsBy) (maxL := 4) (ret := (some .int)) (by decide) rfl ?_
  intro p e s m args below meth c s₁ B hml hv
  obtain ⟨rfl, hP, hK, hZ⟩ := hv
  have hx := B.exec
  have hb := B.bytes
  have hr := B.returns
  have hts := atoms_spec (ws := wsX6_suspectsBy) B.pre
  have hown : s.vm.findClass RX6 = some m.cls := findClass_of_methodNamed B.named
  have hlocks := B.notSynchronized
  have hS : va_S (fr A) s.heap s.heap [] := va_S.rf
  have i6 : ∀ w ∈ wsX60, w ∈ wsX6_suspectsBy := fun _ h => List.mem_cons_of_mem _ (List.mem_append_right _ h)
  have hl := lv_entry ([.ref (A 5), .int p0, .int p1]) (n := 4) (Nat.le_of_ble_eq_true rfl)
  rw [lg_entry_eq]
  generalize (lg_sl ([.ref (A 5), .int p0, .int p1]) ++ List.replicate (4 - (lg_sl ([.ref (A 5), .int p0, .int p1])).length) Slot.unset).toArray = ls at hl ⊢
  have hl : lv_has ls 4 [(0, .ref (A 5)), (1, .int p0), (2, .int p1)] := hl
  have hP : wIs dC dI A cI cJ cZ z s.heap := hP
  rw [fX6_suspectsBy] at hf
  refine lv_aload_n hx hb dX6_suspectsBy_0 rfl (lv_at hl 0 rfl) ?_
  refine va_get (D := (dC, dI)) (ci := 6) (v := .ref (A 16)) (C := RX6) (T := TX6) (N := 4) hx hb hts i6 hown hK hP 5 (wc_5 A cI cJ cZ z) rfl 2 (by decide) (hts (.fieldLink RX6 16 "LightestRules$Weighings" "results" "[I") (by decide +kernel)) (fun _ h9 => h9) rfl dX6_suspectsBy_1 ?_
  refine lv_iload_n hx hb dX6_suspectsBy_4 rfl (lv_at hl 1 rfl) ?_
  obtain ⟨n_1, hf⟩ := rg_el hf
  refine va_iald hx hb hK hP 16 0 (wc_16 A cI cJ cZ z) rfl n_1 dX6_suspectsBy_5 ?_
  refine lv_topi (fun a_2 ea_2 => ?_)
  have hf := lt_at ea_2 hf; clear ea_2
  refine lv_if_ne (tgt := 29) hx hb dX6_suspectsBy_6 (by decide) (fun c_3 => ?_) (fun c_3 => ?_)
  · have hf := it_f c_3 hf
    refine lv_aload_n hx hb dX6_suspectsBy_29 rfl (lv_at hl 0 rfl) ?_
    refine va_get (D := (dC, dI)) (ci := 6) (v := .ref (A 16)) (C := RX6) (T := TX6) (N := 4) hx hb hts i6 hown hK hP 5 (wc_5 A cI cJ cZ z) rfl 2 (by decide) (hts (.fieldLink RX6 16 "LightestRules$Weighings" "results" "[I") (by decide +kernel)) (fun _ h9 => h9) rfl dX6_suspectsBy_30 ?_
    refine lv_iload_n hx hb dX6_suspectsBy_33 rfl (lv_at hl 1 rfl) ?_
    obtain ⟨n_4, hf⟩ := rg_el hf
    refine va_iald hx hb hK hP 16 0 (wc_16 A cI cJ cZ z) rfl n_4 dX6_suspectsBy_34 ?_
    refine lv_topi (fun a_5 ea_5 => ?_)
    have hf := lt_at ea_5 hf; clear ea_5
    refine lv_iconst (v := 1) hx hb dX6_suspectsBy_35 (by decide) ?_
    obtain ⟨K_6, eK_6, hf⟩ := jn_el hf
    have hK_6 : ∀ (v_7 : Int32) (z_8 : Mem) (H : Heap) (locs : List Loc) (ls : Array Slot), K_6 v_7 z_8 = some (r, z') → wIs dC dI A cI cJ cZ z_8 H → va_S (fr A) s.heap H locs → lv_has ls 4 [(0, .ref (A 5)), (1, .int p0), (2, .int p1)] → WI p l e wsX6_suspectsBy 0 s m [.ref (A 5), .int p0, .int p1] below meth c dC dI A cI cJ cZ r z' H locs (F0 m 44 ls [.int v_7]) := by
      intro v_7 z_8 H locs ls hf hP hS hl
      have hf := ap2 eK_6 hf
      refine lv_istore_n (lv' := [(3, .int v_7), (0, .ref (A 5)), (1, .int p0), (2, .int p1)]) hx hb dX6_suspectsBy_44 rfl hl (by decide) rfl (fun ls hl => ?_)
      refine lv_iload_n hx hb dX6_suspectsBy_45 rfl (lv_at hl 0 rfl) ?_
      refine lv_iload_n hx hb dX6_suspectsBy_46 rfl (lv_at hl 3 rfl) ?_
      refine lv_icmp_ne (tgt := 59) hx hb dX6_suspectsBy_47 (by decide) (fun c_9 => ?_) (fun c_9 => ?_)
      · have hf := it_f c_9 hf
        refine lv_aload_n hx hb dX6_suspectsBy_59 rfl (lv_at hl 1 rfl) ?_
        refine va_get (D := (dC, dI)) (ci := 6) (v := .ref (A 15)) (C := RX6) (T := TX6) (N := 4) hx hb hts i6 hown hK hP 5 (wc_5 A cI cJ cZ z_8) rfl 1 (by decide) (hts (.fieldLink RX6 13 "LightestRules$Weighings" "rights" "[I") (by decide +kernel)) (fun _ h9 => h9) rfl dX6_suspectsBy_60 ?_
        refine lv_iload_n hx hb dX6_suspectsBy_63 rfl (lv_at hl 2 rfl) ?_
        obtain ⟨n_10, hf⟩ := rg_el hf
        refine va_iald hx hb hK hP 15 0 (wc_15 A cI cJ cZ z_8) rfl n_10 dX6_suspectsBy_64 ?_
        refine lv_topi (fun a_11 ea_11 => ?_)
        have hf := lt_at ea_11 hf; clear ea_11
        exact retI hx hb hr hlocks hP hS hf dX6_suspectsBy_65
      · have hf := it_t c_9 hf
        refine lv_aload_n hx hb dX6_suspectsBy_50 rfl (lv_at hl 1 rfl) ?_
        refine va_get (D := (dC, dI)) (ci := 6) (v := .ref (A 14)) (C := RX6) (T := TX6) (N := 4) hx hb hts i6 hown hK hP 5 (wc_5 A cI cJ cZ z_8) rfl 0 (by decide) (hts (.fieldLink RX6 9 "LightestRules$Weighings" "lefts" "[I") (by decide +kernel)) (fun _ h9 => h9) rfl dX6_suspectsBy_51 ?_
        refine lv_iload_n hx hb dX6_suspectsBy_54 rfl (lv_at hl 2 rfl) ?_
        obtain ⟨n_12, hf⟩ := rg_el hf
        refine va_iald hx hb hK hP 14 0 (wc_14 A cI cJ cZ z_8) rfl n_12 dX6_suspectsBy_55 ?_
        refine lv_topi (fun a_13 ea_13 => ?_)
        have hf := lt_at ea_13 hf; clear ea_13
        refine lv_goto (tgt := 65) hx hb dX6_suspectsBy_56 (by decide) ?_
        exact retI hx hb hr hlocks hP hS hf dX6_suspectsBy_65
    refine lv_icmp_ne (tgt := 43) hx hb dX6_suspectsBy_36 (by decide) (fun c_14 => ?_) (fun c_14 => ?_)
    · have hf := it_f c_14 hf
      refine lv_iconst (v := 0) hx hb dX6_suspectsBy_43 (by decide) ?_
      exact hK_6 _ _ _ _ _ hf hP hS (lv_sub hl [0, 1, 2] rfl)
    · have hf := it_t c_14 hf
      refine lv_iconst (v := 1) hx hb dX6_suspectsBy_39 (by decide) ?_
      refine lv_goto (tgt := 44) hx hb dX6_suspectsBy_40 (by decide) ?_
      exact hK_6 _ _ _ _ _ hf hP hS (lv_sub hl [0, 1, 2] rfl)
  · have hf := it_t c_3 hf
    refine lv_sipush (v := 511) hx hb dX6_suspectsBy_9 (by decide) ?_
    refine lv_aload_n hx hb dX6_suspectsBy_12 rfl (lv_at hl 0 rfl) ?_
    refine va_get (D := (dC, dI)) (ci := 6) (v := .ref (A 14)) (C := RX6) (T := TX6) (N := 4) hx hb hts i6 hown hK hP 5 (wc_5 A cI cJ cZ z) rfl 0 (by decide) (hts (.fieldLink RX6 9 "LightestRules$Weighings" "lefts" "[I") (by decide +kernel)) (fun _ h9 => h9) rfl dX6_suspectsBy_13 ?_
    refine lv_iload_n hx hb dX6_suspectsBy_16 rfl (lv_at hl 1 rfl) ?_
    obtain ⟨n_15, hf⟩ := rg_el hf
    refine va_iald hx hb hK hP 14 0 (wc_14 A cI cJ cZ z) rfl n_15 dX6_suspectsBy_17 ?_
    refine lv_topi (fun a_16 ea_16 => ?_)
    have hf := lt_at ea_16 hf; clear ea_16
    refine lv_aload_n hx hb dX6_suspectsBy_18 rfl (lv_at hl 0 rfl) ?_
    refine va_get (D := (dC, dI)) (ci := 6) (v := .ref (A 15)) (C := RX6) (T := TX6) (N := 4) hx hb hts i6 hown hK hP 5 (wc_5 A cI cJ cZ z) rfl 1 (by decide) (hts (.fieldLink RX6 13 "LightestRules$Weighings" "rights" "[I") (by decide +kernel)) (fun _ h9 => h9) rfl dX6_suspectsBy_19 ?_
    refine lv_iload_n hx hb dX6_suspectsBy_22 rfl (lv_at hl 1 rfl) ?_
    obtain ⟨n_17, hf⟩ := rg_el hf
    refine va_iald hx hb hK hP 15 0 (wc_15 A cI cJ cZ z) rfl n_17 dX6_suspectsBy_23 ?_
    refine lv_topi (fun a_18 ea_18 => ?_)
    have hf := lt_at ea_18 hf; clear ea_18
    refine lv_ior hx hb dX6_suspectsBy_24 ?_
    refine lv_iconst (v := -1) hx hb dX6_suspectsBy_25 (by decide) ?_
    refine lv_ixor hx hb dX6_suspectsBy_26 ?_
    refine lv_iand hx hb dX6_suspectsBy_27 ?_
    exact retI hx hb hr hlocks hP hS hf dX6_suspectsBy_28
set_option maxHeartbeats 4000000 in
set_option maxRecDepth 100000 in
theorem tX6_suspects {l : Launch} {dC : Nat → ClassId} {dI : Nat → Nat → Nat} {A : Nat → Nat} {t0 : Nat} {cI cJ cZ : ClassId} (hA : dst A) {p0 : Int32} {z : Mem} {r : Int32} {z' : Mem} (hf : fX6_suspects p0 z = some (r, z')) : MI l dC dI A t0 cI cJ cZ yX6_suspects wsX6_suspects 1 [.ref (A 5), .int p0] z r z' := by
  refine Met.ofW (cc := cX6_suspects) (maxL := 4) (ret := (some .int)) (by decide) rfl ?_
  intro p e s m args below meth c s₁ B hml hv
  obtain ⟨rfl, hP, hK, hZ⟩ := hv
  have hx := B.exec
  have hb := B.bytes
  have hr := B.returns
  have hts := atoms_spec (ws := wsX6_suspects) B.pre
  have hown : s.vm.findClass RX6 = some m.cls := findClass_of_methodNamed B.named
  have hlocks := B.notSynchronized
  have hS : va_S (fr A) s.heap s.heap [] := va_S.rf
  have i6 : ∀ w ∈ wsX60, w ∈ wsX6_suspects := fun _ h => List.mem_cons_of_mem _ (List.mem_append_right _ h)
  have hl := lv_entry ([.ref (A 5), .int p0]) (n := 4) (Nat.le_of_ble_eq_true rfl)
  rw [lg_entry_eq]
  generalize (lg_sl ([.ref (A 5), .int p0]) ++ List.replicate (4 - (lg_sl ([.ref (A 5), .int p0])).length) Slot.unset).toArray = ls at hl ⊢
  have hl : lv_has ls 4 [(0, .ref (A 5)), (1, .int p0)] := hl
  have hP : wIs dC dI A cI cJ cZ z s.heap := hP
  rw [fX6_suspects] at hf
  refine lv_sipush (v := 511) hx hb dX6_suspects_0 (by decide) ?_
  refine lv_istore_n (lv' := [(2, .int (511 : Int32)), (0, .ref (A 5)), (1, .int p0)]) hx hb dX6_suspects_3 rfl hl (by decide) rfl (fun ls hl => ?_)
  refine lv_iconst (v := 0) hx hb dX6_suspects_4 (by decide) ?_
  refine lv_istore_n (lv' := [(3, .int (0 : Int32)), (2, .int (511 : Int32)), (0, .ref (A 5)), (1, .int p0)]) hx hb dX6_suspects_5 rfl hl (by decide) rfl (fun ls hl => ?_)
  obtain ⟨K_1, eK_1, hf⟩ := fX6_suspects_L6_g hf
  have hEK_1 : ∀ (x2_3 : Int32) (x3_4 : Int32) (z_2 : Mem) (H : Heap) (locs : List Loc) (ls : Array Slot), K_1 x2_3 x3_4 z_2 = some (r, z') → wIs dC dI A cI cJ cZ z_2 H → va_S (fr A) s.heap H locs → lv_has ls 4 [(0, .ref (A 5)), (1, .int p0), (2, .int x2_3), (3, .int x3_4)] → WI p l e wsX6_suspects 1 s m [.ref (A 5), .int p0] below meth c dC dI A cI cJ cZ r z' H locs (F0 m 29 ls []) := by
    intro x2_3 x3_4 z_2 H locs ls hf hP hS hl
    have hf := ap3 eK_1 hf
    refine lv_iload_n hx hb dX6_suspects_29 rfl (lv_at hl 2 rfl) ?_
    exact retI hx hb hr hlocks hP hS hf dX6_suspects_30
  have hLK_1 : ∀ (n_8 : Nat) (x2_6 : Int32) (x3_7 : Int32) (z_5 : Mem) (H : Heap) (locs : List Loc) (ls : Array Slot), fX6_suspects_L6 K_1 p0 n_8 x2_6 x3_7 z_5 = some (r, z') → wIs dC dI A cI cJ cZ z_5 H → va_S (fr A) s.heap H locs → lv_has ls 4 [(0, .ref (A 5)), (1, .int p0), (2, .int x2_6), (3, .int x3_7)] → WI p l e wsX6_suspects 1 s m [.ref (A 5), .int p0] below meth c dC dI A cI cJ cZ r z' H locs (F0 m 6 ls []) := by
    intro n_8
    induction n_8 with
    | zero => intro x2_6 x3_7 z_5 H locs ls hf; rw [fX6_suspects_L6_0] at hf; cases hf
    | succ n_8 ihK_1 =>
      intro x2_6 x3_7 z_5 H locs ls hf hP hS hl
      rw [fX6_suspects_L6_s] at hf
      refine lv_iload_n hx hb dX6_suspects_6 rfl (lv_at hl 3 rfl) ?_
      refine lv_aload_n hx hb dX6_suspects_7 rfl (lv_at hl 0 rfl) ?_
      refine va_get (D := (dC, dI)) (ci := 6) (v := .int (z_5.1 5 3)) (C := RX6) (T := TX6) (N := 4) hx hb hts i6 hown hK hP 5 (wc_5 A cI cJ cZ z_5) rfl 3 (by decide) (hts (.fieldLink RX6 19 "LightestRules$Weighings" "length" "I") (by decide +kernel)) (fun _ h9 => h9) rfl dX6_suspects_8 ?_
      refine lv_icmp_ge (tgt := 29) hx hb dX6_suspects_11 (by decide) (fun c_9 => ?_) (fun c_9 => ?_)
      · have hf := it_t c_9 hf
        exact hEK_1 _ _ _ _ _ _ hf hP hS (lv_sub hl [0, 1, 2, 3] rfl)
      · have hf := it_f c_9 hf
        refine lv_iload_n hx hb dX6_suspects_14 rfl (lv_at hl 2 rfl) ?_
        refine lv_aload_n hx hb dX6_suspects_15 rfl (lv_at hl 0 rfl) ?_
        refine lv_iload_n hx hb dX6_suspects_16 rfl (lv_at hl 3 rfl) ?_
        refine lv_iload_n hx hb dX6_suspects_17 rfl (lv_at hl 1 rfl) ?_
        obtain ⟨r_10, z_11, h_12, hf⟩ := cl_el hf
        refine callVI (As := [.int x3_7, .int p0]) (rest := [.int x2_6]) (ci := 6) (q0 := 5) ⟨hx, hb, hml, hown, hts⟩ (tX6_suspectsBy (l := l) (dC := dC) (dI := dI) (t0 := t0) (cI := cI) (cJ := cJ) (cZ := cZ) hA h_12) (cwV 2 hts gX6_suspects_X6_suspectsBy rfl rfl rfl (by decide +kernel) ⟨Nat.le_of_ble_eq_true rfl, Nat.le_of_ble_eq_true rfl⟩) hK hZ hP hS rfl (wc_5 A cI cJ cZ z_5) rfl rfl rfl hl.1 (Nat.le_of_ble_eq_true rfl) ⟨Nat.zero_le _, Nat.zero_le _⟩ dX6_suspects_18 (fun H locs hP hS => ?_)
        refine lv_iand hx hb dX6_suspects_21 ?_
        refine lv_topi (fun x2_13 ex2_13 => ?_)
        have hf := lt_at ex2_13 hf; clear ex2_13
        refine lv_istore_n (lv' := [(2, .int x2_13), (0, .ref (A 5)), (1, .int p0), (3, .int x3_7)]) hx hb dX6_suspects_22 rfl hl (by decide) rfl (fun ls hl => ?_)
        obtain ⟨x3_14, ex3_14⟩ : ∃ q : Int32, q = x3_7 + (1 : Int32) := ⟨_, rfl⟩
        refine lv_iinc (v := x3_14) (lv' := [(3, .int x3_14), (2, .int x2_13), (0, .ref (A 5)), (1, .int p0)]) hx hb dX6_suspects_23 hl (k := 3) rfl (by rw [ex3_14]; rfl) (by decide) rfl (fun ls hl => ?_)
        have hf := lt_at ex3_14 hf; clear ex3_14
        refine lv_goto (tgt := 6) hx hb dX6_suspects_26 (by decide) ?_
        exact ihK_1 _ _ _ _ _ _ hf hP hS (lv_sub hl [2, 3, 1, 0] rfl)
  exact hLK_1 FU _ _ _ _ _ _ hf hP hS (lv_sub hl [2, 3, 1, 0] rfl)
set_option maxHeartbeats 4000000 in
set_option maxRecDepth 100000 in
theorem tX8_mayBe {l : Launch} {dC : Nat → ClassId} {dI : Nat → Nat → Nat} {A : Nat → Nat} {t0 : Nat} {cI cJ cZ : ClassId} (hA : dst A) {p0 : Int32} {z : Mem} {r : Int32} {z' : Mem} (hf : fX8_mayBe p0 z = some (r, z')) : MI l dC dI A t0 cI cJ cZ yX8_mayBe wsX8_mayBe 2 [.ref (A 0), .int p0] z r z' := by
  refine Met.ofW (cc := cX8_mayBe) (maxL := 2) (ret := (some .int)) (by decide) rfl ?_
  intro p e s m args below meth c s₁ B hml hv
  obtain ⟨rfl, hP, hK, hZ⟩ := hv
  have hx := B.exec
  have hb := B.bytes
  have hr := B.returns
  have hts := atoms_spec (ws := wsX8_mayBe) B.pre
  have hown : s.vm.findClass RX8 = some m.cls := findClass_of_methodNamed B.named
  have hlocks := B.notSynchronized
  have hS : va_S (fr A) s.heap s.heap [] := va_S.rf
  have i8 : ∀ w ∈ wsX80, w ∈ wsX8_mayBe := fun _ h => List.mem_cons_of_mem _ (List.mem_append_left _ (List.mem_append_right _ h))
  have hl := lv_entry ([.ref (A 0), .int p0]) (n := 2) (Nat.le_of_ble_eq_true rfl)
  rw [lg_entry_eq]
  generalize (lg_sl ([.ref (A 0), .int p0]) ++ List.replicate (2 - (lg_sl ([.ref (A 0), .int p0])).length) Slot.unset).toArray = ls at hl ⊢
  have hl : lv_has ls 2 [(0, .ref (A 0)), (1, .int p0)] := hl
  have hP : wIs dC dI A cI cJ cZ z s.heap := hP
  rw [fX8_mayBe] at hf
  refine lv_aload_n hx hb dX8_mayBe_0 rfl (lv_at hl 0 rfl) ?_
  refine va_get (D := (dC, dI)) (ci := 8) (v := .ref (A 5)) (C := RX8) (T := TX8) (N := 9) hx hb hts i8 hown hK hP 0 (wc_0 A cI cJ cZ z) rfl 4 (by decide) (hts (.fieldLink RX8 40 "LightestRules" "weighings" "LLightestRules$Weighings;") (by decide +kernel)) (fun _ h9 => h9) rfl dX8_mayBe_1 ?_
  refine lv_iload_n hx hb dX8_mayBe_4 rfl (lv_at hl 1 rfl) ?_
  obtain ⟨r_1, z_2, h_3, hf⟩ := cl_el hf
  refine callVI (As := [.int p0]) (rest := []) (ci := 6) (q0 := 5) ⟨hx, hb, hml, hown, hts⟩ (tX6_suspects (l := l) (dC := dC) (dI := dI) (t0 := t0) (cI := cI) (cJ := cJ) (cZ := cZ) hA h_3) (cwV 1 hts gX8_mayBe_X6_suspects rfl rfl rfl (by decide +kernel) ⟨Nat.le_of_ble_eq_true rfl, Nat.le_of_ble_eq_true rfl⟩) hK hZ hP hS rfl (wc_5 A cI cJ cZ z) rfl rfl rfl hl.1 (Nat.le_of_ble_eq_true rfl) ⟨Nat.zero_le _, Nat.zero_le _⟩ dX8_mayBe_5 (fun H locs hP hS => ?_)
  exact retI hx hb hr hlocks hP hS hf dX8_mayBe_8
