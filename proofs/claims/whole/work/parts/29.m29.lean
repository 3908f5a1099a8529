set_option maxHeartbeats 4000000 in
set_option maxRecDepth 100000 in
theorem tX9_line {l : Launch} {dC : Nat → ClassId} {dI : Nat → Nat → Nat} {A : Nat → Nat} {t0 : Nat} {cI cJ cZ : ClassId} (hA : dst A)  {z : Mem} {r : Int64} {z' : Mem} (hf : fX9_line z = some (r, z')) : ML l dC dI A t0 cI cJ cZ yX9_line wsX9_line 3 [.ref (A 25)] z r z' := by
  refine Met.ofW (cc := cX9_line) (maxL := 4) (ret := (some .long)) (by decide) rfl ?_
  intro p e s m args below meth c s₁ B hml hv
  obtain ⟨rfl, hP, hK, hZ⟩ := hv
  have hx := B.exec
  have hb := B.bytes
  have hr := B.returns
  have hts := atoms_spec (ws := wsX9_line) B.pre
  have hown : s.vm.findClass RX9 = some m.cls := findClass_of_methodNamed B.named
  have hlocks := B.notSynchronized
  have hS : va_S (fr A) s.heap s.heap [] := va_S.rf
  have i9 : ∀ w ∈ wsX90, w ∈ wsX9_line := fun _ h => List.mem_cons_of_mem _ (List.mem_append_right _ h)
  have hl := lv_entry ([.ref (A 25)]) (n := 4) (Nat.le_of_ble_eq_true rfl)
  rw [lg_entry_eq]
  generalize (lg_sl ([.ref (A 25)]) ++ List.replicate (4 - (lg_sl ([.ref (A 25)])).length) Slot.unset).toArray = ls at hl ⊢
  have hl : lv_has ls 4 [(0, .ref (A 25))] := hl
  have hP : wIs dC dI A cI cJ cZ z s.heap := hP
  rw [fX9_line] at hf
  refine lv_aload_n hx hb dX9_line_0 rfl (lv_at hl 0 rfl) ?_
  refine va_get (D := (dC, dI)) (ci := 9) (v := .int (z.1 25 6)) (C := RX9) (T := TX9) (N := 34) hx hb hts i9 hown hK hP 25 (wc_25 A cI cJ cZ z) rfl 6 (by decide) (hts (.fieldLink RX9 104 "LightestRulesModel" "many" "I") (by decide +kernel)) (fun _ h9 => h9) rfl dX9_line_1 ?_
  refine lv_i2l hx hb dX9_line_4 rfl ?_
  refine lv_lconst (v := 1) hx hb dX9_line_5 rfl ?_
  refine lv_ldc2 hx hb hown (hts (.constantLong RX9 196 (3)) (by decide +kernel)) dX9_line_6 ?_
  obtain ⟨r_1, z_2, h_3, hf⟩ := cl_el hf
  refine callSI (As := [.long ((z.1 25 6).toInt64), .long (1 : Int64), .long (3 : Int64)]) (rest := []) ⟨hx, hb, hml, hown, hts⟩ (tX9_in (l := l) (dC := dC) (dI := dI) (t0 := t0) (cI := cI) (cJ := cJ) (cZ := cZ) hA h_3) (va_cwS 3 hts gX9_line_X9_in rfl rfl rfl (by decide +kernel) ⟨Nat.le_of_ble_eq_true rfl, Nat.le_of_ble_eq_true rfl⟩) hK hZ hP hS rfl rfl hl.1 (Nat.le_of_ble_eq_true rfl) ⟨Nat.zero_le _, Nat.zero_le _⟩ dX9_line_9 (fun H locs hP hS => ?_)
  refine lv_if_ne (tgt := 19) hx hb dX9_line_12 (by decide) (fun c_4 => ?_) (fun c_4 => ?_)
  · have hf := it_f c_4 hf
    refine lv_iconst (v := 0) hx hb dX9_line_19 (by decide) ?_
    refine lv_istore_n (lv' := [(1, .int (0 : Int32)), (0, .ref (A 25))]) hx hb dX9_line_20 rfl hl (by decide) rfl (fun ls hl => ?_)
    obtain ⟨K_5, eK_5, hf⟩ := fX9_line_L21_g hf
    have hEK_5 : ∀ (x1_7 : Int32) (z_6 : Mem) (H : Heap) (locs : List Loc) (ls : Array Slot), K_5 x1_7 z_6 = some (r, z') → wIs dC dI A cI cJ cZ z_6 H → va_S (fr A) s.heap H locs → lv_has ls 4 [(0, .ref (A 25)), (1, .int x1_7)] → WL p l e wsX9_line 3 s m [.ref (A 25)] below meth c dC dI A cI cJ cZ r z' H locs (F0 m 49 ls []) := by
      intro x1_7 z_6 H locs ls hf hP hS hl
      have hf := ap2 eK_5 hf
      refine lv_iconst (v := 0) hx hb dX9_line_49 (by decide) ?_
      refine lv_istore_n (lv' := [(1, .int (0 : Int32)), (0, .ref (A 25))]) hx hb dX9_line_50 rfl hl (by decide) rfl (fun ls hl => ?_)
      obtain ⟨K_8, eK_8, hf⟩ := fX9_line_L51_g hf
      have hEK_8 : ∀ (x1_10 : Int32) (z_9 : Mem) (H : Heap) (locs : List Loc) (ls : Array Slot), K_8 x1_10 z_9 = some (r, z') → wIs dC dI A cI cJ cZ z_9 H → va_S (fr A) s.heap H locs → lv_has ls 4 [(0, .ref (A 25)), (1, .int x1_10)] → WL p l e wsX9_line 3 s m [.ref (A 25)] below meth c dC dI A cI cJ cZ r z' H locs (F0 m 75 ls []) := by
        intro x1_10 z_9 H locs ls hf hP hS hl
        have hf := ap2 eK_8 hf
        refine lv_lconst (v := 0) hx hb dX9_line_75 rfl ?_
        refine lv_lstore_n (lv' := [(1, .long (0 : Int64)), (0, .ref (A 25))]) hx hb dX9_line_76 rfl hl (by decide) rfl (fun ls hl => ?_)
        refine lv_iconst (v := 0) hx hb dX9_line_77 (by decide) ?_
        refine lv_istore_n (lv' := [(3, .int (0 : Int32)), (1, .long (0 : Int64)), (0, .ref (A 25))]) hx hb dX9_line_78 rfl hl (by decide) rfl (fun ls hl => ?_)
        obtain ⟨K_11, eK_11, hf⟩ := fX9_line_L79_g hf
        have hEK_11 : ∀ (x1_13 : Int64) (x3_14 : Int32) (z_12 : Mem) (H : Heap) (locs : List Loc) (ls : Array Slot), K_11 x1_13 x3_14 z_12 = some (r, z') → wIs dC dI A cI cJ cZ z_12 H → va_S (fr A) s.heap H locs → lv_has ls 4 [(0, .ref (A 25)), (1, .long x1_13), (3, .int x3_14)] → WL p l e wsX9_line 3 s m [.ref (A 25)] below meth c dC dI A cI cJ cZ r z' H locs (F0 m 101 ls []) := by
          intro x1_13 x3_14 z_12 H locs ls hf hP hS hl
          have hf := ap3 eK_11 hf
          refine lv_lload_n hx hb dX9_line_101 rfl (lv_at hl 1 rfl) ?_
          exact retL hx hb hr hlocks hP hS hf dX9_line_102
        have hLK_11 : ∀ (n_18 : Nat) (x1_16 : Int64) (x3_17 : Int32) (z_15 : Mem) (H : Heap) (locs : List Loc) (ls : Array Slot), fX9_line_L79 K_11  n_18 x1_16 x3_17 z_15 = some (r, z') → wIs dC dI A cI cJ cZ z_15 H → va_S (fr A) s.heap H locs → lv_has ls 4 [(0, .ref (A 25)), (1, .long x1_16), (3, .int x3_17)] → WL p l e wsX9_line 3 s m [.ref (A 25)] below meth c dC dI A cI cJ cZ r z' H locs (F0 m 79 ls []) := by
          intro n_18
          induction n_18 with
          | zero => intro x1_16 x3_17 z_15 H locs ls hf; rw [fX9_line_L79_0] at hf; cases hf
          | succ n_18 ihK_11 =>
            intro x1_16 x3_17 z_15 H locs ls hf hP hS hl
            rw [fX9_line_L79_s] at hf
            refine lv_iload_n hx hb dX9_line_79 rfl (lv_at hl 2 rfl) ?_
            refine lv_sipush (v := 2197) hx hb dX9_line_80 (by decide) ?_
            refine lv_icmp_ge (tgt := 101) hx hb dX9_line_83 (by decide) (fun c_19 => ?_) (fun c_19 => ?_)
            · have hf := it_t c_19 hf
              exact hEK_11 _ _ _ _ _ _ hf hP hS (lv_sub hl [0, 1, 2] rfl)
            · have hf := it_f c_19 hf
              refine lv_lload_n hx hb dX9_line_86 rfl (lv_at hl 1 rfl) ?_
              refine lv_aload_n hx hb dX9_line_87 rfl (lv_at hl 0 rfl) ?_
              refine va_get (D := (dC, dI)) (ci := 9) (v := .ref (A 38)) (C := RX9) (T := TX9) (N := 34) hx hb hts i9 hown hK hP 25 (wc_25 A cI cJ cZ z_15) rfl 28 (by decide) (hts (.fieldLink RX9 46 "LightestRulesModel" "ways" "[J") (by decide +kernel)) (fun _ h9 => h9) rfl dX9_line_88 ?_
              refine lv_iload_n hx hb dX9_line_91 rfl (lv_at hl 2 rfl) ?_
              obtain ⟨n_20, hf⟩ := rg_el hf
              refine va_lald hx hb hK hP 38 1 (wc_38 A cI cJ cZ z_15) rfl n_20 dX9_line_92 ?_
              refine lv_topl (fun a_21 ea_21 => ?_)
              have hf := lt_at ea_21 hf; clear ea_21
              refine lv_ladd hx hb dX9_line_93 ?_
              refine lv_topl (fun x1_22 ex1_22 => ?_)
              have hf := lt_at ex1_22 hf; clear ex1_22
              refine lv_lstore_n (lv' := [(1, .long x1_22), (0, .ref (A 25)), (3, .int x3_17)]) hx hb dX9_line_94 rfl hl (by decide) rfl (fun ls hl => ?_)
              obtain ⟨x3_23, ex3_23⟩ : ∃ q : Int32, q = x3_17 + (1 : Int32) := ⟨_, rfl⟩
              refine lv_iinc (v := x3_23) (lv' := [(3, .int x3_23), (1, .long x1_22), (0, .ref (A 25))]) hx hb dX9_line_95 hl (k := 2) rfl (by rw [ex3_23]; rfl) (by decide) rfl (fun ls hl => ?_)
              have hf := lt_at ex3_23 hf; clear ex3_23
              refine lv_goto (tgt := 79) hx hb dX9_line_98 (by decide) ?_
              exact ihK_11 _ _ _ _ _ _ hf hP hS (lv_sub hl [2, 1, 0] rfl)
        exact hLK_11 FU _ _ _ _ _ _ hf hP hS (lv_sub hl [2, 1, 0] rfl)
      have hLK_8 : ∀ (n_26 : Nat) (x1_25 : Int32) (z_24 : Mem) (H : Heap) (locs : List Loc) (ls : Array Slot), fX9_line_L51 K_8  n_26 x1_25 z_24 = some (r, z') → wIs dC dI A cI cJ cZ z_24 H → va_S (fr A) s.heap H locs → lv_has ls 4 [(0, .ref (A 25)), (1, .int x1_25)] → WL p l e wsX9_line 3 s m [.ref (A 25)] below meth c dC dI A cI cJ cZ r z' H locs (F0 m 51 ls []) := by
        intro n_26
        induction n_26 with
        | zero => intro x1_25 z_24 H locs ls hf; rw [fX9_line_L51_0] at hf; cases hf
        | succ n_26 ihK_8 =>
          intro x1_25 z_24 H locs ls hf hP hS hl
          rw [fX9_line_L51_s] at hf
          refine lv_iload_n hx hb dX9_line_51 rfl (lv_at hl 1 rfl) ?_
          refine lv_aload_n hx hb dX9_line_52 rfl (lv_at hl 0 rfl) ?_
          refine va_get (D := (dC, dI)) (ci := 9) (v := .int (z_24.1 25 26)) (C := RX9) (T := TX9) (N := 34) hx hb hts i9 hown hK hP 25 (wc_25 A cI cJ cZ z_24) rfl 26 (by decide) (hts (.fieldLink RX9 186 "LightestRulesModel" "months" "I") (by decide +kernel)) (fun _ h9 => h9) rfl dX9_line_53 ?_
          refine lv_icmp_ge (tgt := 75) hx hb dX9_line_56 (by decide) (fun c_27 => ?_) (fun c_27 => ?_)
          · have hf := it_t c_27 hf
            exact hEK_8 _ _ _ _ _ hf hP hS (lv_sub hl [0, 1] rfl)
          · have hf := it_f c_27 hf
            refine lv_aload_n hx hb dX9_line_59 rfl (lv_at hl 0 rfl) ?_
            refine lv_aload_n hx hb dX9_line_60 rfl (lv_at hl 0 rfl) ?_
            refine va_get (D := (dC, dI)) (ci := 9) (v := .ref (A 37)) (C := RX9) (T := TX9) (N := 34) hx hb hts i9 hown hK hP 25 (wc_25 A cI cJ cZ z_24) rfl 27 (by decide) (hts (.fieldLink RX9 43 "LightestRulesModel" "rulers" "[I") (by decide +kernel)) (fun _ h9 => h9) rfl dX9_line_61 ?_
            refine lv_iload_n hx hb dX9_line_64 rfl (lv_at hl 1 rfl) ?_
            obtain ⟨n_28, hf⟩ := rg_el hf
            refine va_iald hx hb hK hP 37 0 (wc_37 A cI cJ cZ z_24) rfl n_28 dX9_line_65 ?_
            refine lv_topi (fun a_29 ea_29 => ?_)
            have hf := lt_at ea_29 hf; clear ea_29
            obtain ⟨r_30, z_31, h_32, hf⟩ := cl_el hf
            refine callVV (As := [.int a_29]) (rest := []) (ci := 9) (q0 := 25) ⟨hx, hb, hml, hown, hts⟩ (tX9_goMonth (l := l) (dC := dC) (dI := dI) (t0 := t0) (cI := cI) (cJ := cJ) (cZ := cZ) hA h_32) (cwV 1 hts gX9_line_X9_goMonth rfl rfl rfl (by decide +kernel) ⟨Nat.le_of_ble_eq_true rfl, Nat.le_of_ble_eq_true rfl⟩) hK hZ hP hS rfl (wc_25 A cI cJ cZ z_24) rfl rfl rfl hl.1 (Nat.le_of_ble_eq_true rfl) ⟨Nat.zero_le _, Nat.zero_le _⟩ dX9_line_66 (fun H locs hP hS => ?_)
            obtain ⟨x1_33, ex1_33⟩ : ∃ q : Int32, q = x1_25 + (1 : Int32) := ⟨_, rfl⟩
            refine lv_iinc (v := x1_33) (lv' := [(1, .int x1_33), (0, .ref (A 25))]) hx hb dX9_line_69 hl (k := 1) rfl (by rw [ex1_33]; rfl) (by decide) rfl (fun ls hl => ?_)
            have hf := lt_at ex1_33 hf; clear ex1_33
            refine lv_goto (tgt := 51) hx hb dX9_line_72 (by decide) ?_
            exact ihK_8 _ _ _ _ _ hf hP hS (lv_sub hl [1, 0] rfl)
      exact hLK_8 FU _ _ _ _ _ hf hP hS (lv_sub hl [1, 0] rfl)
    have hLK_5 : ∀ (n_36 : Nat) (x1_35 : Int32) (z_34 : Mem) (H : Heap) (locs : List Loc) (ls : Array Slot), fX9_line_L21 K_5  n_36 x1_35 z_34 = some (r, z') → wIs dC dI A cI cJ cZ z_34 H → va_S (fr A) s.heap H locs → lv_has ls 4 [(0, .ref (A 25)), (1, .int x1_35)] → WL p l e wsX9_line 3 s m [.ref (A 25)] below meth c dC dI A cI cJ cZ r z' H locs (F0 m 21 ls []) := by
      intro n_36
      induction n_36 with
      | zero => intro x1_35 z_34 H locs ls hf; rw [fX9_line_L21_0] at hf; cases hf
      | succ n_36 ihK_5 =>
        intro x1_35 z_34 H locs ls hf hP hS hl
        rw [fX9_line_L21_s] at hf
        refine lv_iload_n hx hb dX9_line_21 rfl (lv_at hl 1 rfl) ?_
        refine lv_sipush (v := 2197) hx hb dX9_line_22 (by decide) ?_
        refine lv_icmp_ge (tgt := 49) hx hb dX9_line_25 (by decide) (fun c_37 => ?_) (fun c_37 => ?_)
        · have hf := it_t c_37 hf
          exact hEK_5 _ _ _ _ _ hf hP hS (lv_sub hl [0, 1] rfl)
        · have hf := it_f c_37 hf
          refine lv_aload_n hx hb dX9_line_28 rfl (lv_at hl 0 rfl) ?_
          refine va_get (D := (dC, dI)) (ci := 9) (v := .ref (A 38)) (C := RX9) (T := TX9) (N := 34) hx hb hts i9 hown hK hP 25 (wc_25 A cI cJ cZ z_34) rfl 28 (by decide) (hts (.fieldLink RX9 46 "LightestRulesModel" "ways" "[J") (by decide +kernel)) (fun _ h9 => h9) rfl dX9_line_29 ?_
          refine lv_iload_n hx hb dX9_line_32 rfl (lv_at hl 1 rfl) ?_
          refine lv_iload_n hx hb dX9_line_33 rfl (lv_at hl 1 rfl) ?_
          refine lv_if_ne (tgt := 41) hx hb dX9_line_34 (by decide) (fun c_38 => ?_) (fun c_38 => ?_)
          · have hf := it_f c_38 hf
            refine lv_lconst (v := 0) hx hb dX9_line_41 rfl ?_
            obtain ⟨n_39, hf⟩ := rg_el hf
            refine va_last hx hb hK hP (wD hA cI cJ cZ z_34) hS 38 1 (wc_38 A cI cJ cZ z_34) rfl n_39 dX9_line_42 (fun H locs hP _ hS => ?_)
            rw [wa_38 A cI cJ cZ z_34 x1_35.toNatClampNeg (0 : Int64)] at hP
            obtain ⟨z_40, hP, hf⟩ := lt_P (P := fun q => wIs dC dI A cI cJ cZ q H) hP hf
            obtain ⟨x1_41, ex1_41⟩ : ∃ q : Int32, q = x1_35 + (1 : Int32) := ⟨_, rfl⟩
            refine lv_iinc (v := x1_41) (lv' := [(1, .int x1_41), (0, .ref (A 25))]) hx hb dX9_line_43 hl (k := 1) rfl (by rw [ex1_41]; rfl) (by decide) rfl (fun ls hl => ?_)
            have hf := lt_at ex1_41 hf; clear ex1_41
            refine lv_goto (tgt := 21) hx hb dX9_line_46 (by decide) ?_
            exact ihK_5 _ _ _ _ _ hf hP hS (lv_sub hl [1, 0] rfl)
          · have hf := it_t c_38 hf
            refine lv_lconst (v := 1) hx hb dX9_line_37 rfl ?_
            refine lv_goto (tgt := 42) hx hb dX9_line_38 (by decide) ?_
            obtain ⟨n_42, hf⟩ := rg_el hf
            refine va_last hx hb hK hP (wD hA cI cJ cZ z_34) hS 38 1 (wc_38 A cI cJ cZ z_34) rfl n_42 dX9_line_42 (fun H locs hP _ hS => ?_)
            rw [wa_38 A cI cJ cZ z_34 x1_35.toNatClampNeg (1 : Int64)] at hP
            obtain ⟨z_43, hP, hf⟩ := lt_P (P := fun q => wIs dC dI A cI cJ cZ q H) hP hf
            obtain ⟨x1_44, ex1_44⟩ : ∃ q : Int32, q = x1_35 + (1 : Int32) := ⟨_, rfl⟩
            refine lv_iinc (v := x1_44) (lv' := [(1, .int x1_44), (0, .ref (A 25))]) hx hb dX9_line_43 hl (k := 1) rfl (by rw [ex1_44]; rfl) (by decide) rfl (fun ls hl => ?_)
            have hf := lt_at ex1_44 hf; clear ex1_44
            refine lv_goto (tgt := 21) hx hb dX9_line_46 (by decide) ?_
            exact ihK_5 _ _ _ _ _ hf hP hS (lv_sub hl [1, 0] rfl)
    exact hLK_5 FU _ _ _ _ _ hf hP hS (lv_sub hl [1, 0] rfl)
  · have hf := it_t c_4 hf
    refine lv_ldc2 hx hb hown (hts (.constantLong RX9 198 (-3)) (by decide +kernel)) dX9_line_15 ?_
    exact retL hx hb hr hlocks hP hS hf dX9_line_18
set_option maxHeartbeats 4000000 in
set_option maxRecDepth 100000 in
theorem tX7_sow {l : Launch} {dC : Nat → ClassId} {dI : Nat → Nat → Nat} {A : Nat → Nat} {t0 : Nat} {cI cJ cZ : ClassId} (hA : dst A) {p0 : Int64} {z : Mem} {r : Int64} {z' : Mem} (hf : fX7_sow p0 z = some (r, z')) : ML l dC dI A t0 cI cJ cZ yX7_sow wsX7_sow 0 [.ref (A 8), .long p0] z r z' := by
  refine Met.ofW (cc := cX7_sow) (maxL := 5) (ret := (some .long)) (by decide) rfl ?_
  intro p e s m args below meth c s₁ B hml hv
  obtain ⟨rfl, hP, hK, hZ⟩ := hv
  have hx := B.exec
  have hb := B.bytes
  have hr := B.returns
  have hts := atoms_spec (ws := wsX7_sow) B.pre
  have hown : s.vm.findClass RX7 = some m.cls := findClass_of_methodNamed B.named
  have hlocks := B.notSynchronized
  have hS : va_S (fr A) s.heap s.heap [] := va_S.rf
  have i7 : ∀ w ∈ wsX70, w ∈ wsX7_sow := fun _ h => List.mem_cons_of_mem _ (List.mem_append_right _ h)
  have hl := lv_entry ([.ref (A 8), .long p0]) (n := 5) (Nat.le_of_ble_eq_true rfl)
  rw [lg_entry_eq]
  generalize (lg_sl ([.ref (A 8), .long p0]) ++ List.replicate (5 - (lg_sl ([.ref (A 8), .long p0])).length) Slot.unset).toArray = ls at hl ⊢
  have hl : lv_has ls 5 [(0, .ref (A 8)), (1, .long p0)] := hl
  have hP : wIs dC dI A cI cJ cZ z s.heap := hP
  rw [fX7_sow] at hf
  refine lv_aload_n hx hb dX7_sow_0 rfl (lv_at hl 0 rfl) ?_
  refine va_get (D := (dC, dI)) (ci := 7) (v := .long (z.2 8 1)) (C := RX7) (T := TX7) (N := 2) hx hb hts i7 hown hK hP 8 (wc_8 A cI cJ cZ z) rfl 1 (by decide) (hts (.fieldLink RX7 16 "LightestRules$Year" "grown" "J") (by decide +kernel)) (fun _ h9 => h9) rfl dX7_sow_1 ?_
  refine lv_topl (fun x3_1 ex3_1 => ?_)
  have hf := lt_at ex3_1 hf; clear ex3_1
  refine lv_lstore_n (lv' := [(3, .long x3_1), (0, .ref (A 8)), (1, .long p0)]) hx hb dX7_sow_4 rfl hl (by decide) rfl (fun ls hl => ?_)
  refine lv_aload_n hx hb dX7_sow_5 rfl (lv_at hl 1 rfl) ?_
  refine lv_lload_n hx hb dX7_sow_6 rfl (lv_at hl 2 rfl) ?_
  refine va_put (D := (dC, dI)) (ci := 7) (v := .long p0) (ty := .long) (C := RX7) (T := TX7) (N := 2) hx hb hts i7 tyX7 tyX7_ok nmX7 hown hK hP (wD hA cI cJ cZ z) hS 8 (wc_8 A cI cJ cZ z) rfl 1 (by decide) (hts (.fieldLink RX7 16 "LightestRules$Year" "grown" "J") (by decide +kernel)) (fun _ h9 => h9) rfl (by decide +kernel) rfl rfl (Nat.le_of_ble_eq_true rfl) dX7_sow_7 (fun H locs hP _ hS => ?_)
  rw [ws_8_1 A cI cJ cZ z p0] at hP
  obtain ⟨z_2, hP, hf⟩ := lt_P (P := fun q => wIs dC dI A cI cJ cZ q H) hP hf
  refine lv_lload_n hx hb dX7_sow_10 rfl (lv_at hl 0 rfl) ?_
  exact retL hx hb hr hlocks hP hS hf dX7_sow_11
set_option maxHeartbeats 4000000 in
set_option maxRecDepth 100000 in
theorem tX8_seed {l : Launch} {dC : Nat → ClassId} {dI : Nat → Nat → Nat} {A : Nat → Nat} {t0 : Nat} {cI cJ cZ : ClassId} (hA : dst A) {p0 : Int64} {z : Mem} {r : Int64} {z' : Mem} (hf : fX8_seed p0 z = some (r, z')) : ML l dC dI A t0 cI cJ cZ yX8_seed wsX8_seed 1 [.ref (A 0), .long p0] z r z' := by
  refine Met.ofW (cc := cX8_seed) (maxL := 3) (ret := (some .long)) (by decide) rfl ?_
  intro p e s m args below meth c s₁ B hml hv
  obtain ⟨rfl, hP, hK, hZ⟩ := hv
  have hx := B.exec
  have hb := B.bytes
  have hr := B.returns
  have hts := atoms_spec (ws := wsX8_seed) B.pre
  have hown : s.vm.findClass RX8 = some m.cls := findClass_of_methodNamed B.named
  have hlocks := B.notSynchronized
  have hS : va_S (fr A) s.heap s.heap [] := va_S.rf
  have i8 : ∀ w ∈ wsX80, w ∈ wsX8_seed := fun _ h => List.mem_cons_of_mem _ (List.mem_append_left _ (List.mem_append_right _ h))
  have hl := lv_entry ([.ref (A 0), .long p0]) (n := 3) (Nat.le_of_ble_eq_true rfl)
  rw [lg_entry_eq]
  generalize (lg_sl ([.ref (A 0), .long p0]) ++ List.replicate (3 - (lg_sl ([.ref (A 0), .long p0])).length) Slot.unset).toArray = ls at hl ⊢
  have hl : lv_has ls 3 [(0, .ref (A 0)), (1, .long p0)] := hl
  have hP : wIs dC dI A cI cJ cZ z s.heap := hP
  rw [fX8_seed] at hf
  refine lv_aload_n hx hb dX8_seed_0 rfl (lv_at hl 0 rfl) ?_
  refine va_get (D := (dC, dI)) (ci := 8) (v := .ref (A 8)) (C := RX8) (T := TX8) (N := 9) hx hb hts i8 hown hK hP 0 (wc_0 A cI cJ cZ z) rfl 7 (by decide) (hts (.fieldLink RX8 61 "LightestRules" "year" "LLightestRules$Year;") (by decide +kernel)) (fun _ h9 => h9) rfl dX8_seed_1 ?_
  refine lv_lload_n hx hb dX8_seed_4 rfl (lv_at hl 1 rfl) ?_
  obtain ⟨r_1, z_2, h_3, hf⟩ := cl_el hf
  refine callVL (As := [.long p0]) (rest := []) (ci := 7) (q0 := 8) ⟨hx, hb, hml, hown, hts⟩ (tX7_sow (l := l) (dC := dC) (dI := dI) (t0 := t0) (cI := cI) (cJ := cJ) (cZ := cZ) hA h_3) (cwV 1 hts gX8_seed_X7_sow rfl rfl rfl (by decide +kernel) ⟨Nat.le_of_ble_eq_true rfl, Nat.le_of_ble_eq_true rfl⟩) hK hZ hP hS rfl (wc_8 A cI cJ cZ z) rfl rfl rfl hl.1 (Nat.le_of_ble_eq_true rfl) ⟨Nat.zero_le _, Nat.zero_le _⟩ dX8_seed_5 (fun H locs hP hS => ?_)
  exact retL hx hb hr hlocks hP hS hf dX8_seed_8
set_option maxHeartbeats 4000000 in
set_option maxRecDepth 100000 in
theorem tX9_seed {l : Launch} {dC : Nat → ClassId} {dI : Nat → Nat → Nat} {A : Nat → Nat} {t0 : Nat} {cI cJ cZ : ClassId} (hA : dst A) {p0 : Int64} {z : Mem} {r : Int64} {z' : Mem} (hf : fX9_seed p0 z = some (r, z')) : ML l dC dI A t0 cI cJ cZ yX9_seed wsX9_seed 0 [.ref (A 25), .long p0] z r z' := by
  refine Met.ofW (cc := cX9_seed) (maxL := 5) (ret := (some .long)) (by decide) rfl ?_
  intro p e s m args below meth c s₁ B hml hv
  obtain ⟨rfl, hP, hK, hZ⟩ := hv
  have hx := B.exec
  have hb := B.bytes
  have hr := B.returns
  have hts := atoms_spec (ws := wsX9_seed) B.pre
  have hown : s.vm.findClass RX9 = some m.cls := findClass_of_methodNamed B.named
  have hlocks := B.notSynchronized
  have hS : va_S (fr A) s.heap s.heap [] := va_S.rf
  have i9 : ∀ w ∈ wsX90, w ∈ wsX9_seed := fun _ h => List.mem_cons_of_mem _ (List.mem_append_right _ h)
  have hl := lv_entry ([.ref (A 25), .long p0]) (n := 5) (Nat.le_of_ble_eq_true rfl)
  rw [lg_entry_eq]
  generalize (lg_sl ([.ref (A 25), .long p0]) ++ List.replicate (5 - (lg_sl ([.ref (A 25), .long p0])).length) Slot.unset).toArray = ls at hl ⊢
  have hl : lv_has ls 5 [(0, .ref (A 25)), (1, .long p0)] := hl
  have hP : wIs dC dI A cI cJ cZ z s.heap := hP
  rw [fX9_seed] at hf
  refine lv_aload_n hx hb dX9_seed_0 rfl (lv_at hl 0 rfl) ?_
  refine va_get (D := (dC, dI)) (ci := 9) (v := .long (z.2 25 30)) (C := RX9) (T := TX9) (N := 34) hx hb hts i9 hown hK hP 25 (wc_25 A cI cJ cZ z) rfl 30 (by decide) (hts (.fieldLink RX9 204 "LightestRulesModel" "seed" "J") (by decide +kernel)) (fun _ h9 => h9) rfl dX9_seed_1 ?_
  refine lv_topl (fun x3_1 ex3_1 => ?_)
  have hf := lt_at ex3_1 hf; clear ex3_1
  refine lv_lstore_n (lv' := [(3, .long x3_1), (0, .ref (A 25)), (1, .long p0)]) hx hb dX9_seed_4 rfl hl (by decide) rfl (fun ls hl => ?_)
  refine lv_aload_n hx hb dX9_seed_5 rfl (lv_at hl 1 rfl) ?_
  refine lv_lload_n hx hb dX9_seed_6 rfl (lv_at hl 2 rfl) ?_
  refine va_put (D := (dC, dI)) (ci := 9) (v := .long p0) (ty := .long) (C := RX9) (T := TX9) (N := 34) hx hb hts i9 tyX9 tyX9_ok nmX9 hown hK hP (wD hA cI cJ cZ z) hS 25 (wc_25 A cI cJ cZ z) rfl 30 (by decide) (hts (.fieldLink RX9 204 "LightestRulesModel" "seed" "J") (by decide +kernel)) (fun _ h9 => h9) rfl (by decide +kernel) rfl rfl (Nat.le_of_ble_eq_true rfl) dX9_seed_7 (fun H locs hP _ hS => ?_)
  rw [ws_25_30 A cI cJ cZ z p0] at hP
  obtain ⟨z_2, hP, hf⟩ := lt_P (P := fun q => wIs dC dI A cI cJ cZ q H) hP hf
  refine lv_lload_n hx hb dX9_seed_10 rfl (lv_at hl 0 rfl) ?_
  exact retL hx hb hr hlocks hP hS hf dX9_seed_11
set_option maxHeartbeats 4000000 in
set_option maxRecDepth 100000 in
theorem tX2_becomeLike {l : Launch} {dC : Nat → ClassId} {dI : Nat → Nat → Nat} {A : Nat → Nat} {t0 : Nat} {cI cJ cZ : ClassId} (hA : dst A)  {z : Mem} {ru : Unit} {z' : Mem} (hf : fX2_becomeLike z = some (ru, z')) : MV l dC dI A t0 cI cJ cZ yX2_becomeLike wsX2_becomeLike 1 [.ref (A 9), .ref (A 2)] z z' := by
  refine Met.ofW (cc := cX2_becomeLike) (maxL := 2) (ret := none) (by decide) rfl ?_
  intro p e s m args below meth c s₁ B hml hv
  obtain ⟨rfl, hP, hK, hZ⟩ := hv
  have hx := B.exec
  have hb := B.bytes
  have hr := B.returns
  have hts := atoms_spec (ws := wsX2_becomeLike) B.pre
  have hown : s.vm.findClass RX2 = some m.cls := findClass_of_methodNamed B.named
  have hlocks := B.notSynchronized
  have hS : va_S (fr A) s.heap s.heap [] := va_S.rf
  have i2 : ∀ w ∈ wsX20, w ∈ wsX2_becomeLike := fun _ h => List.mem_cons_of_mem _ (List.mem_append_right _ h)
  have hl := lv_entry ([.ref (A 9), .ref (A 2)]) (n := 2) (Nat.le_of_ble_eq_true rfl)
  rw [lg_entry_eq]
  generalize (lg_sl ([.ref (A 9), .ref (A 2)]) ++ List.replicate (2 - (lg_sl ([.ref (A 9), .ref (A 2)])).length) Slot.unset).toArray = ls at hl ⊢
  have hl : lv_has ls 2 [(0, .ref (A 9)), (1, .ref (A 2))] := hl
  have hP : wIs dC dI A cI cJ cZ z s.heap := hP
  rw [fX2_becomeLike] at hf
  refine lv_aload_n hx hb dX2_becomeLike_0 rfl (lv_at hl 1 rfl) ?_
  refine va_get (D := (dC, dI)) (ci := 2) (v := .ref (A 11)) (C := RX2) (T := TX2) (N := 4) hx hb hts i2 hown hK hP 2 (wc_2 A cI cJ cZ z) rfl 0 (by decide) (hts (.fieldLink RX2 11 "LightestRules$People" "cells" "[I") (by decide +kernel)) (fun _ h9 => h9) rfl dX2_becomeLike_1 ?_
  refine lv_iconst (v := 0) hx hb dX2_becomeLike_4 (by decide) ?_
  refine lv_aload_n hx hb dX2_becomeLike_5 rfl (lv_at hl 0 rfl) ?_
  refine va_get (D := (dC, dI)) (ci := 2) (v := .ref (A 24)) (C := RX2) (T := TX2) (N := 4) hx hb hts i2 hown hK hP 9 (wc_9 A cI cJ cZ z) rfl 0 (by decide) (hts (.fieldLink RX2 11 "LightestRules$People" "cells" "[I") (by decide +kernel)) (fun _ h9 => h9) rfl dX2_becomeLike_6 ?_
  refine lv_iconst (v := 0) hx hb dX2_becomeLike_9 (by decide) ?_
  refine lv_bipush (v := 26) hx hb dX2_becomeLike_10 (by decide) ?_
  obtain ⟨n_1, hf⟩ := ac_el hf
  refine va_copyi hx hb (hml.trans hl.1.symm) hown (hts (.methodLink RX2 54 arraycopyName) (by decide +kernel)) (hts (.native arraycopyName) (by decide +kernel)) (hts (.static arraycopyName) (by decide +kernel)) (hts (.initialized "java/lang/System" ) (by decide +kernel)) hK hP (wD hA cI cJ cZ z) hS 11 24 0 0 (wc_11 A cI cJ cZ z) (wc_24 A cI cJ cZ z) rfl rfl rfl n_1.1 n_1.2.1 n_1.2.2.1 n_1.2.2.2.1 n_1.2.2.2.2 (fun _ _ => rfl) (Nat.le_of_ble_eq_true rfl) (Nat.le_of_ble_eq_true rfl) dX2_becomeLike_12 (fun H locs hP _ hS => ?_)
  rw [wr_24 A cI cJ cZ z (va_cpy (z.1 11) (z.1 24) (0 : Int32).toNatClampNeg (0 : Int32).toNatClampNeg (26 : Int32).toNatClampNeg)] at hP
  obtain ⟨z_2, hP, hf⟩ := lt_P (P := fun q => wIs dC dI A cI cJ cZ q H) hP hf
  refine lv_aload_n hx hb dX2_becomeLike_15 rfl (lv_at hl 0 rfl) ?_
  refine lv_aload_n hx hb dX2_becomeLike_16 rfl (lv_at hl 1 rfl) ?_
  refine va_get (D := (dC, dI)) (ci := 2) (v := .int (z_2.1 2 1)) (C := RX2) (T := TX2) (N := 4) hx hb hts i2 hown hK hP 2 (wc_2 A cI cJ cZ z_2) rfl 1 (by decide) (hts (.fieldLink RX2 15 "LightestRules$People" "size" "I") (by decide +kernel)) (fun _ h9 => h9) rfl dX2_becomeLike_17 ?_
  refine lv_topi (fun y_3 ey_3 => ?_)
  have hf := lt_at ey_3 hf; clear ey_3
  refine va_put (D := (dC, dI)) (ci := 2) (v := .int y_3) (ty := .int) (C := RX2) (T := TX2) (N := 4) hx hb hts i2 tyX2 tyX2_ok nmX2 hown hK hP (wD hA cI cJ cZ z_2) hS 9 (wc_9 A cI cJ cZ z_2) rfl 1 (by decide) (hts (.fieldLink RX2 15 "LightestRules$People" "size" "I") (by decide +kernel)) (fun _ h9 => h9) rfl (by decide +kernel) rfl rfl (Nat.le_of_ble_eq_true rfl) dX2_becomeLike_20 (fun H locs hP _ hS => ?_)
  rw [ws_9_1 A cI cJ cZ z_2 y_3] at hP
  obtain ⟨z_4, hP, hf⟩ := lt_P (P := fun q => wIs dC dI A cI cJ cZ q H) hP hf
  refine lv_aload_n hx hb dX2_becomeLike_23 rfl (lv_at hl 0 rfl) ?_
  refine lv_aload_n hx hb dX2_becomeLike_24 rfl (lv_at hl 1 rfl) ?_
  refine va_get (D := (dC, dI)) (ci := 2) (v := .int (z_4.1 2 2)) (C := RX2) (T := TX2) (N := 4) hx hb hts i2 hown hK hP 2 (wc_2 A cI cJ cZ z_4) rfl 2 (by decide) (hts (.fieldLink RX2 19 "LightestRules$People" "burn" "I") (by decide +kernel)) (fun _ h9 => h9) rfl dX2_becomeLike_25 ?_
  refine lv_topi (fun y_5 ey_5 => ?_)
  have hf := lt_at ey_5 hf; clear ey_5
  refine va_put (D := (dC, dI)) (ci := 2) (v := .int y_5) (ty := .int) (C := RX2) (T := TX2) (N := 4) hx hb hts i2 tyX2 tyX2_ok nmX2 hown hK hP (wD hA cI cJ cZ z_4) hS 9 (wc_9 A cI cJ cZ z_4) rfl 2 (by decide) (hts (.fieldLink RX2 19 "LightestRules$People" "burn" "I") (by decide +kernel)) (fun _ h9 => h9) rfl (by decide +kernel) rfl rfl (Nat.le_of_ble_eq_true rfl) dX2_becomeLike_28 (fun H locs hP _ hS => ?_)
  rw [ws_9_2 A cI cJ cZ z_4 y_5] at hP
  obtain ⟨z_6, hP, hf⟩ := lt_P (P := fun q => wIs dC dI A cI cJ cZ q H) hP hf
  refine lv_aload_n hx hb dX2_becomeLike_31 rfl (lv_at hl 0 rfl) ?_
  refine lv_aload_n hx hb dX2_becomeLike_32 rfl (lv_at hl 1 rfl) ?_
  refine va_get (D := (dC, dI)) (ci := 2) (v := .int (z_6.1 2 3)) (C := RX2) (T := TX2) (N := 4) hx hb hts i2 hown hK hP 2 (wc_2 A cI cJ cZ z_6) rfl 3 (by decide) (hts (.fieldLink RX2 22 "LightestRules$People" "ill" "I") (by decide +kernel)) (fun _ h9 => h9) rfl dX2_becomeLike_33 ?_
  refine lv_topi (fun y_7 ey_7 => ?_)
  have hf := lt_at ey_7 hf; clear ey_7
  refine va_put (D := (dC, dI)) (ci := 2) (v := .int y_7) (ty := .int) (C := RX2) (T := TX2) (N := 4) hx hb hts i2 tyX2 tyX2_ok nmX2 hown hK hP (wD hA cI cJ cZ z_6) hS 9 (wc_9 A cI cJ cZ z_6) rfl 3 (by decide) (hts (.fieldLink RX2 22 "LightestRules$People" "ill" "I") (by decide +kernel)) (fun _ h9 => h9) rfl (by decide +kernel) rfl rfl (Nat.le_of_ble_eq_true rfl) dX2_becomeLike_36 (fun H locs hP _ hS => ?_)
  rw [ws_9_3 A cI cJ cZ z_6 y_7] at hP
  obtain ⟨z_8, hP, hf⟩ := lt_P (P := fun q => wIs dC dI A cI cJ cZ q H) hP hf
  exact retV hx hb hr hlocks hP hS hf dX2_becomeLike_39
set_option maxHeartbeats 4000000 in
set_option maxRecDepth 100000 in
theorem tX2_get_9 {l : Launch} {dC : Nat → ClassId} {dI : Nat → Nat → Nat} {A : Nat → Nat} {t0 : Nat} {cI cJ cZ : ClassId} (hA : dst A) {p0 : Int32} {p1 : Int32} {z : Mem} {r : Int32} {z' : Mem} (hf : fX2_get_9 p0 p1 z = some (r, z')) : MI l dC dI A t0 cI cJ cZ yX2_get wsX2_get 0 [.ref (A 9), .int p0, .int p1] z r z' := by
  refine Met.ofW (cc := cX2_get) (maxL := 4) (ret := (some .int)) (by decide) rfl ?_
  intro p e s m args below meth c s₁ B hml hv
  obtain ⟨rfl, hP, hK, hZ⟩ := hv
  have hx := B.exec
  have hb := B.bytes
  have hr := B.returns
  have hts := atoms_spec (ws := wsX2_get) B.pre
  have hown : s.vm.findClass RX2 = some m.cls := findClass_of_methodNamed B.named
  have hlocks := B.notSynchronized
  have hS : va_S (fr A) s.heap s.heap [] := va_S.rf
  have i2 : ∀ w ∈ wsX20, w ∈ wsX2_get := fun _ h => List.mem_cons_of_mem _ (List.mem_append_right _ h)
  have hl := lv_entry ([.ref (A 9), .int p0, .int p1]) (n := 4) (Nat.le_of_ble_eq_true rfl)
  rw [lg_entry_eq]
  generalize (lg_sl ([.ref (A 9), .int p0, .int p1]) ++ List.replicate (4 - (lg_sl ([.ref (A 9), .int p0, .int p1])).length) Slot.unset).toArray = ls at hl ⊢
  have hl : lv_has ls 4 [(0, .ref (A 9)), (1, .int p0), (2, .int p1)] := hl
  have hP : wIs dC dI A cI cJ cZ z s.heap := hP
  rw [fX2_get_9] at hf
  refine lv_iload_n hx hb dX2_get_0 rfl (lv_at hl 1 rfl) ?_
  refine lv_iconst (v := 5) hx hb dX2_get_1 (by decide) ?_
  refine lv_imul hx hb dX2_get_2 ?_
  refine lv_iload_n hx hb dX2_get_3 rfl (lv_at hl 2 rfl) ?_
  refine lv_iadd hx hb dX2_get_4 ?_
  refine lv_topi (fun x3_1 ex3_1 => ?_)
  have hf := lt_at ex3_1 hf; clear ex3_1
  refine lv_istore_n (lv' := [(3, .int x3_1), (0, .ref (A 9)), (1, .int p0), (2, .int p1)]) hx hb dX2_get_5 rfl hl (by decide) rfl (fun ls hl => ?_)
  refine lv_iload_n hx hb dX2_get_6 rfl (lv_at hl 0 rfl) ?_
  refine lv_if_lt (tgt := 25) hx hb dX2_get_7 (by decide) (fun c_2 => ?_) (fun c_2 => ?_)
  · have hf := it_t c_2 hf
    refine lv_iconst (v := 0) hx hb dX2_get_25 (by decide) ?_
    exact retI hx hb hr hlocks hP hS hf dX2_get_26
  · have hf := it_f c_2 hf
    refine lv_iload_n hx hb dX2_get_10 rfl (lv_at hl 0 rfl) ?_
    refine lv_bipush (v := 25) hx hb dX2_get_11 (by decide) ?_
    refine lv_icmp_ge (tgt := 25) hx hb dX2_get_13 (by decide) (fun c_3 => ?_) (fun c_3 => ?_)
    · have hf := it_t c_3 hf
      refine lv_iconst (v := 0) hx hb dX2_get_25 (by decide) ?_
      exact retI hx hb hr hlocks hP hS hf dX2_get_26
    · have hf := it_f c_3 hf
      refine lv_aload_n hx hb dX2_get_16 rfl (lv_at hl 1 rfl) ?_
      refine va_get (D := (dC, dI)) (ci := 2) (v := .ref (A 24)) (C := RX2) (T := TX2) (N := 4) hx hb hts i2 hown hK hP 9 (wc_9 A cI cJ cZ z) rfl 0 (by decide) (hts (.fieldLink RX2 11 "LightestRules$People" "cells" "[I") (by decide +kernel)) (fun _ h9 => h9) rfl dX2_get_17 ?_
      refine lv_iload_n hx hb dX2_get_20 rfl (lv_at hl 0 rfl) ?_
      obtain ⟨n_4, hf⟩ := rg_el hf
      refine va_iald hx hb hK hP 24 0 (wc_24 A cI cJ cZ z) rfl n_4 dX2_get_21 ?_
      refine lv_topi (fun a_5 ea_5 => ?_)
      have hf := lt_at ea_5 hf; clear ea_5
      refine lv_goto (tgt := 26) hx hb dX2_get_22 (by decide) ?_
      exact retI hx hb hr hlocks hP hS hf dX2_get_26
set_option maxHeartbeats 4000000 in
set_option maxRecDepth 100000 in
theorem tX2_pocketWeight_9 {l : Launch} {dC : Nat → ClassId} {dI : Nat → Nat → Nat} {A : Nat → Nat} {t0 : Nat} {cI cJ cZ : ClassId} (hA : dst A) {p0 : Int32} {z : Mem} {r : Int32} {z' : Mem} (hf : fX2_pocketWeight_9 p0 z = some (r, z')) : MI l dC dI A t0 cI cJ cZ yX2_pocketWeight wsX2_pocketWeight 1 [.ref (A 9), .int p0] z r z' := by
  refine Met.ofW (cc := cX2_pocketWeight) (maxL := 2) (ret := (some .int)) (by decide) rfl ?_
  intro p e s m args below meth c s₁ B hml hv
  obtain ⟨rfl, hP, hK, hZ⟩ := hv
  have hx := B.exec
  have hb := B.bytes
  have hr := B.returns
  have hts := atoms_spec (ws := wsX2_pocketWeight) B.pre
  have hown : s.vm.findClass RX2 = some m.cls := findClass_of_methodNamed B.named
  have hlocks := B.notSynchronized
  have hS : va_S (fr A) s.heap s.heap [] := va_S.rf
  have hl := lv_entry ([.ref (A 9), .int p0]) (n := 2) (Nat.le_of_ble_eq_true rfl)
  rw [lg_entry_eq]
  generalize (lg_sl ([.ref (A 9), .int p0]) ++ List.replicate (2 - (lg_sl ([.ref (A 9), .int p0])).length) Slot.unset).toArray = ls at hl ⊢
  have hl : lv_has ls 2 [(0, .ref (A 9)), (1, .int p0)] := hl
  have hP : wIs dC dI A cI cJ cZ z s.heap := hP
  rw [fX2_pocketWeight_9] at hf
  refine lv_bipush (v := 8) hx hb dX2_pocketWeight_0 (by decide) ?_
  refine lv_aload_n hx hb dX2_pocketWeight_2 rfl (lv_at hl 0 rfl) ?_
  refine lv_iload_n hx hb dX2_pocketWeight_3 rfl (lv_at hl 1 rfl) ?_
  refine lv_iconst (v := 1) hx hb dX2_pocketWeight_4 (by decide) ?_
  obtain ⟨r_1, z_2, h_3, hf⟩ := cl_el hf
  refine callVI (As := [.int p0, .int (1 : Int32)]) (rest := [.int (8 : Int32)]) (ci := 2) (q0 := 9) ⟨hx, hb, hml, hown, hts⟩ (tX2_get_9 (l := l) (dC := dC) (dI := dI) (t0 := t0) (cI := cI) (cJ := cJ) (cZ := cZ) hA h_3) (cwV 2 hts gX2_pocketWeight_X2_get rfl rfl rfl (by decide +kernel) ⟨Nat.le_of_ble_eq_true rfl, Nat.le_of_ble_eq_true rfl⟩) hK hZ hP hS rfl (wc_9 A cI cJ cZ z) rfl rfl rfl hl.1 (Nat.le_of_ble_eq_true rfl) ⟨Nat.zero_le _, Nat.zero_le _⟩ dX2_pocketWeight_5 (fun H locs hP hS => ?_)
  refine lv_imul hx hb dX2_pocketWeight_8 ?_
  refine lv_bipush (v := 10) hx hb dX2_pocketWeight_9 (by decide) ?_
  refine lv_aload_n hx hb dX2_pocketWeight_11 rfl (lv_at hl 0 rfl) ?_
  refine lv_iload_n hx hb dX2_pocketWeight_12 rfl (lv_at hl 1 rfl) ?_
  refine lv_iconst (v := 2) hx hb dX2_pocketWeight_13 (by decide) ?_
  obtain ⟨r_4, z_5, h_6, hf⟩ := cl_el hf
  refine callVI (As := [.int p0, .int (2 : Int32)]) (rest := [.int (10 : Int32), .int ((8 : Int32) * r_1)]) (ci := 2) (q0 := 9) ⟨hx, hb, hml, hown, hts⟩ (tX2_get_9 (l := l) (dC := dC) (dI := dI) (t0 := t0) (cI := cI) (cJ := cJ) (cZ := cZ) hA h_6) (cwV 2 hts gX2_pocketWeight_X2_get rfl rfl rfl (by decide +kernel) ⟨Nat.le_of_ble_eq_true rfl, Nat.le_of_ble_eq_true rfl⟩) hK hZ hP hS rfl (wc_9 A cI cJ cZ z_2) rfl rfl rfl hl.1 (Nat.le_of_ble_eq_true rfl) ⟨Nat.zero_le _, Nat.zero_le _⟩ dX2_pocketWeight_14 (fun H locs hP hS => ?_)
  refine lv_imul hx hb dX2_pocketWeight_17 ?_
  refine lv_iadd hx hb dX2_pocketWeight_18 ?_
  exact retI hx hb hr hlocks hP hS hf dX2_pocketWeight_19
set_option maxHeartbeats 4000000 in
set_option maxRecDepth 100000 in
theorem tX2_noonWeight_9 {l : Launch} {dC : Nat → ClassId} {dI : Nat → Nat → Nat} {A : Nat → Nat} {t0 : Nat} {cI cJ cZ : ClassId} (hA : dst A) {p0 : Int32} {z : Mem} {r : Int32} {z' : Mem} (hf : fX2_noonWeight_9 p0 z = some (r, z')) : MI l dC dI A t0 cI cJ cZ yX2_noonWeight wsX2_noonWeight 2 [.ref (A 9), .int p0] z r z' := by
  refine Met.ofW (cc := cX2_noonWeight) (maxL := 2) (ret := (some .int)) (by decide) rfl ?_
  intro p e s m args below meth c s₁ B hml hv
  obtain ⟨rfl, hP, hK, hZ⟩ := hv
  have hx := B.exec
  have hb := B.bytes
  have hr := B.returns
  have hts := atoms_spec (ws := wsX2_noonWeight) B.pre
  have hown : s.vm.findClass RX2 = some m.cls := findClass_of_methodNamed B.named
  have hlocks := B.notSynchronized
  have hS : va_S (fr A) s.heap s.heap [] := va_S.rf
  have hl := lv_entry ([.ref (A 9), .int p0]) (n := 2) (Nat.le_of_ble_eq_true rfl)
  rw [lg_entry_eq]
  generalize (lg_sl ([.ref (A 9), .int p0]) ++ List.replicate (2 - (lg_sl ([.ref (A 9), .int p0])).length) Slot.unset).toArray = ls at hl ⊢
  have hl : lv_has ls 2 [(0, .ref (A 9)), (1, .int p0)] := hl
  have hP : wIs dC dI A cI cJ cZ z s.heap := hP
  rw [fX2_noonWeight_9] at hf
  refine lv_aload_n hx hb dX2_noonWeight_0 rfl (lv_at hl 0 rfl) ?_
  refine lv_iload_n hx hb dX2_noonWeight_1 rfl (lv_at hl 1 rfl) ?_
  refine lv_iconst (v := 0) hx hb dX2_noonWeight_2 (by decide) ?_
  obtain ⟨r_1, z_2, h_3, hf⟩ := cl_el hf
  refine callVI (As := [.int p0, .int (0 : Int32)]) (rest := []) (ci := 2) (q0 := 9) ⟨hx, hb, hml, hown, hts⟩ (tX2_get_9 (l := l) (dC := dC) (dI := dI) (t0 := t0) (cI := cI) (cJ := cJ) (cZ := cZ) hA h_3) (cwV 2 hts gX2_noonWeight_X2_get rfl rfl rfl (by decide +kernel) ⟨Nat.le_of_ble_eq_true rfl, Nat.le_of_ble_eq_true rfl⟩) hK hZ hP hS rfl (wc_9 A cI cJ cZ z) rfl rfl rfl hl.1 (Nat.le_of_ble_eq_true rfl) ⟨Nat.zero_le _, Nat.zero_le _⟩ dX2_noonWeight_3 (fun H locs hP hS => ?_)
  refine lv_aload_n hx hb dX2_noonWeight_6 rfl (lv_at hl 0 rfl) ?_
  refine lv_iload_n hx hb dX2_noonWeight_7 rfl (lv_at hl 1 rfl) ?_
  obtain ⟨r_4, z_5, h_6, hf⟩ := cl_el hf
  refine callVI (As := [.int p0]) (rest := [.int r_1]) (ci := 2) (q0 := 9) ⟨hx, hb, hml, hown, hts⟩ (tX2_pocketWeight_9 (l := l) (dC := dC) (dI := dI) (t0 := t0) (cI := cI) (cJ := cJ) (cZ := cZ) hA h_6) (cwV 1 hts gX2_noonWeight_X2_pocketWeight rfl rfl rfl (by decide +kernel) ⟨Nat.le_of_ble_eq_true rfl, Nat.le_of_ble_eq_true rfl⟩) hK hZ hP hS rfl (wc_9 A cI cJ cZ z_2) rfl rfl rfl hl.1 (Nat.le_of_ble_eq_true rfl) ⟨Nat.zero_le _, Nat.zero_le _⟩ dX2_noonWeight_8 (fun H locs hP hS => ?_)
  refine lv_iadd hx hb dX2_noonWeight_11 ?_
  exact retI hx hb hr hlocks hP hS hf dX2_noonWeight_12
set_option maxHeartbeats 4000000 in
set_option maxRecDepth 100000 in
theorem tX2_lightestBut_9 {l : Launch} {dC : Nat → ClassId} {dI : Nat → Nat → Nat} {A : Nat → Nat} {t0 : Nat} {cI cJ cZ : ClassId} (hA : dst A) {p0 : Int32} {z : Mem} {r : Int32} {z' : Mem} (hf : fX2_lightestBut_9 p0 z = some (r, z')) : MI l dC dI A t0 cI cJ cZ yX2_lightestBut wsX2_lightestBut 3 [.ref (A 9), .int p0] z r z' := by
  refine Met.ofW (cc := cX2_lightestBut) (maxL := 5) (ret := (some .int)) (by decide) rfl ?_
  intro p e s m args below meth c s₁ B hml hv
  obtain ⟨rfl, hP, hK, hZ⟩ := hv
  have hx := B.exec
  have hb := B.bytes
  have hr := B.returns
  have hts := atoms_spec (ws := wsX2_lightestBut) B.pre
  have hown : s.vm.findClass RX2 = some m.cls := findClass_of_methodNamed B.named
  have hlocks := B.notSynchronized
  have hS : va_S (fr A) s.heap s.heap [] := va_S.rf
  have i2 : ∀ w ∈ wsX20, w ∈ wsX2_lightestBut := fun _ h => List.mem_cons_of_mem _ (List.mem_append_right _ h)
  have hl := lv_entry ([.ref (A 9), .int p0]) (n := 5) (Nat.le_of_ble_eq_true rfl)
  rw [lg_entry_eq]
  generalize (lg_sl ([.ref (A 9), .int p0]) ++ List.replicate (5 - (lg_sl ([.ref (A 9), .int p0])).length) Slot.unset).toArray = ls at hl ⊢
  have hl : lv_has ls 5 [(0, .ref (A 9)), (1, .int p0)] := hl
  have hP : wIs dC dI A cI cJ cZ z s.heap := hP
  rw [fX2_lightestBut_9] at hf
  refine lv_bipush (v := -9) hx hb dX2_lightestBut_0 (by decide) ?_
  refine lv_istore_n (lv' := [(2, .int (-9 : Int32)), (0, .ref (A 9)), (1, .int p0)]) hx hb dX2_lightestBut_2 rfl hl (by decide) rfl (fun ls hl => ?_)
  refine lv_iconst (v := 0) hx hb dX2_lightestBut_3 (by decide) ?_
  refine lv_istore_n (lv' := [(3, .int (0 : Int32)), (2, .int (-9 : Int32)), (0, .ref (A 9)), (1, .int p0)]) hx hb dX2_lightestBut_4 rfl hl (by decide) rfl (fun ls hl => ?_)
  obtain ⟨K_1, eK_1, hf⟩ := fX2_lightestBut_9_L5_g hf
  have hEK_1 : ∀ (x2_3 : Int32) (x3_4 : Int32) (z_2 : Mem) (H : Heap) (locs : List Loc) (ls : Array Slot), K_1 x2_3 x3_4 z_2 = some (r, z') → wIs dC dI A cI cJ cZ z_2 H → va_S (fr A) s.heap H locs → lv_has ls 5 [(0, .ref (A 9)), (1, .int p0), (2, .int x2_3), (3, .int x3_4)] → WI p l e wsX2_lightestBut 3 s m [.ref (A 9), .int p0] below meth c dC dI A cI cJ cZ r z' H locs (F0 m 60 ls []) := by
    intro x2_3 x3_4 z_2 H locs ls hf hP hS hl
    have hf := ap3 eK_1 hf
    refine lv_iload_n hx hb dX2_lightestBut_60 rfl (lv_at hl 2 rfl) ?_
    exact retI hx hb hr hlocks hP hS hf dX2_lightestBut_61
  have hLK_1 : ∀ (n_8 : Nat) (x2_6 : Int32) (x3_7 : Int32) (z_5 : Mem) (H : Heap) (locs : List Loc) (ls : Array Slot), fX2_lightestBut_9_L5 K_1 p0 n_8 x2_6 x3_7 z_5 = some (r, z') → wIs dC dI A cI cJ cZ z_5 H → va_S (fr A) s.heap H locs → lv_has ls 5 [(0, .ref (A 9)), (1, .int p0), (2, .int x2_6), (3, .int x3_7)] → WI p l e wsX2_lightestBut 3 s m [.ref (A 9), .int p0] below meth c dC dI A cI cJ cZ r z' H locs (F0 m 5 ls []) := by
    intro n_8
    induction n_8 with
    | zero => intro x2_6 x3_7 z_5 H locs ls hf; rw [fX2_lightestBut_9_L5_0] at hf; cases hf
    | succ n_8 ihK_1 =>
      intro x2_6 x3_7 z_5 H locs ls hf hP hS hl
      rw [fX2_lightestBut_9_L5_s] at hf
      refine lv_iload_n hx hb dX2_lightestBut_5 rfl (lv_at hl 3 rfl) ?_
      refine lv_aload_n hx hb dX2_lightestBut_6 rfl (lv_at hl 0 rfl) ?_
      refine va_get (D := (dC, dI)) (ci := 2) (v := .int (z_5.1 9 1)) (C := RX2) (T := TX2) (N := 4) hx hb hts i2 hown hK hP 9 (wc_9 A cI cJ cZ z_5) rfl 1 (by decide) (hts (.fieldLink RX2 15 "LightestRules$People" "size" "I") (by decide +kernel)) (fun _ h9 => h9) rfl dX2_lightestBut_7 ?_
      refine lv_icmp_ge (tgt := 60) hx hb dX2_lightestBut_10 (by decide) (fun c_9 => ?_) (fun c_9 => ?_)
      · have hf := it_t c_9 hf
        exact hEK_1 _ _ _ _ _ _ hf hP hS (lv_sub hl [0, 1, 2, 3] rfl)
      · have hf := it_f c_9 hf
        refine lv_iload_n hx hb dX2_lightestBut_13 rfl (lv_at hl 1 rfl) ?_
        refine lv_iload_n hx hb dX2_lightestBut_14 rfl (lv_at hl 3 rfl) ?_
        refine lv_ishr hx hb dX2_lightestBut_15 ?_
        refine lv_iconst (v := 1) hx hb dX2_lightestBut_16 (by decide) ?_
        refine lv_iand hx hb dX2_lightestBut_17 ?_
        obtain ⟨K_10, eK_10, hf⟩ := jn_el hf
        have hK_10 : ∀ (v_11 : Int32) (z_12 : Mem) (H : Heap) (locs : List Loc) (ls : Array Slot), K_10 v_11 z_12 = some (r, z') → wIs dC dI A cI cJ cZ z_12 H → va_S (fr A) s.heap H locs → lv_has ls 5 [(0, .ref (A 9)), (1, .int p0), (2, .int x2_6), (3, .int x3_7)] → WI p l e wsX2_lightestBut 3 s m [.ref (A 9), .int p0] below meth c dC dI A cI cJ cZ r z' H locs (F0 m 26 ls [.int v_11]) := by
          intro v_11 z_12 H locs ls hf hP hS hl
          have hf := ap2 eK_10 hf
          refine lv_istore (lv' := [(4, .int v_11), (0, .ref (A 9)), (1, .int p0), (2, .int x2_6), (3, .int x3_7)]) hx hb dX2_lightestBut_26 hl (by decide) rfl (fun ls hl => ?_)
          refine lv_iload hx hb dX2_lightestBut_28 (lv_at hl 0 rfl) ?_
          refine lv_if_eq (tgt := 54) hx hb dX2_lightestBut_30 (by decide) (fun c_13 => ?_) (fun c_13 => ?_)
          · have hf := it_t c_13 hf
            obtain ⟨x3_14, ex3_14⟩ : ∃ q : Int32, q = x3_7 + (1 : Int32) := ⟨_, rfl⟩
            refine lv_iinc (v := x3_14) (lv' := [(3, .int x3_14), (4, .int v_11), (0, .ref (A 9)), (1, .int p0), (2, .int x2_6)]) hx hb dX2_lightestBut_54 hl (k := 4) rfl (by rw [ex3_14]; rfl) (by decide) rfl (fun ls hl => ?_)
            have hf := lt_at ex3_14 hf; clear ex3_14
            refine lv_goto (tgt := 5) hx hb dX2_lightestBut_57 (by decide) ?_
            exact ihK_1 _ _ _ _ _ _ hf hP hS (lv_sub hl [2, 3, 4, 0] rfl)
          · have hf := it_f c_13 hf
            refine lv_iload_n hx hb dX2_lightestBut_33 rfl (lv_at hl 3 rfl) ?_
            refine lv_bipush (v := -9) hx hb dX2_lightestBut_34 (by decide) ?_
            refine lv_icmp_eq (tgt := 52) hx hb dX2_lightestBut_36 (by decide) (fun c_15 => ?_) (fun c_15 => ?_)
            · have hf := it_t c_15 hf
              refine lv_iload_n hx hb dX2_lightestBut_52 rfl (lv_at hl 4 rfl) ?_
              refine lv_istore_n (lv' := [(2, .int x3_7), (4, .int v_11), (0, .ref (A 9)), (1, .int p0), (3, .int x3_7)]) hx hb dX2_lightestBut_53 rfl hl (by decide) rfl (fun ls hl => ?_)
              obtain ⟨x3_16, ex3_16⟩ : ∃ q : Int32, q = x3_7 + (1 : Int32) := ⟨_, rfl⟩
              refine lv_iinc (v := x3_16) (lv' := [(3, .int x3_16), (2, .int x3_7), (4, .int v_11), (0, .ref (A 9)), (1, .int p0)]) hx hb dX2_lightestBut_54 hl (k := 4) rfl (by rw [ex3_16]; rfl) (by decide) rfl (fun ls hl => ?_)
              have hf := lt_at ex3_16 hf; clear ex3_16
              refine lv_goto (tgt := 5) hx hb dX2_lightestBut_57 (by decide) ?_
              exact ihK_1 _ _ _ _ _ _ hf hP hS (lv_sub hl [3, 4, 1, 0] rfl)
            · have hf := it_f c_15 hf
              refine lv_aload_n hx hb dX2_lightestBut_39 rfl (lv_at hl 1 rfl) ?_
              refine lv_iload_n hx hb dX2_lightestBut_40 rfl (lv_at hl 4 rfl) ?_
              obtain ⟨r_17, z_18, h_19, hf⟩ := cl_el hf
              refine callVI (As := [.int x3_7]) (rest := []) (ci := 2) (q0 := 9) ⟨hx, hb, hml, hown, hts⟩ (tX2_noonWeight_9 (l := l) (dC := dC) (dI := dI) (t0 := t0) (cI := cI) (cJ := cJ) (cZ := cZ) hA h_19) (cwV 1 hts gX2_lightestBut_X2_noonWeight rfl rfl rfl (by decide +kernel) ⟨Nat.le_of_ble_eq_true rfl, Nat.le_of_ble_eq_true rfl⟩) hK hZ hP hS rfl (wc_9 A cI cJ cZ z_12) rfl rfl rfl hl.1 (Nat.le_of_ble_eq_true rfl) ⟨Nat.zero_le _, Nat.zero_le _⟩ dX2_lightestBut_41 (fun H locs hP hS => ?_)
              refine lv_aload_n hx hb dX2_lightestBut_44 rfl (lv_at hl 1 rfl) ?_
              refine lv_iload_n hx hb dX2_lightestBut_45 rfl (lv_at hl 3 rfl) ?_
              obtain ⟨r_20, z_21, h_22, hf⟩ := cl_el hf
              refine callVI (As := [.int x2_6]) (rest := [.int r_17]) (ci := 2) (q0 := 9) ⟨hx, hb, hml, hown, hts⟩ (tX2_noonWeight_9 (l := l) (dC := dC) (dI := dI) (t0 := t0) (cI := cI) (cJ := cJ) (cZ := cZ) hA h_22) (cwV 1 hts gX2_lightestBut_X2_noonWeight rfl rfl rfl (by decide +kernel) ⟨Nat.le_of_ble_eq_true rfl, Nat.le_of_ble_eq_true rfl⟩) hK hZ hP hS rfl (wc_9 A cI cJ cZ z_18) rfl rfl rfl hl.1 (Nat.le_of_ble_eq_true rfl) ⟨Nat.zero_le _, Nat.zero_le _⟩ dX2_lightestBut_46 (fun H locs hP hS => ?_)
              refine lv_icmp_ge (tgt := 54) hx hb dX2_lightestBut_49 (by decide) (fun c_23 => ?_) (fun c_23 => ?_)
              · have hf := it_t c_23 hf
                obtain ⟨x3_24, ex3_24⟩ : ∃ q : Int32, q = x3_7 + (1 : Int32) := ⟨_, rfl⟩
                refine lv_iinc (v := x3_24) (lv' := [(3, .int x3_24), (4, .int v_11), (0, .ref (A 9)), (1, .int p0), (2, .int x2_6)]) hx hb dX2_lightestBut_54 hl (k := 4) rfl (by rw [ex3_24]; rfl) (by decide) rfl (fun ls hl => ?_)
                have hf := lt_at ex3_24 hf; clear ex3_24
                refine lv_goto (tgt := 5) hx hb dX2_lightestBut_57 (by decide) ?_
                exact ihK_1 _ _ _ _ _ _ hf hP hS (lv_sub hl [2, 3, 4, 0] rfl)
              · have hf := it_f c_23 hf
                refine lv_iload_n hx hb dX2_lightestBut_52 rfl (lv_at hl 4 rfl) ?_
                refine lv_istore_n (lv' := [(2, .int x3_7), (4, .int v_11), (0, .ref (A 9)), (1, .int p0), (3, .int x3_7)]) hx hb dX2_lightestBut_53 rfl hl (by decide) rfl (fun ls hl => ?_)
                obtain ⟨x3_25, ex3_25⟩ : ∃ q : Int32, q = x3_7 + (1 : Int32) := ⟨_, rfl⟩
                refine lv_iinc (v := x3_25) (lv' := [(3, .int x3_25), (2, .int x3_7), (4, .int v_11), (0, .ref (A 9)), (1, .int p0)]) hx hb dX2_lightestBut_54 hl (k := 4) rfl (by rw [ex3_25]; rfl) (by decide) rfl (fun ls hl => ?_)
                have hf := lt_at ex3_25 hf; clear ex3_25
                refine lv_goto (tgt := 5) hx hb dX2_lightestBut_57 (by decide) ?_
                exact ihK_1 _ _ _ _ _ _ hf hP hS (lv_sub hl [3, 4, 1, 0] rfl)
        refine lv_if_ne (tgt := 25) hx hb dX2_lightestBut_18 (by decide) (fun c_26 => ?_) (fun c_26 => ?_)
        · have hf := it_f c_26 hf
          refine lv_iconst (v := 0) hx hb dX2_lightestBut_25 (by decide) ?_
          exact hK_10 _ _ _ _ _ hf hP hS (lv_sub hl [0, 1, 2, 3] rfl)
        · have hf := it_t c_26 hf
          refine lv_iconst (v := 1) hx hb dX2_lightestBut_21 (by decide) ?_
          refine lv_goto (tgt := 26) hx hb dX2_lightestBut_22 (by decide) ?_
          exact hK_10 _ _ _ _ _ hf hP hS (lv_sub hl [0, 1, 2, 3] rfl)
  exact hLK_1 FU _ _ _ _ _ _ hf hP hS (lv_sub hl [2, 3, 1, 0] rfl)
set_option maxHeartbeats 4000000 in
set_option maxRecDepth 100000 in
theorem tX2_isIll_9 {l : Launch} {dC : Nat → ClassId} {dI : Nat → Nat → Nat} {A : Nat → Nat} {t0 : Nat} {cI cJ cZ : ClassId} (hA : dst A) {p0 : Int32} {z : Mem} {r : Int32} {z' : Mem} (hf : fX2_isIll_9 p0 z = some (r, z')) : MI l dC dI A t0 cI cJ cZ yX2_isIll wsX2_isIll 1 [.ref (A 9), .int p0] z r z' := by
  refine Met.ofW (cc := cX2_isIll) (maxL := 2) (ret := (some .boolean)) (by decide) rfl ?_
  intro p e s m args below meth c s₁ B hml hv
  obtain ⟨rfl, hP, hK, hZ⟩ := hv
  have hx := B.exec
  have hb := B.bytes
  have hr := B.returns
  have hts := atoms_spec (ws := wsX2_isIll) B.pre
  have hown : s.vm.findClass RX2 = some m.cls := findClass_of_methodNamed B.named
  have hlocks := B.notSynchronized
  have hS : va_S (fr A) s.heap s.heap [] := va_S.rf
  have i2 : ∀ w ∈ wsX20, w ∈ wsX2_isIll := fun _ h => List.mem_cons_of_mem _ (List.mem_append_right _ h)
  have hl := lv_entry ([.ref (A 9), .int p0]) (n := 2) (Nat.le_of_ble_eq_true rfl)
  rw [lg_entry_eq]
  generalize (lg_sl ([.ref (A 9), .int p0]) ++ List.replicate (2 - (lg_sl ([.ref (A 9), .int p0])).length) Slot.unset).toArray = ls at hl ⊢
  have hl : lv_has ls 2 [(0, .ref (A 9)), (1, .int p0)] := hl
  have hP : wIs dC dI A cI cJ cZ z s.heap := hP
  rw [fX2_isIll_9] at hf
  refine lv_aload_n hx hb dX2_isIll_0 rfl (lv_at hl 0 rfl) ?_
  refine lv_iload_n hx hb dX2_isIll_1 rfl (lv_at hl 1 rfl) ?_
  refine lv_iconst (v := 0) hx hb dX2_isIll_2 (by decide) ?_
  obtain ⟨r_1, z_2, h_3, hf⟩ := cl_el hf
  refine callVI (As := [.int p0, .int (0 : Int32)]) (rest := []) (ci := 2) (q0 := 9) ⟨hx, hb, hml, hown, hts⟩ (tX2_get_9 (l := l) (dC := dC) (dI := dI) (t0 := t0) (cI := cI) (cJ := cJ) (cZ := cZ) hA h_3) (cwV 2 hts gX2_isIll_X2_get rfl rfl rfl (by decide +kernel) ⟨Nat.le_of_ble_eq_true rfl, Nat.le_of_ble_eq_true rfl⟩) hK hZ hP hS rfl (wc_9 A cI cJ cZ z) rfl rfl rfl hl.1 (Nat.le_of_ble_eq_true rfl) ⟨Nat.zero_le _, Nat.zero_le _⟩ dX2_isIll_3 (fun H locs hP hS => ?_)
  refine lv_bipush (v := 40) hx hb dX2_isIll_6 (by decide) ?_
  refine lv_aload_n hx hb dX2_isIll_8 rfl (lv_at hl 0 rfl) ?_
  refine va_get (D := (dC, dI)) (ci := 2) (v := .int (z_2.1 9 3)) (C := RX2) (T := TX2) (N := 4) hx hb hts i2 hown hK hP 9 (wc_9 A cI cJ cZ z_2) rfl 3 (by decide) (hts (.fieldLink RX2 22 "LightestRules$People" "ill" "I") (by decide +kernel)) (fun _ h9 => h9) rfl dX2_isIll_9 ?_
  refine lv_imul hx hb dX2_isIll_12 ?_
  refine lv_icmp_ge (tgt := 20) hx hb dX2_isIll_13 (by decide) (fun c_4 => ?_) (fun c_4 => ?_)
  · have hf := it_t c_4 hf
    refine lv_iconst (v := 0) hx hb dX2_isIll_20 (by decide) ?_
    exact retZ hx hb hr hlocks rfl hP hS hf dX2_isIll_21
  · have hf := it_f c_4 hf
    refine lv_iconst (v := 1) hx hb dX2_isIll_16 (by decide) ?_
    refine lv_goto (tgt := 21) hx hb dX2_isIll_17 (by decide) ?_
    exact retZ hx hb hr hlocks rfl hP hS hf dX2_isIll_21
