set_option maxHeartbeats 4000000 in
set_option maxRecDepth 100000 in
theorem tX8_line {l : Launch} {dC : Nat → ClassId} {dI : Nat → Nat → Nat} {A : Nat → Nat} {t0 : Nat} {cI cJ cZ : ClassId} (hA : dst A)  {z : Mem} {r : Int64} {z' : Mem} (hf : fX8_line z = some (r, z')) : ML l dC dI A t0 cI cJ cZ yX8_line wsX8_line 4 [.ref (A 0)] z r z' := by
  refine Met.ofW (cc := cX8_line) (maxL := 1) (ret := (some .long)) (by decide) rfl ?_
  intro p e s m args below meth c s₁ B hml hv
  obtain ⟨rfl, hP, hK, hZ⟩ := hv
  have hx := B.exec
  have hb := B.bytes
  have hr := B.returns
  have hts := atoms_spec (ws := wsX8_line) B.pre
  have hown : s.vm.findClass RX8 = some m.cls := findClass_of_methodNamed B.named
  have hlocks := B.notSynchronized
  have hS : va_S (fr A) s.heap s.heap [] := va_S.rf
  have i8 : ∀ w ∈ wsX80, w ∈ wsX8_line := fun _ h => List.mem_cons_of_mem _ (List.mem_append_left _ (List.mem_append_left _ (List.mem_append_right _ h)))
  have hl := lv_entry ([.ref (A 0)]) (n := 1) (Nat.le_of_ble_eq_true rfl)
  rw [lg_entry_eq]
  generalize (lg_sl ([.ref (A 0)]) ++ List.replicate (1 - (lg_sl ([.ref (A 0)])).length) Slot.unset).toArray = ls at hl ⊢
  have hl : lv_has ls 1 [(0, .ref (A 0))] := hl
  have hP : wIs dC dI A cI cJ cZ z s.heap := hP
  rw [fX8_line] at hf
  refine lv_aload_n hx hb dX8_line_0 rfl (lv_at hl 0 rfl) ?_
  refine va_get (D := (dC, dI)) (ci := 8) (v := .ref (A 2)) (C := RX8) (T := TX8) (N := 9) hx hb hts i8 hown hK hP 0 (wc_0 A cI cJ cZ z) rfl 1 (by decide) (hts (.fieldLink RX8 19 "LightestRules" "folk" "LLightestRules$People;") (by decide +kernel)) (fun _ h9 => h9) rfl dX8_line_1 ?_
  obtain ⟨r_1, z_2, h_3, hf⟩ := cl_el hf
  refine callVI (As := []) (rest := []) (ci := 2) (q0 := 2) ⟨hx, hb, hml, hown, hts⟩ (tX2_size_2 (l := l) (dC := dC) (dI := dI) (t0 := t0) (cI := cI) (cJ := cJ) (cZ := cZ) hA h_3) (cwV 0 hts gX8_line_X2_size rfl rfl rfl (by decide +kernel) ⟨Nat.le_of_ble_eq_true rfl, Nat.le_of_ble_eq_true rfl⟩) hK hZ hP hS rfl (wc_2 A cI cJ cZ z) rfl rfl rfl hl.1 (Nat.le_of_ble_eq_true rfl) ⟨Nat.zero_le _, Nat.zero_le _⟩ dX8_line_4 (fun H locs hP hS => ?_)
  refine lv_iconst (v := 1) hx hb dX8_line_7 (by decide) ?_
  refine lv_icmp_lt (tgt := 22) hx hb dX8_line_8 (by decide) (fun c_4 => ?_) (fun c_4 => ?_)
  · have hf := it_t c_4 hf
    refine lv_ldc2 hx hb hown (hts (.constantLong RX8 187 (-3)) (by decide +kernel)) dX8_line_22 ?_
    exact retL hx hb hr hlocks hP hS hf dX8_line_25
  · have hf := it_f c_4 hf
    refine lv_aload_n hx hb dX8_line_11 rfl (lv_at hl 0 rfl) ?_
    refine va_get (D := (dC, dI)) (ci := 8) (v := .ref (A 2)) (C := RX8) (T := TX8) (N := 9) hx hb hts i8 hown hK hP 0 (wc_0 A cI cJ cZ z_2) rfl 1 (by decide) (hts (.fieldLink RX8 19 "LightestRules" "folk" "LLightestRules$People;") (by decide +kernel)) (fun _ h9 => h9) rfl dX8_line_12 ?_
    obtain ⟨r_5, z_6, h_7, hf⟩ := cl_el hf
    refine callVI (As := []) (rest := []) (ci := 2) (q0 := 2) ⟨hx, hb, hml, hown, hts⟩ (tX2_size_2 (l := l) (dC := dC) (dI := dI) (t0 := t0) (cI := cI) (cJ := cJ) (cZ := cZ) hA h_7) (cwV 0 hts gX8_line_X2_size rfl rfl rfl (by decide +kernel) ⟨Nat.le_of_ble_eq_true rfl, Nat.le_of_ble_eq_true rfl⟩) hK hZ hP hS rfl (wc_2 A cI cJ cZ z_2) rfl rfl rfl hl.1 (Nat.le_of_ble_eq_true rfl) ⟨Nat.zero_le _, Nat.zero_le _⟩ dX8_line_15 (fun H locs hP hS => ?_)
    refine lv_iconst (v := 3) hx hb dX8_line_18 (by decide) ?_
    refine lv_icmp_le (tgt := 26) hx hb dX8_line_19 (by decide) (fun c_8 => ?_) (fun c_8 => ?_)
    · have hf := it_t c_8 hf
      refine lv_aload_n hx hb dX8_line_26 rfl (lv_at hl 0 rfl) ?_
      refine va_get (D := (dC, dI)) (ci := 8) (v := .ref (A 7)) (C := RX8) (T := TX8) (N := 9) hx hb hts i8 hown hK hP 0 (wc_0 A cI cJ cZ z_6) rfl 6 (by decide) (hts (.fieldLink RX8 54 "LightestRules" "told" "LLightestRules$RulersLine;") (by decide +kernel)) (fun _ h9 => h9) rfl dX8_line_27 ?_
      refine lv_aload_n hx hb dX8_line_30 rfl (lv_at hl 0 rfl) ?_
      refine va_get (D := (dC, dI)) (ci := 8) (v := .ref (A 2)) (C := RX8) (T := TX8) (N := 9) hx hb hts i8 hown hK hP 0 (wc_0 A cI cJ cZ z_6) rfl 1 (by decide) (hts (.fieldLink RX8 19 "LightestRules" "folk" "LLightestRules$People;") (by decide +kernel)) (fun _ h9 => h9) rfl dX8_line_31 ?_
      obtain ⟨r_9, z_10, h_11, hf⟩ := cl_el hf
      refine callVL (As := [.ref (A 2)]) (rest := []) (ci := 3) (q0 := 7) ⟨hx, hb, hml, hown, hts⟩ (tX3_fittingMeals (l := l) (dC := dC) (dI := dI) (t0 := t0) (cI := cI) (cJ := cJ) (cZ := cZ) hA h_11) (cwV 1 hts gX8_line_X3_fittingMeals rfl rfl rfl (by decide +kernel) ⟨Nat.le_of_ble_eq_true rfl, Nat.le_of_ble_eq_true rfl⟩) hK hZ hP hS rfl (wc_7 A cI cJ cZ z_6) rfl rfl rfl hl.1 (Nat.le_of_ble_eq_true rfl) ⟨Nat.zero_le _, Nat.zero_le _⟩ dX8_line_34 (fun H locs hP hS => ?_)
      exact retL hx hb hr hlocks hP hS hf dX8_line_37
    · have hf := it_f c_8 hf
      refine lv_ldc2 hx hb hown (hts (.constantLong RX8 187 (-3)) (by decide +kernel)) dX8_line_22 ?_
      exact retL hx hb hr hlocks hP hS hf dX8_line_25
set_option maxHeartbeats 4000000 in
set_option maxRecDepth 100000 in
theorem tX9_ate {l : Launch} {dC : Nat → ClassId} {dI : Nat → Nat → Nat} {A : Nat → Nat} {t0 : Nat} {cI cJ cZ : ClassId} (hA : dst A) {p0 : Int32} {p1 : Int32} {z : Mem} {r : Int32} {z' : Mem} (hf : fX9_ate p0 p1 z = some (r, z')) : MI l dC dI A t0 cI cJ cZ yX9_ate wsX9_ate 0 [.int p0, .int p1] z r z' := by
  refine Met.ofW (cc := cX9_ate) (maxL := 2) (ret := (some .int)) (by decide) rfl ?_
  intro p e s m args below meth c s₁ B hml hv
  obtain ⟨rfl, hP, hK, hZ⟩ := hv
  have hx := B.exec
  have hb := B.bytes
  have hr := B.returns
  have hts := atoms_spec (ws := wsX9_ate) B.pre
  have hown : s.vm.findClass RX9 = some m.cls := findClass_of_methodNamed B.named
  have hlocks := B.notSynchronized
  have hS : va_S (fr A) s.heap s.heap [] := va_S.rf
  have hl := lv_entry ([.int p0, .int p1]) (n := 2) (Nat.le_of_ble_eq_true rfl)
  rw [lg_entry_eq]
  generalize (lg_sl ([.int p0, .int p1]) ++ List.replicate (2 - (lg_sl ([.int p0, .int p1])).length) Slot.unset).toArray = ls at hl ⊢
  have hl : lv_has ls 2 [(0, .int p0), (1, .int p1)] := hl
  have hP : wIs dC dI A cI cJ cZ z s.heap := hP
  rw [fX9_ate] at hf
  refine lv_iload_n hx hb dX9_ate_0 rfl (lv_at hl 1 rfl) ?_
  refine lv_if_ne (tgt := 11) hx hb dX9_ate_1 (by decide) (fun c_1 => ?_) (fun c_1 => ?_)
  · have hf := it_f c_1 hf
    refine lv_iload_n hx hb dX9_ate_11 rfl (lv_at hl 1 rfl) ?_
    refine lv_iconst (v := 1) hx hb dX9_ate_12 (by decide) ?_
    refine lv_icmp_ne (tgt := 26) hx hb dX9_ate_13 (by decide) (fun c_2 => ?_) (fun c_2 => ?_)
    · have hf := it_f c_2 hf
      refine lv_iload_n hx hb dX9_ate_26 rfl (lv_at hl 0 rfl) ?_
      refine lv_sipush (v := 169) hx hb dX9_ate_27 (by decide) ?_
      obtain ⟨n_3, hf⟩ := nz_el hf
      refine lv_idiv hx hb dX9_ate_30 n_3 ?_
      exact retI hx hb hr hlocks hP hS hf dX9_ate_31
    · have hf := it_t c_2 hf
      refine lv_iload_n hx hb dX9_ate_16 rfl (lv_at hl 0 rfl) ?_
      refine lv_bipush (v := 13) hx hb dX9_ate_17 (by decide) ?_
      obtain ⟨n_4, hf⟩ := nz_el hf
      refine lv_idiv hx hb dX9_ate_19 n_4 ?_
      refine lv_bipush (v := 13) hx hb dX9_ate_20 (by decide) ?_
      obtain ⟨n_5, hf⟩ := nz_el hf
      refine lv_irem hx hb dX9_ate_22 n_5 ?_
      refine lv_goto (tgt := 31) hx hb dX9_ate_23 (by decide) ?_
      exact retI hx hb hr hlocks hP hS hf dX9_ate_31
  · have hf := it_t c_1 hf
    refine lv_iload_n hx hb dX9_ate_4 rfl (lv_at hl 0 rfl) ?_
    refine lv_bipush (v := 13) hx hb dX9_ate_5 (by decide) ?_
    obtain ⟨n_6, hf⟩ := nz_el hf
    refine lv_irem hx hb dX9_ate_7 n_6 ?_
    refine lv_goto (tgt := 31) hx hb dX9_ate_8 (by decide) ?_
    exact retI hx hb hr hlocks hP hS hf dX9_ate_31
set_option maxHeartbeats 4000000 in
set_option maxRecDepth 100000 in
theorem tX9_isRuler {l : Launch} {dC : Nat → ClassId} {dI : Nat → Nat → Nat} {A : Nat → Nat} {t0 : Nat} {cI cJ cZ : ClassId} (hA : dst A) {p0 : Int32} {p1 : Int32} {z : Mem} {r : Int32} {z' : Mem} (hf : fX9_isRuler p0 p1 z = some (r, z')) : MI l dC dI A t0 cI cJ cZ yX9_isRuler wsX9_isRuler 1 [.ref (A 25), .int p0, .int p1] z r z' := by
  refine Met.ofW (cc := cX9_isRuler) (maxL := 5) (ret := (some .boolean)) (by decide) rfl ?_
  intro p e s m args below meth c s₁ B hml hv
  obtain ⟨rfl, hP, hK, hZ⟩ := hv
  have hx := B.exec
  have hb := B.bytes
  have hr := B.returns
  have hts := atoms_spec (ws := wsX9_isRuler) B.pre
  have hown : s.vm.findClass RX9 = some m.cls := findClass_of_methodNamed B.named
  have hlocks := B.notSynchronized
  have hS : va_S (fr A) s.heap s.heap [] := va_S.rf
  have i9 : ∀ w ∈ wsX90, w ∈ wsX9_isRuler := fun _ h => List.mem_cons_of_mem _ (List.mem_append_right _ h)
  have hl := lv_entry ([.ref (A 25), .int p0, .int p1]) (n := 5) (Nat.le_of_ble_eq_true rfl)
  rw [lg_entry_eq]
  generalize (lg_sl ([.ref (A 25), .int p0, .int p1]) ++ List.replicate (5 - (lg_sl ([.ref (A 25), .int p0, .int p1])).length) Slot.unset).toArray = ls at hl ⊢
  have hl : lv_has ls 5 [(0, .ref (A 25)), (1, .int p0), (2, .int p1)] := hl
  have hP : wIs dC dI A cI cJ cZ z s.heap := hP
  rw [fX9_isRuler] at hf
  refine lv_iload_n hx hb dX9_isRuler_0 rfl (lv_at hl 2 rfl) ?_
  refine lv_aload_n hx hb dX9_isRuler_1 rfl (lv_at hl 0 rfl) ?_
  refine va_get (D := (dC, dI)) (ci := 9) (v := .int (z.1 25 6)) (C := RX9) (T := TX9) (N := 34) hx hb hts i9 hown hK hP 25 (wc_25 A cI cJ cZ z) rfl 6 (by decide) (hts (.fieldLink RX9 104 "LightestRulesModel" "many" "I") (by decide +kernel)) (fun _ h9 => h9) rfl dX9_isRuler_2 ?_
  obtain ⟨K_1, eK_1, hf⟩ := jn_el hf
  have hK_1 : ∀ (v_2 : Int32) (z_3 : Mem) (H : Heap) (locs : List Loc) (ls : Array Slot), K_1 v_2 z_3 = some (r, z') → wIs dC dI A cI cJ cZ z_3 H → va_S (fr A) s.heap H locs → lv_has ls 5 [(0, .ref (A 25)), (1, .int p0), (2, .int p1)] → WI p l e wsX9_isRuler 1 s m [.ref (A 25), .int p0, .int p1] below meth c dC dI A cI cJ cZ r z' H locs (F0 m 13 ls [.int v_2]) := by
    intro v_2 z_3 H locs ls hf hP hS hl
    have hf := ap2 eK_1 hf
    refine lv_istore_n (lv' := [(3, .int v_2), (0, .ref (A 25)), (1, .int p0), (2, .int p1)]) hx hb dX9_isRuler_13 rfl hl (by decide) rfl (fun ls hl => ?_)
    refine lv_iconst (v := 0) hx hb dX9_isRuler_14 (by decide) ?_
    refine lv_istore (lv' := [(4, .int (0 : Int32)), (3, .int v_2), (0, .ref (A 25)), (1, .int p0), (2, .int p1)]) hx hb dX9_isRuler_15 hl (by decide) rfl (fun ls hl => ?_)
    obtain ⟨K_4, eK_4, hf⟩ := fX9_isRuler_L17_g hf
    have hEK_4 : ∀ (x3_6 : Int32) (x4_7 : Int32) (z_5 : Mem) (H : Heap) (locs : List Loc) (ls : Array Slot), K_4 x3_6 x4_7 z_5 = some (r, z') → wIs dC dI A cI cJ cZ z_5 H → va_S (fr A) s.heap H locs → lv_has ls 5 [(0, .ref (A 25)), (1, .int p0), (2, .int p1), (3, .int x3_6), (4, .int x4_7)] → WI p l e wsX9_isRuler 1 s m [.ref (A 25), .int p0, .int p1] below meth c dC dI A cI cJ cZ r z' H locs (F0 m 87 ls []) := by
      intro x3_6 x4_7 z_5 H locs ls hf hP hS hl
      have hf := ap3 eK_4 hf
      refine lv_iload_n hx hb dX9_isRuler_87 rfl (lv_at hl 3 rfl) ?_
      obtain ⟨hnn, hf⟩ := bo_el hf
      exact retZ hx hb hr hlocks hnn hP hS hf dX9_isRuler_88
    have hLK_4 : ∀ (n_11 : Nat) (x3_9 : Int32) (x4_10 : Int32) (z_8 : Mem) (H : Heap) (locs : List Loc) (ls : Array Slot), fX9_isRuler_L17 K_4 p0 p1 n_11 x3_9 x4_10 z_8 = some (r, z') → wIs dC dI A cI cJ cZ z_8 H → va_S (fr A) s.heap H locs → lv_has ls 5 [(0, .ref (A 25)), (1, .int p0), (2, .int p1), (3, .int x3_9), (4, .int x4_10)] → WI p l e wsX9_isRuler 1 s m [.ref (A 25), .int p0, .int p1] below meth c dC dI A cI cJ cZ r z' H locs (F0 m 17 ls []) := by
      intro n_11
      induction n_11 with
      | zero => intro x3_9 x4_10 z_8 H locs ls hf; rw [fX9_isRuler_L17_0] at hf; cases hf
      | succ n_11 ihK_4 =>
        intro x3_9 x4_10 z_8 H locs ls hf hP hS hl
        rw [fX9_isRuler_L17_s] at hf
        refine lv_iload hx hb dX9_isRuler_17 (lv_at hl 4 rfl) ?_
        refine lv_aload_n hx hb dX9_isRuler_19 rfl (lv_at hl 0 rfl) ?_
        refine va_get (D := (dC, dI)) (ci := 9) (v := .int (z_8.1 25 6)) (C := RX9) (T := TX9) (N := 34) hx hb hts i9 hown hK hP 25 (wc_25 A cI cJ cZ z_8) rfl 6 (by decide) (hts (.fieldLink RX9 104 "LightestRulesModel" "many" "I") (by decide +kernel)) (fun _ h9 => h9) rfl dX9_isRuler_20 ?_
        refine lv_icmp_ge (tgt := 87) hx hb dX9_isRuler_23 (by decide) (fun c_12 => ?_) (fun c_12 => ?_)
        · have hf := it_t c_12 hf
          exact hEK_4 _ _ _ _ _ _ hf hP hS (lv_sub hl [0, 1, 2, 3, 4] rfl)
        · have hf := it_f c_12 hf
          refine lv_iload_n hx hb dX9_isRuler_26 rfl (lv_at hl 3 rfl) ?_
          refine lv_if_eq (tgt := 87) hx hb dX9_isRuler_27 (by decide) (fun c_13 => ?_) (fun c_13 => ?_)
          · have hf := it_t c_13 hf
            exact hEK_4 _ _ _ _ _ _ hf hP hS (lv_sub hl [0, 1, 2, 3, 4] rfl)
          · have hf := it_f c_13 hf
            refine lv_iload hx hb dX9_isRuler_30 (lv_at hl 4 rfl) ?_
            refine lv_iload_n hx hb dX9_isRuler_32 rfl (lv_at hl 2 rfl) ?_
            refine lv_icmp_eq (tgt := 75) hx hb dX9_isRuler_33 (by decide) (fun c_14 => ?_) (fun c_14 => ?_)
            · have hf := it_t c_14 hf
              refine lv_iconst (v := 1) hx hb dX9_isRuler_75 (by decide) ?_
              refine lv_goto (tgt := 80) hx hb dX9_isRuler_76 (by decide) ?_
              refine lv_istore_n (lv' := [(3, .int (1 : Int32)), (0, .ref (A 25)), (1, .int p0), (2, .int p1), (4, .int x4_10)]) hx hb dX9_isRuler_80 rfl hl (by decide) rfl (fun ls hl => ?_)
              obtain ⟨x4_15, ex4_15⟩ : ∃ q : Int32, q = x4_10 + (1 : Int32) := ⟨_, rfl⟩
              refine lv_iinc (v := x4_15) (lv' := [(4, .int x4_15), (3, .int (1 : Int32)), (0, .ref (A 25)), (1, .int p0), (2, .int p1)]) hx hb dX9_isRuler_81 hl (k := 4) rfl (by rw [ex4_15]; rfl) (by decide) rfl (fun ls hl => ?_)
              have hf := lt_at ex4_15 hf; clear ex4_15
              refine lv_goto (tgt := 17) hx hb dX9_isRuler_84 (by decide) ?_
              exact ihK_4 _ _ _ _ _ _ hf hP hS (lv_sub hl [2, 3, 4, 1, 0] rfl)
            · have hf := it_f c_14 hf
              refine lv_aload_n hx hb dX9_isRuler_36 rfl (lv_at hl 0 rfl) ?_
              refine lv_iload_n hx hb dX9_isRuler_37 rfl (lv_at hl 2 rfl) ?_
              obtain ⟨r_16, z_17, h_18, hf⟩ := cl_el hf
              refine callVI (As := [.int p1]) (rest := []) (ci := 9) (q0 := 25) ⟨hx, hb, hml, hown, hts⟩ (tX9_noonOf (l := l) (dC := dC) (dI := dI) (t0 := t0) (cI := cI) (cJ := cJ) (cZ := cZ) hA h_18) (cwV 1 hts gX9_isRuler_X9_noonOf rfl rfl rfl (by decide +kernel) ⟨Nat.le_of_ble_eq_true rfl, Nat.le_of_ble_eq_true rfl⟩) hK hZ hP hS rfl (wc_25 A cI cJ cZ z_8) rfl rfl rfl hl.1 (Nat.le_of_ble_eq_true rfl) ⟨Nat.zero_le _, Nat.zero_le _⟩ dX9_isRuler_38 (fun H locs hP hS => ?_)
              refine lv_bipush (v := 8) hx hb dX9_isRuler_41 (by decide) ?_
              refine lv_iload_n hx hb dX9_isRuler_43 rfl (lv_at hl 1 rfl) ?_
              refine lv_iload_n hx hb dX9_isRuler_44 rfl (lv_at hl 2 rfl) ?_
              obtain ⟨r_19, z_20, h_21, hf⟩ := cl_el hf
              refine callSI (As := [.int p0, .int p1]) (rest := [.int (8 : Int32), .int r_16]) ⟨hx, hb, hml, hown, hts⟩ (tX9_ate (l := l) (dC := dC) (dI := dI) (t0 := t0) (cI := cI) (cJ := cJ) (cZ := cZ) hA h_21) (va_cwS 2 hts gX9_isRuler_X9_ate rfl rfl rfl (by decide +kernel) ⟨Nat.le_of_ble_eq_true rfl, Nat.le_of_ble_eq_true rfl⟩) hK hZ hP hS rfl rfl hl.1 (Nat.le_of_ble_eq_true rfl) ⟨Nat.zero_le _, Nat.zero_le _⟩ dX9_isRuler_45 (fun H locs hP hS => ?_)
              refine lv_imul hx hb dX9_isRuler_48 ?_
              refine lv_iadd hx hb dX9_isRuler_49 ?_
              refine lv_iload_n hx hb dX9_isRuler_50 rfl (lv_at hl 2 rfl) ?_
              refine lv_aload_n hx hb dX9_isRuler_51 rfl (lv_at hl 0 rfl) ?_
              refine lv_iload hx hb dX9_isRuler_52 (lv_at hl 4 rfl) ?_
              obtain ⟨r_22, z_23, h_24, hf⟩ := cl_el hf
              refine callVI (As := [.int x4_10]) (rest := [.int p1, .int (r_16 + ((8 : Int32) * r_19))]) (ci := 9) (q0 := 25) ⟨hx, hb, hml, hown, hts⟩ (tX9_noonOf (l := l) (dC := dC) (dI := dI) (t0 := t0) (cI := cI) (cJ := cJ) (cZ := cZ) hA h_24) (cwV 1 hts gX9_isRuler_X9_noonOf rfl rfl rfl (by decide +kernel) ⟨Nat.le_of_ble_eq_true rfl, Nat.le_of_ble_eq_true rfl⟩) hK hZ hP hS rfl (wc_25 A cI cJ cZ z_20) rfl rfl rfl hl.1 (Nat.le_of_ble_eq_true rfl) ⟨Nat.zero_le _, Nat.zero_le _⟩ dX9_isRuler_54 (fun H locs hP hS => ?_)
              refine lv_bipush (v := 8) hx hb dX9_isRuler_57 (by decide) ?_
              refine lv_iload_n hx hb dX9_isRuler_59 rfl (lv_at hl 1 rfl) ?_
              refine lv_iload hx hb dX9_isRuler_60 (lv_at hl 4 rfl) ?_
              obtain ⟨r_25, z_26, h_27, hf⟩ := cl_el hf
              refine callSI (As := [.int p0, .int x4_10]) (rest := [.int (8 : Int32), .int r_22, .int p1, .int (r_16 + ((8 : Int32) * r_19))]) ⟨hx, hb, hml, hown, hts⟩ (tX9_ate (l := l) (dC := dC) (dI := dI) (t0 := t0) (cI := cI) (cJ := cJ) (cZ := cZ) hA h_27) (va_cwS 2 hts gX9_isRuler_X9_ate rfl rfl rfl (by decide +kernel) ⟨Nat.le_of_ble_eq_true rfl, Nat.le_of_ble_eq_true rfl⟩) hK hZ hP hS rfl rfl hl.1 (Nat.le_of_ble_eq_true rfl) ⟨Nat.zero_le _, Nat.zero_le _⟩ dX9_isRuler_62 (fun H locs hP hS => ?_)
              refine lv_imul hx hb dX9_isRuler_65 ?_
              refine lv_iadd hx hb dX9_isRuler_66 ?_
              refine lv_iload hx hb dX9_isRuler_67 (lv_at hl 4 rfl) ?_
              obtain ⟨r_28, z_29, h_30, hf⟩ := cl_el hf
              refine callSI (As := [.int (r_16 + ((8 : Int32) * r_19)), .int p1, .int (r_22 + ((8 : Int32) * r_25)), .int x4_10]) (rest := []) ⟨hx, hb, hml, hown, hts⟩ (tX9_isLighter (l := l) (dC := dC) (dI := dI) (t0 := t0) (cI := cI) (cJ := cJ) (cZ := cZ) hA h_30) (va_cwS 4 hts gX9_isRuler_X9_isLighter rfl rfl rfl (by decide +kernel) ⟨Nat.le_of_ble_eq_true rfl, Nat.le_of_ble_eq_true rfl⟩) hK hZ hP hS rfl rfl hl.1 (Nat.le_of_ble_eq_true rfl) ⟨Nat.zero_le _, Nat.zero_le _⟩ dX9_isRuler_69 (fun H locs hP hS => ?_)
              refine lv_if_eq (tgt := 79) hx hb dX9_isRuler_72 (by decide) (fun c_31 => ?_) (fun c_31 => ?_)
              · have hf := it_t c_31 hf
                refine lv_iconst (v := 0) hx hb dX9_isRuler_79 (by decide) ?_
                refine lv_istore_n (lv' := [(3, .int (0 : Int32)), (0, .ref (A 25)), (1, .int p0), (2, .int p1), (4, .int x4_10)]) hx hb dX9_isRuler_80 rfl hl (by decide) rfl (fun ls hl => ?_)
                obtain ⟨x4_32, ex4_32⟩ : ∃ q : Int32, q = x4_10 + (1 : Int32) := ⟨_, rfl⟩
                refine lv_iinc (v := x4_32) (lv' := [(4, .int x4_32), (3, .int (0 : Int32)), (0, .ref (A 25)), (1, .int p0), (2, .int p1)]) hx hb dX9_isRuler_81 hl (k := 4) rfl (by rw [ex4_32]; rfl) (by decide) rfl (fun ls hl => ?_)
                have hf := lt_at ex4_32 hf; clear ex4_32
                refine lv_goto (tgt := 17) hx hb dX9_isRuler_84 (by decide) ?_
                exact ihK_4 _ _ _ _ _ _ hf hP hS (lv_sub hl [2, 3, 4, 1, 0] rfl)
              · have hf := it_f c_31 hf
                refine lv_iconst (v := 1) hx hb dX9_isRuler_75 (by decide) ?_
                refine lv_goto (tgt := 80) hx hb dX9_isRuler_76 (by decide) ?_
                refine lv_istore_n (lv' := [(3, .int (1 : Int32)), (0, .ref (A 25)), (1, .int p0), (2, .int p1), (4, .int x4_10)]) hx hb dX9_isRuler_80 rfl hl (by decide) rfl (fun ls hl => ?_)
                obtain ⟨x4_33, ex4_33⟩ : ∃ q : Int32, q = x4_10 + (1 : Int32) := ⟨_, rfl⟩
                refine lv_iinc (v := x4_33) (lv' := [(4, .int x4_33), (3, .int (1 : Int32)), (0, .ref (A 25)), (1, .int p0), (2, .int p1)]) hx hb dX9_isRuler_81 hl (k := 4) rfl (by rw [ex4_33]; rfl) (by decide) rfl (fun ls hl => ?_)
                have hf := lt_at ex4_33 hf; clear ex4_33
                refine lv_goto (tgt := 17) hx hb dX9_isRuler_84 (by decide) ?_
                exact ihK_4 _ _ _ _ _ _ hf hP hS (lv_sub hl [2, 3, 4, 1, 0] rfl)
    exact hLK_4 FU _ _ _ _ _ _ hf hP hS (lv_sub hl [2, 3, 4, 1, 0] rfl)
  refine lv_icmp_ge (tgt := 12) hx hb dX9_isRuler_5 (by decide) (fun c_34 => ?_) (fun c_34 => ?_)
  · have hf := it_t c_34 hf
    refine lv_iconst (v := 0) hx hb dX9_isRuler_12 (by decide) ?_
    exact hK_1 _ _ _ _ _ hf hP hS (lv_sub hl [0, 1, 2] rfl)
  · have hf := it_f c_34 hf
    refine lv_iconst (v := 1) hx hb dX9_isRuler_8 (by decide) ?_
    refine lv_goto (tgt := 13) hx hb dX9_isRuler_9 (by decide) ?_
    exact hK_1 _ _ _ _ _ hf hP hS (lv_sub hl [0, 1, 2] rfl)
set_option maxHeartbeats 4000000 in
set_option maxRecDepth 100000 in
theorem tX9_goMonth {l : Launch} {dC : Nat → ClassId} {dI : Nat → Nat → Nat} {A : Nat → Nat} {t0 : Nat} {cI cJ cZ : ClassId} (hA : dst A) {p0 : Int32} {z : Mem} {ru : Unit} {z' : Mem} (hf : fX9_goMonth p0 z = some (ru, z')) : MV l dC dI A t0 cI cJ cZ yX9_goMonth wsX9_goMonth 2 [.ref (A 25), .int p0] z z' := by
  refine Met.ofW (cc := cX9_goMonth) (maxL := 6) (ret := none) (by decide) rfl ?_
  intro p e s m args below meth c s₁ B hml hv
  obtain ⟨rfl, hP, hK, hZ⟩ := hv
  have hx := B.exec
  have hb := B.bytes
  have hr := B.returns
  have hts := atoms_spec (ws := wsX9_goMonth) B.pre
  have hown : s.vm.findClass RX9 = some m.cls := findClass_of_methodNamed B.named
  have hlocks := B.notSynchronized
  have hS : va_S (fr A) s.heap s.heap [] := va_S.rf
  have i9 : ∀ w ∈ wsX90, w ∈ wsX9_goMonth := fun _ h => List.mem_cons_of_mem _ (List.mem_append_right _ h)
  have hl := lv_entry ([.ref (A 25), .int p0]) (n := 6) (Nat.le_of_ble_eq_true rfl)
  rw [lg_entry_eq]
  generalize (lg_sl ([.ref (A 25), .int p0]) ++ List.replicate (6 - (lg_sl ([.ref (A 25), .int p0])).length) Slot.unset).toArray = ls at hl ⊢
  have hl : lv_has ls 6 [(0, .ref (A 25)), (1, .int p0)] := hl
  have hP : wIs dC dI A cI cJ cZ z s.heap := hP
  rw [fX9_goMonth] at hf
  refine lv_iconst (v := 0) hx hb dX9_goMonth_0 (by decide) ?_
  refine lv_istore_n (lv' := [(2, .int (0 : Int32)), (0, .ref (A 25)), (1, .int p0)]) hx hb dX9_goMonth_1 rfl hl (by decide) rfl (fun ls hl => ?_)
  obtain ⟨K_1, eK_1, hf⟩ := fX9_goMonth_L2_g hf
  have hEK_1 : ∀ (x2_3 : Int32) (z_2 : Mem) (H : Heap) (locs : List Loc) (ls : Array Slot), K_1 x2_3 z_2 = some (ru, z') → wIs dC dI A cI cJ cZ z_2 H → va_S (fr A) s.heap H locs → lv_has ls 6 [(0, .ref (A 25)), (1, .int p0), (2, .int x2_3)] → WV p l e wsX9_goMonth 2 s m [.ref (A 25), .int p0] below meth c dC dI A cI cJ cZ z' H locs (F0 m 22 ls []) := by
    intro x2_3 z_2 H locs ls hf hP hS hl
    have hf := ap2 eK_1 hf
    refine lv_iconst (v := 0) hx hb dX9_goMonth_22 (by decide) ?_
    refine lv_istore_n (lv' := [(2, .int (0 : Int32)), (0, .ref (A 25)), (1, .int p0)]) hx hb dX9_goMonth_23 rfl hl (by decide) rfl (fun ls hl => ?_)
    obtain ⟨K_4, eK_4, hf⟩ := fX9_goMonth_L24_g hf
    have hEK_4 : ∀ (x2_6 : Int32) (z_5 : Mem) (H : Heap) (locs : List Loc) (ls : Array Slot), K_4 x2_6 z_5 = some (ru, z') → wIs dC dI A cI cJ cZ z_5 H → va_S (fr A) s.heap H locs → lv_has ls 6 [(0, .ref (A 25)), (1, .int p0), (2, .int x2_6)] → WV p l e wsX9_goMonth 2 s m [.ref (A 25), .int p0] below meth c dC dI A cI cJ cZ z' H locs (F0 m 169 ls []) := by
      intro x2_6 z_5 H locs ls hf hP hS hl
      have hf := ap2 eK_4 hf
      refine lv_iconst (v := 0) hx hb dX9_goMonth_169 (by decide) ?_
      refine lv_istore_n (lv' := [(2, .int (0 : Int32)), (0, .ref (A 25)), (1, .int p0)]) hx hb dX9_goMonth_170 rfl hl (by decide) rfl (fun ls hl => ?_)
      obtain ⟨K_7, eK_7, hf⟩ := fX9_goMonth_L171_g hf
      have hEK_7 : ∀ (x2_9 : Int32) (z_8 : Mem) (H : Heap) (locs : List Loc) (ls : Array Slot), K_7 x2_9 z_8 = some (ru, z') → wIs dC dI A cI cJ cZ z_8 H → va_S (fr A) s.heap H locs → lv_has ls 6 [(0, .ref (A 25)), (1, .int p0), (2, .int x2_9)] → WV p l e wsX9_goMonth 2 s m [.ref (A 25), .int p0] below meth c dC dI A cI cJ cZ z' H locs (F0 m 196 ls []) := by
        intro x2_9 z_8 H locs ls hf hP hS hl
        have hf := ap2 eK_7 hf
        exact retV hx hb hr hlocks hP hS hf dX9_goMonth_196
      have hLK_7 : ∀ (n_12 : Nat) (x2_11 : Int32) (z_10 : Mem) (H : Heap) (locs : List Loc) (ls : Array Slot), fX9_goMonth_L171 K_7  n_12 x2_11 z_10 = some (ru, z') → wIs dC dI A cI cJ cZ z_10 H → va_S (fr A) s.heap H locs → lv_has ls 6 [(0, .ref (A 25)), (1, .int p0), (2, .int x2_11)] → WV p l e wsX9_goMonth 2 s m [.ref (A 25), .int p0] below meth c dC dI A cI cJ cZ z' H locs (F0 m 171 ls []) := by
        intro n_12
        induction n_12 with
        | zero => intro x2_11 z_10 H locs ls hf; rw [fX9_goMonth_L171_0] at hf; cases hf
        | succ n_12 ihK_7 =>
          intro x2_11 z_10 H locs ls hf hP hS hl
          rw [fX9_goMonth_L171_s] at hf
          refine lv_iload_n hx hb dX9_goMonth_171 rfl (lv_at hl 2 rfl) ?_
          refine lv_sipush (v := 2197) hx hb dX9_goMonth_172 (by decide) ?_
          refine lv_icmp_ge (tgt := 196) hx hb dX9_goMonth_175 (by decide) (fun c_13 => ?_) (fun c_13 => ?_)
          · have hf := it_t c_13 hf
            exact hEK_7 _ _ _ _ _ hf hP hS (lv_sub hl [0, 1, 2] rfl)
          · have hf := it_f c_13 hf
            refine lv_aload_n hx hb dX9_goMonth_178 rfl (lv_at hl 0 rfl) ?_
            refine va_get (D := (dC, dI)) (ci := 9) (v := .ref (A 38)) (C := RX9) (T := TX9) (N := 34) hx hb hts i9 hown hK hP 25 (wc_25 A cI cJ cZ z_10) rfl 28 (by decide) (hts (.fieldLink RX9 46 "LightestRulesModel" "ways" "[J") (by decide +kernel)) (fun _ h9 => h9) rfl dX9_goMonth_179 ?_
            refine lv_iload_n hx hb dX9_goMonth_182 rfl (lv_at hl 2 rfl) ?_
            refine lv_aload_n hx hb dX9_goMonth_183 rfl (lv_at hl 0 rfl) ?_
            refine va_get (D := (dC, dI)) (ci := 9) (v := .ref (A 39)) (C := RX9) (T := TX9) (N := 34) hx hb hts i9 hown hK hP 25 (wc_25 A cI cJ cZ z_10) rfl 29 (by decide) (hts (.fieldLink RX9 50 "LightestRulesModel" "then" "[J") (by decide +kernel)) (fun _ h9 => h9) rfl dX9_goMonth_184 ?_
            refine lv_iload_n hx hb dX9_goMonth_187 rfl (lv_at hl 2 rfl) ?_
            obtain ⟨n_14, hf⟩ := rg_el hf
            refine va_lald hx hb hK hP 39 1 (wc_39 A cI cJ cZ z_10) rfl n_14 dX9_goMonth_188 ?_
            refine lv_topl (fun a_15 ea_15 => ?_)
            have hf := lt_at ea_15 hf; clear ea_15
            obtain ⟨n_16, hf⟩ := rg_el hf
            refine va_last hx hb hK hP (wD hA cI cJ cZ z_10) hS 38 1 (wc_38 A cI cJ cZ z_10) rfl n_16 dX9_goMonth_189 (fun H locs hP _ hS => ?_)
            rw [wa_38 A cI cJ cZ z_10 x2_11.toNatClampNeg a_15] at hP
            obtain ⟨z_17, hP, hf⟩ := lt_P (P := fun q => wIs dC dI A cI cJ cZ q H) hP hf
            obtain ⟨x2_18, ex2_18⟩ : ∃ q : Int32, q = x2_11 + (1 : Int32) := ⟨_, rfl⟩
            refine lv_iinc (v := x2_18) (lv' := [(2, .int x2_18), (0, .ref (A 25)), (1, .int p0)]) hx hb dX9_goMonth_190 hl (k := 2) rfl (by rw [ex2_18]; rfl) (by decide) rfl (fun ls hl => ?_)
            have hf := lt_at ex2_18 hf; clear ex2_18
            refine lv_goto (tgt := 171) hx hb dX9_goMonth_193 (by decide) ?_
            exact ihK_7 _ _ _ _ _ hf hP hS (lv_sub hl [1, 2, 0] rfl)
      exact hLK_7 FU _ _ _ _ _ hf hP hS (lv_sub hl [1, 2, 0] rfl)
    have hLK_4 : ∀ (n_21 : Nat) (x2_20 : Int32) (z_19 : Mem) (H : Heap) (locs : List Loc) (ls : Array Slot), fX9_goMonth_L24 K_4 p0 n_21 x2_20 z_19 = some (ru, z') → wIs dC dI A cI cJ cZ z_19 H → va_S (fr A) s.heap H locs → lv_has ls 6 [(0, .ref (A 25)), (1, .int p0), (2, .int x2_20)] → WV p l e wsX9_goMonth 2 s m [.ref (A 25), .int p0] below meth c dC dI A cI cJ cZ z' H locs (F0 m 24 ls []) := by
      intro n_21
      induction n_21 with
      | zero => intro x2_20 z_19 H locs ls hf; rw [fX9_goMonth_L24_0] at hf; cases hf
      | succ n_21 ihK_4 =>
        intro x2_20 z_19 H locs ls hf hP hS hl
        rw [fX9_goMonth_L24_s] at hf
        refine lv_iload_n hx hb dX9_goMonth_24 rfl (lv_at hl 2 rfl) ?_
        refine lv_sipush (v := 2197) hx hb dX9_goMonth_25 (by decide) ?_
        refine lv_icmp_ge (tgt := 169) hx hb dX9_goMonth_28 (by decide) (fun c_22 => ?_) (fun c_22 => ?_)
        · have hf := it_t c_22 hf
          exact hEK_4 _ _ _ _ _ hf hP hS (lv_sub hl [0, 1, 2] rfl)
        · have hf := it_f c_22 hf
          refine lv_iconst (v := 0) hx hb dX9_goMonth_31 (by decide) ?_
          refine lv_istore_n (lv' := [(3, .int (0 : Int32)), (0, .ref (A 25)), (1, .int p0), (2, .int x2_20)]) hx hb dX9_goMonth_32 rfl hl (by decide) rfl (fun ls hl => ?_)
          obtain ⟨K_23, eK_23, hf⟩ := fX9_goMonth_L33_g hf
          have hEK_23 : ∀ (x3_25 : Int32) (z_24 : Mem) (H : Heap) (locs : List Loc) (ls : Array Slot), K_23 x3_25 z_24 = some (ru, z') → wIs dC dI A cI cJ cZ z_24 H → va_S (fr A) s.heap H locs → lv_has ls 6 [(0, .ref (A 25)), (1, .int p0), (2, .int x2_20), (3, .int x3_25)] → WV p l e wsX9_goMonth 2 s m [.ref (A 25), .int p0] below meth c dC dI A cI cJ cZ z' H locs (F0 m 163 ls []) := by
            intro x3_25 z_24 H locs ls hf hP hS hl
            have hf := ap2 eK_23 hf
            obtain ⟨x2_26, ex2_26⟩ : ∃ q : Int32, q = x2_20 + (1 : Int32) := ⟨_, rfl⟩
            refine lv_iinc (v := x2_26) (lv' := [(2, .int x2_26), (0, .ref (A 25)), (1, .int p0), (3, .int x3_25)]) hx hb dX9_goMonth_163 hl (k := 2) rfl (by rw [ex2_26]; rfl) (by decide) rfl (fun ls hl => ?_)
            have hf := lt_at ex2_26 hf; clear ex2_26
            refine lv_goto (tgt := 24) hx hb dX9_goMonth_166 (by decide) ?_
            exact ihK_4 _ _ _ _ _ hf hP hS (lv_sub hl [1, 2, 0] rfl)
          have hLK_23 : ∀ (n_29 : Nat) (x3_28 : Int32) (z_27 : Mem) (H : Heap) (locs : List Loc) (ls : Array Slot), fX9_goMonth_L33 K_23 p0 x2_20 n_29 x3_28 z_27 = some (ru, z') → wIs dC dI A cI cJ cZ z_27 H → va_S (fr A) s.heap H locs → lv_has ls 6 [(0, .ref (A 25)), (1, .int p0), (2, .int x2_20), (3, .int x3_28)] → WV p l e wsX9_goMonth 2 s m [.ref (A 25), .int p0] below meth c dC dI A cI cJ cZ z' H locs (F0 m 33 ls []) := by
            intro n_29
            induction n_29 with
            | zero => intro x3_28 z_27 H locs ls hf; rw [fX9_goMonth_L33_0] at hf; cases hf
            | succ n_29 ihK_23 =>
              intro x3_28 z_27 H locs ls hf hP hS hl
              rw [fX9_goMonth_L33_s] at hf
              refine lv_iload_n hx hb dX9_goMonth_33 rfl (lv_at hl 3 rfl) ?_
              refine lv_bipush (v := 64) hx hb dX9_goMonth_34 (by decide) ?_
              refine lv_icmp_ge (tgt := 163) hx hb dX9_goMonth_36 (by decide) (fun c_30 => ?_) (fun c_30 => ?_)
              · have hf := it_t c_30 hf
                exact hEK_23 _ _ _ _ _ hf hP hS (lv_sub hl [0, 1, 2, 3] rfl)
              · have hf := it_f c_30 hf
                refine lv_aload_n hx hb dX9_goMonth_39 rfl (lv_at hl 0 rfl) ?_
                refine va_get (D := (dC, dI)) (ci := 9) (v := .ref (A 38)) (C := RX9) (T := TX9) (N := 34) hx hb hts i9 hown hK hP 25 (wc_25 A cI cJ cZ z_27) rfl 28 (by decide) (hts (.fieldLink RX9 46 "LightestRulesModel" "ways" "[J") (by decide +kernel)) (fun _ h9 => h9) rfl dX9_goMonth_40 ?_
                refine lv_iload_n hx hb dX9_goMonth_43 rfl (lv_at hl 2 rfl) ?_
                obtain ⟨n_31, hf⟩ := rg_el hf
                refine va_lald hx hb hK hP 38 1 (wc_38 A cI cJ cZ z_27) rfl n_31 dX9_goMonth_44 ?_
                refine lv_topl (fun a_32 ea_32 => ?_)
                have hf := lt_at ea_32 hf; clear ea_32
                refine lv_lconst (v := 0) hx hb dX9_goMonth_45 rfl ?_
                refine W.lcmp hx hb dX9_goMonth_46 ?_
                refine lv_if_le (tgt := 163) hx hb dX9_goMonth_47 (by decide) (fun c_33 => ?_) (fun c_33 => ?_)
                · have hf := it_t c_33 hf
                  exact hEK_23 _ _ _ _ _ hf hP hS (lv_sub hl [0, 1, 2, 3] rfl)
                · have hf := it_f c_33 hf
                  refine lv_iload_n hx hb dX9_goMonth_50 rfl (lv_at hl 3 rfl) ?_
                  refine lv_aload_n hx hb dX9_goMonth_51 rfl (lv_at hl 0 rfl) ?_
                  refine va_get (D := (dC, dI)) (ci := 9) (v := .int (z_27.1 25 6)) (C := RX9) (T := TX9) (N := 34) hx hb hts i9 hown hK hP 25 (wc_25 A cI cJ cZ z_27) rfl 6 (by decide) (hts (.fieldLink RX9 104 "LightestRulesModel" "many" "I") (by decide +kernel)) (fun _ h9 => h9) rfl dX9_goMonth_52 ?_
                  refine lv_iconst (v := 1) hx hb dX9_goMonth_55 (by decide) ?_
                  obtain ⟨K_34, eK_34, hf⟩ := jn_el hf
                  have hK_34 : ∀ (v_35 : Int32) (z_36 : Mem) (H : Heap) (locs : List Loc) (ls : Array Slot), K_34 v_35 z_36 = some (ru, z') → wIs dC dI A cI cJ cZ z_36 H → va_S (fr A) s.heap H locs → lv_has ls 6 [(0, .ref (A 25)), (1, .int p0), (2, .int x2_20), (3, .int x3_28)] → WV p l e wsX9_goMonth 2 s m [.ref (A 25), .int p0] below meth c dC dI A cI cJ cZ z' H locs (F0 m 78 ls [.int v_35, .int x3_28]) := by
                    intro v_35 z_36 H locs ls hf hP hS hl
                    have hf := ap2 eK_34 hf
                    obtain ⟨K_37, eK_37, hf⟩ := jn_el hf
                    have hK_37 : ∀ (v_38 : Int32) (z_39 : Mem) (H : Heap) (locs : List Loc) (ls : Array Slot), K_37 v_38 z_39 = some (ru, z') → wIs dC dI A cI cJ cZ z_39 H → va_S (fr A) s.heap H locs → lv_has ls 6 [(0, .ref (A 25)), (1, .int p0), (2, .int x2_20), (3, .int x3_28)] → WV p l e wsX9_goMonth 2 s m [.ref (A 25), .int p0] below meth c dC dI A cI cJ cZ z' H locs (F0 m 86 ls [.int v_38]) := by
                      intro v_38 z_39 H locs ls hf hP hS hl
                      have hf := ap2 eK_37 hf
                      refine lv_istore (lv' := [(4, .int v_38), (0, .ref (A 25)), (1, .int p0), (2, .int x2_20), (3, .int x3_28)]) hx hb dX9_goMonth_86 hl (by decide) rfl (fun ls hl => ?_)
                      refine lv_iload_n hx hb dX9_goMonth_88 rfl (lv_at hl 3 rfl) ?_
                      refine lv_iload_n hx hb dX9_goMonth_89 rfl (lv_at hl 4 rfl) ?_
                      refine lv_iconst (v := 4) hx hb dX9_goMonth_90 (by decide) ?_
                      obtain ⟨n_40, hf⟩ := nz_el hf
                      refine lv_irem hx hb dX9_goMonth_91 n_40 ?_
                      refine lv_iadd hx hb dX9_goMonth_92 ?_
                      refine lv_bipush (v := 13) hx hb dX9_goMonth_93 (by decide) ?_
                      refine lv_iload_n hx hb dX9_goMonth_95 rfl (lv_at hl 4 rfl) ?_
                      refine lv_iconst (v := 4) hx hb dX9_goMonth_96 (by decide) ?_
                      obtain ⟨n_41, hf⟩ := nz_el hf
                      refine lv_idiv hx hb dX9_goMonth_97 n_41 ?_
                      refine lv_iconst (v := 4) hx hb dX9_goMonth_98 (by decide) ?_
                      obtain ⟨n_42, hf⟩ := nz_el hf
                      refine lv_irem hx hb dX9_goMonth_99 n_42 ?_
                      refine lv_imul hx hb dX9_goMonth_100 ?_
                      refine lv_iadd hx hb dX9_goMonth_101 ?_
                      refine lv_topi (fun y_43 ey_43 => ?_)
                      have hf := lt_at ey_43 hf; clear ey_43
                      refine lv_sipush (v := 169) hx hb dX9_goMonth_102 (by decide) ?_
                      refine lv_iload_n hx hb dX9_goMonth_105 rfl (lv_at hl 4 rfl) ?_
                      refine lv_bipush (v := 16) hx hb dX9_goMonth_106 (by decide) ?_
                      obtain ⟨n_44, hf⟩ := nz_el hf
                      refine lv_idiv hx hb dX9_goMonth_108 n_44 ?_
                      refine lv_imul hx hb dX9_goMonth_109 ?_
                      refine lv_iadd hx hb dX9_goMonth_110 ?_
                      refine lv_topi (fun x5_45 ex5_45 => ?_)
                      have hf := lt_at ex5_45 hf; clear ex5_45
                      refine lv_istore (lv' := [(5, .int x5_45), (4, .int v_38), (0, .ref (A 25)), (1, .int p0), (2, .int x2_20), (3, .int x3_28)]) hx hb dX9_goMonth_111 hl (by decide) rfl (fun ls hl => ?_)
                      refine lv_aload_n hx hb dX9_goMonth_113 rfl (lv_at hl 2 rfl) ?_
                      refine va_get (D := (dC, dI)) (ci := 9) (v := .ref (A 39)) (C := RX9) (T := TX9) (N := 34) hx hb hts i9 hown hK hP 25 (wc_25 A cI cJ cZ z_39) rfl 29 (by decide) (hts (.fieldLink RX9 50 "LightestRulesModel" "then" "[J") (by decide +kernel)) (fun _ h9 => h9) rfl dX9_goMonth_114 ?_
                      refine lv_iload hx hb dX9_goMonth_117 (lv_at hl 1 rfl) ?_
                      obtain ⟨K_46, eK_46, hf⟩ := jn_el hf
                      have hK_46 : ∀ (v_47 : Int32) (z_48 : Mem) (H : Heap) (locs : List Loc) (ls : Array Slot), K_46 v_47 z_48 = some (ru, z') → wIs dC dI A cI cJ cZ z_48 H → va_S (fr A) s.heap H locs → lv_has ls 6 [(5, .int x5_45), (4, .int v_38), (0, .ref (A 25)), (1, .int p0), (2, .int x2_20), (3, .int x3_28)] → WV p l e wsX9_goMonth 2 s m [.ref (A 25), .int p0] below meth c dC dI A cI cJ cZ z' H locs (F0 m 128 ls [.int v_47, .ref (A 39)]) := by
                        intro v_47 z_48 H locs ls hf hP hS hl
                        have hf := ap2 eK_46 hf
                        refine lv_dup2_11 hx hb dX9_goMonth_128 rfl rfl ?_
                        obtain ⟨n_49, hf⟩ := rg_el hf
                        refine va_lald hx hb hK hP 39 1 (wc_39 A cI cJ cZ z_48) rfl n_49 dX9_goMonth_129 ?_
                        refine lv_topl (fun a_50 ea_50 => ?_)
                        have hf := lt_at ea_50 hf; clear ea_50
                        refine lv_iload hx hb dX9_goMonth_130 (lv_at hl 1 rfl) ?_
                        refine lv_if_eq (tgt := 154) hx hb dX9_goMonth_132 (by decide) (fun c_51 => ?_) (fun c_51 => ?_)
                        · have hf := it_t c_51 hf
                          refine lv_lconst (v := 0) hx hb dX9_goMonth_154 rfl ?_
                          refine lv_ladd hx hb dX9_goMonth_155 ?_
                          refine lv_topl (fun y_52 ey_52 => ?_)
                          have hf := lt_at ey_52 hf; clear ey_52
                          obtain ⟨n_53, hf⟩ := rg_el hf
                          refine va_last hx hb hK hP (wD hA cI cJ cZ z_48) hS 39 1 (wc_39 A cI cJ cZ z_48) rfl n_53 dX9_goMonth_156 (fun H locs hP _ hS => ?_)
                          rw [wa_39 A cI cJ cZ z_48 v_47.toNatClampNeg y_52] at hP
                          obtain ⟨z_54, hP, hf⟩ := lt_P (P := fun q => wIs dC dI A cI cJ cZ q H) hP hf
                          obtain ⟨x3_55, ex3_55⟩ : ∃ q : Int32, q = x3_28 + (1 : Int32) := ⟨_, rfl⟩
                          refine lv_iinc (v := x3_55) (lv' := [(3, .int x3_55), (5, .int x5_45), (4, .int v_38), (0, .ref (A 25)), (1, .int p0), (2, .int x2_20)]) hx hb dX9_goMonth_157 hl (k := 5) rfl (by rw [ex3_55]; rfl) (by decide) rfl (fun ls hl => ?_)
                          have hf := lt_at ex3_55 hf; clear ex3_55
                          refine lv_goto (tgt := 33) hx hb dX9_goMonth_160 (by decide) ?_
                          exact ihK_23 _ _ _ _ _ hf hP hS (lv_sub hl [3, 4, 5, 0] rfl)
                        · have hf := it_f c_51 hf
                          refine lv_aload_n hx hb dX9_goMonth_135 rfl (lv_at hl 2 rfl) ?_
                          refine lv_iload hx hb dX9_goMonth_136 (lv_at hl 0 rfl) ?_
                          refine lv_iload_n hx hb dX9_goMonth_138 rfl (lv_at hl 3 rfl) ?_
                          obtain ⟨r_56, z_57, h_58, hf⟩ := cl_el hf
                          refine callVI (As := [.int x5_45, .int p0]) (rest := [.long a_50, .int v_47, .ref (A 39)]) (ci := 9) (q0 := 25) ⟨hx, hb, hml, hown, hts⟩ (tX9_isRuler (l := l) (dC := dC) (dI := dI) (t0 := t0) (cI := cI) (cJ := cJ) (cZ := cZ) hA h_58) (cwV 2 hts gX9_goMonth_X9_isRuler rfl rfl rfl (by decide +kernel) ⟨Nat.le_of_ble_eq_true rfl, Nat.le_of_ble_eq_true rfl⟩) hK hZ hP hS rfl (wc_25 A cI cJ cZ z_48) rfl rfl rfl hl.1 (Nat.le_of_ble_eq_true rfl) ⟨Nat.zero_le _, Nat.zero_le _⟩ dX9_goMonth_139 (fun H locs hP hS => ?_)
                          refine lv_if_eq (tgt := 154) hx hb dX9_goMonth_142 (by decide) (fun c_59 => ?_) (fun c_59 => ?_)
                          · have hf := it_t c_59 hf
                            refine lv_lconst (v := 0) hx hb dX9_goMonth_154 rfl ?_
                            refine lv_ladd hx hb dX9_goMonth_155 ?_
                            refine lv_topl (fun y_60 ey_60 => ?_)
                            have hf := lt_at ey_60 hf; clear ey_60
                            obtain ⟨n_61, hf⟩ := rg_el hf
                            refine va_last hx hb hK hP (wD hA cI cJ cZ z_57) hS 39 1 (wc_39 A cI cJ cZ z_57) rfl n_61 dX9_goMonth_156 (fun H locs hP _ hS => ?_)
                            rw [wa_39 A cI cJ cZ z_57 v_47.toNatClampNeg y_60] at hP
                            obtain ⟨z_62, hP, hf⟩ := lt_P (P := fun q => wIs dC dI A cI cJ cZ q H) hP hf
                            obtain ⟨x3_63, ex3_63⟩ : ∃ q : Int32, q = x3_28 + (1 : Int32) := ⟨_, rfl⟩
                            refine lv_iinc (v := x3_63) (lv' := [(3, .int x3_63), (5, .int x5_45), (4, .int v_38), (0, .ref (A 25)), (1, .int p0), (2, .int x2_20)]) hx hb dX9_goMonth_157 hl (k := 5) rfl (by rw [ex3_63]; rfl) (by decide) rfl (fun ls hl => ?_)
                            have hf := lt_at ex3_63 hf; clear ex3_63
                            refine lv_goto (tgt := 33) hx hb dX9_goMonth_160 (by decide) ?_
                            exact ihK_23 _ _ _ _ _ hf hP hS (lv_sub hl [3, 4, 5, 0] rfl)
                          · have hf := it_f c_59 hf
                            refine lv_aload_n hx hb dX9_goMonth_145 rfl (lv_at hl 2 rfl) ?_
                            refine va_get (D := (dC, dI)) (ci := 9) (v := .ref (A 38)) (C := RX9) (T := TX9) (N := 34) hx hb hts i9 hown hK hP 25 (wc_25 A cI cJ cZ z_57) rfl 28 (by decide) (hts (.fieldLink RX9 46 "LightestRulesModel" "ways" "[J") (by decide +kernel)) (fun _ h9 => h9) rfl dX9_goMonth_146 ?_
                            refine lv_iload_n hx hb dX9_goMonth_149 rfl (lv_at hl 4 rfl) ?_
                            obtain ⟨n_64, hf⟩ := rg_el hf
                            refine va_lald hx hb hK hP 38 1 (wc_38 A cI cJ cZ z_57) rfl n_64 dX9_goMonth_150 ?_
                            refine lv_topl (fun a_65 ea_65 => ?_)
                            have hf := lt_at ea_65 hf; clear ea_65
                            refine lv_goto (tgt := 155) hx hb dX9_goMonth_151 (by decide) ?_
                            refine lv_ladd hx hb dX9_goMonth_155 ?_
                            refine lv_topl (fun y_66 ey_66 => ?_)
                            have hf := lt_at ey_66 hf; clear ey_66
                            obtain ⟨n_67, hf⟩ := rg_el hf
                            refine va_last hx hb hK hP (wD hA cI cJ cZ z_57) hS 39 1 (wc_39 A cI cJ cZ z_57) rfl n_67 dX9_goMonth_156 (fun H locs hP _ hS => ?_)
                            rw [wa_39 A cI cJ cZ z_57 v_47.toNatClampNeg y_66] at hP
                            obtain ⟨z_68, hP, hf⟩ := lt_P (P := fun q => wIs dC dI A cI cJ cZ q H) hP hf
                            obtain ⟨x3_69, ex3_69⟩ : ∃ q : Int32, q = x3_28 + (1 : Int32) := ⟨_, rfl⟩
                            refine lv_iinc (v := x3_69) (lv' := [(3, .int x3_69), (5, .int x5_45), (4, .int v_38), (0, .ref (A 25)), (1, .int p0), (2, .int x2_20)]) hx hb dX9_goMonth_157 hl (k := 5) rfl (by rw [ex3_69]; rfl) (by decide) rfl (fun ls hl => ?_)
                            have hf := lt_at ex3_69 hf; clear ex3_69
                            refine lv_goto (tgt := 33) hx hb dX9_goMonth_160 (by decide) ?_
                            exact ihK_23 _ _ _ _ _ hf hP hS (lv_sub hl [3, 4, 5, 0] rfl)
                      refine lv_if_eq (tgt := 127) hx hb dX9_goMonth_119 (by decide) (fun c_70 => ?_) (fun c_70 => ?_)
                      · have hf := it_t c_70 hf
                        refine lv_iconst (v := 0) hx hb dX9_goMonth_127 (by decide) ?_
                        exact hK_46 _ _ _ _ _ hf hP hS (lv_sub hl [0, 1, 2, 3, 4, 5] rfl)
                      · have hf := it_f c_70 hf
                        refine lv_iload hx hb dX9_goMonth_122 (lv_at hl 0 rfl) ?_
                        refine lv_goto (tgt := 128) hx hb dX9_goMonth_124 (by decide) ?_
                        exact hK_46 _ _ _ _ _ hf hP hS (lv_sub hl [0, 1, 2, 3, 4, 5] rfl)
                    refine lv_icmp_ge (tgt := 85) hx hb dX9_goMonth_78 (by decide) (fun c_71 => ?_) (fun c_71 => ?_)
                    · have hf := it_t c_71 hf
                      refine lv_iconst (v := 0) hx hb dX9_goMonth_85 (by decide) ?_
                      exact hK_37 _ _ _ _ _ hf hP hS (lv_sub hl [0, 1, 2, 3] rfl)
                    · have hf := it_f c_71 hf
                      refine lv_iconst (v := 1) hx hb dX9_goMonth_81 (by decide) ?_
                      refine lv_goto (tgt := 86) hx hb dX9_goMonth_82 (by decide) ?_
                      exact hK_37 _ _ _ _ _ hf hP hS (lv_sub hl [0, 1, 2, 3] rfl)
                  refine lv_icmp_ne (tgt := 63) hx hb dX9_goMonth_56 (by decide) (fun c_72 => ?_) (fun c_72 => ?_)
                  · have hf := it_f c_72 hf
                    refine lv_aload_n hx hb dX9_goMonth_63 rfl (lv_at hl 0 rfl) ?_
                    refine va_get (D := (dC, dI)) (ci := 9) (v := .int (z_27.1 25 6)) (C := RX9) (T := TX9) (N := 34) hx hb hts i9 hown hK hP 25 (wc_25 A cI cJ cZ z_27) rfl 6 (by decide) (hts (.fieldLink RX9 104 "LightestRulesModel" "many" "I") (by decide +kernel)) (fun _ h9 => h9) rfl dX9_goMonth_64 ?_
                    refine lv_iconst (v := 2) hx hb dX9_goMonth_67 (by decide) ?_
                    refine lv_icmp_ne (tgt := 76) hx hb dX9_goMonth_68 (by decide) (fun c_73 => ?_) (fun c_73 => ?_)
                    · have hf := it_f c_73 hf
                      refine lv_bipush (v := 64) hx hb dX9_goMonth_76 (by decide) ?_
                      exact hK_34 _ _ _ _ _ hf hP hS (lv_sub hl [0, 1, 2, 3] rfl)
                    · have hf := it_t c_73 hf
                      refine lv_bipush (v := 16) hx hb dX9_goMonth_71 (by decide) ?_
                      refine lv_goto (tgt := 78) hx hb dX9_goMonth_73 (by decide) ?_
                      exact hK_34 _ _ _ _ _ hf hP hS (lv_sub hl [0, 1, 2, 3] rfl)
                  · have hf := it_t c_72 hf
                    refine lv_iconst (v := 4) hx hb dX9_goMonth_59 (by decide) ?_
                    refine lv_goto (tgt := 78) hx hb dX9_goMonth_60 (by decide) ?_
                    exact hK_34 _ _ _ _ _ hf hP hS (lv_sub hl [0, 1, 2, 3] rfl)
          exact hLK_23 FU _ _ _ _ _ hf hP hS (lv_sub hl [1, 2, 3, 0] rfl)
    exact hLK_4 FU _ _ _ _ _ hf hP hS (lv_sub hl [1, 2, 0] rfl)
  have hLK_1 : ∀ (n_76 : Nat) (x2_75 : Int32) (z_74 : Mem) (H : Heap) (locs : List Loc) (ls : Array Slot), fX9_goMonth_L2 K_1  n_76 x2_75 z_74 = some (ru, z') → wIs dC dI A cI cJ cZ z_74 H → va_S (fr A) s.heap H locs → lv_has ls 6 [(0, .ref (A 25)), (1, .int p0), (2, .int x2_75)] → WV p l e wsX9_goMonth 2 s m [.ref (A 25), .int p0] below meth c dC dI A cI cJ cZ z' H locs (F0 m 2 ls []) := by
    intro n_76
    induction n_76 with
    | zero => intro x2_75 z_74 H locs ls hf; rw [fX9_goMonth_L2_0] at hf; cases hf
    | succ n_76 ihK_1 =>
      intro x2_75 z_74 H locs ls hf hP hS hl
      rw [fX9_goMonth_L2_s] at hf
      refine lv_iload_n hx hb dX9_goMonth_2 rfl (lv_at hl 2 rfl) ?_
      refine lv_sipush (v := 2197) hx hb dX9_goMonth_3 (by decide) ?_
      refine lv_icmp_ge (tgt := 22) hx hb dX9_goMonth_6 (by decide) (fun c_77 => ?_) (fun c_77 => ?_)
      · have hf := it_t c_77 hf
        exact hEK_1 _ _ _ _ _ hf hP hS (lv_sub hl [0, 1, 2] rfl)
      · have hf := it_f c_77 hf
        refine lv_aload_n hx hb dX9_goMonth_9 rfl (lv_at hl 0 rfl) ?_
        refine va_get (D := (dC, dI)) (ci := 9) (v := .ref (A 39)) (C := RX9) (T := TX9) (N := 34) hx hb hts i9 hown hK hP 25 (wc_25 A cI cJ cZ z_74) rfl 29 (by decide) (hts (.fieldLink RX9 50 "LightestRulesModel" "then" "[J") (by decide +kernel)) (fun _ h9 => h9) rfl dX9_goMonth_10 ?_
        refine lv_iload_n hx hb dX9_goMonth_13 rfl (lv_at hl 2 rfl) ?_
        refine lv_lconst (v := 0) hx hb dX9_goMonth_14 rfl ?_
        obtain ⟨n_78, hf⟩ := rg_el hf
        refine va_last hx hb hK hP (wD hA cI cJ cZ z_74) hS 39 1 (wc_39 A cI cJ cZ z_74) rfl n_78 dX9_goMonth_15 (fun H locs hP _ hS => ?_)
        rw [wa_39 A cI cJ cZ z_74 x2_75.toNatClampNeg (0 : Int64)] at hP
        obtain ⟨z_79, hP, hf⟩ := lt_P (P := fun q => wIs dC dI A cI cJ cZ q H) hP hf
        obtain ⟨x2_80, ex2_80⟩ : ∃ q : Int32, q = x2_75 + (1 : Int32) := ⟨_, rfl⟩
        refine lv_iinc (v := x2_80) (lv' := [(2, .int x2_80), (0, .ref (A 25)), (1, .int p0)]) hx hb dX9_goMonth_16 hl (k := 2) rfl (by rw [ex2_80]; rfl) (by decide) rfl (fun ls hl => ?_)
        have hf := lt_at ex2_80 hf; clear ex2_80
        refine lv_goto (tgt := 2) hx hb dX9_goMonth_19 (by decide) ?_
        exact ihK_1 _ _ _ _ _ hf hP hS (lv_sub hl [1, 2, 0] rfl)
  exact hLK_1 FU _ _ _ _ _ hf hP hS (lv_sub hl [1, 2, 0] rfl)
