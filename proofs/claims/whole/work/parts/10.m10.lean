set_option maxHeartbeats 4000000 in
set_option maxRecDepth 100000 in
theorem tX1_append {l : Launch} {dC : Nat → ClassId} {dI : Nat → Nat → Nat} {A : Nat → Nat} {t0 : Nat} {cI cJ cZ : ClassId} (hA : dst A) {p0 : Int32} {p1 : Int64} {z : Mem} {r : Int32} {z' : Mem} (hf : fX1_append p0 p1 z = some (r, z')) : MI l dC dI A t0 cI cJ cZ yX1_append wsX1_append 0 [.ref (A 1), .int p0, .long p1] z r z' := by
  refine Met.ofW (cc := cX1_append) (maxL := 5) (ret := (some .boolean)) (by decide) rfl ?_
  intro p e s m args below meth c s₁ B hml hv
  obtain ⟨rfl, hP, hK, hZ⟩ := hv
  have hx := B.exec
  have hb := B.bytes
  have hr := B.returns
  have hts := atoms_spec (ws := wsX1_append) B.pre
  have hown : s.vm.findClass RX1 = some m.cls := findClass_of_methodNamed B.named
  have hlocks := B.notSynchronized
  have hS : va_S (fr A) s.heap s.heap [] := va_S.rf
  have i1 : ∀ w ∈ wsX10, w ∈ wsX1_append := fun _ h => List.mem_cons_of_mem _ (List.mem_append_right _ h)
  have hl := lv_entry ([.ref (A 1), .int p0, .long p1]) (n := 5) (Nat.le_of_ble_eq_true rfl)
  rw [lg_entry_eq]
  generalize (lg_sl ([.ref (A 1), .int p0, .long p1]) ++ List.replicate (5 - (lg_sl ([.ref (A 1), .int p0, .long p1])).length) Slot.unset).toArray = ls at hl ⊢
  have hl : lv_has ls 5 [(0, .ref (A 1)), (1, .int p0), (2, .long p1)] := hl
  have hP : wIs dC dI A cI cJ cZ z s.heap := hP
  rw [fX1_append] at hf
  refine lv_iload_n hx hb dX1_append_0 rfl (lv_at hl 1 rfl) ?_
  refine lv_bipush (v := 48) hx hb dX1_append_1 (by decide) ?_
  refine lv_aload_n hx hb dX1_append_3 rfl (lv_at hl 0 rfl) ?_
  refine va_get (D := (dC, dI)) (ci := 1) (v := .int (z.1 1 1)) (C := RX1) (T := TX1) (N := 2) hx hb hts i1 hown hK hP 1 (wc_1 A cI cJ cZ z) rfl 1 (by decide) (hts (.fieldLink RX1 15 "LightestRules$LandText" "length" "I") (by decide +kernel)) (fun _ h9 => h9) rfl dX1_append_4 ?_
  refine lv_isub hx hb dX1_append_7 ?_
  refine lv_icmp_le (tgt := 13) hx hb dX1_append_8 (by decide) (fun c_1 => ?_) (fun c_1 => ?_)
  · have hf := it_t c_1 hf
    refine lv_iload_n hx hb dX1_append_13 rfl (lv_at hl 1 rfl) ?_
    refine lv_iconst (v := 1) hx hb dX1_append_14 (by decide) ?_
    refine lv_isub hx hb dX1_append_15 ?_
    refine lv_topi (fun x4_2 ex4_2 => ?_)
    have hf := lt_at ex4_2 hf; clear ex4_2
    refine lv_istore (lv' := [(4, .int x4_2), (0, .ref (A 1)), (1, .int p0), (2, .long p1)]) hx hb dX1_append_16 hl (by decide) rfl (fun ls hl => ?_)
    obtain ⟨K_3, eK_3, hf⟩ := fX1_append_L18_g hf
    have hEK_3 : ∀ (x4_5 : Int32) (z_4 : Mem) (H : Heap) (locs : List Loc) (ls : Array Slot), K_3 x4_5 z_4 = some (r, z') → wIs dC dI A cI cJ cZ z_4 H → va_S (fr A) s.heap H locs → lv_has ls 5 [(0, .ref (A 1)), (1, .int p0), (2, .long p1), (4, .int x4_5)] → WI p l e wsX1_append 0 s m [.ref (A 1), .int p0, .long p1] below meth c dC dI A cI cJ cZ r z' H locs (F0 m 60 ls []) := by
      intro x4_5 z_4 H locs ls hf hP hS hl
      have hf := ap2 eK_3 hf
      refine lv_iconst (v := 1) hx hb dX1_append_60 (by decide) ?_
      exact retZ hx hb hr hlocks rfl hP hS hf dX1_append_61
    have hLK_3 : ∀ (n_8 : Nat) (x4_7 : Int32) (z_6 : Mem) (H : Heap) (locs : List Loc) (ls : Array Slot), fX1_append_L18 K_3 p1 n_8 x4_7 z_6 = some (r, z') → wIs dC dI A cI cJ cZ z_6 H → va_S (fr A) s.heap H locs → lv_has ls 5 [(0, .ref (A 1)), (1, .int p0), (2, .long p1), (4, .int x4_7)] → WI p l e wsX1_append 0 s m [.ref (A 1), .int p0, .long p1] below meth c dC dI A cI cJ cZ r z' H locs (F0 m 18 ls []) := by
      intro n_8
      induction n_8 with
      | zero => intro x4_7 z_6 H locs ls hf; rw [fX1_append_L18_0] at hf; cases hf
      | succ n_8 ihK_3 =>
        intro x4_7 z_6 H locs ls hf hP hS hl
        rw [fX1_append_L18_s] at hf
        refine lv_iload hx hb dX1_append_18 (lv_at hl 3 rfl) ?_
        refine lv_if_lt (tgt := 60) hx hb dX1_append_20 (by decide) (fun c_9 => ?_) (fun c_9 => ?_)
        · have hf := it_t c_9 hf
          exact hEK_3 _ _ _ _ _ hf hP hS (lv_sub hl [0, 1, 2, 3] rfl)
        · have hf := it_f c_9 hf
          refine lv_aload_n hx hb dX1_append_23 rfl (lv_at hl 0 rfl) ?_
          refine va_get (D := (dC, dI)) (ci := 1) (v := .ref (A 10)) (C := RX1) (T := TX1) (N := 2) hx hb hts i1 hown hK hP 1 (wc_1 A cI cJ cZ z_6) rfl 0 (by decide) (hts (.fieldLink RX1 11 "LightestRules$LandText" "bytes" "[I") (by decide +kernel)) (fun _ h9 => h9) rfl dX1_append_24 ?_
          refine lv_aload_n hx hb dX1_append_27 rfl (lv_at hl 0 rfl) ?_
          refine va_get (D := (dC, dI)) (ci := 1) (v := .int (z_6.1 1 1)) (C := RX1) (T := TX1) (N := 2) hx hb hts i1 hown hK hP 1 (wc_1 A cI cJ cZ z_6) rfl 1 (by decide) (hts (.fieldLink RX1 15 "LightestRules$LandText" "length" "I") (by decide +kernel)) (fun _ h9 => h9) rfl dX1_append_28 ?_
          refine lv_lload_n hx hb dX1_append_31 rfl (lv_at hl 2 rfl) ?_
          refine lv_bipush (v := 8) hx hb dX1_append_32 (by decide) ?_
          refine lv_iload hx hb dX1_append_34 (lv_at hl 3 rfl) ?_
          refine lv_imul hx hb dX1_append_36 ?_
          refine lv_lushr hx hb dX1_append_37 rfl ?_
          refine lv_l2i hx hb dX1_append_38 rfl ?_
          refine lv_sipush (v := 255) hx hb dX1_append_39 (by decide) ?_
          refine lv_iand hx hb dX1_append_42 ?_
          refine lv_topi (fun y_10 ey_10 => ?_)
          have hf := lt_at ey_10 hf; clear ey_10
          obtain ⟨n_11, hf⟩ := rg_el hf
          refine va_iast hx hb hK hP (wD hA cI cJ cZ z_6) hS 10 0 (wc_10 A cI cJ cZ z_6) rfl n_11 dX1_append_43 (fun H locs hP _ hS => ?_)
          rw [wa_10 A cI cJ cZ z_6 (z_6.1 1 1).toNatClampNeg y_10] at hP
          obtain ⟨z_12, hP, hf⟩ := lt_P (P := fun q => wIs dC dI A cI cJ cZ q H) hP hf
          refine lv_aload_n hx hb dX1_append_44 rfl (lv_at hl 0 rfl) ?_
          refine lv_dup hx hb dX1_append_45 rfl ?_
          refine va_get (D := (dC, dI)) (ci := 1) (v := .int (z_12.1 1 1)) (C := RX1) (T := TX1) (N := 2) hx hb hts i1 hown hK hP 1 (wc_1 A cI cJ cZ z_12) rfl 1 (by decide) (hts (.fieldLink RX1 15 "LightestRules$LandText" "length" "I") (by decide +kernel)) (fun _ h9 => h9) rfl dX1_append_46 ?_
          refine lv_iconst (v := 1) hx hb dX1_append_49 (by decide) ?_
          refine lv_iadd hx hb dX1_append_50 ?_
          refine lv_topi (fun y_13 ey_13 => ?_)
          have hf := lt_at ey_13 hf; clear ey_13
          refine va_put (D := (dC, dI)) (ci := 1) (v := .int y_13) (ty := .int) (C := RX1) (T := TX1) (N := 2) hx hb hts i1 tyX1 tyX1_ok nmX1 hown hK hP (wD hA cI cJ cZ z_12) hS 1 (wc_1 A cI cJ cZ z_12) rfl 1 (by decide) (hts (.fieldLink RX1 15 "LightestRules$LandText" "length" "I") (by decide +kernel)) (fun _ h9 => h9) rfl (by decide +kernel) rfl rfl (Nat.le_of_ble_eq_true rfl) dX1_append_51 (fun H locs hP _ hS => ?_)
          rw [ws_1_1 A cI cJ cZ z_12 y_13] at hP
          obtain ⟨z_14, hP, hf⟩ := lt_P (P := fun q => wIs dC dI A cI cJ cZ q H) hP hf
          obtain ⟨x4_15, ex4_15⟩ : ∃ q : Int32, q = x4_7 + (-1 : Int32) := ⟨_, rfl⟩
          refine lv_iinc (v := x4_15) (lv' := [(4, .int x4_15), (0, .ref (A 1)), (1, .int p0), (2, .long p1)]) hx hb dX1_append_54 hl (k := 3) rfl (by rw [ex4_15]; rfl) (by decide) rfl (fun ls hl => ?_)
          have hf := lt_at ex4_15 hf; clear ex4_15
          refine lv_goto (tgt := 18) hx hb dX1_append_57 (by decide) ?_
          exact ihK_3 _ _ _ _ _ hf hP hS (lv_sub hl [1, 2, 3, 0] rfl)
    exact hLK_3 FU _ _ _ _ _ hf hP hS (lv_sub hl [1, 2, 3, 0] rfl)
  · have hf := it_f c_1 hf
    refine lv_iconst (v := 0) hx hb dX1_append_11 (by decide) ?_
    exact retZ hx hb hr hlocks rfl hP hS hf dX1_append_12
set_option maxHeartbeats 4000000 in
set_option maxRecDepth 100000 in
theorem tX1_length {l : Launch} {dC : Nat → ClassId} {dI : Nat → Nat → Nat} {A : Nat → Nat} {t0 : Nat} {cI cJ cZ : ClassId} (hA : dst A)  {z : Mem} {r : Int32} {z' : Mem} (hf : fX1_length z = some (r, z')) : MI l dC dI A t0 cI cJ cZ yX1_length wsX1_length 0 [.ref (A 1)] z r z' := by
  refine Met.ofW (cc := cX1_length) (maxL := 1) (ret := (some .int)) (by decide) rfl ?_
  intro p e s m args below meth c s₁ B hml hv
  obtain ⟨rfl, hP, hK, hZ⟩ := hv
  have hx := B.exec
  have hb := B.bytes
  have hr := B.returns
  have hts := atoms_spec (ws := wsX1_length) B.pre
  have hown : s.vm.findClass RX1 = some m.cls := findClass_of_methodNamed B.named
  have hlocks := B.notSynchronized
  have hS : va_S (fr A) s.heap s.heap [] := va_S.rf
  have i1 : ∀ w ∈ wsX10, w ∈ wsX1_length := fun _ h => List.mem_cons_of_mem _ (List.mem_append_right _ h)
  have hl := lv_entry ([.ref (A 1)]) (n := 1) (Nat.le_of_ble_eq_true rfl)
  rw [lg_entry_eq]
  generalize (lg_sl ([.ref (A 1)]) ++ List.replicate (1 - (lg_sl ([.ref (A 1)])).length) Slot.unset).toArray = ls at hl ⊢
  have hl : lv_has ls 1 [(0, .ref (A 1))] := hl
  have hP : wIs dC dI A cI cJ cZ z s.heap := hP
  rw [fX1_length] at hf
  refine lv_aload_n hx hb dX1_length_0 rfl (lv_at hl 0 rfl) ?_
  refine va_get (D := (dC, dI)) (ci := 1) (v := .int (z.1 1 1)) (C := RX1) (T := TX1) (N := 2) hx hb hts i1 hown hK hP 1 (wc_1 A cI cJ cZ z) rfl 1 (by decide) (hts (.fieldLink RX1 15 "LightestRules$LandText" "length" "I") (by decide +kernel)) (fun _ h9 => h9) rfl dX1_length_1 ?_
  exact retI hx hb hr hlocks hP hS hf dX1_length_4
set_option maxHeartbeats 4000000 in
set_option maxRecDepth 100000 in
theorem tX8_write {l : Launch} {dC : Nat → ClassId} {dI : Nat → Nat → Nat} {A : Nat → Nat} {t0 : Nat} {cI cJ cZ : ClassId} (hA : dst A) {p0 : Int32} {p1 : Int64} {z : Mem} {r : Int32} {z' : Mem} (hf : fX8_write p0 p1 z = some (r, z')) : MI l dC dI A t0 cI cJ cZ yX8_write wsX8_write 1 [.ref (A 0), .int p0, .long p1] z r z' := by
  refine Met.ofW (cc := cX8_write) (maxL := 4) (ret := (some .int)) (by decide) rfl ?_
  intro p e s m args below meth c s₁ B hml hv
  obtain ⟨rfl, hP, hK, hZ⟩ := hv
  have hx := B.exec
  have hb := B.bytes
  have hr := B.returns
  have hts := atoms_spec (ws := wsX8_write) B.pre
  have hown : s.vm.findClass RX8 = some m.cls := findClass_of_methodNamed B.named
  have hlocks := B.notSynchronized
  have hS : va_S (fr A) s.heap s.heap [] := va_S.rf
  have i8 : ∀ w ∈ wsX80, w ∈ wsX8_write := fun _ h => List.mem_cons_of_mem _ (List.mem_append_left _ (List.mem_append_right _ h))
  have hl := lv_entry ([.ref (A 0), .int p0, .long p1]) (n := 4) (Nat.le_of_ble_eq_true rfl)
  rw [lg_entry_eq]
  generalize (lg_sl ([.ref (A 0), .int p0, .long p1]) ++ List.replicate (4 - (lg_sl ([.ref (A 0), .int p0, .long p1])).length) Slot.unset).toArray = ls at hl ⊢
  have hl : lv_has ls 4 [(0, .ref (A 0)), (1, .int p0), (2, .long p1)] := hl
  have hP : wIs dC dI A cI cJ cZ z s.heap := hP
  rw [fX8_write] at hf
  refine lv_iload_n hx hb dX8_write_0 rfl (lv_at hl 1 rfl) ?_
  refine lv_iconst (v := 1) hx hb dX8_write_1 (by decide) ?_
  refine lv_icmp_lt (tgt := 11) hx hb dX8_write_2 (by decide) (fun c_1 => ?_) (fun c_1 => ?_)
  · have hf := it_t c_1 hf
    refine lv_bipush (v := -2) hx hb dX8_write_11 (by decide) ?_
    exact retI hx hb hr hlocks hP hS hf dX8_write_13
  · have hf := it_f c_1 hf
    refine lv_iload_n hx hb dX8_write_5 rfl (lv_at hl 1 rfl) ?_
    refine lv_bipush (v := 8) hx hb dX8_write_6 (by decide) ?_
    refine lv_icmp_le (tgt := 14) hx hb dX8_write_8 (by decide) (fun c_2 => ?_) (fun c_2 => ?_)
    · have hf := it_t c_2 hf
      refine lv_aload_n hx hb dX8_write_14 rfl (lv_at hl 0 rfl) ?_
      refine va_get (D := (dC, dI)) (ci := 8) (v := .ref (A 1)) (C := RX8) (T := TX8) (N := 9) hx hb hts i8 hown hK hP 0 (wc_0 A cI cJ cZ z) rfl 0 (by decide) (hts (.fieldLink RX8 10 "LightestRules" "text" "LLightestRules$LandText;") (by decide +kernel)) (fun _ h9 => h9) rfl dX8_write_15 ?_
      refine lv_iload_n hx hb dX8_write_18 rfl (lv_at hl 1 rfl) ?_
      refine lv_lload_n hx hb dX8_write_19 rfl (lv_at hl 2 rfl) ?_
      obtain ⟨r_3, z_4, h_5, hf⟩ := cl_el hf
      refine callVI (As := [.int p0, .long p1]) (rest := []) (ci := 1) (q0 := 1) ⟨hx, hb, hml, hown, hts⟩ (tX1_append (l := l) (dC := dC) (dI := dI) (t0 := t0) (cI := cI) (cJ := cJ) (cZ := cZ) hA h_5) (cwV 2 hts gX8_write_X1_append rfl rfl rfl (by decide +kernel) ⟨Nat.le_of_ble_eq_true rfl, Nat.le_of_ble_eq_true rfl⟩) hK hZ hP hS rfl (wc_1 A cI cJ cZ z) rfl rfl rfl hl.1 (Nat.le_of_ble_eq_true rfl) ⟨Nat.zero_le _, Nat.zero_le _⟩ dX8_write_20 (fun H locs hP hS => ?_)
      refine lv_if_eq (tgt := 36) hx hb dX8_write_23 (by decide) (fun c_6 => ?_) (fun c_6 => ?_)
      · have hf := it_t c_6 hf
        refine lv_bipush (v := -4) hx hb dX8_write_36 (by decide) ?_
        exact retI hx hb hr hlocks hP hS hf dX8_write_38
      · have hf := it_f c_6 hf
        refine lv_aload_n hx hb dX8_write_26 rfl (lv_at hl 0 rfl) ?_
        refine va_get (D := (dC, dI)) (ci := 8) (v := .ref (A 1)) (C := RX8) (T := TX8) (N := 9) hx hb hts i8 hown hK hP 0 (wc_0 A cI cJ cZ z_4) rfl 0 (by decide) (hts (.fieldLink RX8 10 "LightestRules" "text" "LLightestRules$LandText;") (by decide +kernel)) (fun _ h9 => h9) rfl dX8_write_27 ?_
        obtain ⟨r_7, z_8, h_9, hf⟩ := cl_el hf
        refine callVI (As := []) (rest := []) (ci := 1) (q0 := 1) ⟨hx, hb, hml, hown, hts⟩ (tX1_length (l := l) (dC := dC) (dI := dI) (t0 := t0) (cI := cI) (cJ := cJ) (cZ := cZ) hA h_9) (cwV 0 hts gX8_write_X1_length rfl rfl rfl (by decide +kernel) ⟨Nat.le_of_ble_eq_true rfl, Nat.le_of_ble_eq_true rfl⟩) hK hZ hP hS rfl (wc_1 A cI cJ cZ z_4) rfl rfl rfl hl.1 (Nat.le_of_ble_eq_true rfl) ⟨Nat.zero_le _, Nat.zero_le _⟩ dX8_write_30 (fun H locs hP hS => ?_)
        refine lv_goto (tgt := 38) hx hb dX8_write_33 (by decide) ?_
        exact retI hx hb hr hlocks hP hS hf dX8_write_38
    · have hf := it_f c_2 hf
      refine lv_bipush (v := -2) hx hb dX8_write_11 (by decide) ?_
      exact retI hx hb hr hlocks hP hS hf dX8_write_13
set_option maxHeartbeats 4000000 in
set_option maxRecDepth 100000 in
theorem tX9_in {l : Launch} {dC : Nat → ClassId} {dI : Nat → Nat → Nat} {A : Nat → Nat} {t0 : Nat} {cI cJ cZ : ClassId} (hA : dst A) {p0 : Int64} {p1 : Int64} {p2 : Int64} {z : Mem} {r : Int32} {z' : Mem} (hf : fX9_in p0 p1 p2 z = some (r, z')) : MI l dC dI A t0 cI cJ cZ yX9_in wsX9_in 0 [.long p0, .long p1, .long p2] z r z' := by
  refine Met.ofW (cc := cX9_in) (maxL := 6) (ret := (some .boolean)) (by decide) rfl ?_
  intro p e s m args below meth c s₁ B hml hv
  obtain ⟨rfl, hP, hK, hZ⟩ := hv
  have hx := B.exec
  have hb := B.bytes
  have hr := B.returns
  have hts := atoms_spec (ws := wsX9_in) B.pre
  have hown : s.vm.findClass RX9 = some m.cls := findClass_of_methodNamed B.named
  have hlocks := B.notSynchronized
  have hS : va_S (fr A) s.heap s.heap [] := va_S.rf
  have hl := lv_entry ([.long p0, .long p1, .long p2]) (n := 6) (Nat.le_of_ble_eq_true rfl)
  rw [lg_entry_eq]
  generalize (lg_sl ([.long p0, .long p1, .long p2]) ++ List.replicate (6 - (lg_sl ([.long p0, .long p1, .long p2])).length) Slot.unset).toArray = ls at hl ⊢
  have hl : lv_has ls 6 [(0, .long p0), (2, .long p1), (4, .long p2)] := hl
  have hP : wIs dC dI A cI cJ cZ z s.heap := hP
  rw [fX9_in] at hf
  refine lv_lload_n hx hb dX9_in_0 rfl (lv_at hl 0 rfl) ?_
  refine lv_lload_n hx hb dX9_in_1 rfl (lv_at hl 1 rfl) ?_
  refine W.lcmp hx hb dX9_in_2 ?_
  refine lv_if_lt (tgt := 17) hx hb dX9_in_3 (by decide) (fun c_1 => ?_) (fun c_1 => ?_)
  · have hf := it_t c_1 hf
    refine lv_iconst (v := 0) hx hb dX9_in_17 (by decide) ?_
    exact retZ hx hb hr hlocks rfl hP hS hf dX9_in_18
  · have hf := it_f c_1 hf
    refine lv_lload_n hx hb dX9_in_6 rfl (lv_at hl 0 rfl) ?_
    refine lv_lload hx hb dX9_in_7 (lv_at hl 2 rfl) ?_
    refine W.lcmp hx hb dX9_in_9 ?_
    refine lv_if_gt (tgt := 17) hx hb dX9_in_10 (by decide) (fun c_2 => ?_) (fun c_2 => ?_)
    · have hf := it_t c_2 hf
      refine lv_iconst (v := 0) hx hb dX9_in_17 (by decide) ?_
      exact retZ hx hb hr hlocks rfl hP hS hf dX9_in_18
    · have hf := it_f c_2 hf
      refine lv_iconst (v := 1) hx hb dX9_in_13 (by decide) ?_
      refine lv_goto (tgt := 18) hx hb dX9_in_14 (by decide) ?_
      exact retZ hx hb hr hlocks rfl hP hS hf dX9_in_18
set_option maxHeartbeats 4000000 in
set_option maxRecDepth 100000 in
theorem tX9_write {l : Launch} {dC : Nat → ClassId} {dI : Nat → Nat → Nat} {A : Nat → Nat} {t0 : Nat} {cI cJ cZ : ClassId} (hA : dst A) {p0 : Int32} {p1 : Int64} {z : Mem} {r : Int32} {z' : Mem} (hf : fX9_write p0 p1 z = some (r, z')) : MI l dC dI A t0 cI cJ cZ yX9_write wsX9_write 1 [.ref (A 25), .int p0, .long p1] z r z' := by
  refine Met.ofW (cc := cX9_write) (maxL := 5) (ret := (some .int)) (by decide) rfl ?_
  intro p e s m args below meth c s₁ B hml hv
  obtain ⟨rfl, hP, hK, hZ⟩ := hv
  have hx := B.exec
  have hb := B.bytes
  have hr := B.returns
  have hts := atoms_spec (ws := wsX9_write) B.pre
  have hown : s.vm.findClass RX9 = some m.cls := findClass_of_methodNamed B.named
  have hlocks := B.notSynchronized
  have hS : va_S (fr A) s.heap s.heap [] := va_S.rf
  have i9 : ∀ w ∈ wsX90, w ∈ wsX9_write := fun _ h => List.mem_cons_of_mem _ (List.mem_append_right _ h)
  have hl := lv_entry ([.ref (A 25), .int p0, .long p1]) (n := 5) (Nat.le_of_ble_eq_true rfl)
  rw [lg_entry_eq]
  generalize (lg_sl ([.ref (A 25), .int p0, .long p1]) ++ List.replicate (5 - (lg_sl ([.ref (A 25), .int p0, .long p1])).length) Slot.unset).toArray = ls at hl ⊢
  have hl : lv_has ls 5 [(0, .ref (A 25)), (1, .int p0), (2, .long p1)] := hl
  have hP : wIs dC dI A cI cJ cZ z s.heap := hP
  rw [fX9_write] at hf
  refine lv_iload_n hx hb dX9_write_0 rfl (lv_at hl 1 rfl) ?_
  refine lv_i2l hx hb dX9_write_1 rfl ?_
  refine lv_lconst (v := 1) hx hb dX9_write_2 rfl ?_
  refine lv_ldc2 hx hb hown (hts (.constantLong RX9 67 (8)) (by decide +kernel)) dX9_write_3 ?_
  obtain ⟨r_1, z_2, h_3, hf⟩ := cl_el hf
  refine callSI (As := [.long (p0.toInt64), .long (1 : Int64), .long (8 : Int64)]) (rest := []) ⟨hx, hb, hml, hown, hts⟩ (tX9_in (l := l) (dC := dC) (dI := dI) (t0 := t0) (cI := cI) (cJ := cJ) (cZ := cZ) hA h_3) (va_cwS 3 hts gX9_write_X9_in rfl rfl rfl (by decide +kernel) ⟨Nat.le_of_ble_eq_true rfl, Nat.le_of_ble_eq_true rfl⟩) hK hZ hP hS rfl rfl hl.1 (Nat.le_of_ble_eq_true rfl) ⟨Nat.zero_le _, Nat.zero_le _⟩ dX9_write_6 (fun H locs hP hS => ?_)
  refine lv_if_ne (tgt := 15) hx hb dX9_write_9 (by decide) (fun c_4 => ?_) (fun c_4 => ?_)
  · have hf := it_f c_4 hf
    refine lv_aload_n hx hb dX9_write_15 rfl (lv_at hl 0 rfl) ?_
    refine va_get (D := (dC, dI)) (ci := 9) (v := .int (z_2.1 25 11)) (C := RX9) (T := TX9) (N := 34) hx hb hts i9 hown hK hP 25 (wc_25 A cI cJ cZ z_2) rfl 11 (by decide) (hts (.fieldLink RX9 73 "LightestRulesModel" "length" "I") (by decide +kernel)) (fun _ h9 => h9) rfl dX9_write_16 ?_
    refine lv_iload_n hx hb dX9_write_19 rfl (lv_at hl 1 rfl) ?_
    refine lv_iadd hx hb dX9_write_20 ?_
    refine lv_bipush (v := 48) hx hb dX9_write_21 (by decide) ?_
    refine lv_icmp_le (tgt := 29) hx hb dX9_write_23 (by decide) (fun c_5 => ?_) (fun c_5 => ?_)
    · have hf := it_t c_5 hf
      refine lv_iload_n hx hb dX9_write_29 rfl (lv_at hl 1 rfl) ?_
      refine lv_iconst (v := 1) hx hb dX9_write_30 (by decide) ?_
      refine lv_isub hx hb dX9_write_31 ?_
      refine lv_topi (fun x4_6 ex4_6 => ?_)
      have hf := lt_at ex4_6 hf; clear ex4_6
      refine lv_istore (lv' := [(4, .int x4_6), (0, .ref (A 25)), (1, .int p0), (2, .long p1)]) hx hb dX9_write_32 hl (by decide) rfl (fun ls hl => ?_)
      obtain ⟨K_7, eK_7, hf⟩ := fX9_write_L34_g hf
      have hEK_7 : ∀ (x4_9 : Int32) (z_8 : Mem) (H : Heap) (locs : List Loc) (ls : Array Slot), K_7 x4_9 z_8 = some (r, z') → wIs dC dI A cI cJ cZ z_8 H → va_S (fr A) s.heap H locs → lv_has ls 5 [(0, .ref (A 25)), (1, .int p0), (2, .long p1), (4, .int x4_9)] → WI p l e wsX9_write 1 s m [.ref (A 25), .int p0, .long p1] below meth c dC dI A cI cJ cZ r z' H locs (F0 m 76 ls []) := by
        intro x4_9 z_8 H locs ls hf hP hS hl
        have hf := ap2 eK_7 hf
        refine lv_aload_n hx hb dX9_write_76 rfl (lv_at hl 0 rfl) ?_
        refine va_get (D := (dC, dI)) (ci := 9) (v := .int (z_8.1 25 11)) (C := RX9) (T := TX9) (N := 34) hx hb hts i9 hown hK hP 25 (wc_25 A cI cJ cZ z_8) rfl 11 (by decide) (hts (.fieldLink RX9 73 "LightestRulesModel" "length" "I") (by decide +kernel)) (fun _ h9 => h9) rfl dX9_write_77 ?_
        exact retI hx hb hr hlocks hP hS hf dX9_write_80
      have hLK_7 : ∀ (n_12 : Nat) (x4_11 : Int32) (z_10 : Mem) (H : Heap) (locs : List Loc) (ls : Array Slot), fX9_write_L34 K_7 p1 n_12 x4_11 z_10 = some (r, z') → wIs dC dI A cI cJ cZ z_10 H → va_S (fr A) s.heap H locs → lv_has ls 5 [(0, .ref (A 25)), (1, .int p0), (2, .long p1), (4, .int x4_11)] → WI p l e wsX9_write 1 s m [.ref (A 25), .int p0, .long p1] below meth c dC dI A cI cJ cZ r z' H locs (F0 m 34 ls []) := by
        intro n_12
        induction n_12 with
        | zero => intro x4_11 z_10 H locs ls hf; rw [fX9_write_L34_0] at hf; cases hf
        | succ n_12 ihK_7 =>
          intro x4_11 z_10 H locs ls hf hP hS hl
          rw [fX9_write_L34_s] at hf
          refine lv_iload hx hb dX9_write_34 (lv_at hl 3 rfl) ?_
          refine lv_if_lt (tgt := 76) hx hb dX9_write_36 (by decide) (fun c_13 => ?_) (fun c_13 => ?_)
          · have hf := it_t c_13 hf
            exact hEK_7 _ _ _ _ _ hf hP hS (lv_sub hl [0, 1, 2, 3] rfl)
          · have hf := it_f c_13 hf
            refine lv_aload_n hx hb dX9_write_39 rfl (lv_at hl 0 rfl) ?_
            refine va_get (D := (dC, dI)) (ci := 9) (v := .ref (A 28)) (C := RX9) (T := TX9) (N := 34) hx hb hts i9 hown hK hP 25 (wc_25 A cI cJ cZ z_10) rfl 10 (by decide) (hts (.fieldLink RX9 16 "LightestRulesModel" "text" "[I") (by decide +kernel)) (fun _ h9 => h9) rfl dX9_write_40 ?_
            refine lv_aload_n hx hb dX9_write_43 rfl (lv_at hl 0 rfl) ?_
            refine va_get (D := (dC, dI)) (ci := 9) (v := .int (z_10.1 25 11)) (C := RX9) (T := TX9) (N := 34) hx hb hts i9 hown hK hP 25 (wc_25 A cI cJ cZ z_10) rfl 11 (by decide) (hts (.fieldLink RX9 73 "LightestRulesModel" "length" "I") (by decide +kernel)) (fun _ h9 => h9) rfl dX9_write_44 ?_
            refine lv_lload_n hx hb dX9_write_47 rfl (lv_at hl 2 rfl) ?_
            refine lv_bipush (v := 8) hx hb dX9_write_48 (by decide) ?_
            refine lv_iload hx hb dX9_write_50 (lv_at hl 3 rfl) ?_
            refine lv_imul hx hb dX9_write_52 ?_
            refine lv_lshr hx hb dX9_write_53 rfl ?_
            refine lv_ldc2 hx hb hown (hts (.constantLong RX9 76 (255)) (by decide +kernel)) dX9_write_54 ?_
            refine lv_land hx hb dX9_write_57 ?_
            refine lv_l2i hx hb dX9_write_58 rfl ?_
            refine lv_topi (fun y_14 ey_14 => ?_)
            have hf := lt_at ey_14 hf; clear ey_14
            obtain ⟨n_15, hf⟩ := rg_el hf
            refine va_iast hx hb hK hP (wD hA cI cJ cZ z_10) hS 28 0 (wc_28 A cI cJ cZ z_10) rfl n_15 dX9_write_59 (fun H locs hP _ hS => ?_)
            rw [wa_28 A cI cJ cZ z_10 (z_10.1 25 11).toNatClampNeg y_14] at hP
            obtain ⟨z_16, hP, hf⟩ := lt_P (P := fun q => wIs dC dI A cI cJ cZ q H) hP hf
            refine lv_aload_n hx hb dX9_write_60 rfl (lv_at hl 0 rfl) ?_
            refine lv_dup hx hb dX9_write_61 rfl ?_
            refine va_get (D := (dC, dI)) (ci := 9) (v := .int (z_16.1 25 11)) (C := RX9) (T := TX9) (N := 34) hx hb hts i9 hown hK hP 25 (wc_25 A cI cJ cZ z_16) rfl 11 (by decide) (hts (.fieldLink RX9 73 "LightestRulesModel" "length" "I") (by decide +kernel)) (fun _ h9 => h9) rfl dX9_write_62 ?_
            refine lv_iconst (v := 1) hx hb dX9_write_65 (by decide) ?_
            refine lv_iadd hx hb dX9_write_66 ?_
            refine lv_topi (fun y_17 ey_17 => ?_)
            have hf := lt_at ey_17 hf; clear ey_17
            refine va_put (D := (dC, dI)) (ci := 9) (v := .int y_17) (ty := .int) (C := RX9) (T := TX9) (N := 34) hx hb hts i9 tyX9 tyX9_ok nmX9 hown hK hP (wD hA cI cJ cZ z_16) hS 25 (wc_25 A cI cJ cZ z_16) rfl 11 (by decide) (hts (.fieldLink RX9 73 "LightestRulesModel" "length" "I") (by decide +kernel)) (fun _ h9 => h9) rfl (by decide +kernel) rfl rfl (Nat.le_of_ble_eq_true rfl) dX9_write_67 (fun H locs hP _ hS => ?_)
            rw [ws_25_11 A cI cJ cZ z_16 y_17] at hP
            obtain ⟨z_18, hP, hf⟩ := lt_P (P := fun q => wIs dC dI A cI cJ cZ q H) hP hf
            obtain ⟨x4_19, ex4_19⟩ : ∃ q : Int32, q = x4_11 + (-1 : Int32) := ⟨_, rfl⟩
            refine lv_iinc (v := x4_19) (lv' := [(4, .int x4_19), (0, .ref (A 25)), (1, .int p0), (2, .long p1)]) hx hb dX9_write_70 hl (k := 3) rfl (by rw [ex4_19]; rfl) (by decide) rfl (fun ls hl => ?_)
            have hf := lt_at ex4_19 hf; clear ex4_19
            refine lv_goto (tgt := 34) hx hb dX9_write_73 (by decide) ?_
            exact ihK_7 _ _ _ _ _ hf hP hS (lv_sub hl [1, 2, 3, 0] rfl)
      exact hLK_7 FU _ _ _ _ _ hf hP hS (lv_sub hl [1, 2, 3, 0] rfl)
    · have hf := it_f c_5 hf
      refine lv_bipush (v := -4) hx hb dX9_write_26 (by decide) ?_
      exact retI hx hb hr hlocks hP hS hf dX9_write_28
  · have hf := it_t c_4 hf
    refine lv_bipush (v := -2) hx hb dX9_write_12 (by decide) ?_
    exact retI hx hb hr hlocks hP hS hf dX9_write_14
set_option maxHeartbeats 4000000 in
set_option maxRecDepth 100000 in
theorem tX1_clear {l : Launch} {dC : Nat → ClassId} {dI : Nat → Nat → Nat} {A : Nat → Nat} {t0 : Nat} {cI cJ cZ : ClassId} (hA : dst A)  {z : Mem} {ru : Unit} {z' : Mem} (hf : fX1_clear z = some (ru, z')) : MV l dC dI A t0 cI cJ cZ yX1_clear wsX1_clear 0 [.ref (A 1)] z z' := by
  refine Met.ofW (cc := cX1_clear) (maxL := 1) (ret := none) (by decide) rfl ?_
  intro p e s m args below meth c s₁ B hml hv
  obtain ⟨rfl, hP, hK, hZ⟩ := hv
  have hx := B.exec
  have hb := B.bytes
  have hr := B.returns
  have hts := atoms_spec (ws := wsX1_clear) B.pre
  have hown : s.vm.findClass RX1 = some m.cls := findClass_of_methodNamed B.named
  have hlocks := B.notSynchronized
  have hS : va_S (fr A) s.heap s.heap [] := va_S.rf
  have i1 : ∀ w ∈ wsX10, w ∈ wsX1_clear := fun _ h => List.mem_cons_of_mem _ (List.mem_append_right _ h)
  have hl := lv_entry ([.ref (A 1)]) (n := 1) (Nat.le_of_ble_eq_true rfl)
  rw [lg_entry_eq]
  generalize (lg_sl ([.ref (A 1)]) ++ List.replicate (1 - (lg_sl ([.ref (A 1)])).length) Slot.unset).toArray = ls at hl ⊢
  have hl : lv_has ls 1 [(0, .ref (A 1))] := hl
  have hP : wIs dC dI A cI cJ cZ z s.heap := hP
  rw [fX1_clear] at hf
  refine lv_aload_n hx hb dX1_clear_0 rfl (lv_at hl 0 rfl) ?_
  refine lv_iconst (v := 0) hx hb dX1_clear_1 (by decide) ?_
  refine va_put (D := (dC, dI)) (ci := 1) (v := .int (0 : Int32)) (ty := .int) (C := RX1) (T := TX1) (N := 2) hx hb hts i1 tyX1 tyX1_ok nmX1 hown hK hP (wD hA cI cJ cZ z) hS 1 (wc_1 A cI cJ cZ z) rfl 1 (by decide) (hts (.fieldLink RX1 15 "LightestRules$LandText" "length" "I") (by decide +kernel)) (fun _ h9 => h9) rfl (by decide +kernel) rfl rfl (Nat.le_of_ble_eq_true rfl) dX1_clear_2 (fun H locs hP _ hS => ?_)
  rw [ws_1_1 A cI cJ cZ z (0 : Int32)] at hP
  obtain ⟨z_1, hP, hf⟩ := lt_P (P := fun q => wIs dC dI A cI cJ cZ q H) hP hf
  exact retV hx hb hr hlocks hP hS hf dX1_clear_5
set_option maxHeartbeats 4000000 in
set_option maxRecDepth 100000 in
theorem tX8_wipe {l : Launch} {dC : Nat → ClassId} {dI : Nat → Nat → Nat} {A : Nat → Nat} {t0 : Nat} {cI cJ cZ : ClassId} (hA : dst A)  {z : Mem} {r : Int32} {z' : Mem} (hf : fX8_wipe z = some (r, z')) : MI l dC dI A t0 cI cJ cZ yX8_wipe wsX8_wipe 1 [.ref (A 0)] z r z' := by
  refine Met.ofW (cc := cX8_wipe) (maxL := 2) (ret := (some .int)) (by decide) rfl ?_
  intro p e s m args below meth c s₁ B hml hv
  obtain ⟨rfl, hP, hK, hZ⟩ := hv
  have hx := B.exec
  have hb := B.bytes
  have hr := B.returns
  have hts := atoms_spec (ws := wsX8_wipe) B.pre
  have hown : s.vm.findClass RX8 = some m.cls := findClass_of_methodNamed B.named
  have hlocks := B.notSynchronized
  have hS : va_S (fr A) s.heap s.heap [] := va_S.rf
  have i8 : ∀ w ∈ wsX80, w ∈ wsX8_wipe := fun _ h => List.mem_cons_of_mem _ (List.mem_append_left _ (List.mem_append_right _ h))
  have hl := lv_entry ([.ref (A 0)]) (n := 2) (Nat.le_of_ble_eq_true rfl)
  rw [lg_entry_eq]
  generalize (lg_sl ([.ref (A 0)]) ++ List.replicate (2 - (lg_sl ([.ref (A 0)])).length) Slot.unset).toArray = ls at hl ⊢
  have hl : lv_has ls 2 [(0, .ref (A 0))] := hl
  have hP : wIs dC dI A cI cJ cZ z s.heap := hP
  rw [fX8_wipe] at hf
  refine lv_aload_n hx hb dX8_wipe_0 rfl (lv_at hl 0 rfl) ?_
  refine va_get (D := (dC, dI)) (ci := 8) (v := .ref (A 1)) (C := RX8) (T := TX8) (N := 9) hx hb hts i8 hown hK hP 0 (wc_0 A cI cJ cZ z) rfl 0 (by decide) (hts (.fieldLink RX8 10 "LightestRules" "text" "LLightestRules$LandText;") (by decide +kernel)) (fun _ h9 => h9) rfl dX8_wipe_1 ?_
  obtain ⟨r_1, z_2, h_3, hf⟩ := cl_el hf
  refine callVI (As := []) (rest := []) (ci := 1) (q0 := 1) ⟨hx, hb, hml, hown, hts⟩ (tX1_length (l := l) (dC := dC) (dI := dI) (t0 := t0) (cI := cI) (cJ := cJ) (cZ := cZ) hA h_3) (cwV 0 hts gX8_wipe_X1_length rfl rfl rfl (by decide +kernel) ⟨Nat.le_of_ble_eq_true rfl, Nat.le_of_ble_eq_true rfl⟩) hK hZ hP hS rfl (wc_1 A cI cJ cZ z) rfl rfl rfl hl.1 (Nat.le_of_ble_eq_true rfl) ⟨Nat.zero_le _, Nat.zero_le _⟩ dX8_wipe_4 (fun H locs hP hS => ?_)
  refine lv_istore_n (lv' := [(1, .int r_1), (0, .ref (A 0))]) hx hb dX8_wipe_7 rfl hl (by decide) rfl (fun ls hl => ?_)
  refine lv_aload_n hx hb dX8_wipe_8 rfl (lv_at hl 1 rfl) ?_
  refine va_get (D := (dC, dI)) (ci := 8) (v := .ref (A 1)) (C := RX8) (T := TX8) (N := 9) hx hb hts i8 hown hK hP 0 (wc_0 A cI cJ cZ z_2) rfl 0 (by decide) (hts (.fieldLink RX8 10 "LightestRules" "text" "LLightestRules$LandText;") (by decide +kernel)) (fun _ h9 => h9) rfl dX8_wipe_9 ?_
  obtain ⟨r_4, z_5, h_6, hf⟩ := cl_el hf
  refine callVV (As := []) (rest := []) (ci := 1) (q0 := 1) ⟨hx, hb, hml, hown, hts⟩ (tX1_clear (l := l) (dC := dC) (dI := dI) (t0 := t0) (cI := cI) (cJ := cJ) (cZ := cZ) hA h_6) (cwV 0 hts gX8_wipe_X1_clear rfl rfl rfl (by decide +kernel) ⟨Nat.le_of_ble_eq_true rfl, Nat.le_of_ble_eq_true rfl⟩) hK hZ hP hS rfl (wc_1 A cI cJ cZ z_2) rfl rfl rfl hl.1 (Nat.le_of_ble_eq_true rfl) ⟨Nat.zero_le _, Nat.zero_le _⟩ dX8_wipe_12 (fun H locs hP hS => ?_)
  refine lv_iload_n hx hb dX8_wipe_15 rfl (lv_at hl 0 rfl) ?_
  exact retI hx hb hr hlocks hP hS hf dX8_wipe_16
set_option maxHeartbeats 4000000 in
set_option maxRecDepth 100000 in
theorem tX9_wipe {l : Launch} {dC : Nat → ClassId} {dI : Nat → Nat → Nat} {A : Nat → Nat} {t0 : Nat} {cI cJ cZ : ClassId} (hA : dst A)  {z : Mem} {r : Int32} {z' : Mem} (hf : fX9_wipe z = some (r, z')) : MI l dC dI A t0 cI cJ cZ yX9_wipe wsX9_wipe 0 [.ref (A 25)] z r z' := by
  refine Met.ofW (cc := cX9_wipe) (maxL := 2) (ret := (some .int)) (by decide) rfl ?_
  intro p e s m args below meth c s₁ B hml hv
  obtain ⟨rfl, hP, hK, hZ⟩ := hv
  have hx := B.exec
  have hb := B.bytes
  have hr := B.returns
  have hts := atoms_spec (ws := wsX9_wipe) B.pre
  have hown : s.vm.findClass RX9 = some m.cls := findClass_of_methodNamed B.named
  have hlocks := B.notSynchronized
  have hS : va_S (fr A) s.heap s.heap [] := va_S.rf
  have i9 : ∀ w ∈ wsX90, w ∈ wsX9_wipe := fun _ h => List.mem_cons_of_mem _ (List.mem_append_right _ h)
  have hl := lv_entry ([.ref (A 25)]) (n := 2) (Nat.le_of_ble_eq_true rfl)
  rw [lg_entry_eq]
  generalize (lg_sl ([.ref (A 25)]) ++ List.replicate (2 - (lg_sl ([.ref (A 25)])).length) Slot.unset).toArray = ls at hl ⊢
  have hl : lv_has ls 2 [(0, .ref (A 25))] := hl
  have hP : wIs dC dI A cI cJ cZ z s.heap := hP
  rw [fX9_wipe] at hf
  refine lv_aload_n hx hb dX9_wipe_0 rfl (lv_at hl 0 rfl) ?_
  refine va_get (D := (dC, dI)) (ci := 9) (v := .int (z.1 25 11)) (C := RX9) (T := TX9) (N := 34) hx hb hts i9 hown hK hP 25 (wc_25 A cI cJ cZ z) rfl 11 (by decide) (hts (.fieldLink RX9 73 "LightestRulesModel" "length" "I") (by decide +kernel)) (fun _ h9 => h9) rfl dX9_wipe_1 ?_
  refine lv_topi (fun x1_1 ex1_1 => ?_)
  have hf := lt_at ex1_1 hf; clear ex1_1
  refine lv_istore_n (lv' := [(1, .int x1_1), (0, .ref (A 25))]) hx hb dX9_wipe_4 rfl hl (by decide) rfl (fun ls hl => ?_)
  refine lv_aload_n hx hb dX9_wipe_5 rfl (lv_at hl 1 rfl) ?_
  refine lv_iconst (v := 0) hx hb dX9_wipe_6 (by decide) ?_
  refine va_put (D := (dC, dI)) (ci := 9) (v := .int (0 : Int32)) (ty := .int) (C := RX9) (T := TX9) (N := 34) hx hb hts i9 tyX9 tyX9_ok nmX9 hown hK hP (wD hA cI cJ cZ z) hS 25 (wc_25 A cI cJ cZ z) rfl 11 (by decide) (hts (.fieldLink RX9 73 "LightestRulesModel" "length" "I") (by decide +kernel)) (fun _ h9 => h9) rfl (by decide +kernel) rfl rfl (Nat.le_of_ble_eq_true rfl) dX9_wipe_7 (fun H locs hP _ hS => ?_)
  rw [ws_25_11 A cI cJ cZ z (0 : Int32)] at hP
  obtain ⟨z_2, hP, hf⟩ := lt_P (P := fun q => wIs dC dI A cI cJ cZ q H) hP hf
  refine lv_iload_n hx hb dX9_wipe_10 rfl (lv_at hl 0 rfl) ?_
  exact retI hx hb hr hlocks hP hS hf dX9_wipe_11
set_option maxHeartbeats 4000000 in
set_option maxRecDepth 100000 in
theorem tX1_mayStandAt {l : Launch} {dC : Nat → ClassId} {dI : Nat → Nat → Nat} {A : Nat → Nat} {t0 : Nat} {cI cJ cZ : ClassId} (hA : dst A) {p0 : Int32} {p1 : Int32} {z : Mem} {r : Int32} {z' : Mem} (hf : fX1_mayStandAt p0 p1 z = some (r, z')) : MI l dC dI A t0 cI cJ cZ yX1_mayStandAt wsX1_mayStandAt 0 [.int p0, .int p1] z r z' := by
  refine Met.ofW (cc := cX1_mayStandAt) (maxL := 3) (ret := (some .boolean)) (by decide) rfl ?_
  intro p e s m args below meth c s₁ B hml hv
  obtain ⟨rfl, hP, hK, hZ⟩ := hv
  have hx := B.exec
  have hb := B.bytes
  have hr := B.returns
  have hts := atoms_spec (ws := wsX1_mayStandAt) B.pre
  have hown : s.vm.findClass RX1 = some m.cls := findClass_of_methodNamed B.named
  have hlocks := B.notSynchronized
  have hS : va_S (fr A) s.heap s.heap [] := va_S.rf
  have hl := lv_entry ([.int p0, .int p1]) (n := 3) (Nat.le_of_ble_eq_true rfl)
  rw [lg_entry_eq]
  generalize (lg_sl ([.int p0, .int p1]) ++ List.replicate (3 - (lg_sl ([.int p0, .int p1])).length) Slot.unset).toArray = ls at hl ⊢
  have hl : lv_has ls 3 [(0, .int p0), (1, .int p1)] := hl
  have hP : wIs dC dI A cI cJ cZ z s.heap := hP
  rw [fX1_mayStandAt] at hf
  refine lv_iload_n hx hb dX1_mayStandAt_0 rfl (lv_at hl 0 rfl) ?_
  refine lv_if_ne (tgt := 16) hx hb dX1_mayStandAt_1 (by decide) (fun c_1 => ?_) (fun c_1 => ?_)
  · have hf := it_f c_1 hf
    refine lv_iload_n hx hb dX1_mayStandAt_16 rfl (lv_at hl 0 rfl) ?_
    refine lv_iconst (v := 1) hx hb dX1_mayStandAt_17 (by decide) ?_
    refine lv_icmp_ne (tgt := 39) hx hb dX1_mayStandAt_18 (by decide) (fun c_2 => ?_) (fun c_2 => ?_)
    · have hf := it_f c_2 hf
      refine lv_iload_n hx hb dX1_mayStandAt_39 rfl (lv_at hl 0 rfl) ?_
      refine lv_iconst (v := 4) hx hb dX1_mayStandAt_40 (by decide) ?_
      refine lv_icmp_lt (tgt := 75) hx hb dX1_mayStandAt_41 (by decide) (fun c_3 => ?_) (fun c_3 => ?_)
      · have hf := it_t c_3 hf
        refine lv_iload_n hx hb dX1_mayStandAt_75 rfl (lv_at hl 0 rfl) ?_
        refine lv_iconst (v := 4) hx hb dX1_mayStandAt_76 (by decide) ?_
        obtain ⟨K_4, eK_4, hf⟩ := jn_el hf
        have hK_4 : ∀ (v_5 : Int32) (z_6 : Mem) (H : Heap) (locs : List Loc) (ls : Array Slot), K_4 v_5 z_6 = some (r, z') → wIs dC dI A cI cJ cZ z_6 H → va_S (fr A) s.heap H locs → lv_has ls 3 [(0, .int p0), (1, .int p1)] → WI p l e wsX1_mayStandAt 0 s m [.int p0, .int p1] below meth c dC dI A cI cJ cZ r z' H locs (F0 m 95 ls [.int v_5]) := by
          intro v_5 z_6 H locs ls hf hP hS hl
          have hf := ap2 eK_4 hf
          refine lv_istore_n (lv' := [(2, .int v_5), (0, .int p0), (1, .int p1)]) hx hb dX1_mayStandAt_95 rfl hl (by decide) rfl (fun ls hl => ?_)
          refine lv_iload_n hx hb dX1_mayStandAt_96 rfl (lv_at hl 2 rfl) ?_
          refine lv_iload_n hx hb dX1_mayStandAt_97 rfl (lv_at hl 0 rfl) ?_
          obtain ⟨K_7, eK_7, hf⟩ := jn_el hf
          have hK_7 : ∀ (v_8 : Int32) (z_9 : Mem) (H : Heap) (locs : List Loc) (ls : Array Slot), K_7 v_8 z_9 = some (r, z') → wIs dC dI A cI cJ cZ z_9 H → va_S (fr A) s.heap H locs → lv_has ls 3 [(2, .int v_5), (0, .int p0), (1, .int p1)] → WI p l e wsX1_mayStandAt 0 s m [.int p0, .int p1] below meth c dC dI A cI cJ cZ r z' H locs (F0 m 108 ls [.int v_8, .int p1]) := by
            intro v_8 z_9 H locs ls hf hP hS hl
            have hf := ap2 eK_7 hf
            refine lv_icmp_lt (tgt := 121) hx hb dX1_mayStandAt_108 (by decide) (fun c_10 => ?_) (fun c_10 => ?_)
            · have hf := it_t c_10 hf
              refine lv_iconst (v := 0) hx hb dX1_mayStandAt_121 (by decide) ?_
              exact retZ hx hb hr hlocks rfl hP hS hf dX1_mayStandAt_122
            · have hf := it_f c_10 hf
              refine lv_iload_n hx hb dX1_mayStandAt_111 rfl (lv_at hl 2 rfl) ?_
              refine lv_bipush (v := 57) hx hb dX1_mayStandAt_112 (by decide) ?_
              refine lv_icmp_gt (tgt := 121) hx hb dX1_mayStandAt_114 (by decide) (fun c_11 => ?_) (fun c_11 => ?_)
              · have hf := it_t c_11 hf
                refine lv_iconst (v := 0) hx hb dX1_mayStandAt_121 (by decide) ?_
                exact retZ hx hb hr hlocks rfl hP hS hf dX1_mayStandAt_122
              · have hf := it_f c_11 hf
                refine lv_iconst (v := 1) hx hb dX1_mayStandAt_117 (by decide) ?_
                refine lv_goto (tgt := 122) hx hb dX1_mayStandAt_118 (by decide) ?_
                exact retZ hx hb hr hlocks rfl hP hS hf dX1_mayStandAt_122
          refine lv_if_eq (tgt := 106) hx hb dX1_mayStandAt_98 (by decide) (fun c_12 => ?_) (fun c_12 => ?_)
          · have hf := it_t c_12 hf
            refine lv_bipush (v := 48) hx hb dX1_mayStandAt_106 (by decide) ?_
            exact hK_7 _ _ _ _ _ hf hP hS (lv_sub hl [0, 1, 2] rfl)
          · have hf := it_f c_12 hf
            refine lv_bipush (v := 49) hx hb dX1_mayStandAt_101 (by decide) ?_
            refine lv_goto (tgt := 108) hx hb dX1_mayStandAt_103 (by decide) ?_
            exact hK_7 _ _ _ _ _ hf hP hS (lv_sub hl [0, 1, 2] rfl)
        refine lv_icmp_lt (tgt := 94) hx hb dX1_mayStandAt_77 (by decide) (fun c_13 => ?_) (fun c_13 => ?_)
        · have hf := it_t c_13 hf
          refine lv_iconst (v := 0) hx hb dX1_mayStandAt_94 (by decide) ?_
          exact hK_4 _ _ _ _ _ hf hP hS (lv_sub hl [0, 1] rfl)
        · have hf := it_f c_13 hf
          refine lv_iload_n hx hb dX1_mayStandAt_80 rfl (lv_at hl 0 rfl) ?_
          refine lv_iconst (v := 4) hx hb dX1_mayStandAt_81 (by decide) ?_
          refine lv_isub hx hb dX1_mayStandAt_82 ?_
          refine lv_bipush (v := 6) hx hb dX1_mayStandAt_83 (by decide) ?_
          obtain ⟨n_14, hf⟩ := nz_el hf
          refine lv_irem hx hb dX1_mayStandAt_85 n_14 ?_
          refine lv_iconst (v := 1) hx hb dX1_mayStandAt_86 (by decide) ?_
          refine lv_icmp_ne (tgt := 94) hx hb dX1_mayStandAt_87 (by decide) (fun c_15 => ?_) (fun c_15 => ?_)
          · have hf := it_f c_15 hf
            refine lv_iconst (v := 0) hx hb dX1_mayStandAt_94 (by decide) ?_
            exact hK_4 _ _ _ _ _ hf hP hS (lv_sub hl [0, 1] rfl)
          · have hf := it_t c_15 hf
            refine lv_iconst (v := 1) hx hb dX1_mayStandAt_90 (by decide) ?_
            refine lv_goto (tgt := 95) hx hb dX1_mayStandAt_91 (by decide) ?_
            exact hK_4 _ _ _ _ _ hf hP hS (lv_sub hl [0, 1] rfl)
      · have hf := it_f c_3 hf
        refine lv_iload_n hx hb dX1_mayStandAt_44 rfl (lv_at hl 0 rfl) ?_
        refine lv_iconst (v := 4) hx hb dX1_mayStandAt_45 (by decide) ?_
        refine lv_isub hx hb dX1_mayStandAt_46 ?_
        refine lv_bipush (v := 6) hx hb dX1_mayStandAt_47 (by decide) ?_
        obtain ⟨n_16, hf⟩ := nz_el hf
        refine lv_irem hx hb dX1_mayStandAt_49 n_16 ?_
        refine lv_if_ne (tgt := 75) hx hb dX1_mayStandAt_50 (by decide) (fun c_17 => ?_) (fun c_17 => ?_)
        · have hf := it_f c_17 hf
          refine lv_iload_n hx hb dX1_mayStandAt_75 rfl (lv_at hl 0 rfl) ?_
          refine lv_iconst (v := 4) hx hb dX1_mayStandAt_76 (by decide) ?_
          obtain ⟨K_18, eK_18, hf⟩ := jn_el hf
          have hK_18 : ∀ (v_19 : Int32) (z_20 : Mem) (H : Heap) (locs : List Loc) (ls : Array Slot), K_18 v_19 z_20 = some (r, z') → wIs dC dI A cI cJ cZ z_20 H → va_S (fr A) s.heap H locs → lv_has ls 3 [(0, .int p0), (1, .int p1)] → WI p l e wsX1_mayStandAt 0 s m [.int p0, .int p1] below meth c dC dI A cI cJ cZ r z' H locs (F0 m 95 ls [.int v_19]) := by
            intro v_19 z_20 H locs ls hf hP hS hl
            have hf := ap2 eK_18 hf
            refine lv_istore_n (lv' := [(2, .int v_19), (0, .int p0), (1, .int p1)]) hx hb dX1_mayStandAt_95 rfl hl (by decide) rfl (fun ls hl => ?_)
            refine lv_iload_n hx hb dX1_mayStandAt_96 rfl (lv_at hl 2 rfl) ?_
            refine lv_iload_n hx hb dX1_mayStandAt_97 rfl (lv_at hl 0 rfl) ?_
            obtain ⟨K_21, eK_21, hf⟩ := jn_el hf
            have hK_21 : ∀ (v_22 : Int32) (z_23 : Mem) (H : Heap) (locs : List Loc) (ls : Array Slot), K_21 v_22 z_23 = some (r, z') → wIs dC dI A cI cJ cZ z_23 H → va_S (fr A) s.heap H locs → lv_has ls 3 [(2, .int v_19), (0, .int p0), (1, .int p1)] → WI p l e wsX1_mayStandAt 0 s m [.int p0, .int p1] below meth c dC dI A cI cJ cZ r z' H locs (F0 m 108 ls [.int v_22, .int p1]) := by
              intro v_22 z_23 H locs ls hf hP hS hl
              have hf := ap2 eK_21 hf
              refine lv_icmp_lt (tgt := 121) hx hb dX1_mayStandAt_108 (by decide) (fun c_24 => ?_) (fun c_24 => ?_)
              · have hf := it_t c_24 hf
                refine lv_iconst (v := 0) hx hb dX1_mayStandAt_121 (by decide) ?_
                exact retZ hx hb hr hlocks rfl hP hS hf dX1_mayStandAt_122
              · have hf := it_f c_24 hf
                refine lv_iload_n hx hb dX1_mayStandAt_111 rfl (lv_at hl 2 rfl) ?_
                refine lv_bipush (v := 57) hx hb dX1_mayStandAt_112 (by decide) ?_
                refine lv_icmp_gt (tgt := 121) hx hb dX1_mayStandAt_114 (by decide) (fun c_25 => ?_) (fun c_25 => ?_)
                · have hf := it_t c_25 hf
                  refine lv_iconst (v := 0) hx hb dX1_mayStandAt_121 (by decide) ?_
                  exact retZ hx hb hr hlocks rfl hP hS hf dX1_mayStandAt_122
                · have hf := it_f c_25 hf
                  refine lv_iconst (v := 1) hx hb dX1_mayStandAt_117 (by decide) ?_
                  refine lv_goto (tgt := 122) hx hb dX1_mayStandAt_118 (by decide) ?_
                  exact retZ hx hb hr hlocks rfl hP hS hf dX1_mayStandAt_122
            refine lv_if_eq (tgt := 106) hx hb dX1_mayStandAt_98 (by decide) (fun c_26 => ?_) (fun c_26 => ?_)
            · have hf := it_t c_26 hf
              refine lv_bipush (v := 48) hx hb dX1_mayStandAt_106 (by decide) ?_
              exact hK_21 _ _ _ _ _ hf hP hS (lv_sub hl [0, 1, 2] rfl)
            · have hf := it_f c_26 hf
              refine lv_bipush (v := 49) hx hb dX1_mayStandAt_101 (by decide) ?_
              refine lv_goto (tgt := 108) hx hb dX1_mayStandAt_103 (by decide) ?_
              exact hK_21 _ _ _ _ _ hf hP hS (lv_sub hl [0, 1, 2] rfl)
          refine lv_icmp_lt (tgt := 94) hx hb dX1_mayStandAt_77 (by decide) (fun c_27 => ?_) (fun c_27 => ?_)
          · have hf := it_t c_27 hf
            refine lv_iconst (v := 0) hx hb dX1_mayStandAt_94 (by decide) ?_
            exact hK_18 _ _ _ _ _ hf hP hS (lv_sub hl [0, 1] rfl)
          · have hf := it_f c_27 hf
            refine lv_iload_n hx hb dX1_mayStandAt_80 rfl (lv_at hl 0 rfl) ?_
            refine lv_iconst (v := 4) hx hb dX1_mayStandAt_81 (by decide) ?_
            refine lv_isub hx hb dX1_mayStandAt_82 ?_
            refine lv_bipush (v := 6) hx hb dX1_mayStandAt_83 (by decide) ?_
            obtain ⟨n_28, hf⟩ := nz_el hf
            refine lv_irem hx hb dX1_mayStandAt_85 n_28 ?_
            refine lv_iconst (v := 1) hx hb dX1_mayStandAt_86 (by decide) ?_
            refine lv_icmp_ne (tgt := 94) hx hb dX1_mayStandAt_87 (by decide) (fun c_29 => ?_) (fun c_29 => ?_)
            · have hf := it_f c_29 hf
              refine lv_iconst (v := 0) hx hb dX1_mayStandAt_94 (by decide) ?_
              exact hK_18 _ _ _ _ _ hf hP hS (lv_sub hl [0, 1] rfl)
            · have hf := it_t c_29 hf
              refine lv_iconst (v := 1) hx hb dX1_mayStandAt_90 (by decide) ?_
              refine lv_goto (tgt := 95) hx hb dX1_mayStandAt_91 (by decide) ?_
              exact hK_18 _ _ _ _ _ hf hP hS (lv_sub hl [0, 1] rfl)
        · have hf := it_t c_17 hf
          refine lv_iload_n hx hb dX1_mayStandAt_53 rfl (lv_at hl 1 rfl) ?_
          refine lv_bipush (v := 80) hx hb dX1_mayStandAt_54 (by decide) ?_
          refine lv_icmp_ne (tgt := 73) hx hb dX1_mayStandAt_56 (by decide) (fun c_30 => ?_) (fun c_30 => ?_)
          · have hf := it_f c_30 hf
            refine lv_iconst (v := 0) hx hb dX1_mayStandAt_73 (by decide) ?_
            exact retZ hx hb hr hlocks rfl hP hS hf dX1_mayStandAt_74
          · have hf := it_t c_30 hf
            refine lv_iload_n hx hb dX1_mayStandAt_59 rfl (lv_at hl 0 rfl) ?_
            refine lv_iconst (v := 4) hx hb dX1_mayStandAt_60 (by decide) ?_
            refine lv_isub hx hb dX1_mayStandAt_61 ?_
            refine lv_bipush (v := 6) hx hb dX1_mayStandAt_62 (by decide) ?_
            obtain ⟨n_31, hf⟩ := nz_el hf
            refine lv_idiv hx hb dX1_mayStandAt_64 n_31 ?_
            refine lv_iconst (v := 5) hx hb dX1_mayStandAt_65 (by decide) ?_
            refine lv_icmp_ge (tgt := 73) hx hb dX1_mayStandAt_66 (by decide) (fun c_32 => ?_) (fun c_32 => ?_)
            · have hf := it_t c_32 hf
              refine lv_iconst (v := 0) hx hb dX1_mayStandAt_73 (by decide) ?_
              exact retZ hx hb hr hlocks rfl hP hS hf dX1_mayStandAt_74
            · have hf := it_f c_32 hf
              refine lv_iconst (v := 1) hx hb dX1_mayStandAt_69 (by decide) ?_
              refine lv_goto (tgt := 74) hx hb dX1_mayStandAt_70 (by decide) ?_
              exact retZ hx hb hr hlocks rfl hP hS hf dX1_mayStandAt_74
    · have hf := it_t c_2 hf
      refine lv_iload_n hx hb dX1_mayStandAt_21 rfl (lv_at hl 1 rfl) ?_
      refine lv_bipush (v := 48) hx hb dX1_mayStandAt_22 (by decide) ?_
      refine lv_icmp_lt (tgt := 37) hx hb dX1_mayStandAt_24 (by decide) (fun c_33 => ?_) (fun c_33 => ?_)
      · have hf := it_t c_33 hf
        refine lv_iconst (v := 0) hx hb dX1_mayStandAt_37 (by decide) ?_
        exact retZ hx hb hr hlocks rfl hP hS hf dX1_mayStandAt_38
      · have hf := it_f c_33 hf
        refine lv_iload_n hx hb dX1_mayStandAt_27 rfl (lv_at hl 1 rfl) ?_
        refine lv_bipush (v := 51) hx hb dX1_mayStandAt_28 (by decide) ?_
        refine lv_icmp_ge (tgt := 37) hx hb dX1_mayStandAt_30 (by decide) (fun c_34 => ?_) (fun c_34 => ?_)
        · have hf := it_t c_34 hf
          refine lv_iconst (v := 0) hx hb dX1_mayStandAt_37 (by decide) ?_
          exact retZ hx hb hr hlocks rfl hP hS hf dX1_mayStandAt_38
        · have hf := it_f c_34 hf
          refine lv_iconst (v := 1) hx hb dX1_mayStandAt_33 (by decide) ?_
          refine lv_goto (tgt := 38) hx hb dX1_mayStandAt_34 (by decide) ?_
          exact retZ hx hb hr hlocks rfl hP hS hf dX1_mayStandAt_38
  · have hf := it_t c_1 hf
    refine lv_iload_n hx hb dX1_mayStandAt_4 rfl (lv_at hl 1 rfl) ?_
    refine lv_bipush (v := 82) hx hb dX1_mayStandAt_5 (by decide) ?_
    refine lv_icmp_ne (tgt := 14) hx hb dX1_mayStandAt_7 (by decide) (fun c_35 => ?_) (fun c_35 => ?_)
    · have hf := it_f c_35 hf
      refine lv_iconst (v := 0) hx hb dX1_mayStandAt_14 (by decide) ?_
      exact retZ hx hb hr hlocks rfl hP hS hf dX1_mayStandAt_15
    · have hf := it_t c_35 hf
      refine lv_iconst (v := 1) hx hb dX1_mayStandAt_10 (by decide) ?_
      refine lv_goto (tgt := 15) hx hb dX1_mayStandAt_11 (by decide) ?_
      exact retZ hx hb hr hlocks rfl hP hS hf dX1_mayStandAt_15
