set_option maxHeartbeats 4000000 in
set_option maxRecDepth 100000 in
theorem tX2_loavesToWin {l : Launch} {dC : Nat → ClassId} {dI : Nat → Nat → Nat} {A : Nat → Nat} {t0 : Nat} {cI cJ cZ : ClassId} (hA : dst A) {p0 : Int32} {z : Mem} {r : Int32} {z' : Mem} (hf : fX2_loavesToWin p0 z = some (r, z')) : MI l dC dI A t0 cI cJ cZ yX2_loavesToWin wsX2_loavesToWin 3 [.ref (A 2), .int p0] z r z' := by
  refine Met.ofW (cc := cX2_loavesToWin) (maxL := 5) (ret := (some .int)) (by decide) rfl ?_
  intro p e s m args below meth c s₁ B hml hv
  obtain ⟨rfl, hP, hK, hZ⟩ := hv
  have hx := B.exec
  have hb := B.bytes
  have hr := B.returns
  have hts := atoms_spec (ws := wsX2_loavesToWin) B.pre
  have hown : s.vm.findClass RX2 = some m.cls := findClass_of_methodNamed B.named
  have hlocks := B.notSynchronized
  have hS : va_S (fr A) s.heap s.heap [] := va_S.rf
  have i2 : ∀ w ∈ wsX20, w ∈ wsX2_loavesToWin := fun _ h => List.mem_cons_of_mem _ (List.mem_append_right _ h)
  have hl := lv_entry ([.ref (A 2), .int p0]) (n := 5) (Nat.le_of_ble_eq_true rfl)
  rw [lg_entry_eq]
  generalize (lg_sl ([.ref (A 2), .int p0]) ++ List.replicate (5 - (lg_sl ([.ref (A 2), .int p0])).length) Slot.unset).toArray = ls at hl ⊢
  have hl : lv_has ls 5 [(0, .ref (A 2)), (1, .int p0)] := hl
  have hP : wIs dC dI A cI cJ cZ z s.heap := hP
  rw [fX2_loavesToWin] at hf
  refine lv_iconst (v := 0) hx hb dX2_loavesToWin_0 (by decide) ?_
  refine lv_istore_n (lv' := [(2, .int (0 : Int32)), (0, .ref (A 2)), (1, .int p0)]) hx hb dX2_loavesToWin_1 rfl hl (by decide) rfl (fun ls hl => ?_)
  refine lv_iconst (v := 0) hx hb dX2_loavesToWin_2 (by decide) ?_
  refine lv_istore_n (lv' := [(3, .int (0 : Int32)), (2, .int (0 : Int32)), (0, .ref (A 2)), (1, .int p0)]) hx hb dX2_loavesToWin_3 rfl hl (by decide) rfl (fun ls hl => ?_)
  obtain ⟨K_1, eK_1, hf⟩ := fX2_loavesToWin_L4_g hf
  have hEK_1 : ∀ (x2_3 : Int32) (x3_4 : Int32) (z_2 : Mem) (H : Heap) (locs : List Loc) (ls : Array Slot), K_1 x2_3 x3_4 z_2 = some (r, z') → wIs dC dI A cI cJ cZ z_2 H → va_S (fr A) s.heap H locs → lv_has ls 5 [(0, .ref (A 2)), (1, .int p0), (2, .int x2_3), (3, .int x3_4)] → WI p l e wsX2_loavesToWin 3 s m [.ref (A 2), .int p0] below meth c dC dI A cI cJ cZ r z' H locs (F0 m 65 ls []) := by
    intro x2_3 x3_4 z_2 H locs ls hf hP hS hl
    have hf := ap3 eK_1 hf
    refine lv_iload_n hx hb dX2_loavesToWin_65 rfl (lv_at hl 2 rfl) ?_
    exact retI hx hb hr hlocks hP hS hf dX2_loavesToWin_66
  have hLK_1 : ∀ (n_8 : Nat) (x2_6 : Int32) (x3_7 : Int32) (z_5 : Mem) (H : Heap) (locs : List Loc) (ls : Array Slot), fX2_loavesToWin_L4 K_1 p0 n_8 x2_6 x3_7 z_5 = some (r, z') → wIs dC dI A cI cJ cZ z_5 H → va_S (fr A) s.heap H locs → lv_has ls 5 [(0, .ref (A 2)), (1, .int p0), (2, .int x2_6), (3, .int x3_7)] → WI p l e wsX2_loavesToWin 3 s m [.ref (A 2), .int p0] below meth c dC dI A cI cJ cZ r z' H locs (F0 m 4 ls []) := by
    intro n_8
    induction n_8 with
    | zero => intro x2_6 x3_7 z_5 H locs ls hf; rw [fX2_loavesToWin_L4_0] at hf; cases hf
    | succ n_8 ihK_1 =>
      intro x2_6 x3_7 z_5 H locs ls hf hP hS hl
      rw [fX2_loavesToWin_L4_s] at hf
      refine lv_iload_n hx hb dX2_loavesToWin_4 rfl (lv_at hl 3 rfl) ?_
      refine lv_aload_n hx hb dX2_loavesToWin_5 rfl (lv_at hl 0 rfl) ?_
      refine va_get (D := (dC, dI)) (ci := 2) (v := .int (z_5.1 2 1)) (C := RX2) (T := TX2) (N := 4) hx hb hts i2 hown hK hP 2 (wc_2 A cI cJ cZ z_5) rfl 1 (by decide) (hts (.fieldLink RX2 15 "LightestRules$People" "size" "I") (by decide +kernel)) (fun _ h9 => h9) rfl dX2_loavesToWin_6 ?_
      refine lv_icmp_ge (tgt := 65) hx hb dX2_loavesToWin_9 (by decide) (fun c_9 => ?_) (fun c_9 => ?_)
      · have hf := it_t c_9 hf
        exact hEK_1 _ _ _ _ _ _ hf hP hS (lv_sub hl [0, 1, 2, 3] rfl)
      · have hf := it_f c_9 hf
        refine lv_aload_n hx hb dX2_loavesToWin_12 rfl (lv_at hl 0 rfl) ?_
        refine lv_iload_n hx hb dX2_loavesToWin_13 rfl (lv_at hl 1 rfl) ?_
        obtain ⟨r_10, z_11, h_12, hf⟩ := cl_el hf
        refine callVI (As := [.int p0]) (rest := []) (ci := 2) (q0 := 2) ⟨hx, hb, hml, hown, hts⟩ (tX2_noonWeight_2 (l := l) (dC := dC) (dI := dI) (t0 := t0) (cI := cI) (cJ := cJ) (cZ := cZ) hA h_12) (cwV 1 hts gX2_loavesToWin_X2_noonWeight rfl rfl rfl (by decide +kernel) ⟨Nat.le_of_ble_eq_true rfl, Nat.le_of_ble_eq_true rfl⟩) hK hZ hP hS rfl (wc_2 A cI cJ cZ z_5) rfl rfl rfl hl.1 (Nat.le_of_ble_eq_true rfl) ⟨Nat.zero_le _, Nat.zero_le _⟩ dX2_loavesToWin_14 (fun H locs hP hS => ?_)
        refine lv_aload_n hx hb dX2_loavesToWin_17 rfl (lv_at hl 0 rfl) ?_
        refine lv_iload_n hx hb dX2_loavesToWin_18 rfl (lv_at hl 3 rfl) ?_
        obtain ⟨r_13, z_14, h_15, hf⟩ := cl_el hf
        refine callVI (As := [.int x3_7]) (rest := [.int r_10]) (ci := 2) (q0 := 2) ⟨hx, hb, hml, hown, hts⟩ (tX2_noonWeight_2 (l := l) (dC := dC) (dI := dI) (t0 := t0) (cI := cI) (cJ := cJ) (cZ := cZ) hA h_15) (cwV 1 hts gX2_loavesToWin_X2_noonWeight rfl rfl rfl (by decide +kernel) ⟨Nat.le_of_ble_eq_true rfl, Nat.le_of_ble_eq_true rfl⟩) hK hZ hP hS rfl (wc_2 A cI cJ cZ z_11) rfl rfl rfl hl.1 (Nat.le_of_ble_eq_true rfl) ⟨Nat.zero_le _, Nat.zero_le _⟩ dX2_loavesToWin_19 (fun H locs hP hS => ?_)
        refine lv_isub hx hb dX2_loavesToWin_22 ?_
        refine lv_iload_n hx hb dX2_loavesToWin_23 rfl (lv_at hl 3 rfl) ?_
        refine lv_iload_n hx hb dX2_loavesToWin_24 rfl (lv_at hl 1 rfl) ?_
        obtain ⟨K_16, eK_16, hf⟩ := jn_el hf
        have hK_16 : ∀ (v_17 : Int32) (z_18 : Mem) (H : Heap) (locs : List Loc) (ls : Array Slot), K_16 v_17 z_18 = some (r, z') → wIs dC dI A cI cJ cZ z_18 H → va_S (fr A) s.heap H locs → lv_has ls 5 [(0, .ref (A 2)), (1, .int p0), (2, .int x2_6), (3, .int x3_7)] → WI p l e wsX2_loavesToWin 3 s m [.ref (A 2), .int p0] below meth c dC dI A cI cJ cZ r z' H locs (F0 m 33 ls [.int v_17, .int (r_10 - r_13)]) := by
          intro v_17 z_18 H locs ls hf hP hS hl
          have hf := ap2 eK_16 hf
          refine lv_iadd hx hb dX2_loavesToWin_33 ?_
          refine lv_topi (fun x4_19 ex4_19 => ?_)
          have hf := lt_at ex4_19 hf; clear ex4_19
          refine lv_istore (lv' := [(4, .int x4_19), (0, .ref (A 2)), (1, .int p0), (2, .int x2_6), (3, .int x3_7)]) hx hb dX2_loavesToWin_34 hl (by decide) rfl (fun ls hl => ?_)
          refine lv_iload hx hb dX2_loavesToWin_36 (lv_at hl 0 rfl) ?_
          refine lv_if_le (tgt := 59) hx hb dX2_loavesToWin_38 (by decide) (fun c_20 => ?_) (fun c_20 => ?_)
          · have hf := it_t c_20 hf
            obtain ⟨x3_21, ex3_21⟩ : ∃ q : Int32, q = x3_7 + (1 : Int32) := ⟨_, rfl⟩
            refine lv_iinc (v := x3_21) (lv' := [(3, .int x3_21), (4, .int x4_19), (0, .ref (A 2)), (1, .int p0), (2, .int x2_6)]) hx hb dX2_loavesToWin_59 hl (k := 4) rfl (by rw [ex3_21]; rfl) (by decide) rfl (fun ls hl => ?_)
            have hf := lt_at ex3_21 hf; clear ex3_21
            refine lv_goto (tgt := 4) hx hb dX2_loavesToWin_62 (by decide) ?_
            exact ihK_1 _ _ _ _ _ _ hf hP hS (lv_sub hl [2, 3, 4, 0] rfl)
          · have hf := it_f c_20 hf
            refine lv_iload_n hx hb dX2_loavesToWin_41 rfl (lv_at hl 4 rfl) ?_
            refine lv_iload_n hx hb dX2_loavesToWin_42 rfl (lv_at hl 2 rfl) ?_
            refine lv_icmp_eq (tgt := 59) hx hb dX2_loavesToWin_43 (by decide) (fun c_22 => ?_) (fun c_22 => ?_)
            · have hf := it_t c_22 hf
              obtain ⟨x3_23, ex3_23⟩ : ∃ q : Int32, q = x3_7 + (1 : Int32) := ⟨_, rfl⟩
              refine lv_iinc (v := x3_23) (lv' := [(3, .int x3_23), (4, .int x4_19), (0, .ref (A 2)), (1, .int p0), (2, .int x2_6)]) hx hb dX2_loavesToWin_59 hl (k := 4) rfl (by rw [ex3_23]; rfl) (by decide) rfl (fun ls hl => ?_)
              have hf := lt_at ex3_23 hf; clear ex3_23
              refine lv_goto (tgt := 4) hx hb dX2_loavesToWin_62 (by decide) ?_
              exact ihK_1 _ _ _ _ _ _ hf hP hS (lv_sub hl [2, 3, 4, 0] rfl)
            · have hf := it_f c_22 hf
              refine lv_iload_n hx hb dX2_loavesToWin_46 rfl (lv_at hl 3 rfl) ?_
              refine lv_iload hx hb dX2_loavesToWin_47 (lv_at hl 0 rfl) ?_
              refine lv_bipush (v := 8) hx hb dX2_loavesToWin_49 (by decide) ?_
              refine lv_iadd hx hb dX2_loavesToWin_51 ?_
              refine lv_iconst (v := 1) hx hb dX2_loavesToWin_52 (by decide) ?_
              refine lv_isub hx hb dX2_loavesToWin_53 ?_
              refine lv_bipush (v := 8) hx hb dX2_loavesToWin_54 (by decide) ?_
              obtain ⟨n_24, hf⟩ := nz_el hf
              refine lv_idiv hx hb dX2_loavesToWin_56 n_24 ?_
              refine lv_iadd hx hb dX2_loavesToWin_57 ?_
              refine lv_topi (fun x2_25 ex2_25 => ?_)
              have hf := lt_at ex2_25 hf; clear ex2_25
              refine lv_istore_n (lv' := [(2, .int x2_25), (4, .int x4_19), (0, .ref (A 2)), (1, .int p0), (3, .int x3_7)]) hx hb dX2_loavesToWin_58 rfl hl (by decide) rfl (fun ls hl => ?_)
              obtain ⟨x3_26, ex3_26⟩ : ∃ q : Int32, q = x3_7 + (1 : Int32) := ⟨_, rfl⟩
              refine lv_iinc (v := x3_26) (lv' := [(3, .int x3_26), (2, .int x2_25), (4, .int x4_19), (0, .ref (A 2)), (1, .int p0)]) hx hb dX2_loavesToWin_59 hl (k := 4) rfl (by rw [ex3_26]; rfl) (by decide) rfl (fun ls hl => ?_)
              have hf := lt_at ex3_26 hf; clear ex3_26
              refine lv_goto (tgt := 4) hx hb dX2_loavesToWin_62 (by decide) ?_
              exact ihK_1 _ _ _ _ _ _ hf hP hS (lv_sub hl [3, 4, 1, 0] rfl)
        refine lv_icmp_ge (tgt := 32) hx hb dX2_loavesToWin_25 (by decide) (fun c_27 => ?_) (fun c_27 => ?_)
        · have hf := it_t c_27 hf
          refine lv_iconst (v := 0) hx hb dX2_loavesToWin_32 (by decide) ?_
          exact hK_16 _ _ _ _ _ hf hP hS (lv_sub hl [0, 1, 2, 3] rfl)
        · have hf := it_f c_27 hf
          refine lv_iconst (v := 1) hx hb dX2_loavesToWin_28 (by decide) ?_
          refine lv_goto (tgt := 33) hx hb dX2_loavesToWin_29 (by decide) ?_
          exact hK_16 _ _ _ _ _ hf hP hS (lv_sub hl [0, 1, 2, 3] rfl)
  exact hLK_1 FU _ _ _ _ _ _ hf hP hS (lv_sub hl [2, 3, 1, 0] rfl)
set_option maxHeartbeats 4000000 in
set_option maxRecDepth 100000 in
theorem tX8_feed {l : Launch} {dC : Nat → ClassId} {dI : Nat → Nat → Nat} {A : Nat → Nat} {t0 : Nat} {cI cJ cZ : ClassId} (hA : dst A) {p0 : Int32} {z : Mem} {r : Int32} {z' : Mem} (hf : fX8_feed p0 z = some (r, z')) : MI l dC dI A t0 cI cJ cZ yX8_feed wsX8_feed 4 [.ref (A 0), .int p0] z r z' := by
  refine Met.ofW (cc := cX8_feed) (maxL := 2) (ret := (some .int)) (by decide) rfl ?_
  intro p e s m args below meth c s₁ B hml hv
  obtain ⟨rfl, hP, hK, hZ⟩ := hv
  have hx := B.exec
  have hb := B.bytes
  have hr := B.returns
  have hts := atoms_spec (ws := wsX8_feed) B.pre
  have hown : s.vm.findClass RX8 = some m.cls := findClass_of_methodNamed B.named
  have hlocks := B.notSynchronized
  have hS : va_S (fr A) s.heap s.heap [] := va_S.rf
  have i8 : ∀ w ∈ wsX80, w ∈ wsX8_feed := fun _ h => List.mem_cons_of_mem _ (List.mem_append_left _ (List.mem_append_right _ h))
  have hl := lv_entry ([.ref (A 0), .int p0]) (n := 2) (Nat.le_of_ble_eq_true rfl)
  rw [lg_entry_eq]
  generalize (lg_sl ([.ref (A 0), .int p0]) ++ List.replicate (2 - (lg_sl ([.ref (A 0), .int p0])).length) Slot.unset).toArray = ls at hl ⊢
  have hl : lv_has ls 2 [(0, .ref (A 0)), (1, .int p0)] := hl
  have hP : wIs dC dI A cI cJ cZ z s.heap := hP
  rw [fX8_feed] at hf
  refine lv_aload_n hx hb dX8_feed_0 rfl (lv_at hl 0 rfl) ?_
  refine va_get (D := (dC, dI)) (ci := 8) (v := .ref (A 2)) (C := RX8) (T := TX8) (N := 9) hx hb hts i8 hown hK hP 0 (wc_0 A cI cJ cZ z) rfl 1 (by decide) (hts (.fieldLink RX8 19 "LightestRules" "folk" "LLightestRules$People;") (by decide +kernel)) (fun _ h9 => h9) rfl dX8_feed_1 ?_
  refine lv_iload_n hx hb dX8_feed_4 rfl (lv_at hl 1 rfl) ?_
  obtain ⟨r_1, z_2, h_3, hf⟩ := cl_el hf
  refine callVI (As := [.int p0]) (rest := []) (ci := 2) (q0 := 2) ⟨hx, hb, hml, hown, hts⟩ (tX2_has (l := l) (dC := dC) (dI := dI) (t0 := t0) (cI := cI) (cJ := cJ) (cZ := cZ) hA h_3) (cwV 1 hts gX8_feed_X2_has rfl rfl rfl (by decide +kernel) ⟨Nat.le_of_ble_eq_true rfl, Nat.le_of_ble_eq_true rfl⟩) hK hZ hP hS rfl (wc_2 A cI cJ cZ z) rfl rfl rfl hl.1 (Nat.le_of_ble_eq_true rfl) ⟨Nat.zero_le _, Nat.zero_le _⟩ dX8_feed_5 (fun H locs hP hS => ?_)
  refine lv_if_eq (tgt := 22) hx hb dX8_feed_8 (by decide) (fun c_4 => ?_) (fun c_4 => ?_)
  · have hf := it_t c_4 hf
    refine lv_iconst (v := -1) hx hb dX8_feed_22 (by decide) ?_
    exact retI hx hb hr hlocks hP hS hf dX8_feed_23
  · have hf := it_f c_4 hf
    refine lv_aload_n hx hb dX8_feed_11 rfl (lv_at hl 0 rfl) ?_
    refine va_get (D := (dC, dI)) (ci := 8) (v := .ref (A 2)) (C := RX8) (T := TX8) (N := 9) hx hb hts i8 hown hK hP 0 (wc_0 A cI cJ cZ z_2) rfl 1 (by decide) (hts (.fieldLink RX8 19 "LightestRules" "folk" "LLightestRules$People;") (by decide +kernel)) (fun _ h9 => h9) rfl dX8_feed_12 ?_
    refine lv_iload_n hx hb dX8_feed_15 rfl (lv_at hl 1 rfl) ?_
    obtain ⟨r_5, z_6, h_7, hf⟩ := cl_el hf
    refine callVI (As := [.int p0]) (rest := []) (ci := 2) (q0 := 2) ⟨hx, hb, hml, hown, hts⟩ (tX2_loavesToWin (l := l) (dC := dC) (dI := dI) (t0 := t0) (cI := cI) (cJ := cJ) (cZ := cZ) hA h_7) (cwV 1 hts gX8_feed_X2_loavesToWin rfl rfl rfl (by decide +kernel) ⟨Nat.le_of_ble_eq_true rfl, Nat.le_of_ble_eq_true rfl⟩) hK hZ hP hS rfl (wc_2 A cI cJ cZ z_2) rfl rfl rfl hl.1 (Nat.le_of_ble_eq_true rfl) ⟨Nat.zero_le _, Nat.zero_le _⟩ dX8_feed_16 (fun H locs hP hS => ?_)
    refine lv_goto (tgt := 23) hx hb dX8_feed_19 (by decide) ?_
    exact retI hx hb hr hlocks hP hS hf dX8_feed_23
set_option maxHeartbeats 4000000 in
set_option maxRecDepth 100000 in
theorem tX9_feed {l : Launch} {dC : Nat → ClassId} {dI : Nat → Nat → Nat} {A : Nat → Nat} {t0 : Nat} {cI cJ cZ : ClassId} (hA : dst A) {p0 : Int32} {z : Mem} {r : Int32} {z' : Mem} (hf : fX9_feed p0 z = some (r, z')) : MI l dC dI A t0 cI cJ cZ yX9_feed wsX9_feed 2 [.ref (A 25), .int p0] z r z' := by
  refine Met.ofW (cc := cX9_feed) (maxL := 5) (ret := (some .int)) (by decide) rfl ?_
  intro p e s m args below meth c s₁ B hml hv
  obtain ⟨rfl, hP, hK, hZ⟩ := hv
  have hx := B.exec
  have hb := B.bytes
  have hr := B.returns
  have hts := atoms_spec (ws := wsX9_feed) B.pre
  have hown : s.vm.findClass RX9 = some m.cls := findClass_of_methodNamed B.named
  have hlocks := B.notSynchronized
  have hS : va_S (fr A) s.heap s.heap [] := va_S.rf
  have i9 : ∀ w ∈ wsX90, w ∈ wsX9_feed := fun _ h => List.mem_cons_of_mem _ (List.mem_append_right _ h)
  have hl := lv_entry ([.ref (A 25), .int p0]) (n := 5) (Nat.le_of_ble_eq_true rfl)
  rw [lg_entry_eq]
  generalize (lg_sl ([.ref (A 25), .int p0]) ++ List.replicate (5 - (lg_sl ([.ref (A 25), .int p0])).length) Slot.unset).toArray = ls at hl ⊢
  have hl : lv_has ls 5 [(0, .ref (A 25)), (1, .int p0)] := hl
  have hP : wIs dC dI A cI cJ cZ z s.heap := hP
  rw [fX9_feed] at hf
  refine lv_aload_n hx hb dX9_feed_0 rfl (lv_at hl 0 rfl) ?_
  refine lv_iload_n hx hb dX9_feed_1 rfl (lv_at hl 1 rfl) ?_
  obtain ⟨r_1, z_2, h_3, hf⟩ := cl_el hf
  refine callVI (As := [.int p0]) (rest := []) (ci := 9) (q0 := 25) ⟨hx, hb, hml, hown, hts⟩ (tX9_isPerson (l := l) (dC := dC) (dI := dI) (t0 := t0) (cI := cI) (cJ := cJ) (cZ := cZ) hA h_3) (cwV 1 hts gX9_feed_X9_isPerson rfl rfl rfl (by decide +kernel) ⟨Nat.le_of_ble_eq_true rfl, Nat.le_of_ble_eq_true rfl⟩) hK hZ hP hS rfl (wc_25 A cI cJ cZ z) rfl rfl rfl hl.1 (Nat.le_of_ble_eq_true rfl) ⟨Nat.zero_le _, Nat.zero_le _⟩ dX9_feed_2 (fun H locs hP hS => ?_)
  refine lv_if_ne (tgt := 10) hx hb dX9_feed_5 (by decide) (fun c_4 => ?_) (fun c_4 => ?_)
  · have hf := it_f c_4 hf
    refine lv_iconst (v := 0) hx hb dX9_feed_10 (by decide) ?_
    refine lv_istore_n (lv' := [(2, .int (0 : Int32)), (0, .ref (A 25)), (1, .int p0)]) hx hb dX9_feed_11 rfl hl (by decide) rfl (fun ls hl => ?_)
    refine lv_iconst (v := 0) hx hb dX9_feed_12 (by decide) ?_
    refine lv_istore_n (lv' := [(3, .int (0 : Int32)), (2, .int (0 : Int32)), (0, .ref (A 25)), (1, .int p0)]) hx hb dX9_feed_13 rfl hl (by decide) rfl (fun ls hl => ?_)
    obtain ⟨K_5, eK_5, hf⟩ := fX9_feed_L14_g hf
    have hEK_5 : ∀ (x2_7 : Int32) (x3_8 : Int32) (z_6 : Mem) (H : Heap) (locs : List Loc) (ls : Array Slot), K_5 x2_7 x3_8 z_6 = some (r, z') → wIs dC dI A cI cJ cZ z_6 H → va_S (fr A) s.heap H locs → lv_has ls 5 [(0, .ref (A 25)), (1, .int p0), (2, .int x2_7), (3, .int x3_8)] → WI p l e wsX9_feed 2 s m [.ref (A 25), .int p0] below meth c dC dI A cI cJ cZ r z' H locs (F0 m 64 ls []) := by
      intro x2_7 x3_8 z_6 H locs ls hf hP hS hl
      have hf := ap3 eK_5 hf
      refine lv_iload_n hx hb dX9_feed_64 rfl (lv_at hl 2 rfl) ?_
      exact retI hx hb hr hlocks hP hS hf dX9_feed_65
    have hLK_5 : ∀ (n_12 : Nat) (x2_10 : Int32) (x3_11 : Int32) (z_9 : Mem) (H : Heap) (locs : List Loc) (ls : Array Slot), fX9_feed_L14 K_5 p0 n_12 x2_10 x3_11 z_9 = some (r, z') → wIs dC dI A cI cJ cZ z_9 H → va_S (fr A) s.heap H locs → lv_has ls 5 [(0, .ref (A 25)), (1, .int p0), (2, .int x2_10), (3, .int x3_11)] → WI p l e wsX9_feed 2 s m [.ref (A 25), .int p0] below meth c dC dI A cI cJ cZ r z' H locs (F0 m 14 ls []) := by
      intro n_12
      induction n_12 with
      | zero => intro x2_10 x3_11 z_9 H locs ls hf; rw [fX9_feed_L14_0] at hf; cases hf
      | succ n_12 ihK_5 =>
        intro x2_10 x3_11 z_9 H locs ls hf hP hS hl
        rw [fX9_feed_L14_s] at hf
        refine lv_iload_n hx hb dX9_feed_14 rfl (lv_at hl 3 rfl) ?_
        refine lv_aload_n hx hb dX9_feed_15 rfl (lv_at hl 0 rfl) ?_
        refine va_get (D := (dC, dI)) (ci := 9) (v := .int (z_9.1 25 6)) (C := RX9) (T := TX9) (N := 34) hx hb hts i9 hown hK hP 25 (wc_25 A cI cJ cZ z_9) rfl 6 (by decide) (hts (.fieldLink RX9 104 "LightestRulesModel" "many" "I") (by decide +kernel)) (fun _ h9 => h9) rfl dX9_feed_16 ?_
        refine lv_icmp_ge (tgt := 64) hx hb dX9_feed_19 (by decide) (fun c_13 => ?_) (fun c_13 => ?_)
        · have hf := it_t c_13 hf
          exact hEK_5 _ _ _ _ _ _ hf hP hS (lv_sub hl [0, 1, 2, 3] rfl)
        · have hf := it_f c_13 hf
          refine lv_aload_n hx hb dX9_feed_22 rfl (lv_at hl 0 rfl) ?_
          refine lv_iload_n hx hb dX9_feed_23 rfl (lv_at hl 3 rfl) ?_
          obtain ⟨r_14, z_15, h_16, hf⟩ := cl_el hf
          refine callVI (As := [.int x3_11]) (rest := []) (ci := 9) (q0 := 25) ⟨hx, hb, hml, hown, hts⟩ (tX9_noonOf (l := l) (dC := dC) (dI := dI) (t0 := t0) (cI := cI) (cJ := cJ) (cZ := cZ) hA h_16) (cwV 1 hts gX9_feed_X9_noonOf rfl rfl rfl (by decide +kernel) ⟨Nat.le_of_ble_eq_true rfl, Nat.le_of_ble_eq_true rfl⟩) hK hZ hP hS rfl (wc_25 A cI cJ cZ z_9) rfl rfl rfl hl.1 (Nat.le_of_ble_eq_true rfl) ⟨Nat.zero_le _, Nat.zero_le _⟩ dX9_feed_24 (fun H locs hP hS => ?_)
          refine lv_istore (lv' := [(4, .int r_14), (0, .ref (A 25)), (1, .int p0), (2, .int x2_10), (3, .int x3_11)]) hx hb dX9_feed_27 hl (by decide) rfl (fun ls hl => ?_)
          obtain ⟨K_17, eK_17, hf⟩ := fX9_feed_L29_g hf
          have hEK_17 : ∀ (x2_19 : Int32) (x4_20 : Int32) (z_18 : Mem) (H : Heap) (locs : List Loc) (ls : Array Slot), K_17 x2_19 x4_20 z_18 = some (r, z') → wIs dC dI A cI cJ cZ z_18 H → va_S (fr A) s.heap H locs → lv_has ls 5 [(0, .ref (A 25)), (1, .int p0), (2, .int x2_19), (3, .int x3_11), (4, .int x4_20)] → WI p l e wsX9_feed 2 s m [.ref (A 25), .int p0] below meth c dC dI A cI cJ cZ r z' H locs (F0 m 58 ls []) := by
            intro x2_19 x4_20 z_18 H locs ls hf hP hS hl
            have hf := ap3 eK_17 hf
            obtain ⟨x3_21, ex3_21⟩ : ∃ q : Int32, q = x3_11 + (1 : Int32) := ⟨_, rfl⟩
            refine lv_iinc (v := x3_21) (lv' := [(3, .int x3_21), (0, .ref (A 25)), (1, .int p0), (2, .int x2_19), (4, .int x4_20)]) hx hb dX9_feed_58 hl (k := 3) rfl (by rw [ex3_21]; rfl) (by decide) rfl (fun ls hl => ?_)
            have hf := lt_at ex3_21 hf; clear ex3_21
            refine lv_goto (tgt := 14) hx hb dX9_feed_61 (by decide) ?_
            exact ihK_5 _ _ _ _ _ _ hf hP hS (lv_sub hl [1, 2, 3, 0] rfl)
          have hLK_17 : ∀ (n_25 : Nat) (x2_23 : Int32) (x4_24 : Int32) (z_22 : Mem) (H : Heap) (locs : List Loc) (ls : Array Slot), fX9_feed_L29 K_17 p0 x3_11 n_25 x2_23 x4_24 z_22 = some (r, z') → wIs dC dI A cI cJ cZ z_22 H → va_S (fr A) s.heap H locs → lv_has ls 5 [(0, .ref (A 25)), (1, .int p0), (2, .int x2_23), (3, .int x3_11), (4, .int x4_24)] → WI p l e wsX9_feed 2 s m [.ref (A 25), .int p0] below meth c dC dI A cI cJ cZ r z' H locs (F0 m 29 ls []) := by
            intro n_25
            induction n_25 with
            | zero => intro x2_23 x4_24 z_22 H locs ls hf; rw [fX9_feed_L29_0] at hf; cases hf
            | succ n_25 ihK_17 =>
              intro x2_23 x4_24 z_22 H locs ls hf hP hS hl
              rw [fX9_feed_L29_s] at hf
              refine lv_iload_n hx hb dX9_feed_29 rfl (lv_at hl 3 rfl) ?_
              refine lv_iload_n hx hb dX9_feed_30 rfl (lv_at hl 1 rfl) ?_
              refine lv_icmp_eq (tgt := 58) hx hb dX9_feed_31 (by decide) (fun c_26 => ?_) (fun c_26 => ?_)
              · have hf := it_t c_26 hf
                exact hEK_17 _ _ _ _ _ _ hf hP hS (lv_sub hl [0, 1, 2, 3, 4] rfl)
              · have hf := it_f c_26 hf
                refine lv_aload_n hx hb dX9_feed_34 rfl (lv_at hl 0 rfl) ?_
                refine lv_iload_n hx hb dX9_feed_35 rfl (lv_at hl 1 rfl) ?_
                obtain ⟨r_27, z_28, h_29, hf⟩ := cl_el hf
                refine callVI (As := [.int p0]) (rest := []) (ci := 9) (q0 := 25) ⟨hx, hb, hml, hown, hts⟩ (tX9_noonOf (l := l) (dC := dC) (dI := dI) (t0 := t0) (cI := cI) (cJ := cJ) (cZ := cZ) hA h_29) (cwV 1 hts gX9_feed_X9_noonOf rfl rfl rfl (by decide +kernel) ⟨Nat.le_of_ble_eq_true rfl, Nat.le_of_ble_eq_true rfl⟩) hK hZ hP hS rfl (wc_25 A cI cJ cZ z_22) rfl rfl rfl hl.1 (Nat.le_of_ble_eq_true rfl) ⟨Nat.zero_le _, Nat.zero_le _⟩ dX9_feed_36 (fun H locs hP hS => ?_)
                refine lv_iload_n hx hb dX9_feed_39 rfl (lv_at hl 1 rfl) ?_
                refine lv_iload hx hb dX9_feed_40 (lv_at hl 4 rfl) ?_
                refine lv_iload_n hx hb dX9_feed_42 rfl (lv_at hl 3 rfl) ?_
                obtain ⟨r_30, z_31, h_32, hf⟩ := cl_el hf
                refine callSI (As := [.int r_27, .int p0, .int x4_24, .int x3_11]) (rest := []) ⟨hx, hb, hml, hown, hts⟩ (tX9_isLighter (l := l) (dC := dC) (dI := dI) (t0 := t0) (cI := cI) (cJ := cJ) (cZ := cZ) hA h_32) (va_cwS 4 hts gX9_feed_X9_isLighter rfl rfl rfl (by decide +kernel) ⟨Nat.le_of_ble_eq_true rfl, Nat.le_of_ble_eq_true rfl⟩) hK hZ hP hS rfl rfl hl.1 (Nat.le_of_ble_eq_true rfl) ⟨Nat.zero_le _, Nat.zero_le _⟩ dX9_feed_43 (fun H locs hP hS => ?_)
                refine lv_if_ne (tgt := 58) hx hb dX9_feed_46 (by decide) (fun c_33 => ?_) (fun c_33 => ?_)
                · have hf := it_f c_33 hf
                  exact hEK_17 _ _ _ _ _ _ hf hP hS (lv_sub hl [0, 1, 2, 3, 4] rfl)
                · have hf := it_t c_33 hf
                  obtain ⟨x4_34, ex4_34⟩ : ∃ q : Int32, q = x4_24 + (8 : Int32) := ⟨_, rfl⟩
                  refine lv_iinc (v := x4_34) (lv' := [(4, .int x4_34), (0, .ref (A 25)), (1, .int p0), (2, .int x2_23), (3, .int x3_11)]) hx hb dX9_feed_49 hl (k := 4) rfl (by rw [ex4_34]; rfl) (by decide) rfl (fun ls hl => ?_)
                  have hf := lt_at ex4_34 hf; clear ex4_34
                  obtain ⟨x2_35, ex2_35⟩ : ∃ q : Int32, q = x2_23 + (1 : Int32) := ⟨_, rfl⟩
                  refine lv_iinc (v := x2_35) (lv' := [(2, .int x2_35), (4, .int x4_34), (0, .ref (A 25)), (1, .int p0), (3, .int x3_11)]) hx hb dX9_feed_52 hl (k := 3) rfl (by rw [ex2_35]; rfl) (by decide) rfl (fun ls hl => ?_)
                  have hf := lt_at ex2_35 hf; clear ex2_35
                  refine lv_goto (tgt := 29) hx hb dX9_feed_55 (by decide) ?_
                  exact ihK_17 _ _ _ _ _ _ hf hP hS (lv_sub hl [2, 3, 0, 4, 1] rfl)
          exact hLK_17 FU _ _ _ _ _ _ hf hP hS (lv_sub hl [1, 2, 3, 4, 0] rfl)
    exact hLK_5 FU _ _ _ _ _ _ hf hP hS (lv_sub hl [2, 3, 1, 0] rfl)
  · have hf := it_t c_4 hf
    refine lv_iconst (v := -1) hx hb dX9_feed_8 (by decide) ?_
    exact retI hx hb hr hlocks hP hS hf dX9_feed_9
set_option maxHeartbeats 4000000 in
set_option maxRecDepth 100000 in
theorem tJ6_bitCount_0f7a4 {l : Launch} {dC : Nat → ClassId} {dI : Nat → Nat → Nat} {A : Nat → Nat} {t0 : Nat} {cI cJ cZ : ClassId} (hA : dst A) {p0 : Int32} {z : Mem} {r : Int32} {z' : Mem} (hf : fJ6_bitCount_0f7a4 p0 z = some (r, z')) : MI l dC dI A t0 cI cJ cZ yJ6_bitCount_0f7a4 wsJ6_bitCount_0f7a4 0 [.int p0] z r z' := by
  refine Met.ofW (cc := cJ6_bitCount_0f7a4) (maxL := 1) (ret := (some .int)) (by decide) rfl ?_
  intro p e s m args below meth c s₁ B hml hv
  obtain ⟨rfl, hP, hK, hZ⟩ := hv
  have hx := B.exec
  have hb := B.bytes
  have hr := B.returns
  have hts := atoms_spec (ws := wsJ6_bitCount_0f7a4) B.pre
  have hown : s.vm.findClass RJ6 = some m.cls := findClass_of_methodNamed B.named
  have hlocks := B.notSynchronized
  have hS : va_S (fr A) s.heap s.heap [] := va_S.rf
  have hl := lv_entry ([.int p0]) (n := 1) (Nat.le_of_ble_eq_true rfl)
  rw [lg_entry_eq]
  generalize (lg_sl ([.int p0]) ++ List.replicate (1 - (lg_sl ([.int p0])).length) Slot.unset).toArray = ls at hl ⊢
  have hl : lv_has ls 1 [(0, .int p0)] := hl
  have hP : wIs dC dI A cI cJ cZ z s.heap := hP
  rw [fJ6_bitCount_0f7a4] at hf
  refine lv_iload_n hx hb dJ6_bitCount_0f7a4_0 rfl (lv_at hl 0 rfl) ?_
  refine lv_iload_n hx hb dJ6_bitCount_0f7a4_1 rfl (lv_at hl 0 rfl) ?_
  refine lv_iconst (v := 1) hx hb dJ6_bitCount_0f7a4_2 (by decide) ?_
  refine lv_iushr hx hb dJ6_bitCount_0f7a4_3 rfl ?_
  refine lv_ldcw hx hb hown (hts (.constant RJ6 265 (1431655765)) (by decide +kernel)) dJ6_bitCount_0f7a4_4 ?_
  refine lv_iand hx hb dJ6_bitCount_0f7a4_7 ?_
  refine lv_isub hx hb dJ6_bitCount_0f7a4_8 ?_
  refine lv_topi (fun x0_1 ex0_1 => ?_)
  have hf := lt_at ex0_1 hf; clear ex0_1
  refine lv_istore_n (lv' := [(0, .int x0_1)]) hx hb dJ6_bitCount_0f7a4_9 rfl hl (by decide) rfl (fun ls hl => ?_)
  refine lv_iload_n hx hb dJ6_bitCount_0f7a4_10 rfl (lv_at hl 0 rfl) ?_
  refine lv_ldcw hx hb hown (hts (.constant RJ6 266 (858993459)) (by decide +kernel)) dJ6_bitCount_0f7a4_11 ?_
  refine lv_iand hx hb dJ6_bitCount_0f7a4_14 ?_
  refine lv_iload_n hx hb dJ6_bitCount_0f7a4_15 rfl (lv_at hl 0 rfl) ?_
  refine lv_iconst (v := 2) hx hb dJ6_bitCount_0f7a4_16 (by decide) ?_
  refine lv_iushr hx hb dJ6_bitCount_0f7a4_17 rfl ?_
  refine lv_ldcw hx hb hown (hts (.constant RJ6 266 (858993459)) (by decide +kernel)) dJ6_bitCount_0f7a4_18 ?_
  refine lv_iand hx hb dJ6_bitCount_0f7a4_21 ?_
  refine lv_iadd hx hb dJ6_bitCount_0f7a4_22 ?_
  refine lv_topi (fun y_2 ey_2 => ?_)
  have hf := lt_at ey_2 hf; clear ey_2
  refine lv_istore_n (lv' := [(0, .int y_2)]) hx hb dJ6_bitCount_0f7a4_23 rfl hl (by decide) rfl (fun ls hl => ?_)
  refine lv_iload_n hx hb dJ6_bitCount_0f7a4_24 rfl (lv_at hl 0 rfl) ?_
  refine lv_iload_n hx hb dJ6_bitCount_0f7a4_25 rfl (lv_at hl 0 rfl) ?_
  refine lv_iconst (v := 4) hx hb dJ6_bitCount_0f7a4_26 (by decide) ?_
  refine lv_iushr hx hb dJ6_bitCount_0f7a4_27 rfl ?_
  refine lv_iadd hx hb dJ6_bitCount_0f7a4_28 ?_
  refine lv_ldcw hx hb hown (hts (.constant RJ6 267 (252645135)) (by decide +kernel)) dJ6_bitCount_0f7a4_29 ?_
  refine lv_iand hx hb dJ6_bitCount_0f7a4_32 ?_
  refine lv_topi (fun x0_3 ex0_3 => ?_)
  have hf := lt_at ex0_3 hf; clear ex0_3
  refine lv_istore_n (lv' := [(0, .int x0_3)]) hx hb dJ6_bitCount_0f7a4_33 rfl hl (by decide) rfl (fun ls hl => ?_)
  refine lv_iload_n hx hb dJ6_bitCount_0f7a4_34 rfl (lv_at hl 0 rfl) ?_
  refine lv_iload_n hx hb dJ6_bitCount_0f7a4_35 rfl (lv_at hl 0 rfl) ?_
  refine lv_bipush (v := 8) hx hb dJ6_bitCount_0f7a4_36 (by decide) ?_
  refine lv_iushr hx hb dJ6_bitCount_0f7a4_38 rfl ?_
  refine lv_iadd hx hb dJ6_bitCount_0f7a4_39 ?_
  refine lv_topi (fun x0_4 ex0_4 => ?_)
  have hf := lt_at ex0_4 hf; clear ex0_4
  refine lv_istore_n (lv' := [(0, .int x0_4)]) hx hb dJ6_bitCount_0f7a4_40 rfl hl (by decide) rfl (fun ls hl => ?_)
  refine lv_iload_n hx hb dJ6_bitCount_0f7a4_41 rfl (lv_at hl 0 rfl) ?_
  refine lv_iload_n hx hb dJ6_bitCount_0f7a4_42 rfl (lv_at hl 0 rfl) ?_
  refine lv_bipush (v := 16) hx hb dJ6_bitCount_0f7a4_43 (by decide) ?_
  refine lv_iushr hx hb dJ6_bitCount_0f7a4_45 rfl ?_
  refine lv_iadd hx hb dJ6_bitCount_0f7a4_46 ?_
  refine lv_topi (fun x0_5 ex0_5 => ?_)
  have hf := lt_at ex0_5 hf; clear ex0_5
  refine lv_istore_n (lv' := [(0, .int x0_5)]) hx hb dJ6_bitCount_0f7a4_47 rfl hl (by decide) rfl (fun ls hl => ?_)
  refine lv_iload_n hx hb dJ6_bitCount_0f7a4_48 rfl (lv_at hl 0 rfl) ?_
  refine lv_bipush (v := 63) hx hb dJ6_bitCount_0f7a4_49 (by decide) ?_
  refine lv_iand hx hb dJ6_bitCount_0f7a4_51 ?_
  exact retI hx hb hr hlocks hP hS hf dJ6_bitCount_0f7a4_52
set_option maxHeartbeats 4000000 in
set_option maxRecDepth 100000 in
theorem tX6_mayStand {l : Launch} {dC : Nat → ClassId} {dI : Nat → Nat → Nat} {A : Nat → Nat} {t0 : Nat} {cI cJ cZ : ClassId} (hA : dst A) {p0 : Int32} {p1 : Int32} {z : Mem} {r : Int32} {z' : Mem} (hf : fX6_mayStand p0 p1 z = some (r, z')) : MI l dC dI A t0 cI cJ cZ yX6_mayStand wsX6_mayStand 1 [.int p0, .int p1] z r z' := by
  refine Met.ofW (cc := cX6_mayStand) (maxL := 3) (ret := (some .boolean)) (by decide) rfl ?_
  intro p e s m args below meth c s₁ B hml hv
  obtain ⟨rfl, hP, hK, hZ⟩ := hv
  have hx := B.exec
  have hb := B.bytes
  have hr := B.returns
  have hts := atoms_spec (ws := wsX6_mayStand) B.pre
  have hown : s.vm.findClass RX6 = some m.cls := findClass_of_methodNamed B.named
  have hlocks := B.notSynchronized
  have hS : va_S (fr A) s.heap s.heap [] := va_S.rf
  have hl := lv_entry ([.int p0, .int p1]) (n := 3) (Nat.le_of_ble_eq_true rfl)
  rw [lg_entry_eq]
  generalize (lg_sl ([.int p0, .int p1]) ++ List.replicate (3 - (lg_sl ([.int p0, .int p1])).length) Slot.unset).toArray = ls at hl ⊢
  have hl : lv_has ls 3 [(0, .int p0), (1, .int p1)] := hl
  have hP : wIs dC dI A cI cJ cZ z s.heap := hP
  rw [fX6_mayStand] at hf
  refine lv_iload_n hx hb dX6_mayStand_0 rfl (lv_at hl 0 rfl) ?_
  obtain ⟨K_1, eK_1, hf⟩ := jn_el hf
  have hK_1 : ∀ (v_2 : Int32) (z_3 : Mem) (H : Heap) (locs : List Loc) (ls : Array Slot), K_1 v_2 z_3 = some (r, z') → wIs dC dI A cI cJ cZ z_3 H → va_S (fr A) s.heap H locs → lv_has ls 3 [(0, .int p0), (1, .int p1)] → WI p l e wsX6_mayStand 1 s m [.int p0, .int p1] below meth c dC dI A cI cJ cZ r z' H locs (F0 m 27 ls [.int v_2]) := by
    intro v_2 z_3 H locs ls hf hP hS hl
    have hf := ap2 eK_1 hf
    refine lv_istore_n (lv' := [(2, .int v_2), (0, .int p0), (1, .int p1)]) hx hb dX6_mayStand_27 rfl hl (by decide) rfl (fun ls hl => ?_)
    refine lv_iload_n hx hb dX6_mayStand_28 rfl (lv_at hl 0 rfl) ?_
    refine lv_if_eq (tgt := 53) hx hb dX6_mayStand_29 (by decide) (fun c_4 => ?_) (fun c_4 => ?_)
    · have hf := it_t c_4 hf
      refine lv_iconst (v := 0) hx hb dX6_mayStand_53 (by decide) ?_
      exact retZ hx hb hr hlocks rfl hP hS hf dX6_mayStand_54
    · have hf := it_f c_4 hf
      refine lv_iload_n hx hb dX6_mayStand_32 rfl (lv_at hl 1 rfl) ?_
      refine lv_iload_n hx hb dX6_mayStand_33 rfl (lv_at hl 2 rfl) ?_
      refine lv_iand hx hb dX6_mayStand_34 ?_
      refine lv_if_ne (tgt := 53) hx hb dX6_mayStand_35 (by decide) (fun c_5 => ?_) (fun c_5 => ?_)
      · have hf := it_f c_5 hf
        refine lv_iconst (v := 0) hx hb dX6_mayStand_53 (by decide) ?_
        exact retZ hx hb hr hlocks rfl hP hS hf dX6_mayStand_54
      · have hf := it_t c_5 hf
        refine lv_iload_n hx hb dX6_mayStand_38 rfl (lv_at hl 1 rfl) ?_
        obtain ⟨r_6, z_7, h_8, hf⟩ := cl_el hf
        refine callSI (As := [.int p0]) (rest := []) ⟨hx, hb, hml, hown, hts⟩ (tJ6_bitCount_0f7a4 (l := l) (dC := dC) (dI := dI) (t0 := t0) (cI := cI) (cJ := cJ) (cZ := cZ) hA h_8) (va_cwS 1 hts gX6_mayStand_J6_bitCount_0f7a4 rfl rfl rfl (by decide +kernel) ⟨Nat.le_of_ble_eq_true rfl, Nat.le_of_ble_eq_true rfl⟩) hK hZ hP hS rfl rfl hl.1 (Nat.le_of_ble_eq_true rfl) ⟨Nat.zero_le _, Nat.zero_le _⟩ dX6_mayStand_39 (fun H locs hP hS => ?_)
        refine lv_iload_n hx hb dX6_mayStand_42 rfl (lv_at hl 2 rfl) ?_
        obtain ⟨r_9, z_10, h_11, hf⟩ := cl_el hf
        refine callSI (As := [.int p1]) (rest := [.int r_6]) ⟨hx, hb, hml, hown, hts⟩ (tJ6_bitCount_0f7a4 (l := l) (dC := dC) (dI := dI) (t0 := t0) (cI := cI) (cJ := cJ) (cZ := cZ) hA h_11) (va_cwS 1 hts gX6_mayStand_J6_bitCount_0f7a4 rfl rfl rfl (by decide +kernel) ⟨Nat.le_of_ble_eq_true rfl, Nat.le_of_ble_eq_true rfl⟩) hK hZ hP hS rfl rfl hl.1 (Nat.le_of_ble_eq_true rfl) ⟨Nat.zero_le _, Nat.zero_le _⟩ dX6_mayStand_43 (fun H locs hP hS => ?_)
        refine lv_icmp_ne (tgt := 53) hx hb dX6_mayStand_46 (by decide) (fun c_12 => ?_) (fun c_12 => ?_)
        · have hf := it_f c_12 hf
          refine lv_iconst (v := 0) hx hb dX6_mayStand_53 (by decide) ?_
          exact retZ hx hb hr hlocks rfl hP hS hf dX6_mayStand_54
        · have hf := it_t c_12 hf
          refine lv_iconst (v := 1) hx hb dX6_mayStand_49 (by decide) ?_
          refine lv_goto (tgt := 54) hx hb dX6_mayStand_50 (by decide) ?_
          exact retZ hx hb hr hlocks rfl hP hS hf dX6_mayStand_54
  refine lv_if_le (tgt := 26) hx hb dX6_mayStand_1 (by decide) (fun c_13 => ?_) (fun c_13 => ?_)
  · have hf := it_t c_13 hf
    refine lv_iconst (v := 0) hx hb dX6_mayStand_26 (by decide) ?_
    exact hK_1 _ _ _ _ _ hf hP hS (lv_sub hl [0, 1] rfl)
  · have hf := it_f c_13 hf
    refine lv_iload_n hx hb dX6_mayStand_4 rfl (lv_at hl 0 rfl) ?_
    refine lv_sipush (v := 511) hx hb dX6_mayStand_5 (by decide) ?_
    refine lv_icmp_gt (tgt := 26) hx hb dX6_mayStand_8 (by decide) (fun c_14 => ?_) (fun c_14 => ?_)
    · have hf := it_t c_14 hf
      refine lv_iconst (v := 0) hx hb dX6_mayStand_26 (by decide) ?_
      exact hK_1 _ _ _ _ _ hf hP hS (lv_sub hl [0, 1] rfl)
    · have hf := it_f c_14 hf
      refine lv_iload_n hx hb dX6_mayStand_11 rfl (lv_at hl 1 rfl) ?_
      refine lv_if_le (tgt := 26) hx hb dX6_mayStand_12 (by decide) (fun c_15 => ?_) (fun c_15 => ?_)
      · have hf := it_t c_15 hf
        refine lv_iconst (v := 0) hx hb dX6_mayStand_26 (by decide) ?_
        exact hK_1 _ _ _ _ _ hf hP hS (lv_sub hl [0, 1] rfl)
      · have hf := it_f c_15 hf
        refine lv_iload_n hx hb dX6_mayStand_15 rfl (lv_at hl 1 rfl) ?_
        refine lv_sipush (v := 511) hx hb dX6_mayStand_16 (by decide) ?_
        refine lv_icmp_gt (tgt := 26) hx hb dX6_mayStand_19 (by decide) (fun c_16 => ?_) (fun c_16 => ?_)
        · have hf := it_t c_16 hf
          refine lv_iconst (v := 0) hx hb dX6_mayStand_26 (by decide) ?_
          exact hK_1 _ _ _ _ _ hf hP hS (lv_sub hl [0, 1] rfl)
        · have hf := it_f c_16 hf
          refine lv_iconst (v := 1) hx hb dX6_mayStand_22 (by decide) ?_
          refine lv_goto (tgt := 27) hx hb dX6_mayStand_23 (by decide) ?_
          exact hK_1 _ _ _ _ _ hf hP hS (lv_sub hl [0, 1] rfl)
set_option maxHeartbeats 4000000 in
set_option maxRecDepth 100000 in
theorem tX6_append {l : Launch} {dC : Nat → ClassId} {dI : Nat → Nat → Nat} {A : Nat → Nat} {t0 : Nat} {cI cJ cZ : ClassId} (hA : dst A) {p0 : Int32} {p1 : Int32} {p2 : Int32} {z : Mem} {r : Int32} {z' : Mem} (hf : fX6_append p0 p1 p2 z = some (r, z')) : MI l dC dI A t0 cI cJ cZ yX6_append wsX6_append 0 [.ref (A 5), .int p0, .int p1, .int p2] z r z' := by
  refine Met.ofW (cc := cX6_append) (maxL := 4) (ret := (some .boolean)) (by decide) rfl ?_
  intro p e s m args below meth c s₁ B hml hv
  obtain ⟨rfl, hP, hK, hZ⟩ := hv
  have hx := B.exec
  have hb := B.bytes
  have hr := B.returns
  have hts := atoms_spec (ws := wsX6_append) B.pre
  have hown : s.vm.findClass RX6 = some m.cls := findClass_of_methodNamed B.named
  have hlocks := B.notSynchronized
  have hS : va_S (fr A) s.heap s.heap [] := va_S.rf
  have i6 : ∀ w ∈ wsX60, w ∈ wsX6_append := fun _ h => List.mem_cons_of_mem _ (List.mem_append_right _ h)
  have hl := lv_entry ([.ref (A 5), .int p0, .int p1, .int p2]) (n := 4) (Nat.le_of_ble_eq_true rfl)
  rw [lg_entry_eq]
  generalize (lg_sl ([.ref (A 5), .int p0, .int p1, .int p2]) ++ List.replicate (4 - (lg_sl ([.ref (A 5), .int p0, .int p1, .int p2])).length) Slot.unset).toArray = ls at hl ⊢
  have hl : lv_has ls 4 [(0, .ref (A 5)), (1, .int p0), (2, .int p1), (3, .int p2)] := hl
  have hP : wIs dC dI A cI cJ cZ z s.heap := hP
  rw [fX6_append] at hf
  refine lv_aload_n hx hb dX6_append_0 rfl (lv_at hl 0 rfl) ?_
  refine va_get (D := (dC, dI)) (ci := 6) (v := .int (z.1 5 3)) (C := RX6) (T := TX6) (N := 4) hx hb hts i6 hown hK hP 5 (wc_5 A cI cJ cZ z) rfl 3 (by decide) (hts (.fieldLink RX6 19 "LightestRules$Weighings" "length" "I") (by decide +kernel)) (fun _ h9 => h9) rfl dX6_append_1 ?_
  refine lv_bipush (v := 10) hx hb dX6_append_4 (by decide) ?_
  refine lv_icmp_ne (tgt := 11) hx hb dX6_append_6 (by decide) (fun c_1 => ?_) (fun c_1 => ?_)
  · have hf := it_f c_1 hf
    refine lv_aload_n hx hb dX6_append_11 rfl (lv_at hl 0 rfl) ?_
    refine va_get (D := (dC, dI)) (ci := 6) (v := .ref (A 14)) (C := RX6) (T := TX6) (N := 4) hx hb hts i6 hown hK hP 5 (wc_5 A cI cJ cZ z) rfl 0 (by decide) (hts (.fieldLink RX6 9 "LightestRules$Weighings" "lefts" "[I") (by decide +kernel)) (fun _ h9 => h9) rfl dX6_append_12 ?_
    refine lv_aload_n hx hb dX6_append_15 rfl (lv_at hl 0 rfl) ?_
    refine va_get (D := (dC, dI)) (ci := 6) (v := .int (z.1 5 3)) (C := RX6) (T := TX6) (N := 4) hx hb hts i6 hown hK hP 5 (wc_5 A cI cJ cZ z) rfl 3 (by decide) (hts (.fieldLink RX6 19 "LightestRules$Weighings" "length" "I") (by decide +kernel)) (fun _ h9 => h9) rfl dX6_append_16 ?_
    refine lv_iload_n hx hb dX6_append_19 rfl (lv_at hl 1 rfl) ?_
    obtain ⟨n_2, hf⟩ := rg_el hf
    refine va_iast hx hb hK hP (wD hA cI cJ cZ z) hS 14 0 (wc_14 A cI cJ cZ z) rfl n_2 dX6_append_20 (fun H locs hP _ hS => ?_)
    rw [wa_14 A cI cJ cZ z (z.1 5 3).toNatClampNeg p0] at hP
    obtain ⟨z_3, hP, hf⟩ := lt_P (P := fun q => wIs dC dI A cI cJ cZ q H) hP hf
    refine lv_aload_n hx hb dX6_append_21 rfl (lv_at hl 0 rfl) ?_
    refine va_get (D := (dC, dI)) (ci := 6) (v := .ref (A 15)) (C := RX6) (T := TX6) (N := 4) hx hb hts i6 hown hK hP 5 (wc_5 A cI cJ cZ z_3) rfl 1 (by decide) (hts (.fieldLink RX6 13 "LightestRules$Weighings" "rights" "[I") (by decide +kernel)) (fun _ h9 => h9) rfl dX6_append_22 ?_
    refine lv_aload_n hx hb dX6_append_25 rfl (lv_at hl 0 rfl) ?_
    refine va_get (D := (dC, dI)) (ci := 6) (v := .int (z_3.1 5 3)) (C := RX6) (T := TX6) (N := 4) hx hb hts i6 hown hK hP 5 (wc_5 A cI cJ cZ z_3) rfl 3 (by decide) (hts (.fieldLink RX6 19 "LightestRules$Weighings" "length" "I") (by decide +kernel)) (fun _ h9 => h9) rfl dX6_append_26 ?_
    refine lv_iload_n hx hb dX6_append_29 rfl (lv_at hl 2 rfl) ?_
    obtain ⟨n_4, hf⟩ := rg_el hf
    refine va_iast hx hb hK hP (wD hA cI cJ cZ z_3) hS 15 0 (wc_15 A cI cJ cZ z_3) rfl n_4 dX6_append_30 (fun H locs hP _ hS => ?_)
    rw [wa_15 A cI cJ cZ z_3 (z_3.1 5 3).toNatClampNeg p1] at hP
    obtain ⟨z_5, hP, hf⟩ := lt_P (P := fun q => wIs dC dI A cI cJ cZ q H) hP hf
    refine lv_aload_n hx hb dX6_append_31 rfl (lv_at hl 0 rfl) ?_
    refine va_get (D := (dC, dI)) (ci := 6) (v := .ref (A 16)) (C := RX6) (T := TX6) (N := 4) hx hb hts i6 hown hK hP 5 (wc_5 A cI cJ cZ z_5) rfl 2 (by decide) (hts (.fieldLink RX6 16 "LightestRules$Weighings" "results" "[I") (by decide +kernel)) (fun _ h9 => h9) rfl dX6_append_32 ?_
    refine lv_aload_n hx hb dX6_append_35 rfl (lv_at hl 0 rfl) ?_
    refine va_get (D := (dC, dI)) (ci := 6) (v := .int (z_5.1 5 3)) (C := RX6) (T := TX6) (N := 4) hx hb hts i6 hown hK hP 5 (wc_5 A cI cJ cZ z_5) rfl 3 (by decide) (hts (.fieldLink RX6 19 "LightestRules$Weighings" "length" "I") (by decide +kernel)) (fun _ h9 => h9) rfl dX6_append_36 ?_
    refine lv_iload_n hx hb dX6_append_39 rfl (lv_at hl 3 rfl) ?_
    obtain ⟨n_6, hf⟩ := rg_el hf
    refine va_iast hx hb hK hP (wD hA cI cJ cZ z_5) hS 16 0 (wc_16 A cI cJ cZ z_5) rfl n_6 dX6_append_40 (fun H locs hP _ hS => ?_)
    rw [wa_16 A cI cJ cZ z_5 (z_5.1 5 3).toNatClampNeg p2] at hP
    obtain ⟨z_7, hP, hf⟩ := lt_P (P := fun q => wIs dC dI A cI cJ cZ q H) hP hf
    refine lv_aload_n hx hb dX6_append_41 rfl (lv_at hl 0 rfl) ?_
    refine lv_dup hx hb dX6_append_42 rfl ?_
    refine va_get (D := (dC, dI)) (ci := 6) (v := .int (z_7.1 5 3)) (C := RX6) (T := TX6) (N := 4) hx hb hts i6 hown hK hP 5 (wc_5 A cI cJ cZ z_7) rfl 3 (by decide) (hts (.fieldLink RX6 19 "LightestRules$Weighings" "length" "I") (by decide +kernel)) (fun _ h9 => h9) rfl dX6_append_43 ?_
    refine lv_iconst (v := 1) hx hb dX6_append_46 (by decide) ?_
    refine lv_iadd hx hb dX6_append_47 ?_
    refine lv_topi (fun y_8 ey_8 => ?_)
    have hf := lt_at ey_8 hf; clear ey_8
    refine va_put (D := (dC, dI)) (ci := 6) (v := .int y_8) (ty := .int) (C := RX6) (T := TX6) (N := 4) hx hb hts i6 tyX6 tyX6_ok nmX6 hown hK hP (wD hA cI cJ cZ z_7) hS 5 (wc_5 A cI cJ cZ z_7) rfl 3 (by decide) (hts (.fieldLink RX6 19 "LightestRules$Weighings" "length" "I") (by decide +kernel)) (fun _ h9 => h9) rfl (by decide +kernel) rfl rfl (Nat.le_of_ble_eq_true rfl) dX6_append_48 (fun H locs hP _ hS => ?_)
    rw [ws_5_3 A cI cJ cZ z_7 y_8] at hP
    obtain ⟨z_9, hP, hf⟩ := lt_P (P := fun q => wIs dC dI A cI cJ cZ q H) hP hf
    refine lv_iconst (v := 1) hx hb dX6_append_51 (by decide) ?_
    exact retZ hx hb hr hlocks rfl hP hS hf dX6_append_52
  · have hf := it_t c_1 hf
    refine lv_iconst (v := 0) hx hb dX6_append_9 (by decide) ?_
    exact retZ hx hb hr hlocks rfl hP hS hf dX6_append_10
set_option maxHeartbeats 4000000 in
set_option maxRecDepth 100000 in
theorem tX6_length {l : Launch} {dC : Nat → ClassId} {dI : Nat → Nat → Nat} {A : Nat → Nat} {t0 : Nat} {cI cJ cZ : ClassId} (hA : dst A)  {z : Mem} {r : Int32} {z' : Mem} (hf : fX6_length z = some (r, z')) : MI l dC dI A t0 cI cJ cZ yX6_length wsX6_length 0 [.ref (A 5)] z r z' := by
  refine Met.ofW (cc := cX6_length) (maxL := 1) (ret := (some .int)) (by decide) rfl ?_
  intro p e s m args below meth c s₁ B hml hv
  obtain ⟨rfl, hP, hK, hZ⟩ := hv
  have hx := B.exec
  have hb := B.bytes
  have hr := B.returns
  have hts := atoms_spec (ws := wsX6_length) B.pre
  have hown : s.vm.findClass RX6 = some m.cls := findClass_of_methodNamed B.named
  have hlocks := B.notSynchronized
  have hS : va_S (fr A) s.heap s.heap [] := va_S.rf
  have i6 : ∀ w ∈ wsX60, w ∈ wsX6_length := fun _ h => List.mem_cons_of_mem _ (List.mem_append_right _ h)
  have hl := lv_entry ([.ref (A 5)]) (n := 1) (Nat.le_of_ble_eq_true rfl)
  rw [lg_entry_eq]
  generalize (lg_sl ([.ref (A 5)]) ++ List.replicate (1 - (lg_sl ([.ref (A 5)])).length) Slot.unset).toArray = ls at hl ⊢
  have hl : lv_has ls 1 [(0, .ref (A 5))] := hl
  have hP : wIs dC dI A cI cJ cZ z s.heap := hP
  rw [fX6_length] at hf
  refine lv_aload_n hx hb dX6_length_0 rfl (lv_at hl 0 rfl) ?_
  refine va_get (D := (dC, dI)) (ci := 6) (v := .int (z.1 5 3)) (C := RX6) (T := TX6) (N := 4) hx hb hts i6 hown hK hP 5 (wc_5 A cI cJ cZ z) rfl 3 (by decide) (hts (.fieldLink RX6 19 "LightestRules$Weighings" "length" "I") (by decide +kernel)) (fun _ h9 => h9) rfl dX6_length_1 ?_
  exact retI hx hb hr hlocks hP hS hf dX6_length_4
set_option maxHeartbeats 4000000 in
set_option maxRecDepth 100000 in
theorem tX8_weigh {l : Launch} {dC : Nat → ClassId} {dI : Nat → Nat → Nat} {A : Nat → Nat} {t0 : Nat} {cI cJ cZ : ClassId} (hA : dst A) {p0 : Int32} {p1 : Int32} {p2 : Int32} {z : Mem} {r : Int32} {z' : Mem} (hf : fX8_weigh p0 p1 p2 z = some (r, z')) : MI l dC dI A t0 cI cJ cZ yX8_weigh wsX8_weigh 2 [.ref (A 0), .int p0, .int p1, .int p2] z r z' := by
  refine Met.ofW (cc := cX8_weigh) (maxL := 4) (ret := (some .int)) (by decide) rfl ?_
  intro p e s m args below meth c s₁ B hml hv
  obtain ⟨rfl, hP, hK, hZ⟩ := hv
  have hx := B.exec
  have hb := B.bytes
  have hr := B.returns
  have hts := atoms_spec (ws := wsX8_weigh) B.pre
  have hown : s.vm.findClass RX8 = some m.cls := findClass_of_methodNamed B.named
  have hlocks := B.notSynchronized
  have hS : va_S (fr A) s.heap s.heap [] := va_S.rf
  have i8 : ∀ w ∈ wsX80, w ∈ wsX8_weigh := fun _ h => List.mem_cons_of_mem _ (List.mem_append_left _ (List.mem_append_right _ h))
  have hl := lv_entry ([.ref (A 0), .int p0, .int p1, .int p2]) (n := 4) (Nat.le_of_ble_eq_true rfl)
  rw [lg_entry_eq]
  generalize (lg_sl ([.ref (A 0), .int p0, .int p1, .int p2]) ++ List.replicate (4 - (lg_sl ([.ref (A 0), .int p0, .int p1, .int p2])).length) Slot.unset).toArray = ls at hl ⊢
  have hl : lv_has ls 4 [(0, .ref (A 0)), (1, .int p0), (2, .int p1), (3, .int p2)] := hl
  have hP : wIs dC dI A cI cJ cZ z s.heap := hP
  rw [fX8_weigh] at hf
  refine lv_iload_n hx hb dX8_weigh_0 rfl (lv_at hl 1 rfl) ?_
  refine lv_iload_n hx hb dX8_weigh_1 rfl (lv_at hl 2 rfl) ?_
  obtain ⟨r_1, z_2, h_3, hf⟩ := cl_el hf
  refine callSI (As := [.int p0, .int p1]) (rest := []) ⟨hx, hb, hml, hown, hts⟩ (tX6_mayStand (l := l) (dC := dC) (dI := dI) (t0 := t0) (cI := cI) (cJ := cJ) (cZ := cZ) hA h_3) (va_cwS 2 hts gX8_weigh_X6_mayStand rfl rfl rfl (by decide +kernel) ⟨Nat.le_of_ble_eq_true rfl, Nat.le_of_ble_eq_true rfl⟩) hK hZ hP hS rfl rfl hl.1 (Nat.le_of_ble_eq_true rfl) ⟨Nat.zero_le _, Nat.zero_le _⟩ dX8_weigh_2 (fun H locs hP hS => ?_)
  refine lv_if_eq (tgt := 17) hx hb dX8_weigh_5 (by decide) (fun c_4 => ?_) (fun c_4 => ?_)
  · have hf := it_t c_4 hf
    refine lv_bipush (v := -2) hx hb dX8_weigh_17 (by decide) ?_
    exact retI hx hb hr hlocks hP hS hf dX8_weigh_19
  · have hf := it_f c_4 hf
    refine lv_iload_n hx hb dX8_weigh_8 rfl (lv_at hl 3 rfl) ?_
    refine lv_if_lt (tgt := 17) hx hb dX8_weigh_9 (by decide) (fun c_5 => ?_) (fun c_5 => ?_)
    · have hf := it_t c_5 hf
      refine lv_bipush (v := -2) hx hb dX8_weigh_17 (by decide) ?_
      exact retI hx hb hr hlocks hP hS hf dX8_weigh_19
    · have hf := it_f c_5 hf
      refine lv_iload_n hx hb dX8_weigh_12 rfl (lv_at hl 3 rfl) ?_
      refine lv_iconst (v := 2) hx hb dX8_weigh_13 (by decide) ?_
      refine lv_icmp_le (tgt := 20) hx hb dX8_weigh_14 (by decide) (fun c_6 => ?_) (fun c_6 => ?_)
      · have hf := it_t c_6 hf
        refine lv_aload_n hx hb dX8_weigh_20 rfl (lv_at hl 0 rfl) ?_
        refine va_get (D := (dC, dI)) (ci := 8) (v := .ref (A 5)) (C := RX8) (T := TX8) (N := 9) hx hb hts i8 hown hK hP 0 (wc_0 A cI cJ cZ z_2) rfl 4 (by decide) (hts (.fieldLink RX8 40 "LightestRules" "weighings" "LLightestRules$Weighings;") (by decide +kernel)) (fun _ h9 => h9) rfl dX8_weigh_21 ?_
        refine lv_iload_n hx hb dX8_weigh_24 rfl (lv_at hl 1 rfl) ?_
        refine lv_iload_n hx hb dX8_weigh_25 rfl (lv_at hl 2 rfl) ?_
        refine lv_iload_n hx hb dX8_weigh_26 rfl (lv_at hl 3 rfl) ?_
        obtain ⟨r_7, z_8, h_9, hf⟩ := cl_el hf
        refine callVI (As := [.int p0, .int p1, .int p2]) (rest := []) (ci := 6) (q0 := 5) ⟨hx, hb, hml, hown, hts⟩ (tX6_append (l := l) (dC := dC) (dI := dI) (t0 := t0) (cI := cI) (cJ := cJ) (cZ := cZ) hA h_9) (cwV 3 hts gX8_weigh_X6_append rfl rfl rfl (by decide +kernel) ⟨Nat.le_of_ble_eq_true rfl, Nat.le_of_ble_eq_true rfl⟩) hK hZ hP hS rfl (wc_5 A cI cJ cZ z_2) rfl rfl rfl hl.1 (Nat.le_of_ble_eq_true rfl) ⟨Nat.zero_le _, Nat.zero_le _⟩ dX8_weigh_27 (fun H locs hP hS => ?_)
        refine lv_if_eq (tgt := 43) hx hb dX8_weigh_30 (by decide) (fun c_10 => ?_) (fun c_10 => ?_)
        · have hf := it_t c_10 hf
          refine lv_bipush (v := -4) hx hb dX8_weigh_43 (by decide) ?_
          exact retI hx hb hr hlocks hP hS hf dX8_weigh_45
        · have hf := it_f c_10 hf
          refine lv_aload_n hx hb dX8_weigh_33 rfl (lv_at hl 0 rfl) ?_
          refine va_get (D := (dC, dI)) (ci := 8) (v := .ref (A 5)) (C := RX8) (T := TX8) (N := 9) hx hb hts i8 hown hK hP 0 (wc_0 A cI cJ cZ z_8) rfl 4 (by decide) (hts (.fieldLink RX8 40 "LightestRules" "weighings" "LLightestRules$Weighings;") (by decide +kernel)) (fun _ h9 => h9) rfl dX8_weigh_34 ?_
          obtain ⟨r_11, z_12, h_13, hf⟩ := cl_el hf
          refine callVI (As := []) (rest := []) (ci := 6) (q0 := 5) ⟨hx, hb, hml, hown, hts⟩ (tX6_length (l := l) (dC := dC) (dI := dI) (t0 := t0) (cI := cI) (cJ := cJ) (cZ := cZ) hA h_13) (cwV 0 hts gX8_weigh_X6_length rfl rfl rfl (by decide +kernel) ⟨Nat.le_of_ble_eq_true rfl, Nat.le_of_ble_eq_true rfl⟩) hK hZ hP hS rfl (wc_5 A cI cJ cZ z_8) rfl rfl rfl hl.1 (Nat.le_of_ble_eq_true rfl) ⟨Nat.zero_le _, Nat.zero_le _⟩ dX8_weigh_37 (fun H locs hP hS => ?_)
          refine lv_goto (tgt := 45) hx hb dX8_weigh_40 (by decide) ?_
          exact retI hx hb hr hlocks hP hS hf dX8_weigh_45
      · have hf := it_f c_6 hf
        refine lv_bipush (v := -2) hx hb dX8_weigh_17 (by decide) ?_
        exact retI hx hb hr hlocks hP hS hf dX8_weigh_19
