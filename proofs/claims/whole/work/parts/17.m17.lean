set_option maxHeartbeats 4000000 in
set_option maxRecDepth 100000 in
theorem tX2_illBits_2 {l : Launch} {dC : Nat → ClassId} {dI : Nat → Nat → Nat} {A : Nat → Nat} {t0 : Nat} {cI cJ cZ : ClassId} (hA : dst A)  {z : Mem} {r : Int32} {z' : Mem} (hf : fX2_illBits_2 z = some (r, z')) : MI l dC dI A t0 cI cJ cZ yX2_illBits wsX2_illBits 2 [.ref (A 2)] z r z' := by
  refine Met.ofW (cc := cX2_illBits) (maxL := 3) (ret := (some .int)) (by decide) rfl ?_
  intro p e s m args below meth c s₁ B hml hv
  obtain ⟨rfl, hP, hK, hZ⟩ := hv
  have hx := B.exec
  have hb := B.bytes
  have hr := B.returns
  have hts := atoms_spec (ws := wsX2_illBits) B.pre
  have hown : s.vm.findClass RX2 = some m.cls := findClass_of_methodNamed B.named
  have hlocks := B.notSynchronized
  have hS : va_S (fr A) s.heap s.heap [] := va_S.rf
  have i2 : ∀ w ∈ wsX20, w ∈ wsX2_illBits := fun _ h => List.mem_cons_of_mem _ (List.mem_append_right _ h)
  have hl := lv_entry ([.ref (A 2)]) (n := 3) (Nat.le_of_ble_eq_true rfl)
  rw [lg_entry_eq]
  generalize (lg_sl ([.ref (A 2)]) ++ List.replicate (3 - (lg_sl ([.ref (A 2)])).length) Slot.unset).toArray = ls at hl ⊢
  have hl : lv_has ls 3 [(0, .ref (A 2))] := hl
  have hP : wIs dC dI A cI cJ cZ z s.heap := hP
  rw [fX2_illBits_2] at hf
  refine lv_iconst (v := 0) hx hb dX2_illBits_0 (by decide) ?_
  refine lv_istore_n (lv' := [(1, .int (0 : Int32)), (0, .ref (A 2))]) hx hb dX2_illBits_1 rfl hl (by decide) rfl (fun ls hl => ?_)
  refine lv_iconst (v := 0) hx hb dX2_illBits_2 (by decide) ?_
  refine lv_istore_n (lv' := [(2, .int (0 : Int32)), (1, .int (0 : Int32)), (0, .ref (A 2))]) hx hb dX2_illBits_3 rfl hl (by decide) rfl (fun ls hl => ?_)
  obtain ⟨K_1, eK_1, hf⟩ := fX2_illBits_2_L4_g hf
  have hEK_1 : ∀ (x1_3 : Int32) (x2_4 : Int32) (z_2 : Mem) (H : Heap) (locs : List Loc) (ls : Array Slot), K_1 x1_3 x2_4 z_2 = some (r, z') → wIs dC dI A cI cJ cZ z_2 H → va_S (fr A) s.heap H locs → lv_has ls 3 [(0, .ref (A 2)), (1, .int x1_3), (2, .int x2_4)] → WI p l e wsX2_illBits 2 s m [.ref (A 2)] below meth c dC dI A cI cJ cZ r z' H locs (F0 m 32 ls []) := by
    intro x1_3 x2_4 z_2 H locs ls hf hP hS hl
    have hf := ap3 eK_1 hf
    refine lv_iload_n hx hb dX2_illBits_32 rfl (lv_at hl 1 rfl) ?_
    exact retI hx hb hr hlocks hP hS hf dX2_illBits_33
  have hLK_1 : ∀ (n_8 : Nat) (x1_6 : Int32) (x2_7 : Int32) (z_5 : Mem) (H : Heap) (locs : List Loc) (ls : Array Slot), fX2_illBits_2_L4 K_1  n_8 x1_6 x2_7 z_5 = some (r, z') → wIs dC dI A cI cJ cZ z_5 H → va_S (fr A) s.heap H locs → lv_has ls 3 [(0, .ref (A 2)), (1, .int x1_6), (2, .int x2_7)] → WI p l e wsX2_illBits 2 s m [.ref (A 2)] below meth c dC dI A cI cJ cZ r z' H locs (F0 m 4 ls []) := by
    intro n_8
    induction n_8 with
    | zero => intro x1_6 x2_7 z_5 H locs ls hf; rw [fX2_illBits_2_L4_0] at hf; cases hf
    | succ n_8 ihK_1 =>
      intro x1_6 x2_7 z_5 H locs ls hf hP hS hl
      rw [fX2_illBits_2_L4_s] at hf
      refine lv_iload_n hx hb dX2_illBits_4 rfl (lv_at hl 2 rfl) ?_
      refine lv_aload_n hx hb dX2_illBits_5 rfl (lv_at hl 0 rfl) ?_
      refine va_get (D := (dC, dI)) (ci := 2) (v := .int (z_5.1 2 1)) (C := RX2) (T := TX2) (N := 4) hx hb hts i2 hown hK hP 2 (wc_2 A cI cJ cZ z_5) rfl 1 (by decide) (hts (.fieldLink RX2 15 "LightestRules$People" "size" "I") (by decide +kernel)) (fun _ h9 => h9) rfl dX2_illBits_6 ?_
      refine lv_icmp_ge (tgt := 32) hx hb dX2_illBits_9 (by decide) (fun c_9 => ?_) (fun c_9 => ?_)
      · have hf := it_t c_9 hf
        exact hEK_1 _ _ _ _ _ _ hf hP hS (lv_sub hl [0, 1, 2] rfl)
      · have hf := it_f c_9 hf
        refine lv_aload_n hx hb dX2_illBits_12 rfl (lv_at hl 0 rfl) ?_
        refine lv_iload_n hx hb dX2_illBits_13 rfl (lv_at hl 2 rfl) ?_
        obtain ⟨r_10, z_11, h_12, hf⟩ := cl_el hf
        refine callVI (As := [.int x2_7]) (rest := []) (ci := 2) (q0 := 2) ⟨hx, hb, hml, hown, hts⟩ (tX2_isIll_2 (l := l) (dC := dC) (dI := dI) (t0 := t0) (cI := cI) (cJ := cJ) (cZ := cZ) hA h_12) (cwV 1 hts gX2_illBits_X2_isIll rfl rfl rfl (by decide +kernel) ⟨Nat.le_of_ble_eq_true rfl, Nat.le_of_ble_eq_true rfl⟩) hK hZ hP hS rfl (wc_2 A cI cJ cZ z_5) rfl rfl rfl hl.1 (Nat.le_of_ble_eq_true rfl) ⟨Nat.zero_le _, Nat.zero_le _⟩ dX2_illBits_14 (fun H locs hP hS => ?_)
        refine lv_if_eq (tgt := 26) hx hb dX2_illBits_17 (by decide) (fun c_13 => ?_) (fun c_13 => ?_)
        · have hf := it_t c_13 hf
          obtain ⟨x2_14, ex2_14⟩ : ∃ q : Int32, q = x2_7 + (1 : Int32) := ⟨_, rfl⟩
          refine lv_iinc (v := x2_14) (lv' := [(2, .int x2_14), (0, .ref (A 2)), (1, .int x1_6)]) hx hb dX2_illBits_26 hl (k := 2) rfl (by rw [ex2_14]; rfl) (by decide) rfl (fun ls hl => ?_)
          have hf := lt_at ex2_14 hf; clear ex2_14
          refine lv_goto (tgt := 4) hx hb dX2_illBits_29 (by decide) ?_
          exact ihK_1 _ _ _ _ _ _ hf hP hS (lv_sub hl [1, 2, 0] rfl)
        · have hf := it_f c_13 hf
          refine lv_iload_n hx hb dX2_illBits_20 rfl (lv_at hl 1 rfl) ?_
          refine lv_iconst (v := 1) hx hb dX2_illBits_21 (by decide) ?_
          refine lv_iload_n hx hb dX2_illBits_22 rfl (lv_at hl 2 rfl) ?_
          refine lv_ishl hx hb dX2_illBits_23 ?_
          refine lv_ior hx hb dX2_illBits_24 ?_
          refine lv_topi (fun x1_15 ex1_15 => ?_)
          have hf := lt_at ex1_15 hf; clear ex1_15
          refine lv_istore_n (lv' := [(1, .int x1_15), (0, .ref (A 2)), (2, .int x2_7)]) hx hb dX2_illBits_25 rfl hl (by decide) rfl (fun ls hl => ?_)
          obtain ⟨x2_16, ex2_16⟩ : ∃ q : Int32, q = x2_7 + (1 : Int32) := ⟨_, rfl⟩
          refine lv_iinc (v := x2_16) (lv' := [(2, .int x2_16), (1, .int x1_15), (0, .ref (A 2))]) hx hb dX2_illBits_26 hl (k := 2) rfl (by rw [ex2_16]; rfl) (by decide) rfl (fun ls hl => ?_)
          have hf := lt_at ex2_16 hf; clear ex2_16
          refine lv_goto (tgt := 4) hx hb dX2_illBits_29 (by decide) ?_
          exact ihK_1 _ _ _ _ _ _ hf hP hS (lv_sub hl [2, 1, 0] rfl)
  exact hLK_1 FU _ _ _ _ _ _ hf hP hS (lv_sub hl [2, 1, 0] rfl)
set_option maxHeartbeats 4000000 in
set_option maxRecDepth 100000 in
theorem tX2_crownedBy_2 {l : Launch} {dC : Nat → ClassId} {dI : Nat → Nat → Nat} {A : Nat → Nat} {t0 : Nat} {cI cJ cZ : ClassId} (hA : dst A) {p0 : Int32} {z : Mem} {r : Int32} {z' : Mem} (hf : fX2_crownedBy_2 p0 z = some (r, z')) : MI l dC dI A t0 cI cJ cZ yX2_crownedBy wsX2_crownedBy 4 [.ref (A 2), .int p0] z r z' := by
  refine Met.ofW (cc := cX2_crownedBy) (maxL := 3) (ret := (some .int)) (by decide) rfl ?_
  intro p e s m args below meth c s₁ B hml hv
  obtain ⟨rfl, hP, hK, hZ⟩ := hv
  have hx := B.exec
  have hb := B.bytes
  have hr := B.returns
  have hts := atoms_spec (ws := wsX2_crownedBy) B.pre
  have hown : s.vm.findClass RX2 = some m.cls := findClass_of_methodNamed B.named
  have hlocks := B.notSynchronized
  have hS : va_S (fr A) s.heap s.heap [] := va_S.rf
  have hl := lv_entry ([.ref (A 2), .int p0]) (n := 3) (Nat.le_of_ble_eq_true rfl)
  rw [lg_entry_eq]
  generalize (lg_sl ([.ref (A 2), .int p0]) ++ List.replicate (3 - (lg_sl ([.ref (A 2), .int p0])).length) Slot.unset).toArray = ls at hl ⊢
  have hl : lv_has ls 3 [(0, .ref (A 2)), (1, .int p0)] := hl
  have hP : wIs dC dI A cI cJ cZ z s.heap := hP
  rw [fX2_crownedBy_2] at hf
  refine lv_iload_n hx hb dX2_crownedBy_0 rfl (lv_at hl 1 rfl) ?_
  refine lv_iconst (v := 2) hx hb dX2_crownedBy_1 (by decide) ?_
  refine lv_icmp_ne (tgt := 14) hx hb dX2_crownedBy_2 (by decide) (fun c_1 => ?_) (fun c_1 => ?_)
  · have hf := it_f c_1 hf
    refine lv_aload_n hx hb dX2_crownedBy_14 rfl (lv_at hl 0 rfl) ?_
    refine lv_iconst (v := 0) hx hb dX2_crownedBy_15 (by decide) ?_
    obtain ⟨r_2, z_3, h_4, hf⟩ := cl_el hf
    refine callVI (As := [.int (0 : Int32)]) (rest := []) (ci := 2) (q0 := 2) ⟨hx, hb, hml, hown, hts⟩ (tX2_lightestBut_2 (l := l) (dC := dC) (dI := dI) (t0 := t0) (cI := cI) (cJ := cJ) (cZ := cZ) hA h_4) (cwV 1 hts gX2_crownedBy_X2_lightestBut rfl rfl rfl (by decide +kernel) ⟨Nat.le_of_ble_eq_true rfl, Nat.le_of_ble_eq_true rfl⟩) hK hZ hP hS rfl (wc_2 A cI cJ cZ z) rfl rfl rfl hl.1 (Nat.le_of_ble_eq_true rfl) ⟨Nat.zero_le _, Nat.zero_le _⟩ dX2_crownedBy_16 (fun H locs hP hS => ?_)
    refine lv_istore_n (lv' := [(2, .int r_2), (0, .ref (A 2)), (1, .int p0)]) hx hb dX2_crownedBy_19 rfl hl (by decide) rfl (fun ls hl => ?_)
    refine lv_iload_n hx hb dX2_crownedBy_20 rfl (lv_at hl 2 rfl) ?_
    refine lv_iconst (v := 1) hx hb dX2_crownedBy_21 (by decide) ?_
    refine lv_icmp_ne (tgt := 41) hx hb dX2_crownedBy_22 (by decide) (fun c_5 => ?_) (fun c_5 => ?_)
    · have hf := it_f c_5 hf
      refine lv_iload_n hx hb dX2_crownedBy_41 rfl (lv_at hl 0 rfl) ?_
      exact retI hx hb hr hlocks hP hS hf dX2_crownedBy_42
    · have hf := it_t c_5 hf
      refine lv_iload_n hx hb dX2_crownedBy_25 rfl (lv_at hl 0 rfl) ?_
      refine lv_bipush (v := -9) hx hb dX2_crownedBy_26 (by decide) ?_
      refine lv_icmp_eq (tgt := 41) hx hb dX2_crownedBy_28 (by decide) (fun c_6 => ?_) (fun c_6 => ?_)
      · have hf := it_t c_6 hf
        refine lv_iload_n hx hb dX2_crownedBy_41 rfl (lv_at hl 0 rfl) ?_
        exact retI hx hb hr hlocks hP hS hf dX2_crownedBy_42
      · have hf := it_f c_6 hf
        refine lv_aload_n hx hb dX2_crownedBy_31 rfl (lv_at hl 1 rfl) ?_
        refine lv_iconst (v := 1) hx hb dX2_crownedBy_32 (by decide) ?_
        refine lv_iload_n hx hb dX2_crownedBy_33 rfl (lv_at hl 0 rfl) ?_
        refine lv_ishl hx hb dX2_crownedBy_34 ?_
        obtain ⟨r_7, z_8, h_9, hf⟩ := cl_el hf
        refine callVI (As := [.int ((1 : Int32) <<< (r_2 &&& 31))]) (rest := []) (ci := 2) (q0 := 2) ⟨hx, hb, hml, hown, hts⟩ (tX2_lightestBut_2 (l := l) (dC := dC) (dI := dI) (t0 := t0) (cI := cI) (cJ := cJ) (cZ := cZ) hA h_9) (cwV 1 hts gX2_crownedBy_X2_lightestBut rfl rfl rfl (by decide +kernel) ⟨Nat.le_of_ble_eq_true rfl, Nat.le_of_ble_eq_true rfl⟩) hK hZ hP hS rfl (wc_2 A cI cJ cZ z_3) rfl rfl rfl hl.1 (Nat.le_of_ble_eq_true rfl) ⟨Nat.zero_le _, Nat.zero_le _⟩ dX2_crownedBy_35 (fun H locs hP hS => ?_)
        refine lv_goto (tgt := 42) hx hb dX2_crownedBy_38 (by decide) ?_
        exact retI hx hb hr hlocks hP hS hf dX2_crownedBy_42
  · have hf := it_t c_1 hf
    refine lv_aload_n hx hb dX2_crownedBy_5 rfl (lv_at hl 0 rfl) ?_
    refine lv_aload_n hx hb dX2_crownedBy_6 rfl (lv_at hl 0 rfl) ?_
    obtain ⟨r_10, z_11, h_12, hf⟩ := cl_el hf
    refine callVI (As := []) (rest := [.ref (A 2)]) (ci := 2) (q0 := 2) ⟨hx, hb, hml, hown, hts⟩ (tX2_illBits_2 (l := l) (dC := dC) (dI := dI) (t0 := t0) (cI := cI) (cJ := cJ) (cZ := cZ) hA h_12) (cwV 0 hts gX2_crownedBy_X2_illBits rfl rfl rfl (by decide +kernel) ⟨Nat.le_of_ble_eq_true rfl, Nat.le_of_ble_eq_true rfl⟩) hK hZ hP hS rfl (wc_2 A cI cJ cZ z) rfl rfl rfl hl.1 (Nat.le_of_ble_eq_true rfl) ⟨Nat.zero_le _, Nat.zero_le _⟩ dX2_crownedBy_7 (fun H locs hP hS => ?_)
    obtain ⟨r_13, z_14, h_15, hf⟩ := cl_el hf
    refine callVI (As := [.int r_10]) (rest := []) (ci := 2) (q0 := 2) ⟨hx, hb, hml, hown, hts⟩ (tX2_lightestBut_2 (l := l) (dC := dC) (dI := dI) (t0 := t0) (cI := cI) (cJ := cJ) (cZ := cZ) hA h_15) (cwV 1 hts gX2_crownedBy_X2_lightestBut rfl rfl rfl (by decide +kernel) ⟨Nat.le_of_ble_eq_true rfl, Nat.le_of_ble_eq_true rfl⟩) hK hZ hP hS rfl (wc_2 A cI cJ cZ z_11) rfl rfl rfl hl.1 (Nat.le_of_ble_eq_true rfl) ⟨Nat.zero_le _, Nat.zero_le _⟩ dX2_crownedBy_10 (fun H locs hP hS => ?_)
    exact retI hx hb hr hlocks hP hS hf dX2_crownedBy_13
set_option maxHeartbeats 4000000 in
set_option maxRecDepth 100000 in
theorem tX8_crown {l : Launch} {dC : Nat → ClassId} {dI : Nat → Nat → Nat} {A : Nat → Nat} {t0 : Nat} {cI cJ cZ : ClassId} (hA : dst A)  {z : Mem} {r : Int32} {z' : Mem} (hf : fX8_crown z = some (r, z')) : MI l dC dI A t0 cI cJ cZ yX8_crown wsX8_crown 5 [.ref (A 0)] z r z' := by
  refine Met.ofW (cc := cX8_crown) (maxL := 1) (ret := (some .int)) (by decide) rfl ?_
  intro p e s m args below meth c s₁ B hml hv
  obtain ⟨rfl, hP, hK, hZ⟩ := hv
  have hx := B.exec
  have hb := B.bytes
  have hr := B.returns
  have hts := atoms_spec (ws := wsX8_crown) B.pre
  have hown : s.vm.findClass RX8 = some m.cls := findClass_of_methodNamed B.named
  have hlocks := B.notSynchronized
  have hS : va_S (fr A) s.heap s.heap [] := va_S.rf
  have i8 : ∀ w ∈ wsX80, w ∈ wsX8_crown := fun _ h => List.mem_cons_of_mem _ (List.mem_append_left _ (List.mem_append_right _ h))
  have hl := lv_entry ([.ref (A 0)]) (n := 1) (Nat.le_of_ble_eq_true rfl)
  rw [lg_entry_eq]
  generalize (lg_sl ([.ref (A 0)]) ++ List.replicate (1 - (lg_sl ([.ref (A 0)])).length) Slot.unset).toArray = ls at hl ⊢
  have hl : lv_has ls 1 [(0, .ref (A 0))] := hl
  have hP : wIs dC dI A cI cJ cZ z s.heap := hP
  rw [fX8_crown] at hf
  refine lv_aload_n hx hb dX8_crown_0 rfl (lv_at hl 0 rfl) ?_
  refine va_get (D := (dC, dI)) (ci := 8) (v := .ref (A 2)) (C := RX8) (T := TX8) (N := 9) hx hb hts i8 hown hK hP 0 (wc_0 A cI cJ cZ z) rfl 1 (by decide) (hts (.fieldLink RX8 19 "LightestRules" "folk" "LLightestRules$People;") (by decide +kernel)) (fun _ h9 => h9) rfl dX8_crown_1 ?_
  refine lv_aload_n hx hb dX8_crown_4 rfl (lv_at hl 0 rfl) ?_
  refine va_get (D := (dC, dI)) (ci := 8) (v := .int (z.1 0 8)) (C := RX8) (T := TX8) (N := 9) hx hb hts i8 hown hK hP 0 (wc_0 A cI cJ cZ z) rfl 8 (by decide) (hts (.fieldLink RX8 65 "LightestRules" "lawNow" "I") (by decide +kernel)) (fun _ h9 => h9) rfl dX8_crown_5 ?_
  obtain ⟨r_1, z_2, h_3, hf⟩ := cl_el hf
  refine callVI (As := [.int (z.1 0 8)]) (rest := []) (ci := 2) (q0 := 2) ⟨hx, hb, hml, hown, hts⟩ (tX2_crownedBy_2 (l := l) (dC := dC) (dI := dI) (t0 := t0) (cI := cI) (cJ := cJ) (cZ := cZ) hA h_3) (cwV 1 hts gX8_crown_X2_crownedBy rfl rfl rfl (by decide +kernel) ⟨Nat.le_of_ble_eq_true rfl, Nat.le_of_ble_eq_true rfl⟩) hK hZ hP hS rfl (wc_2 A cI cJ cZ z) rfl rfl rfl hl.1 (Nat.le_of_ble_eq_true rfl) ⟨Nat.zero_le _, Nat.zero_le _⟩ dX8_crown_8 (fun H locs hP hS => ?_)
  exact retI hx hb hr hlocks hP hS hf dX8_crown_11
set_option maxHeartbeats 4000000 in
set_option maxRecDepth 100000 in
theorem tX9_isLighter {l : Launch} {dC : Nat → ClassId} {dI : Nat → Nat → Nat} {A : Nat → Nat} {t0 : Nat} {cI cJ cZ : ClassId} (hA : dst A) {p0 : Int32} {p1 : Int32} {p2 : Int32} {p3 : Int32} {z : Mem} {r : Int32} {z' : Mem} (hf : fX9_isLighter p0 p1 p2 p3 z = some (r, z')) : MI l dC dI A t0 cI cJ cZ yX9_isLighter wsX9_isLighter 0 [.int p0, .int p1, .int p2, .int p3] z r z' := by
  refine Met.ofW (cc := cX9_isLighter) (maxL := 4) (ret := (some .boolean)) (by decide) rfl ?_
  intro p e s m args below meth c s₁ B hml hv
  obtain ⟨rfl, hP, hK, hZ⟩ := hv
  have hx := B.exec
  have hb := B.bytes
  have hr := B.returns
  have hts := atoms_spec (ws := wsX9_isLighter) B.pre
  have hown : s.vm.findClass RX9 = some m.cls := findClass_of_methodNamed B.named
  have hlocks := B.notSynchronized
  have hS : va_S (fr A) s.heap s.heap [] := va_S.rf
  have hl := lv_entry ([.int p0, .int p1, .int p2, .int p3]) (n := 4) (Nat.le_of_ble_eq_true rfl)
  rw [lg_entry_eq]
  generalize (lg_sl ([.int p0, .int p1, .int p2, .int p3]) ++ List.replicate (4 - (lg_sl ([.int p0, .int p1, .int p2, .int p3])).length) Slot.unset).toArray = ls at hl ⊢
  have hl : lv_has ls 4 [(0, .int p0), (1, .int p1), (2, .int p2), (3, .int p3)] := hl
  have hP : wIs dC dI A cI cJ cZ z s.heap := hP
  rw [fX9_isLighter] at hf
  refine lv_iload_n hx hb dX9_isLighter_0 rfl (lv_at hl 0 rfl) ?_
  refine lv_iload_n hx hb dX9_isLighter_1 rfl (lv_at hl 2 rfl) ?_
  refine lv_icmp_lt (tgt := 15) hx hb dX9_isLighter_2 (by decide) (fun c_1 => ?_) (fun c_1 => ?_)
  · have hf := it_t c_1 hf
    refine lv_iconst (v := 1) hx hb dX9_isLighter_15 (by decide) ?_
    refine lv_goto (tgt := 20) hx hb dX9_isLighter_16 (by decide) ?_
    exact retZ hx hb hr hlocks rfl hP hS hf dX9_isLighter_20
  · have hf := it_f c_1 hf
    refine lv_iload_n hx hb dX9_isLighter_5 rfl (lv_at hl 0 rfl) ?_
    refine lv_iload_n hx hb dX9_isLighter_6 rfl (lv_at hl 2 rfl) ?_
    refine lv_icmp_ne (tgt := 19) hx hb dX9_isLighter_7 (by decide) (fun c_2 => ?_) (fun c_2 => ?_)
    · have hf := it_f c_2 hf
      refine lv_iconst (v := 0) hx hb dX9_isLighter_19 (by decide) ?_
      exact retZ hx hb hr hlocks rfl hP hS hf dX9_isLighter_20
    · have hf := it_t c_2 hf
      refine lv_iload_n hx hb dX9_isLighter_10 rfl (lv_at hl 1 rfl) ?_
      refine lv_iload_n hx hb dX9_isLighter_11 rfl (lv_at hl 3 rfl) ?_
      refine lv_icmp_ge (tgt := 19) hx hb dX9_isLighter_12 (by decide) (fun c_3 => ?_) (fun c_3 => ?_)
      · have hf := it_t c_3 hf
        refine lv_iconst (v := 0) hx hb dX9_isLighter_19 (by decide) ?_
        exact retZ hx hb hr hlocks rfl hP hS hf dX9_isLighter_20
      · have hf := it_f c_3 hf
        refine lv_iconst (v := 1) hx hb dX9_isLighter_15 (by decide) ?_
        refine lv_goto (tgt := 20) hx hb dX9_isLighter_16 (by decide) ?_
        exact retZ hx hb hr hlocks rfl hP hS hf dX9_isLighter_20
set_option maxHeartbeats 4000000 in
set_option maxRecDepth 100000 in
theorem tX9_crownBy {l : Launch} {dC : Nat → ClassId} {dI : Nat → Nat → Nat} {A : Nat → Nat} {t0 : Nat} {cI cJ cZ : ClassId} (hA : dst A) {p0 : Int32} {z : Mem} {r : Int32} {z' : Mem} (hf : fX9_crownBy p0 z = some (r, z')) : MI l dC dI A t0 cI cJ cZ yX9_crownBy wsX9_crownBy 1 [.ref (A 25), .int p0] z r z' := by
  refine Met.ofW (cc := cX9_crownBy) (maxL := 6) (ret := (some .int)) (by decide) rfl ?_
  intro p e s m args below meth c s₁ B hml hv
  obtain ⟨rfl, hP, hK, hZ⟩ := hv
  have hx := B.exec
  have hb := B.bytes
  have hr := B.returns
  have hts := atoms_spec (ws := wsX9_crownBy) B.pre
  have hown : s.vm.findClass RX9 = some m.cls := findClass_of_methodNamed B.named
  have hlocks := B.notSynchronized
  have hS : va_S (fr A) s.heap s.heap [] := va_S.rf
  have i9 : ∀ w ∈ wsX90, w ∈ wsX9_crownBy := fun _ h => List.mem_cons_of_mem _ (List.mem_append_right _ h)
  have hl := lv_entry ([.ref (A 25), .int p0]) (n := 6) (Nat.le_of_ble_eq_true rfl)
  rw [lg_entry_eq]
  generalize (lg_sl ([.ref (A 25), .int p0]) ++ List.replicate (6 - (lg_sl ([.ref (A 25), .int p0])).length) Slot.unset).toArray = ls at hl ⊢
  have hl : lv_has ls 6 [(0, .ref (A 25)), (1, .int p0)] := hl
  have hP : wIs dC dI A cI cJ cZ z s.heap := hP
  rw [fX9_crownBy] at hf
  refine lv_iconst (v := 0) hx hb dX9_crownBy_0 (by decide) ?_
  refine lv_istore_n (lv' := [(2, .int (0 : Int32)), (0, .ref (A 25)), (1, .int p0)]) hx hb dX9_crownBy_1 rfl hl (by decide) rfl (fun ls hl => ?_)
  obtain ⟨K_1, eK_1, hf⟩ := fX9_crownBy_L2_g hf
  have hEK_1 : ∀ (x2_3 : Int32) (z_2 : Mem) (H : Heap) (locs : List Loc) (ls : Array Slot), K_1 x2_3 z_2 = some (r, z') → wIs dC dI A cI cJ cZ z_2 H → va_S (fr A) s.heap H locs → lv_has ls 6 [(0, .ref (A 25)), (1, .int p0), (2, .int x2_3)] → WI p l e wsX9_crownBy 1 s m [.ref (A 25), .int p0] below meth c dC dI A cI cJ cZ r z' H locs (F0 m 125 ls []) := by
    intro x2_3 z_2 H locs ls hf hP hS hl
    have hf := ap2 eK_1 hf
    refine lv_bipush (v := -9) hx hb dX9_crownBy_125 (by decide) ?_
    exact retI hx hb hr hlocks hP hS hf dX9_crownBy_127
  have hLK_1 : ∀ (n_6 : Nat) (x2_5 : Int32) (z_4 : Mem) (H : Heap) (locs : List Loc) (ls : Array Slot), fX9_crownBy_L2 K_1 p0 n_6 x2_5 z_4 = some (r, z') → wIs dC dI A cI cJ cZ z_4 H → va_S (fr A) s.heap H locs → lv_has ls 6 [(0, .ref (A 25)), (1, .int p0), (2, .int x2_5)] → WI p l e wsX9_crownBy 1 s m [.ref (A 25), .int p0] below meth c dC dI A cI cJ cZ r z' H locs (F0 m 2 ls []) := by
    intro n_6
    induction n_6 with
    | zero => intro x2_5 z_4 H locs ls hf; rw [fX9_crownBy_L2_0] at hf; cases hf
    | succ n_6 ihK_1 =>
      intro x2_5 z_4 H locs ls hf hP hS hl
      rw [fX9_crownBy_L2_s] at hf
      refine lv_iload_n hx hb dX9_crownBy_2 rfl (lv_at hl 2 rfl) ?_
      refine lv_aload_n hx hb dX9_crownBy_3 rfl (lv_at hl 0 rfl) ?_
      refine va_get (D := (dC, dI)) (ci := 9) (v := .int (z_4.1 25 6)) (C := RX9) (T := TX9) (N := 34) hx hb hts i9 hown hK hP 25 (wc_25 A cI cJ cZ z_4) rfl 6 (by decide) (hts (.fieldLink RX9 104 "LightestRulesModel" "many" "I") (by decide +kernel)) (fun _ h9 => h9) rfl dX9_crownBy_4 ?_
      refine lv_icmp_ge (tgt := 125) hx hb dX9_crownBy_7 (by decide) (fun c_7 => ?_) (fun c_7 => ?_)
      · have hf := it_t c_7 hf
        exact hEK_1 _ _ _ _ _ hf hP hS (lv_sub hl [0, 1, 2] rfl)
      · have hf := it_f c_7 hf
        refine lv_iconst (v := 0) hx hb dX9_crownBy_10 (by decide) ?_
        refine lv_istore_n (lv' := [(3, .int (0 : Int32)), (0, .ref (A 25)), (1, .int p0), (2, .int x2_5)]) hx hb dX9_crownBy_11 rfl hl (by decide) rfl (fun ls hl => ?_)
        refine lv_iconst (v := 0) hx hb dX9_crownBy_12 (by decide) ?_
        refine lv_istore (lv' := [(4, .int (0 : Int32)), (3, .int (0 : Int32)), (0, .ref (A 25)), (1, .int p0), (2, .int x2_5)]) hx hb dX9_crownBy_13 hl (by decide) rfl (fun ls hl => ?_)
        obtain ⟨K_8, eK_8, hf⟩ := fX9_crownBy_L15_g hf
        have hEK_8 : ∀ (x3_10 : Int32) (x4_11 : Int32) (z_9 : Mem) (H : Heap) (locs : List Loc) (ls : Array Slot), K_8 x3_10 x4_11 z_9 = some (r, z') → wIs dC dI A cI cJ cZ z_9 H → va_S (fr A) s.heap H locs → lv_has ls 6 [(0, .ref (A 25)), (1, .int p0), (2, .int x2_5), (3, .int x3_10), (4, .int x4_11)] → WI p l e wsX9_crownBy 1 s m [.ref (A 25), .int p0] below meth c dC dI A cI cJ cZ r z' H locs (F0 m 90 ls []) := by
          intro x3_10 x4_11 z_9 H locs ls hf hP hS hl
          have hf := ap3 eK_8 hf
          refine lv_iload_n hx hb dX9_crownBy_90 rfl (lv_at hl 3 rfl) ?_
          refine lv_iload_n hx hb dX9_crownBy_91 rfl (lv_at hl 1 rfl) ?_
          refine lv_iconst (v := 1) hx hb dX9_crownBy_92 (by decide) ?_
          obtain ⟨K_12, eK_12, hf⟩ := jn_el hf
          have hK_12 : ∀ (v_13 : Int32) (z_14 : Mem) (H : Heap) (locs : List Loc) (ls : Array Slot), K_12 v_13 z_14 = some (r, z') → wIs dC dI A cI cJ cZ z_14 H → va_S (fr A) s.heap H locs → lv_has ls 6 [(0, .ref (A 25)), (1, .int p0), (2, .int x2_5), (3, .int x3_10), (4, .int x4_11)] → WI p l e wsX9_crownBy 1 s m [.ref (A 25), .int p0] below meth c dC dI A cI cJ cZ r z' H locs (F0 m 101 ls [.int v_13, .int x3_10]) := by
            intro v_13 z_14 H locs ls hf hP hS hl
            have hf := ap2 eK_12 hf
            refine lv_icmp_ne (tgt := 119) hx hb dX9_crownBy_101 (by decide) (fun c_15 => ?_) (fun c_15 => ?_)
            · have hf := it_f c_15 hf
              obtain ⟨x2_16, ex2_16⟩ : ∃ q : Int32, q = x2_5 + (1 : Int32) := ⟨_, rfl⟩
              refine lv_iinc (v := x2_16) (lv' := [(2, .int x2_16), (0, .ref (A 25)), (1, .int p0), (3, .int x3_10), (4, .int x4_11)]) hx hb dX9_crownBy_119 hl (k := 2) rfl (by rw [ex2_16]; rfl) (by decide) rfl (fun ls hl => ?_)
              have hf := lt_at ex2_16 hf; clear ex2_16
              refine lv_goto (tgt := 2) hx hb dX9_crownBy_122 (by decide) ?_
              exact ihK_1 _ _ _ _ _ hf hP hS (lv_sub hl [1, 2, 0] rfl)
            · have hf := it_t c_15 hf
              refine lv_iload_n hx hb dX9_crownBy_104 rfl (lv_at hl 1 rfl) ?_
              refine lv_iconst (v := 2) hx hb dX9_crownBy_105 (by decide) ?_
              refine lv_icmp_lt (tgt := 117) hx hb dX9_crownBy_106 (by decide) (fun c_17 => ?_) (fun c_17 => ?_)
              · have hf := it_t c_17 hf
                refine lv_iload_n hx hb dX9_crownBy_117 rfl (lv_at hl 2 rfl) ?_
                exact retI hx hb hr hlocks hP hS hf dX9_crownBy_118
              · have hf := it_f c_17 hf
                refine lv_aload_n hx hb dX9_crownBy_109 rfl (lv_at hl 0 rfl) ?_
                refine lv_iload_n hx hb dX9_crownBy_110 rfl (lv_at hl 2 rfl) ?_
                obtain ⟨r_18, z_19, h_20, hf⟩ := cl_el hf
                refine callVI (As := [.int x2_5]) (rest := []) (ci := 9) (q0 := 25) ⟨hx, hb, hml, hown, hts⟩ (tX9_isIll (l := l) (dC := dC) (dI := dI) (t0 := t0) (cI := cI) (cJ := cJ) (cZ := cZ) hA h_20) (cwV 1 hts gX9_crownBy_X9_isIll rfl rfl rfl (by decide +kernel) ⟨Nat.le_of_ble_eq_true rfl, Nat.le_of_ble_eq_true rfl⟩) hK hZ hP hS rfl (wc_25 A cI cJ cZ z_14) rfl rfl rfl hl.1 (Nat.le_of_ble_eq_true rfl) ⟨Nat.zero_le _, Nat.zero_le _⟩ dX9_crownBy_111 (fun H locs hP hS => ?_)
                refine lv_if_ne (tgt := 119) hx hb dX9_crownBy_114 (by decide) (fun c_21 => ?_) (fun c_21 => ?_)
                · have hf := it_f c_21 hf
                  obtain ⟨x2_22, ex2_22⟩ : ∃ q : Int32, q = x2_5 + (1 : Int32) := ⟨_, rfl⟩
                  refine lv_iinc (v := x2_22) (lv' := [(2, .int x2_22), (0, .ref (A 25)), (1, .int p0), (3, .int x3_10), (4, .int x4_11)]) hx hb dX9_crownBy_119 hl (k := 2) rfl (by rw [ex2_22]; rfl) (by decide) rfl (fun ls hl => ?_)
                  have hf := lt_at ex2_22 hf; clear ex2_22
                  refine lv_goto (tgt := 2) hx hb dX9_crownBy_122 (by decide) ?_
                  exact ihK_1 _ _ _ _ _ hf hP hS (lv_sub hl [1, 2, 0] rfl)
                · have hf := it_t c_21 hf
                  refine lv_iload_n hx hb dX9_crownBy_117 rfl (lv_at hl 2 rfl) ?_
                  exact retI hx hb hr hlocks hP hS hf dX9_crownBy_118
          refine lv_icmp_ne (tgt := 100) hx hb dX9_crownBy_93 (by decide) (fun c_23 => ?_) (fun c_23 => ?_)
          · have hf := it_f c_23 hf
            refine lv_iconst (v := 0) hx hb dX9_crownBy_100 (by decide) ?_
            exact hK_12 _ _ _ _ _ hf hP hS (lv_sub hl [0, 1, 2, 3, 4] rfl)
          · have hf := it_t c_23 hf
            refine lv_iconst (v := 1) hx hb dX9_crownBy_96 (by decide) ?_
            refine lv_goto (tgt := 101) hx hb dX9_crownBy_97 (by decide) ?_
            exact hK_12 _ _ _ _ _ hf hP hS (lv_sub hl [0, 1, 2, 3, 4] rfl)
        have hLK_8 : ∀ (n_27 : Nat) (x3_25 : Int32) (x4_26 : Int32) (z_24 : Mem) (H : Heap) (locs : List Loc) (ls : Array Slot), fX9_crownBy_L15 K_8 p0 x2_5 n_27 x3_25 x4_26 z_24 = some (r, z') → wIs dC dI A cI cJ cZ z_24 H → va_S (fr A) s.heap H locs → lv_has ls 6 [(0, .ref (A 25)), (1, .int p0), (2, .int x2_5), (3, .int x3_25), (4, .int x4_26)] → WI p l e wsX9_crownBy 1 s m [.ref (A 25), .int p0] below meth c dC dI A cI cJ cZ r z' H locs (F0 m 15 ls []) := by
          intro n_27
          induction n_27 with
          | zero => intro x3_25 x4_26 z_24 H locs ls hf; rw [fX9_crownBy_L15_0] at hf; cases hf
          | succ n_27 ihK_8 =>
            intro x3_25 x4_26 z_24 H locs ls hf hP hS hl
            rw [fX9_crownBy_L15_s] at hf
            refine lv_iload hx hb dX9_crownBy_15 (lv_at hl 4 rfl) ?_
            refine lv_aload_n hx hb dX9_crownBy_17 rfl (lv_at hl 0 rfl) ?_
            refine va_get (D := (dC, dI)) (ci := 9) (v := .int (z_24.1 25 6)) (C := RX9) (T := TX9) (N := 34) hx hb hts i9 hown hK hP 25 (wc_25 A cI cJ cZ z_24) rfl 6 (by decide) (hts (.fieldLink RX9 104 "LightestRulesModel" "many" "I") (by decide +kernel)) (fun _ h9 => h9) rfl dX9_crownBy_18 ?_
            refine lv_icmp_ge (tgt := 90) hx hb dX9_crownBy_21 (by decide) (fun c_28 => ?_) (fun c_28 => ?_)
            · have hf := it_t c_28 hf
              exact hEK_8 _ _ _ _ _ _ hf hP hS (lv_sub hl [0, 1, 2, 3, 4] rfl)
            · have hf := it_f c_28 hf
              refine lv_iload hx hb dX9_crownBy_24 (lv_at hl 4 rfl) ?_
              refine lv_iload_n hx hb dX9_crownBy_26 rfl (lv_at hl 2 rfl) ?_
              obtain ⟨K_29, eK_29, hf⟩ := jn_el hf
              have hK_29 : ∀ (v_30 : Int32) (z_31 : Mem) (H : Heap) (locs : List Loc) (ls : Array Slot), K_29 v_30 z_31 = some (r, z') → wIs dC dI A cI cJ cZ z_31 H → va_S (fr A) s.heap H locs → lv_has ls 6 [(0, .ref (A 25)), (1, .int p0), (2, .int x2_5), (3, .int x3_25), (4, .int x4_26)] → WI p l e wsX9_crownBy 1 s m [.ref (A 25), .int p0] below meth c dC dI A cI cJ cZ r z' H locs (F0 m 49 ls [.int v_30]) := by
                intro v_30 z_31 H locs ls hf hP hS hl
                have hf := ap2 eK_29 hf
                refine lv_istore (lv' := [(5, .int v_30), (0, .ref (A 25)), (1, .int p0), (2, .int x2_5), (3, .int x3_25), (4, .int x4_26)]) hx hb dX9_crownBy_49 hl (by decide) rfl (fun ls hl => ?_)
                refine lv_iload_n hx hb dX9_crownBy_51 rfl (lv_at hl 4 rfl) ?_
                refine lv_iload hx hb dX9_crownBy_52 (lv_at hl 0 rfl) ?_
                refine lv_if_eq (tgt := 81) hx hb dX9_crownBy_54 (by decide) (fun c_32 => ?_) (fun c_32 => ?_)
                · have hf := it_t c_32 hf
                  refine lv_iconst (v := 0) hx hb dX9_crownBy_81 (by decide) ?_
                  refine lv_iadd hx hb dX9_crownBy_82 ?_
                  refine lv_topi (fun x3_33 ex3_33 => ?_)
                  have hf := lt_at ex3_33 hf; clear ex3_33
                  refine lv_istore_n (lv' := [(3, .int x3_33), (5, .int v_30), (0, .ref (A 25)), (1, .int p0), (2, .int x2_5), (4, .int x4_26)]) hx hb dX9_crownBy_83 rfl hl (by decide) rfl (fun ls hl => ?_)
                  obtain ⟨x4_34, ex4_34⟩ : ∃ q : Int32, q = x4_26 + (1 : Int32) := ⟨_, rfl⟩
                  refine lv_iinc (v := x4_34) (lv' := [(4, .int x4_34), (3, .int x3_33), (5, .int v_30), (0, .ref (A 25)), (1, .int p0), (2, .int x2_5)]) hx hb dX9_crownBy_84 hl (k := 5) rfl (by rw [ex4_34]; rfl) (by decide) rfl (fun ls hl => ?_)
                  have hf := lt_at ex4_34 hf; clear ex4_34
                  refine lv_goto (tgt := 15) hx hb dX9_crownBy_87 (by decide) ?_
                  exact ihK_8 _ _ _ _ _ _ hf hP hS (lv_sub hl [3, 4, 5, 1, 0] rfl)
                · have hf := it_f c_32 hf
                  refine lv_aload_n hx hb dX9_crownBy_57 rfl (lv_at hl 1 rfl) ?_
                  refine lv_iload hx hb dX9_crownBy_58 (lv_at hl 5 rfl) ?_
                  obtain ⟨r_35, z_36, h_37, hf⟩ := cl_el hf
                  refine callVI (As := [.int x4_26]) (rest := [.int x3_25]) (ci := 9) (q0 := 25) ⟨hx, hb, hml, hown, hts⟩ (tX9_noonOf (l := l) (dC := dC) (dI := dI) (t0 := t0) (cI := cI) (cJ := cJ) (cZ := cZ) hA h_37) (cwV 1 hts gX9_crownBy_X9_noonOf rfl rfl rfl (by decide +kernel) ⟨Nat.le_of_ble_eq_true rfl, Nat.le_of_ble_eq_true rfl⟩) hK hZ hP hS rfl (wc_25 A cI cJ cZ z_31) rfl rfl rfl hl.1 (Nat.le_of_ble_eq_true rfl) ⟨Nat.zero_le _, Nat.zero_le _⟩ dX9_crownBy_60 (fun H locs hP hS => ?_)
                  refine lv_iload hx hb dX9_crownBy_63 (lv_at hl 5 rfl) ?_
                  refine lv_aload_n hx hb dX9_crownBy_65 rfl (lv_at hl 1 rfl) ?_
                  refine lv_iload_n hx hb dX9_crownBy_66 rfl (lv_at hl 3 rfl) ?_
                  obtain ⟨r_38, z_39, h_40, hf⟩ := cl_el hf
                  refine callVI (As := [.int x2_5]) (rest := [.int x4_26, .int r_35, .int x3_25]) (ci := 9) (q0 := 25) ⟨hx, hb, hml, hown, hts⟩ (tX9_noonOf (l := l) (dC := dC) (dI := dI) (t0 := t0) (cI := cI) (cJ := cJ) (cZ := cZ) hA h_40) (cwV 1 hts gX9_crownBy_X9_noonOf rfl rfl rfl (by decide +kernel) ⟨Nat.le_of_ble_eq_true rfl, Nat.le_of_ble_eq_true rfl⟩) hK hZ hP hS rfl (wc_25 A cI cJ cZ z_36) rfl rfl rfl hl.1 (Nat.le_of_ble_eq_true rfl) ⟨Nat.zero_le _, Nat.zero_le _⟩ dX9_crownBy_67 (fun H locs hP hS => ?_)
                  refine lv_iload_n hx hb dX9_crownBy_70 rfl (lv_at hl 3 rfl) ?_
                  obtain ⟨r_41, z_42, h_43, hf⟩ := cl_el hf
                  refine callSI (As := [.int r_35, .int x4_26, .int r_38, .int x2_5]) (rest := [.int x3_25]) ⟨hx, hb, hml, hown, hts⟩ (tX9_isLighter (l := l) (dC := dC) (dI := dI) (t0 := t0) (cI := cI) (cJ := cJ) (cZ := cZ) hA h_43) (va_cwS 4 hts gX9_crownBy_X9_isLighter rfl rfl rfl (by decide +kernel) ⟨Nat.le_of_ble_eq_true rfl, Nat.le_of_ble_eq_true rfl⟩) hK hZ hP hS rfl rfl hl.1 (Nat.le_of_ble_eq_true rfl) ⟨Nat.zero_le _, Nat.zero_le _⟩ dX9_crownBy_71 (fun H locs hP hS => ?_)
                  refine lv_if_eq (tgt := 81) hx hb dX9_crownBy_74 (by decide) (fun c_44 => ?_) (fun c_44 => ?_)
                  · have hf := it_t c_44 hf
                    refine lv_iconst (v := 0) hx hb dX9_crownBy_81 (by decide) ?_
                    refine lv_iadd hx hb dX9_crownBy_82 ?_
                    refine lv_topi (fun x3_45 ex3_45 => ?_)
                    have hf := lt_at ex3_45 hf; clear ex3_45
                    refine lv_istore_n (lv' := [(3, .int x3_45), (5, .int v_30), (0, .ref (A 25)), (1, .int p0), (2, .int x2_5), (4, .int x4_26)]) hx hb dX9_crownBy_83 rfl hl (by decide) rfl (fun ls hl => ?_)
                    obtain ⟨x4_46, ex4_46⟩ : ∃ q : Int32, q = x4_26 + (1 : Int32) := ⟨_, rfl⟩
                    refine lv_iinc (v := x4_46) (lv' := [(4, .int x4_46), (3, .int x3_45), (5, .int v_30), (0, .ref (A 25)), (1, .int p0), (2, .int x2_5)]) hx hb dX9_crownBy_84 hl (k := 5) rfl (by rw [ex4_46]; rfl) (by decide) rfl (fun ls hl => ?_)
                    have hf := lt_at ex4_46 hf; clear ex4_46
                    refine lv_goto (tgt := 15) hx hb dX9_crownBy_87 (by decide) ?_
                    exact ihK_8 _ _ _ _ _ _ hf hP hS (lv_sub hl [3, 4, 5, 1, 0] rfl)
                  · have hf := it_f c_44 hf
                    refine lv_iconst (v := 1) hx hb dX9_crownBy_77 (by decide) ?_
                    refine lv_goto (tgt := 82) hx hb dX9_crownBy_78 (by decide) ?_
                    refine lv_iadd hx hb dX9_crownBy_82 ?_
                    refine lv_topi (fun x3_47 ex3_47 => ?_)
                    have hf := lt_at ex3_47 hf; clear ex3_47
                    refine lv_istore_n (lv' := [(3, .int x3_47), (5, .int v_30), (0, .ref (A 25)), (1, .int p0), (2, .int x2_5), (4, .int x4_26)]) hx hb dX9_crownBy_83 rfl hl (by decide) rfl (fun ls hl => ?_)
                    obtain ⟨x4_48, ex4_48⟩ : ∃ q : Int32, q = x4_26 + (1 : Int32) := ⟨_, rfl⟩
                    refine lv_iinc (v := x4_48) (lv' := [(4, .int x4_48), (3, .int x3_47), (5, .int v_30), (0, .ref (A 25)), (1, .int p0), (2, .int x2_5)]) hx hb dX9_crownBy_84 hl (k := 5) rfl (by rw [ex4_48]; rfl) (by decide) rfl (fun ls hl => ?_)
                    have hf := lt_at ex4_48 hf; clear ex4_48
                    refine lv_goto (tgt := 15) hx hb dX9_crownBy_87 (by decide) ?_
                    exact ihK_8 _ _ _ _ _ _ hf hP hS (lv_sub hl [3, 4, 5, 1, 0] rfl)
              refine lv_icmp_eq (tgt := 48) hx hb dX9_crownBy_27 (by decide) (fun c_49 => ?_) (fun c_49 => ?_)
              · have hf := it_t c_49 hf
                refine lv_iconst (v := 0) hx hb dX9_crownBy_48 (by decide) ?_
                exact hK_29 _ _ _ _ _ hf hP hS (lv_sub hl [0, 1, 2, 3, 4] rfl)
              · have hf := it_f c_49 hf
                refine lv_iload_n hx hb dX9_crownBy_30 rfl (lv_at hl 1 rfl) ?_
                refine lv_iconst (v := 2) hx hb dX9_crownBy_31 (by decide) ?_
                refine lv_icmp_lt (tgt := 44) hx hb dX9_crownBy_32 (by decide) (fun c_50 => ?_) (fun c_50 => ?_)
                · have hf := it_t c_50 hf
                  refine lv_iconst (v := 1) hx hb dX9_crownBy_44 (by decide) ?_
                  refine lv_goto (tgt := 49) hx hb dX9_crownBy_45 (by decide) ?_
                  exact hK_29 _ _ _ _ _ hf hP hS (lv_sub hl [0, 1, 2, 3, 4] rfl)
                · have hf := it_f c_50 hf
                  refine lv_aload_n hx hb dX9_crownBy_35 rfl (lv_at hl 0 rfl) ?_
                  refine lv_iload hx hb dX9_crownBy_36 (lv_at hl 4 rfl) ?_
                  obtain ⟨r_51, z_52, h_53, hf⟩ := cl_el hf
                  refine callVI (As := [.int x4_26]) (rest := []) (ci := 9) (q0 := 25) ⟨hx, hb, hml, hown, hts⟩ (tX9_isIll (l := l) (dC := dC) (dI := dI) (t0 := t0) (cI := cI) (cJ := cJ) (cZ := cZ) hA h_53) (cwV 1 hts gX9_crownBy_X9_isIll rfl rfl rfl (by decide +kernel) ⟨Nat.le_of_ble_eq_true rfl, Nat.le_of_ble_eq_true rfl⟩) hK hZ hP hS rfl (wc_25 A cI cJ cZ z_24) rfl rfl rfl hl.1 (Nat.le_of_ble_eq_true rfl) ⟨Nat.zero_le _, Nat.zero_le _⟩ dX9_crownBy_38 (fun H locs hP hS => ?_)
                  refine lv_if_ne (tgt := 48) hx hb dX9_crownBy_41 (by decide) (fun c_54 => ?_) (fun c_54 => ?_)
                  · have hf := it_f c_54 hf
                    refine lv_iconst (v := 0) hx hb dX9_crownBy_48 (by decide) ?_
                    exact hK_29 _ _ _ _ _ hf hP hS (lv_sub hl [0, 1, 2, 3, 4] rfl)
                  · have hf := it_t c_54 hf
                    refine lv_iconst (v := 1) hx hb dX9_crownBy_44 (by decide) ?_
                    refine lv_goto (tgt := 49) hx hb dX9_crownBy_45 (by decide) ?_
                    exact hK_29 _ _ _ _ _ hf hP hS (lv_sub hl [0, 1, 2, 3, 4] rfl)
        exact hLK_8 FU _ _ _ _ _ _ hf hP hS (lv_sub hl [2, 3, 4, 1, 0] rfl)
  exact hLK_1 FU _ _ _ _ _ hf hP hS (lv_sub hl [1, 2, 0] rfl)
set_option maxHeartbeats 4000000 in
set_option maxRecDepth 100000 in
theorem tX9_crown {l : Launch} {dC : Nat → ClassId} {dI : Nat → Nat → Nat} {A : Nat → Nat} {t0 : Nat} {cI cJ cZ : ClassId} (hA : dst A)  {z : Mem} {r : Int32} {z' : Mem} (hf : fX9_crown z = some (r, z')) : MI l dC dI A t0 cI cJ cZ yX9_crown wsX9_crown 2 [.ref (A 25)] z r z' := by
  refine Met.ofW (cc := cX9_crown) (maxL := 1) (ret := (some .int)) (by decide) rfl ?_
  intro p e s m args below meth c s₁ B hml hv
  obtain ⟨rfl, hP, hK, hZ⟩ := hv
  have hx := B.exec
  have hb := B.bytes
  have hr := B.returns
  have hts := atoms_spec (ws := wsX9_crown) B.pre
  have hown : s.vm.findClass RX9 = some m.cls := findClass_of_methodNamed B.named
  have hlocks := B.notSynchronized
  have hS : va_S (fr A) s.heap s.heap [] := va_S.rf
  have i9 : ∀ w ∈ wsX90, w ∈ wsX9_crown := fun _ h => List.mem_cons_of_mem _ (List.mem_append_right _ h)
  have hl := lv_entry ([.ref (A 25)]) (n := 1) (Nat.le_of_ble_eq_true rfl)
  rw [lg_entry_eq]
  generalize (lg_sl ([.ref (A 25)]) ++ List.replicate (1 - (lg_sl ([.ref (A 25)])).length) Slot.unset).toArray = ls at hl ⊢
  have hl : lv_has ls 1 [(0, .ref (A 25))] := hl
  have hP : wIs dC dI A cI cJ cZ z s.heap := hP
  rw [fX9_crown] at hf
  refine lv_aload_n hx hb dX9_crown_0 rfl (lv_at hl 0 rfl) ?_
  refine lv_aload_n hx hb dX9_crown_1 rfl (lv_at hl 0 rfl) ?_
  refine va_get (D := (dC, dI)) (ci := 9) (v := .int (z.1 25 7)) (C := RX9) (T := TX9) (N := 34) hx hb hts i9 hown hK hP 25 (wc_25 A cI cJ cZ z) rfl 7 (by decide) (hts (.fieldLink RX9 63 "LightestRulesModel" "rule" "I") (by decide +kernel)) (fun _ h9 => h9) rfl dX9_crown_2 ?_
  obtain ⟨r_1, z_2, h_3, hf⟩ := cl_el hf
  refine callVI (As := [.int (z.1 25 7)]) (rest := []) (ci := 9) (q0 := 25) ⟨hx, hb, hml, hown, hts⟩ (tX9_crownBy (l := l) (dC := dC) (dI := dI) (t0 := t0) (cI := cI) (cJ := cJ) (cZ := cZ) hA h_3) (cwV 1 hts gX9_crown_X9_crownBy rfl rfl rfl (by decide +kernel) ⟨Nat.le_of_ble_eq_true rfl, Nat.le_of_ble_eq_true rfl⟩) hK hZ hP hS rfl (wc_25 A cI cJ cZ z) rfl rfl rfl hl.1 (Nat.le_of_ble_eq_true rfl) ⟨Nat.zero_le _, Nat.zero_le _⟩ dX9_crown_5 (fun H locs hP hS => ?_)
  exact retI hx hb hr hlocks hP hS hf dX9_crown_8
set_option maxHeartbeats 4000000 in
set_option maxRecDepth 100000 in
theorem tX8_noon {l : Launch} {dC : Nat → ClassId} {dI : Nat → Nat → Nat} {A : Nat → Nat} {t0 : Nat} {cI cJ cZ : ClassId} (hA : dst A)  {z : Mem} {r : Int32} {z' : Mem} (hf : fX8_noon z = some (r, z')) : MI l dC dI A t0 cI cJ cZ yX8_noon wsX8_noon 5 [.ref (A 0)] z r z' := by
  refine Met.ofW (cc := cX8_noon) (maxL := 2) (ret := (some .int)) (by decide) rfl ?_
  intro p e s m args below meth c s₁ B hml hv
  obtain ⟨rfl, hP, hK, hZ⟩ := hv
  have hx := B.exec
  have hb := B.bytes
  have hr := B.returns
  have hts := atoms_spec (ws := wsX8_noon) B.pre
  have hown : s.vm.findClass RX8 = some m.cls := findClass_of_methodNamed B.named
  have hlocks := B.notSynchronized
  have hS : va_S (fr A) s.heap s.heap [] := va_S.rf
  have i8 : ∀ w ∈ wsX80, w ∈ wsX8_noon := fun _ h => List.mem_cons_of_mem _ (List.mem_append_left _ (List.mem_append_left _ (List.mem_append_right _ h)))
  have hl := lv_entry ([.ref (A 0)]) (n := 2) (Nat.le_of_ble_eq_true rfl)
  rw [lg_entry_eq]
  generalize (lg_sl ([.ref (A 0)]) ++ List.replicate (2 - (lg_sl ([.ref (A 0)])).length) Slot.unset).toArray = ls at hl ⊢
  have hl : lv_has ls 2 [(0, .ref (A 0))] := hl
  have hP : wIs dC dI A cI cJ cZ z s.heap := hP
  rw [fX8_noon] at hf
  refine lv_aload_n hx hb dX8_noon_0 rfl (lv_at hl 0 rfl) ?_
  refine va_get (D := (dC, dI)) (ci := 8) (v := .ref (A 2)) (C := RX8) (T := TX8) (N := 9) hx hb hts i8 hown hK hP 0 (wc_0 A cI cJ cZ z) rfl 1 (by decide) (hts (.fieldLink RX8 19 "LightestRules" "folk" "LLightestRules$People;") (by decide +kernel)) (fun _ h9 => h9) rfl dX8_noon_1 ?_
  refine lv_aload_n hx hb dX8_noon_4 rfl (lv_at hl 0 rfl) ?_
  refine va_get (D := (dC, dI)) (ci := 8) (v := .int (z.1 0 8)) (C := RX8) (T := TX8) (N := 9) hx hb hts i8 hown hK hP 0 (wc_0 A cI cJ cZ z) rfl 8 (by decide) (hts (.fieldLink RX8 65 "LightestRules" "lawNow" "I") (by decide +kernel)) (fun _ h9 => h9) rfl dX8_noon_5 ?_
  obtain ⟨r_1, z_2, h_3, hf⟩ := cl_el hf
  refine callVI (As := [.int (z.1 0 8)]) (rest := []) (ci := 2) (q0 := 2) ⟨hx, hb, hml, hown, hts⟩ (tX2_crownedBy_2 (l := l) (dC := dC) (dI := dI) (t0 := t0) (cI := cI) (cJ := cJ) (cZ := cZ) hA h_3) (cwV 1 hts gX8_noon_X2_crownedBy rfl rfl rfl (by decide +kernel) ⟨Nat.le_of_ble_eq_true rfl, Nat.le_of_ble_eq_true rfl⟩) hK hZ hP hS rfl (wc_2 A cI cJ cZ z) rfl rfl rfl hl.1 (Nat.le_of_ble_eq_true rfl) ⟨Nat.zero_le _, Nat.zero_le _⟩ dX8_noon_8 (fun H locs hP hS => ?_)
  refine lv_istore_n (lv' := [(1, .int r_1), (0, .ref (A 0))]) hx hb dX8_noon_11 rfl hl (by decide) rfl (fun ls hl => ?_)
  refine lv_aload_n hx hb dX8_noon_12 rfl (lv_at hl 1 rfl) ?_
  refine va_get (D := (dC, dI)) (ci := 8) (v := .ref (A 3)) (C := RX8) (T := TX8) (N := 9) hx hb hts i8 hown hK hP 0 (wc_0 A cI cJ cZ z_2) rfl 2 (by decide) (hts (.fieldLink RX8 26 "LightestRules" "acts" "LLightestRules$ActRow;") (by decide +kernel)) (fun _ h9 => h9) rfl dX8_noon_13 ?_
  refine lv_aload_n hx hb dX8_noon_16 rfl (lv_at hl 1 rfl) ?_
  refine va_get (D := (dC, dI)) (ci := 8) (v := .ref (A 2)) (C := RX8) (T := TX8) (N := 9) hx hb hts i8 hown hK hP 0 (wc_0 A cI cJ cZ z_2) rfl 1 (by decide) (hts (.fieldLink RX8 19 "LightestRules" "folk" "LLightestRules$People;") (by decide +kernel)) (fun _ h9 => h9) rfl dX8_noon_17 ?_
  obtain ⟨r_4, z_5, h_6, hf⟩ := cl_el hf
  refine callVV (As := [.ref (A 2)]) (rest := []) (ci := 0) (q0 := 3) ⟨hx, hb, hml, hown, hts⟩ (tX0_remember (l := l) (dC := dC) (dI := dI) (t0 := t0) (cI := cI) (cJ := cJ) (cZ := cZ) hA h_6) (cwV 1 hts gX8_noon_X0_remember rfl rfl rfl (by decide +kernel) ⟨Nat.le_of_ble_eq_true rfl, Nat.le_of_ble_eq_true rfl⟩) hK hZ hP hS rfl (wc_3 A cI cJ cZ z_2) rfl rfl rfl hl.1 (Nat.le_of_ble_eq_true rfl) ⟨Nat.zero_le _, Nat.zero_le _⟩ dX8_noon_20 (fun H locs hP hS => ?_)
  refine lv_iload_n hx hb dX8_noon_23 rfl (lv_at hl 0 rfl) ?_
  refine lv_bipush (v := -9) hx hb dX8_noon_24 (by decide) ?_
  refine lv_icmp_eq (tgt := 39) hx hb dX8_noon_26 (by decide) (fun c_7 => ?_) (fun c_7 => ?_)
  · have hf := it_t c_7 hf
    refine lv_iload_n hx hb dX8_noon_39 rfl (lv_at hl 0 rfl) ?_
    exact retI hx hb hr hlocks hP hS hf dX8_noon_40
  · have hf := it_f c_7 hf
    refine lv_aload_n hx hb dX8_noon_29 rfl (lv_at hl 1 rfl) ?_
    refine va_get (D := (dC, dI)) (ci := 8) (v := .ref (A 2)) (C := RX8) (T := TX8) (N := 9) hx hb hts i8 hown hK hP 0 (wc_0 A cI cJ cZ z_5) rfl 1 (by decide) (hts (.fieldLink RX8 19 "LightestRules" "folk" "LLightestRules$People;") (by decide +kernel)) (fun _ h9 => h9) rfl dX8_noon_30 ?_
    refine lv_iload_n hx hb dX8_noon_33 rfl (lv_at hl 0 rfl) ?_
    refine lv_iconst (v := 4) hx hb dX8_noon_34 (by decide) ?_
    refine lv_iconst (v := 1) hx hb dX8_noon_35 (by decide) ?_
    obtain ⟨r_8, z_9, h_10, hf⟩ := cl_el hf
    refine callVV (As := [.int r_1, .int (4 : Int32), .int (1 : Int32)]) (rest := []) (ci := 2) (q0 := 2) ⟨hx, hb, hml, hown, hts⟩ (tX2_add_2 (l := l) (dC := dC) (dI := dI) (t0 := t0) (cI := cI) (cJ := cJ) (cZ := cZ) hA h_10) (cwV 3 hts gX8_noon_X2_add rfl rfl rfl (by decide +kernel) ⟨Nat.le_of_ble_eq_true rfl, Nat.le_of_ble_eq_true rfl⟩) hK hZ hP hS rfl (wc_2 A cI cJ cZ z_5) rfl rfl rfl hl.1 (Nat.le_of_ble_eq_true rfl) ⟨Nat.zero_le _, Nat.zero_le _⟩ dX8_noon_36 (fun H locs hP hS => ?_)
    refine lv_iload_n hx hb dX8_noon_39 rfl (lv_at hl 0 rfl) ?_
    exact retI hx hb hr hlocks hP hS hf dX8_noon_40
set_option maxHeartbeats 4000000 in
set_option maxRecDepth 100000 in
theorem tX9_noon {l : Launch} {dC : Nat → ClassId} {dI : Nat → Nat → Nat} {A : Nat → Nat} {t0 : Nat} {cI cJ cZ : ClassId} (hA : dst A)  {z : Mem} {r : Int32} {z' : Mem} (hf : fX9_noon z = some (r, z')) : MI l dC dI A t0 cI cJ cZ yX9_noon wsX9_noon 2 [.ref (A 25)] z r z' := by
  refine Met.ofW (cc := cX9_noon) (maxL := 2) (ret := (some .int)) (by decide) rfl ?_
  intro p e s m args below meth c s₁ B hml hv
  obtain ⟨rfl, hP, hK, hZ⟩ := hv
  have hx := B.exec
  have hb := B.bytes
  have hr := B.returns
  have hts := atoms_spec (ws := wsX9_noon) B.pre
  have hown : s.vm.findClass RX9 = some m.cls := findClass_of_methodNamed B.named
  have hlocks := B.notSynchronized
  have hS : va_S (fr A) s.heap s.heap [] := va_S.rf
  have i9 : ∀ w ∈ wsX90, w ∈ wsX9_noon := fun _ h => List.mem_cons_of_mem _ (List.mem_append_right _ h)
  have hl := lv_entry ([.ref (A 25)]) (n := 2) (Nat.le_of_ble_eq_true rfl)
  rw [lg_entry_eq]
  generalize (lg_sl ([.ref (A 25)]) ++ List.replicate (2 - (lg_sl ([.ref (A 25)])).length) Slot.unset).toArray = ls at hl ⊢
  have hl : lv_has ls 2 [(0, .ref (A 25))] := hl
  have hP : wIs dC dI A cI cJ cZ z s.heap := hP
  rw [fX9_noon] at hf
  refine lv_aload_n hx hb dX9_noon_0 rfl (lv_at hl 0 rfl) ?_
  obtain ⟨r_1, z_2, h_3, hf⟩ := cl_el hf
  refine callVV (As := []) (rest := []) (ci := 9) (q0 := 25) ⟨hx, hb, hml, hown, hts⟩ (tX9_keepAct (l := l) (dC := dC) (dI := dI) (t0 := t0) (cI := cI) (cJ := cJ) (cZ := cZ) hA h_3) (cwV 0 hts gX9_noon_X9_keepAct rfl rfl rfl (by decide +kernel) ⟨Nat.le_of_ble_eq_true rfl, Nat.le_of_ble_eq_true rfl⟩) hK hZ hP hS rfl (wc_25 A cI cJ cZ z) rfl rfl rfl hl.1 (Nat.le_of_ble_eq_true rfl) ⟨Nat.zero_le _, Nat.zero_le _⟩ dX9_noon_1 (fun H locs hP hS => ?_)
  refine lv_aload_n hx hb dX9_noon_4 rfl (lv_at hl 0 rfl) ?_
  refine lv_aload_n hx hb dX9_noon_5 rfl (lv_at hl 0 rfl) ?_
  refine va_get (D := (dC, dI)) (ci := 9) (v := .int (z_2.1 25 7)) (C := RX9) (T := TX9) (N := 34) hx hb hts i9 hown hK hP 25 (wc_25 A cI cJ cZ z_2) rfl 7 (by decide) (hts (.fieldLink RX9 63 "LightestRulesModel" "rule" "I") (by decide +kernel)) (fun _ h9 => h9) rfl dX9_noon_6 ?_
  obtain ⟨r_4, z_5, h_6, hf⟩ := cl_el hf
  refine callVI (As := [.int (z_2.1 25 7)]) (rest := []) (ci := 9) (q0 := 25) ⟨hx, hb, hml, hown, hts⟩ (tX9_crownBy (l := l) (dC := dC) (dI := dI) (t0 := t0) (cI := cI) (cJ := cJ) (cZ := cZ) hA h_6) (cwV 1 hts gX9_noon_X9_crownBy rfl rfl rfl (by decide +kernel) ⟨Nat.le_of_ble_eq_true rfl, Nat.le_of_ble_eq_true rfl⟩) hK hZ hP hS rfl (wc_25 A cI cJ cZ z_2) rfl rfl rfl hl.1 (Nat.le_of_ble_eq_true rfl) ⟨Nat.zero_le _, Nat.zero_le _⟩ dX9_noon_9 (fun H locs hP hS => ?_)
  refine lv_istore_n (lv' := [(1, .int r_4), (0, .ref (A 25))]) hx hb dX9_noon_12 rfl hl (by decide) rfl (fun ls hl => ?_)
  refine lv_iload_n hx hb dX9_noon_13 rfl (lv_at hl 0 rfl) ?_
  refine lv_bipush (v := -9) hx hb dX9_noon_14 (by decide) ?_
  refine lv_icmp_eq (tgt := 33) hx hb dX9_noon_16 (by decide) (fun c_7 => ?_) (fun c_7 => ?_)
  · have hf := it_t c_7 hf
    refine lv_iload_n hx hb dX9_noon_33 rfl (lv_at hl 0 rfl) ?_
    exact retI hx hb hr hlocks hP hS hf dX9_noon_34
  · have hf := it_f c_7 hf
    refine lv_aload_n hx hb dX9_noon_19 rfl (lv_at hl 1 rfl) ?_
    refine va_get (D := (dC, dI)) (ci := 9) (v := .ref (A 27)) (C := RX9) (T := TX9) (N := 34) hx hb hts i9 hown hK hP 25 (wc_25 A cI cJ cZ z_5) rfl 5 (by decide) (hts (.fieldLink RX9 13 "LightestRulesModel" "now" "[I") (by decide +kernel)) (fun _ h9 => h9) rfl dX9_noon_20 ?_
    refine lv_iconst (v := 5) hx hb dX9_noon_23 (by decide) ?_
    refine lv_iload_n hx hb dX9_noon_24 rfl (lv_at hl 0 rfl) ?_
    refine lv_imul hx hb dX9_noon_25 ?_
    refine lv_iconst (v := 4) hx hb dX9_noon_26 (by decide) ?_
    refine lv_iadd hx hb dX9_noon_27 ?_
    refine lv_topi (fun y_8 ey_8 => ?_)
    have hf := lt_at ey_8 hf; clear ey_8
    refine lv_dup2_11 hx hb dX9_noon_28 rfl rfl ?_
    obtain ⟨n_9, hf⟩ := rg_el hf
    refine va_iald hx hb hK hP 27 0 (wc_27 A cI cJ cZ z_5) rfl n_9 dX9_noon_29 ?_
    refine lv_topi (fun a_10 ea_10 => ?_)
    have hf := lt_at ea_10 hf; clear ea_10
    refine lv_iconst (v := 1) hx hb dX9_noon_30 (by decide) ?_
    refine lv_iadd hx hb dX9_noon_31 ?_
    refine lv_topi (fun y_11 ey_11 => ?_)
    have hf := lt_at ey_11 hf; clear ey_11
    obtain ⟨n_12, hf⟩ := rg_el hf
    refine va_iast hx hb hK hP (wD hA cI cJ cZ z_5) hS 27 0 (wc_27 A cI cJ cZ z_5) rfl n_12 dX9_noon_32 (fun H locs hP _ hS => ?_)
    rw [wa_27 A cI cJ cZ z_5 y_8.toNatClampNeg y_11] at hP
    obtain ⟨z_13, hP, hf⟩ := lt_P (P := fun q => wIs dC dI A cI cJ cZ q H) hP hf
    refine lv_iload_n hx hb dX9_noon_33 rfl (lv_at hl 0 rfl) ?_
    exact retI hx hb hr hlocks hP hS hf dX9_noon_34
set_option maxHeartbeats 4000000 in
set_option maxRecDepth 100000 in
theorem tX0_length {l : Launch} {dC : Nat → ClassId} {dI : Nat → Nat → Nat} {A : Nat → Nat} {t0 : Nat} {cI cJ cZ : ClassId} (hA : dst A)  {z : Mem} {r : Int32} {z' : Mem} (hf : fX0_length z = some (r, z')) : MI l dC dI A t0 cI cJ cZ yX0_length wsX0_length 0 [.ref (A 3)] z r z' := by
  refine Met.ofW (cc := cX0_length) (maxL := 1) (ret := (some .int)) (by decide) rfl ?_
  intro p e s m args below meth c s₁ B hml hv
  obtain ⟨rfl, hP, hK, hZ⟩ := hv
  have hx := B.exec
  have hb := B.bytes
  have hr := B.returns
  have hts := atoms_spec (ws := wsX0_length) B.pre
  have hown : s.vm.findClass RX0 = some m.cls := findClass_of_methodNamed B.named
  have hlocks := B.notSynchronized
  have hS : va_S (fr A) s.heap s.heap [] := va_S.rf
  have i0 : ∀ w ∈ wsX00, w ∈ wsX0_length := fun _ h => List.mem_cons_of_mem _ (List.mem_append_right _ h)
  have hl := lv_entry ([.ref (A 3)]) (n := 1) (Nat.le_of_ble_eq_true rfl)
  rw [lg_entry_eq]
  generalize (lg_sl ([.ref (A 3)]) ++ List.replicate (1 - (lg_sl ([.ref (A 3)])).length) Slot.unset).toArray = ls at hl ⊢
  have hl : lv_has ls 1 [(0, .ref (A 3))] := hl
  have hP : wIs dC dI A cI cJ cZ z s.heap := hP
  rw [fX0_length] at hf
  refine lv_aload_n hx hb dX0_length_0 rfl (lv_at hl 0 rfl) ?_
  refine va_get (D := (dC, dI)) (ci := 0) (v := .int (z.1 3 2)) (C := RX0) (T := TX0) (N := 3) hx hb hts i0 hown hK hP 3 (wc_3 A cI cJ cZ z) rfl 2 (by decide) (hts (.fieldLink RX0 19 "LightestRules$ActRow" "length" "I") (by decide +kernel)) (fun _ h9 => h9) rfl dX0_length_1 ?_
  exact retI hx hb hr hlocks hP hS hf dX0_length_4
set_option maxHeartbeats 4000000 in
set_option maxRecDepth 100000 in
theorem tX2_copyFrom_2_12 {l : Launch} {dC : Nat → ClassId} {dI : Nat → Nat → Nat} {A : Nat → Nat} {t0 : Nat} {cI cJ cZ : ClassId} (hA : dst A) {p1 : Int32} {z : Mem} {ru : Unit} {z' : Mem} (hf : fX2_copyFrom_2_12 p1 z = some (ru, z')) : MV l dC dI A t0 cI cJ cZ yX2_copyFrom wsX2_copyFrom 1 [.ref (A 2), .ref (A 12), .int p1] z z' := by
  refine Met.ofW (cc := cX2_copyFrom) (maxL := 3) (ret := none) (by decide) rfl ?_
  intro p e s m args below meth c s₁ B hml hv
  obtain ⟨rfl, hP, hK, hZ⟩ := hv
  have hx := B.exec
  have hb := B.bytes
  have hr := B.returns
  have hts := atoms_spec (ws := wsX2_copyFrom) B.pre
  have hown : s.vm.findClass RX2 = some m.cls := findClass_of_methodNamed B.named
  have hlocks := B.notSynchronized
  have hS : va_S (fr A) s.heap s.heap [] := va_S.rf
  have i2 : ∀ w ∈ wsX20, w ∈ wsX2_copyFrom := fun _ h => List.mem_cons_of_mem _ (List.mem_append_right _ h)
  have hl := lv_entry ([.ref (A 2), .ref (A 12), .int p1]) (n := 3) (Nat.le_of_ble_eq_true rfl)
  rw [lg_entry_eq]
  generalize (lg_sl ([.ref (A 2), .ref (A 12), .int p1]) ++ List.replicate (3 - (lg_sl ([.ref (A 2), .ref (A 12), .int p1])).length) Slot.unset).toArray = ls at hl ⊢
  have hl : lv_has ls 3 [(0, .ref (A 2)), (1, .ref (A 12)), (2, .int p1)] := hl
  have hP : wIs dC dI A cI cJ cZ z s.heap := hP
  rw [fX2_copyFrom_2_12] at hf
  refine lv_iload_n hx hb dX2_copyFrom_0 rfl (lv_at hl 2 rfl) ?_
  refine lv_if_lt (tgt := 28) hx hb dX2_copyFrom_1 (by decide) (fun c_1 => ?_) (fun c_1 => ?_)
  · have hf := it_t c_1 hf
    exact retV hx hb hr hlocks hP hS hf dX2_copyFrom_28
  · have hf := it_f c_1 hf
    refine lv_iload_n hx hb dX2_copyFrom_4 rfl (lv_at hl 2 rfl) ?_
    refine lv_aload_n hx hb dX2_copyFrom_5 rfl (lv_at hl 1 rfl) ?_
    refine va_alen hx hb hK hP 12 0 (wc_12 A cI cJ cZ z) rfl (v := 416) rfl dX2_copyFrom_6 ?_
    refine lv_bipush (v := 26) hx hb dX2_copyFrom_7 (by decide) ?_
    obtain ⟨n_2, hf⟩ := nz_el hf
    refine lv_idiv hx hb dX2_copyFrom_9 n_2 ?_
    refine lv_icmp_ge (tgt := 28) hx hb dX2_copyFrom_10 (by decide) (fun c_3 => ?_) (fun c_3 => ?_)
    · have hf := it_t c_3 hf
      exact retV hx hb hr hlocks hP hS hf dX2_copyFrom_28
    · have hf := it_f c_3 hf
      refine lv_aload_n hx hb dX2_copyFrom_13 rfl (lv_at hl 1 rfl) ?_
      refine lv_iload_n hx hb dX2_copyFrom_14 rfl (lv_at hl 2 rfl) ?_
      refine lv_bipush (v := 26) hx hb dX2_copyFrom_15 (by decide) ?_
      refine lv_imul hx hb dX2_copyFrom_17 ?_
      refine lv_aload_n hx hb dX2_copyFrom_18 rfl (lv_at hl 0 rfl) ?_
      refine va_get (D := (dC, dI)) (ci := 2) (v := .ref (A 11)) (C := RX2) (T := TX2) (N := 4) hx hb hts i2 hown hK hP 2 (wc_2 A cI cJ cZ z) rfl 0 (by decide) (hts (.fieldLink RX2 11 "LightestRules$People" "cells" "[I") (by decide +kernel)) (fun _ h9 => h9) rfl dX2_copyFrom_19 ?_
      refine lv_iconst (v := 0) hx hb dX2_copyFrom_22 (by decide) ?_
      refine lv_bipush (v := 26) hx hb dX2_copyFrom_23 (by decide) ?_
      obtain ⟨n_4, hf⟩ := ac_el hf
      refine va_copyi hx hb (hml.trans hl.1.symm) hown (hts (.methodLink RX2 54 arraycopyName) (by decide +kernel)) (hts (.native arraycopyName) (by decide +kernel)) (hts (.static arraycopyName) (by decide +kernel)) (hts (.initialized "java/lang/System" ) (by decide +kernel)) hK hP (wD hA cI cJ cZ z) hS 12 11 0 0 (wc_12 A cI cJ cZ z) (wc_11 A cI cJ cZ z) rfl rfl rfl n_4.1 n_4.2.1 n_4.2.2.1 n_4.2.2.2.1 n_4.2.2.2.2 (fun _ _ => rfl) (Nat.le_of_ble_eq_true rfl) (Nat.le_of_ble_eq_true rfl) dX2_copyFrom_25 (fun H locs hP _ hS => ?_)
      rw [wr_11 A cI cJ cZ z (va_cpy (z.1 12) (z.1 11) (p1 * (26 : Int32)).toNatClampNeg (0 : Int32).toNatClampNeg (26 : Int32).toNatClampNeg)] at hP
      obtain ⟨z_5, hP, hf⟩ := lt_P (P := fun q => wIs dC dI A cI cJ cZ q H) hP hf
      exact retV hx hb hr hlocks hP hS hf dX2_copyFrom_28
