set_option maxHeartbeats 4000000 in
set_option maxRecDepth 100000 in
theorem tX2_illBits_9 {l : Launch} {dC : Nat → ClassId} {dI : Nat → Nat → Nat} {A : Nat → Nat} {t0 : Nat} {cI cJ cZ : ClassId} (hA : dst A)  {z : Mem} {r : Int32} {z' : Mem} (hf : fX2_illBits_9 z = some (r, z')) : MI l dC dI A t0 cI cJ cZ yX2_illBits wsX2_illBits 2 [.ref (A 9)] z r z' := by
  refine Met.ofW (cc := cX2_illBits) (maxL := 3) (ret := (some .int)) (by decide) rfl ?_
  intro p e s m args below meth c s₁ B hml hv
  obtain ⟨rfl, hP, hK, hZ⟩ := hv
  have hx := B.exec
  have hb := B.bytes
  have hr := B.returns
  have hts := atoms_spec (ws := wsX2_illBits) B.pre
  have hown : s.vm.findClass RX2 = some m.cls := findClass_of_methodNamed B.named
  have hlocks := B.notSynchronized
  have hS : va_S (fr A) s.heap s.heap [] := va_S.rf
  have i2 : ∀ w ∈ wsX20, w ∈ wsX2_illBits := fun _ h => List.mem_cons_of_mem _ (List.mem_append_right _ h)
  have hl := lv_entry ([.ref (A 9)]) (n := 3) (Nat.le_of_ble_eq_true rfl)
  rw [lg_entry_eq]
  generalize (lg_sl ([.ref (A 9)]) ++ List.replicate (3 - (lg_sl ([.ref (A 9)])).length) Slot.unset).toArray = ls at hl ⊢
  have hl : lv_has ls 3 [(0, .ref (A 9))] := hl
  have hP : wIs dC dI A cI cJ cZ z s.heap := hP
  rw [fX2_illBits_9] at hf
  refine lv_iconst (v := 0) hx hb dX2_illBits_0 (by decide) ?_
  refine lv_istore_n (lv' := [(1, .int (0 : Int32)), (0, .ref (A 9))]) hx hb dX2_illBits_1 rfl hl (by decide) rfl (fun ls hl => ?_)
  refine lv_iconst (v := 0) hx hb dX2_illBits_2 (by decide) ?_
  refine lv_istore_n (lv' := [(2, .int (0 : Int32)), (1, .int (0 : Int32)), (0, .ref (A 9))]) hx hb dX2_illBits_3 rfl hl (by decide) rfl (fun ls hl => ?_)
  obtain ⟨K_1, eK_1, hf⟩ := fX2_illBits_9_L4_g hf
  have hEK_1 : ∀ (x1_3 : Int32) (x2_4 : Int32) (z_2 : Mem) (H : Heap) (locs : List Loc) (ls : Array Slot), K_1 x1_3 x2_4 z_2 = some (r, z') → wIs dC dI A cI cJ cZ z_2 H → va_S (fr A) s.heap H locs → lv_has ls 3 [(0, .ref (A 9)), (1, .int x1_3), (2, .int x2_4)] → WI p l e wsX2_illBits 2 s m [.ref (A 9)] below meth c dC dI A cI cJ cZ r z' H locs (F0 m 32 ls []) := by
    intro x1_3 x2_4 z_2 H locs ls hf hP hS hl
    have hf := ap3 eK_1 hf
    refine lv_iload_n hx hb dX2_illBits_32 rfl (lv_at hl 1 rfl) ?_
    exact retI hx hb hr hlocks hP hS hf dX2_illBits_33
  have hLK_1 : ∀ (n_8 : Nat) (x1_6 : Int32) (x2_7 : Int32) (z_5 : Mem) (H : Heap) (locs : List Loc) (ls : Array Slot), fX2_illBits_9_L4 K_1  n_8 x1_6 x2_7 z_5 = some (r, z') → wIs dC dI A cI cJ cZ z_5 H → va_S (fr A) s.heap H locs → lv_has ls 3 [(0, .ref (A 9)), (1, .int x1_6), (2, .int x2_7)] → WI p l e wsX2_illBits 2 s m [.ref (A 9)] below meth c dC dI A cI cJ cZ r z' H locs (F0 m 4 ls []) := by
    intro n_8
    induction n_8 with
    | zero => intro x1_6 x2_7 z_5 H locs ls hf; rw [fX2_illBits_9_L4_0] at hf; cases hf
    | succ n_8 ihK_1 =>
      intro x1_6 x2_7 z_5 H locs ls hf hP hS hl
      rw [fX2_illBits_9_L4_s] at hf
      refine lv_iload_n hx hb dX2_illBits_4 rfl (lv_at hl 2 rfl) ?_
      refine lv_aload_n hx hb dX2_illBits_5 rfl (lv_at hl 0 rfl) ?_
      refine va_get (D := (dC, dI)) (ci := 2) (v := .int (z_5.1 9 1)) (C := RX2) (T := TX2) (N := 4) hx hb hts i2 hown hK hP 9 (wc_9 A cI cJ cZ z_5) rfl 1 (by decide) (hts (.fieldLink RX2 15 "LightestRules$People" "size" "I") (by decide +kernel)) (fun _ h9 => h9) rfl dX2_illBits_6 ?_
      refine lv_icmp_ge (tgt := 32) hx hb dX2_illBits_9 (by decide) (fun c_9 => ?_) (fun c_9 => ?_)
      · have hf := it_t c_9 hf
        exact hEK_1 _ _ _ _ _ _ hf hP hS (lv_sub hl [0, 1, 2] rfl)
      · have hf := it_f c_9 hf
        refine lv_aload_n hx hb dX2_illBits_12 rfl (lv_at hl 0 rfl) ?_
        refine lv_iload_n hx hb dX2_illBits_13 rfl (lv_at hl 2 rfl) ?_
        obtain ⟨r_10, z_11, h_12, hf⟩ := cl_el hf
        refine callVI (As := [.int x2_7]) (rest := []) (ci := 2) (q0 := 9) ⟨hx, hb, hml, hown, hts⟩ (tX2_isIll_9 (l := l) (dC := dC) (dI := dI) (t0 := t0) (cI := cI) (cJ := cJ) (cZ := cZ) hA h_12) (cwV 1 hts gX2_illBits_X2_isIll rfl rfl rfl (by decide +kernel) ⟨Nat.le_of_ble_eq_true rfl, Nat.le_of_ble_eq_true rfl⟩) hK hZ hP hS rfl (wc_9 A cI cJ cZ z_5) rfl rfl rfl hl.1 (Nat.le_of_ble_eq_true rfl) ⟨Nat.zero_le _, Nat.zero_le _⟩ dX2_illBits_14 (fun H locs hP hS => ?_)
        refine lv_if_eq (tgt := 26) hx hb dX2_illBits_17 (by decide) (fun c_13 => ?_) (fun c_13 => ?_)
        · have hf := it_t c_13 hf
          obtain ⟨x2_14, ex2_14⟩ : ∃ q : Int32, q = x2_7 + (1 : Int32) := ⟨_, rfl⟩
          refine lv_iinc (v := x2_14) (lv' := [(2, .int x2_14), (0, .ref (A 9)), (1, .int x1_6)]) hx hb dX2_illBits_26 hl (k := 2) rfl (by rw [ex2_14]; rfl) (by decide) rfl (fun ls hl => ?_)
          have hf := lt_at ex2_14 hf; clear ex2_14
          refine lv_goto (tgt := 4) hx hb dX2_illBits_29 (by decide) ?_
          exact ihK_1 _ _ _ _ _ _ hf hP hS (lv_sub hl [1, 2, 0] rfl)
        · have hf := it_f c_13 hf
          refine lv_iload_n hx hb dX2_illBits_20 rfl (lv_at hl 1 rfl) ?_
          refine lv_iconst (v := 1) hx hb dX2_illBits_21 (by decide) ?_
          refine lv_iload_n hx hb dX2_illBits_22 rfl (lv_at hl 2 rfl) ?_
          refine lv_ishl hx hb dX2_illBits_23 ?_
          refine lv_ior hx hb dX2_illBits_24 ?_
          refine lv_topi (fun x1_15 ex1_15 => ?_)
          have hf := lt_at ex1_15 hf; clear ex1_15
          refine lv_istore_n (lv' := [(1, .int x1_15), (0, .ref (A 9)), (2, .int x2_7)]) hx hb dX2_illBits_25 rfl hl (by decide) rfl (fun ls hl => ?_)
          obtain ⟨x2_16, ex2_16⟩ : ∃ q : Int32, q = x2_7 + (1 : Int32) := ⟨_, rfl⟩
          refine lv_iinc (v := x2_16) (lv' := [(2, .int x2_16), (1, .int x1_15), (0, .ref (A 9))]) hx hb dX2_illBits_26 hl (k := 2) rfl (by rw [ex2_16]; rfl) (by decide) rfl (fun ls hl => ?_)
          have hf := lt_at ex2_16 hf; clear ex2_16
          refine lv_goto (tgt := 4) hx hb dX2_illBits_29 (by decide) ?_
          exact ihK_1 _ _ _ _ _ _ hf hP hS (lv_sub hl [2, 1, 0] rfl)
  exact hLK_1 FU _ _ _ _ _ _ hf hP hS (lv_sub hl [2, 1, 0] rfl)
set_option maxHeartbeats 4000000 in
set_option maxRecDepth 100000 in
theorem tX2_crownedBy_9 {l : Launch} {dC : Nat → ClassId} {dI : Nat → Nat → Nat} {A : Nat → Nat} {t0 : Nat} {cI cJ cZ : ClassId} (hA : dst A) {p0 : Int32} {z : Mem} {r : Int32} {z' : Mem} (hf : fX2_crownedBy_9 p0 z = some (r, z')) : MI l dC dI A t0 cI cJ cZ yX2_crownedBy wsX2_crownedBy 4 [.ref (A 9), .int p0] z r z' := by
  refine Met.ofW (cc := cX2_crownedBy) (maxL := 3) (ret := (some .int)) (by decide) rfl ?_
  intro p e s m args below meth c s₁ B hml hv
  obtain ⟨rfl, hP, hK, hZ⟩ := hv
  have hx := B.exec
  have hb := B.bytes
  have hr := B.returns
  have hts := atoms_spec (ws := wsX2_crownedBy) B.pre
  have hown : s.vm.findClass RX2 = some m.cls := findClass_of_methodNamed B.named
  have hlocks := B.notSynchronized
  have hS : va_S (fr A) s.heap s.heap [] := va_S.rf
  have hl := lv_entry ([.ref (A 9), .int p0]) (n := 3) (Nat.le_of_ble_eq_true rfl)
  rw [lg_entry_eq]
  generalize (lg_sl ([.ref (A 9), .int p0]) ++ List.replicate (3 - (lg_sl ([.ref (A 9), .int p0])).length) Slot.unset).toArray = ls at hl ⊢
  have hl : lv_has ls 3 [(0, .ref (A 9)), (1, .int p0)] := hl
  have hP : wIs dC dI A cI cJ cZ z s.heap := hP
  rw [fX2_crownedBy_9] at hf
  refine lv_iload_n hx hb dX2_crownedBy_0 rfl (lv_at hl 1 rfl) ?_
  refine lv_iconst (v := 2) hx hb dX2_crownedBy_1 (by decide) ?_
  refine lv_icmp_ne (tgt := 14) hx hb dX2_crownedBy_2 (by decide) (fun c_1 => ?_) (fun c_1 => ?_)
  · have hf := it_f c_1 hf
    refine lv_aload_n hx hb dX2_crownedBy_14 rfl (lv_at hl 0 rfl) ?_
    refine lv_iconst (v := 0) hx hb dX2_crownedBy_15 (by decide) ?_
    obtain ⟨r_2, z_3, h_4, hf⟩ := cl_el hf
    refine callVI (As := [.int (0 : Int32)]) (rest := []) (ci := 2) (q0 := 9) ⟨hx, hb, hml, hown, hts⟩ (tX2_lightestBut_9 (l := l) (dC := dC) (dI := dI) (t0 := t0) (cI := cI) (cJ := cJ) (cZ := cZ) hA h_4) (cwV 1 hts gX2_crownedBy_X2_lightestBut rfl rfl rfl (by decide +kernel) ⟨Nat.le_of_ble_eq_true rfl, Nat.le_of_ble_eq_true rfl⟩) hK hZ hP hS rfl (wc_9 A cI cJ cZ z) rfl rfl rfl hl.1 (Nat.le_of_ble_eq_true rfl) ⟨Nat.zero_le _, Nat.zero_le _⟩ dX2_crownedBy_16 (fun H locs hP hS => ?_)
    refine lv_istore_n (lv' := [(2, .int r_2), (0, .ref (A 9)), (1, .int p0)]) hx hb dX2_crownedBy_19 rfl hl (by decide) rfl (fun ls hl => ?_)
    refine lv_iload_n hx hb dX2_crownedBy_20 rfl (lv_at hl 2 rfl) ?_
    refine lv_iconst (v := 1) hx hb dX2_crownedBy_21 (by decide) ?_
    refine lv_icmp_ne (tgt := 41) hx hb dX2_crownedBy_22 (by decide) (fun c_5 => ?_) (fun c_5 => ?_)
    · have hf := it_f c_5 hf
      refine lv_iload_n hx hb dX2_crownedBy_41 rfl (lv_at hl 0 rfl) ?_
      exact retI hx hb hr hlocks hP hS hf dX2_crownedBy_42
    · have hf := it_t c_5 hf
      refine lv_iload_n hx hb dX2_crownedBy_25 rfl (lv_at hl 0 rfl) ?_
      refine lv_bipush (v := -9) hx hb dX2_crownedBy_26 (by decide) ?_
      refine lv_icmp_eq (tgt := 41) hx hb dX2_crownedBy_28 (by decide) (fun c_6 => ?_) (fun c_6 => ?_)
      · have hf := it_t c_6 hf
        refine lv_iload_n hx hb dX2_crownedBy_41 rfl (lv_at hl 0 rfl) ?_
        exact retI hx hb hr hlocks hP hS hf dX2_crownedBy_42
      · have hf := it_f c_6 hf
        refine lv_aload_n hx hb dX2_crownedBy_31 rfl (lv_at hl 1 rfl) ?_
        refine lv_iconst (v := 1) hx hb dX2_crownedBy_32 (by decide) ?_
        refine lv_iload_n hx hb dX2_crownedBy_33 rfl (lv_at hl 0 rfl) ?_
        refine lv_ishl hx hb dX2_crownedBy_34 ?_
        obtain ⟨r_7, z_8, h_9, hf⟩ := cl_el hf
        refine callVI (As := [.int ((1 : Int32) <<< (r_2 &&& 31))]) (rest := []) (ci := 2) (q0 := 9) ⟨hx, hb, hml, hown, hts⟩ (tX2_lightestBut_9 (l := l) (dC := dC) (dI := dI) (t0 := t0) (cI := cI) (cJ := cJ) (cZ := cZ) hA h_9) (cwV 1 hts gX2_crownedBy_X2_lightestBut rfl rfl rfl (by decide +kernel) ⟨Nat.le_of_ble_eq_true rfl, Nat.le_of_ble_eq_true rfl⟩) hK hZ hP hS rfl (wc_9 A cI cJ cZ z_3) rfl rfl rfl hl.1 (Nat.le_of_ble_eq_true rfl) ⟨Nat.zero_le _, Nat.zero_le _⟩ dX2_crownedBy_35 (fun H locs hP hS => ?_)
        refine lv_goto (tgt := 42) hx hb dX2_crownedBy_38 (by decide) ?_
        exact retI hx hb hr hlocks hP hS hf dX2_crownedBy_42
  · have hf := it_t c_1 hf
    refine lv_aload_n hx hb dX2_crownedBy_5 rfl (lv_at hl 0 rfl) ?_
    refine lv_aload_n hx hb dX2_crownedBy_6 rfl (lv_at hl 0 rfl) ?_
    obtain ⟨r_10, z_11, h_12, hf⟩ := cl_el hf
    refine callVI (As := []) (rest := [.ref (A 9)]) (ci := 2) (q0 := 9) ⟨hx, hb, hml, hown, hts⟩ (tX2_illBits_9 (l := l) (dC := dC) (dI := dI) (t0 := t0) (cI := cI) (cJ := cJ) (cZ := cZ) hA h_12) (cwV 0 hts gX2_crownedBy_X2_illBits rfl rfl rfl (by decide +kernel) ⟨Nat.le_of_ble_eq_true rfl, Nat.le_of_ble_eq_true rfl⟩) hK hZ hP hS rfl (wc_9 A cI cJ cZ z) rfl rfl rfl hl.1 (Nat.le_of_ble_eq_true rfl) ⟨Nat.zero_le _, Nat.zero_le _⟩ dX2_crownedBy_7 (fun H locs hP hS => ?_)
    obtain ⟨r_13, z_14, h_15, hf⟩ := cl_el hf
    refine callVI (As := [.int r_10]) (rest := []) (ci := 2) (q0 := 9) ⟨hx, hb, hml, hown, hts⟩ (tX2_lightestBut_9 (l := l) (dC := dC) (dI := dI) (t0 := t0) (cI := cI) (cJ := cJ) (cZ := cZ) hA h_15) (cwV 1 hts gX2_crownedBy_X2_lightestBut rfl rfl rfl (by decide +kernel) ⟨Nat.le_of_ble_eq_true rfl, Nat.le_of_ble_eq_true rfl⟩) hK hZ hP hS rfl (wc_9 A cI cJ cZ z_11) rfl rfl rfl hl.1 (Nat.le_of_ble_eq_true rfl) ⟨Nat.zero_le _, Nat.zero_le _⟩ dX2_crownedBy_10 (fun H locs hP hS => ?_)
    exact retI hx hb hr hlocks hP hS hf dX2_crownedBy_13
set_option maxHeartbeats 4000000 in
set_option maxRecDepth 100000 in
theorem tX2_size_9 {l : Launch} {dC : Nat → ClassId} {dI : Nat → Nat → Nat} {A : Nat → Nat} {t0 : Nat} {cI cJ cZ : ClassId} (hA : dst A)  {z : Mem} {r : Int32} {z' : Mem} (hf : fX2_size_9 z = some (r, z')) : MI l dC dI A t0 cI cJ cZ yX2_size wsX2_size 0 [.ref (A 9)] z r z' := by
  refine Met.ofW (cc := cX2_size) (maxL := 1) (ret := (some .int)) (by decide) rfl ?_
  intro p e s m args below meth c s₁ B hml hv
  obtain ⟨rfl, hP, hK, hZ⟩ := hv
  have hx := B.exec
  have hb := B.bytes
  have hr := B.returns
  have hts := atoms_spec (ws := wsX2_size) B.pre
  have hown : s.vm.findClass RX2 = some m.cls := findClass_of_methodNamed B.named
  have hlocks := B.notSynchronized
  have hS : va_S (fr A) s.heap s.heap [] := va_S.rf
  have i2 : ∀ w ∈ wsX20, w ∈ wsX2_size := fun _ h => List.mem_cons_of_mem _ (List.mem_append_right _ h)
  have hl := lv_entry ([.ref (A 9)]) (n := 1) (Nat.le_of_ble_eq_true rfl)
  rw [lg_entry_eq]
  generalize (lg_sl ([.ref (A 9)]) ++ List.replicate (1 - (lg_sl ([.ref (A 9)])).length) Slot.unset).toArray = ls at hl ⊢
  have hl : lv_has ls 1 [(0, .ref (A 9))] := hl
  have hP : wIs dC dI A cI cJ cZ z s.heap := hP
  rw [fX2_size_9] at hf
  refine lv_aload_n hx hb dX2_size_0 rfl (lv_at hl 0 rfl) ?_
  refine va_get (D := (dC, dI)) (ci := 2) (v := .int (z.1 9 1)) (C := RX2) (T := TX2) (N := 4) hx hb hts i2 hown hK hP 9 (wc_9 A cI cJ cZ z) rfl 1 (by decide) (hts (.fieldLink RX2 15 "LightestRules$People" "size" "I") (by decide +kernel)) (fun _ h9 => h9) rfl dX2_size_1 ?_
  exact retI hx hb hr hlocks hP hS hf dX2_size_4
set_option maxHeartbeats 4000000 in
set_option maxRecDepth 100000 in
theorem tX7_nextOunces {l : Launch} {dC : Nat → ClassId} {dI : Nat → Nat → Nat} {A : Nat → Nat} {t0 : Nat} {cI cJ cZ : ClassId} (hA : dst A)  {z : Mem} {r : Int32} {z' : Mem} (hf : fX7_nextOunces z = some (r, z')) : MI l dC dI A t0 cI cJ cZ yX7_nextOunces wsX7_nextOunces 0 [.ref (A 8)] z r z' := by
  refine Met.ofW (cc := cX7_nextOunces) (maxL := 2) (ret := (some .int)) (by decide) rfl ?_
  intro p e s m args below meth c s₁ B hml hv
  obtain ⟨rfl, hP, hK, hZ⟩ := hv
  have hx := B.exec
  have hb := B.bytes
  have hr := B.returns
  have hts := atoms_spec (ws := wsX7_nextOunces) B.pre
  have hown : s.vm.findClass RX7 = some m.cls := findClass_of_methodNamed B.named
  have hlocks := B.notSynchronized
  have hS : va_S (fr A) s.heap s.heap [] := va_S.rf
  have i7 : ∀ w ∈ wsX70, w ∈ wsX7_nextOunces := fun _ h => List.mem_cons_of_mem _ (List.mem_append_right _ h)
  have hl := lv_entry ([.ref (A 8)]) (n := 2) (Nat.le_of_ble_eq_true rfl)
  rw [lg_entry_eq]
  generalize (lg_sl ([.ref (A 8)]) ++ List.replicate (2 - (lg_sl ([.ref (A 8)])).length) Slot.unset).toArray = ls at hl ⊢
  have hl : lv_has ls 2 [(0, .ref (A 8))] := hl
  have hP : wIs dC dI A cI cJ cZ z s.heap := hP
  rw [fX7_nextOunces] at hf
  refine lv_aload_n hx hb dX7_nextOunces_0 rfl (lv_at hl 0 rfl) ?_
  refine lv_aload_n hx hb dX7_nextOunces_1 rfl (lv_at hl 0 rfl) ?_
  refine va_get (D := (dC, dI)) (ci := 7) (v := .long (z.2 8 1)) (C := RX7) (T := TX7) (N := 2) hx hb hts i7 hown hK hP 8 (wc_8 A cI cJ cZ z) rfl 1 (by decide) (hts (.fieldLink RX7 16 "LightestRules$Year" "grown" "J") (by decide +kernel)) (fun _ h9 => h9) rfl dX7_nextOunces_2 ?_
  refine lv_ldc2 hx hb hown (hts (.constantLong RX7 39 (6364136223846793005)) (by decide +kernel)) dX7_nextOunces_5 ?_
  refine lv_lmul hx hb dX7_nextOunces_8 ?_
  refine lv_ldc2 hx hb hown (hts (.constantLong RX7 41 (1442695040888963407)) (by decide +kernel)) dX7_nextOunces_9 ?_
  refine lv_ladd hx hb dX7_nextOunces_12 ?_
  refine lv_topl (fun y_1 ey_1 => ?_)
  have hf := lt_at ey_1 hf; clear ey_1
  refine va_put (D := (dC, dI)) (ci := 7) (v := .long y_1) (ty := .long) (C := RX7) (T := TX7) (N := 2) hx hb hts i7 tyX7 tyX7_ok nmX7 hown hK hP (wD hA cI cJ cZ z) hS 8 (wc_8 A cI cJ cZ z) rfl 1 (by decide) (hts (.fieldLink RX7 16 "LightestRules$Year" "grown" "J") (by decide +kernel)) (fun _ h9 => h9) rfl (by decide +kernel) rfl rfl (Nat.le_of_ble_eq_true rfl) dX7_nextOunces_13 (fun H locs hP _ hS => ?_)
  rw [ws_8_1 A cI cJ cZ z y_1] at hP
  obtain ⟨z_2, hP, hf⟩ := lt_P (P := fun q => wIs dC dI A cI cJ cZ q H) hP hf
  refine lv_aload_n hx hb dX7_nextOunces_16 rfl (lv_at hl 0 rfl) ?_
  refine va_get (D := (dC, dI)) (ci := 7) (v := .long (z_2.2 8 1)) (C := RX7) (T := TX7) (N := 2) hx hb hts i7 hown hK hP 8 (wc_8 A cI cJ cZ z_2) rfl 1 (by decide) (hts (.fieldLink RX7 16 "LightestRules$Year" "grown" "J") (by decide +kernel)) (fun _ h9 => h9) rfl dX7_nextOunces_17 ?_
  refine lv_bipush (v := 33) hx hb dX7_nextOunces_20 (by decide) ?_
  refine lv_lushr hx hb dX7_nextOunces_22 rfl ?_
  refine lv_l2i hx hb dX7_nextOunces_23 rfl ?_
  refine lv_topi (fun x1_3 ex1_3 => ?_)
  have hf := lt_at ex1_3 hf; clear ex1_3
  refine lv_istore_n (lv' := [(1, .int x1_3), (0, .ref (A 8))]) hx hb dX7_nextOunces_24 rfl hl (by decide) rfl (fun ls hl => ?_)
  refine lv_iload_n hx hb dX7_nextOunces_25 rfl (lv_at hl 0 rfl) ?_
  refine lv_bipush (v := 7) hx hb dX7_nextOunces_26 (by decide) ?_
  obtain ⟨n_4, hf⟩ := nz_el hf
  refine lv_irem hx hb dX7_nextOunces_28 n_4 ?_
  refine lv_iconst (v := 3) hx hb dX7_nextOunces_29 (by decide) ?_
  refine lv_isub hx hb dX7_nextOunces_30 ?_
  refine lv_iconst (v := 5) hx hb dX7_nextOunces_31 (by decide) ?_
  refine lv_imul hx hb dX7_nextOunces_32 ?_
  exact retI hx hb hr hlocks hP hS hf dX7_nextOunces_33
set_option maxHeartbeats 4000000 in
set_option maxRecDepth 100000 in
theorem tX2_add_9 {l : Launch} {dC : Nat → ClassId} {dI : Nat → Nat → Nat} {A : Nat → Nat} {t0 : Nat} {cI cJ cZ : ClassId} (hA : dst A) {p0 : Int32} {p1 : Int32} {p2 : Int32} {z : Mem} {ru : Unit} {z' : Mem} (hf : fX2_add_9 p0 p1 p2 z = some (ru, z')) : MV l dC dI A t0 cI cJ cZ yX2_add wsX2_add 0 [.ref (A 9), .int p0, .int p1, .int p2] z z' := by
  refine Met.ofW (cc := cX2_add) (maxL := 5) (ret := none) (by decide) rfl ?_
  intro p e s m args below meth c s₁ B hml hv
  obtain ⟨rfl, hP, hK, hZ⟩ := hv
  have hx := B.exec
  have hb := B.bytes
  have hr := B.returns
  have hts := atoms_spec (ws := wsX2_add) B.pre
  have hown : s.vm.findClass RX2 = some m.cls := findClass_of_methodNamed B.named
  have hlocks := B.notSynchronized
  have hS : va_S (fr A) s.heap s.heap [] := va_S.rf
  have i2 : ∀ w ∈ wsX20, w ∈ wsX2_add := fun _ h => List.mem_cons_of_mem _ (List.mem_append_right _ h)
  have hl := lv_entry ([.ref (A 9), .int p0, .int p1, .int p2]) (n := 5) (Nat.le_of_ble_eq_true rfl)
  rw [lg_entry_eq]
  generalize (lg_sl ([.ref (A 9), .int p0, .int p1, .int p2]) ++ List.replicate (5 - (lg_sl ([.ref (A 9), .int p0, .int p1, .int p2])).length) Slot.unset).toArray = ls at hl ⊢
  have hl : lv_has ls 5 [(0, .ref (A 9)), (1, .int p0), (2, .int p1), (3, .int p2)] := hl
  have hP : wIs dC dI A cI cJ cZ z s.heap := hP
  rw [fX2_add_9] at hf
  refine lv_iload_n hx hb dX2_add_0 rfl (lv_at hl 1 rfl) ?_
  refine lv_iconst (v := 5) hx hb dX2_add_1 (by decide) ?_
  refine lv_imul hx hb dX2_add_2 ?_
  refine lv_iload_n hx hb dX2_add_3 rfl (lv_at hl 2 rfl) ?_
  refine lv_iadd hx hb dX2_add_4 ?_
  refine lv_topi (fun x4_1 ex4_1 => ?_)
  have hf := lt_at ex4_1 hf; clear ex4_1
  refine lv_istore (lv' := [(4, .int x4_1), (0, .ref (A 9)), (1, .int p0), (2, .int p1), (3, .int p2)]) hx hb dX2_add_5 hl (by decide) rfl (fun ls hl => ?_)
  refine lv_iload hx hb dX2_add_7 (lv_at hl 0 rfl) ?_
  refine lv_if_lt (tgt := 30) hx hb dX2_add_9 (by decide) (fun c_2 => ?_) (fun c_2 => ?_)
  · have hf := it_t c_2 hf
    exact retV hx hb hr hlocks hP hS hf dX2_add_30
  · have hf := it_f c_2 hf
    refine lv_iload hx hb dX2_add_12 (lv_at hl 0 rfl) ?_
    refine lv_bipush (v := 25) hx hb dX2_add_14 (by decide) ?_
    refine lv_icmp_ge (tgt := 30) hx hb dX2_add_16 (by decide) (fun c_3 => ?_) (fun c_3 => ?_)
    · have hf := it_t c_3 hf
      exact retV hx hb hr hlocks hP hS hf dX2_add_30
    · have hf := it_f c_3 hf
      refine lv_aload_n hx hb dX2_add_19 rfl (lv_at hl 1 rfl) ?_
      refine va_get (D := (dC, dI)) (ci := 2) (v := .ref (A 24)) (C := RX2) (T := TX2) (N := 4) hx hb hts i2 hown hK hP 9 (wc_9 A cI cJ cZ z) rfl 0 (by decide) (hts (.fieldLink RX2 11 "LightestRules$People" "cells" "[I") (by decide +kernel)) (fun _ h9 => h9) rfl dX2_add_20 ?_
      refine lv_iload hx hb dX2_add_23 (lv_at hl 0 rfl) ?_
      refine lv_dup2_11 hx hb dX2_add_25 rfl rfl ?_
      obtain ⟨n_4, hf⟩ := rg_el hf
      refine va_iald hx hb hK hP 24 0 (wc_24 A cI cJ cZ z) rfl n_4 dX2_add_26 ?_
      refine lv_topi (fun a_5 ea_5 => ?_)
      have hf := lt_at ea_5 hf; clear ea_5
      refine lv_iload_n hx hb dX2_add_27 rfl (lv_at hl 4 rfl) ?_
      refine lv_iadd hx hb dX2_add_28 ?_
      refine lv_topi (fun y_6 ey_6 => ?_)
      have hf := lt_at ey_6 hf; clear ey_6
      obtain ⟨n_7, hf⟩ := rg_el hf
      refine va_iast hx hb hK hP (wD hA cI cJ cZ z) hS 24 0 (wc_24 A cI cJ cZ z) rfl n_7 dX2_add_29 (fun H locs hP _ hS => ?_)
      rw [wa_24 A cI cJ cZ z x4_1.toNatClampNeg y_6] at hP
      obtain ⟨z_8, hP, hf⟩ := lt_P (P := fun q => wIs dC dI A cI cJ cZ q H) hP hf
      exact retV hx hb hr hlocks hP hS hf dX2_add_30
set_option maxHeartbeats 4000000 in
set_option maxRecDepth 100000 in
theorem tX2_gain_9 {l : Launch} {dC : Nat → ClassId} {dI : Nat → Nat → Nat} {A : Nat → Nat} {t0 : Nat} {cI cJ cZ : ClassId} (hA : dst A) {p0 : Int32} {p1 : Int32} {z : Mem} {r : Int32} {z' : Mem} (hf : fX2_gain_9 p0 p1 z = some (r, z')) : MI l dC dI A t0 cI cJ cZ yX2_gain wsX2_gain 1 [.ref (A 9), .int p0, .int p1] z r z' := by
  refine Met.ofW (cc := cX2_gain) (maxL := 4) (ret := (some .int)) (by decide) rfl ?_
  intro p e s m args below meth c s₁ B hml hv
  obtain ⟨rfl, hP, hK, hZ⟩ := hv
  have hx := B.exec
  have hb := B.bytes
  have hr := B.returns
  have hts := atoms_spec (ws := wsX2_gain) B.pre
  have hown : s.vm.findClass RX2 = some m.cls := findClass_of_methodNamed B.named
  have hlocks := B.notSynchronized
  have hS : va_S (fr A) s.heap s.heap [] := va_S.rf
  have hl := lv_entry ([.ref (A 9), .int p0, .int p1]) (n := 4) (Nat.le_of_ble_eq_true rfl)
  rw [lg_entry_eq]
  generalize (lg_sl ([.ref (A 9), .int p0, .int p1]) ++ List.replicate (4 - (lg_sl ([.ref (A 9), .int p0, .int p1])).length) Slot.unset).toArray = ls at hl ⊢
  have hl : lv_has ls 4 [(0, .ref (A 9)), (1, .int p0), (2, .int p1)] := hl
  have hP : wIs dC dI A cI cJ cZ z s.heap := hP
  rw [fX2_gain_9] at hf
  refine lv_aload_n hx hb dX2_gain_0 rfl (lv_at hl 0 rfl) ?_
  refine lv_iload_n hx hb dX2_gain_1 rfl (lv_at hl 1 rfl) ?_
  refine lv_iconst (v := 0) hx hb dX2_gain_2 (by decide) ?_
  obtain ⟨r_1, z_2, h_3, hf⟩ := cl_el hf
  refine callVI (As := [.int p0, .int (0 : Int32)]) (rest := []) (ci := 2) (q0 := 9) ⟨hx, hb, hml, hown, hts⟩ (tX2_get_9 (l := l) (dC := dC) (dI := dI) (t0 := t0) (cI := cI) (cJ := cJ) (cZ := cZ) hA h_3) (cwV 2 hts gX2_gain_X2_get rfl rfl rfl (by decide +kernel) ⟨Nat.le_of_ble_eq_true rfl, Nat.le_of_ble_eq_true rfl⟩) hK hZ hP hS rfl (wc_9 A cI cJ cZ z) rfl rfl rfl hl.1 (Nat.le_of_ble_eq_true rfl) ⟨Nat.zero_le _, Nat.zero_le _⟩ dX2_gain_3 (fun H locs hP hS => ?_)
  refine lv_istore_n (lv' := [(3, .int r_1), (0, .ref (A 9)), (1, .int p0), (2, .int p1)]) hx hb dX2_gain_6 rfl hl (by decide) rfl (fun ls hl => ?_)
  refine lv_aload_n hx hb dX2_gain_7 rfl (lv_at hl 1 rfl) ?_
  refine lv_iload_n hx hb dX2_gain_8 rfl (lv_at hl 2 rfl) ?_
  refine lv_iconst (v := 0) hx hb dX2_gain_9 (by decide) ?_
  refine lv_iconst (v := 1) hx hb dX2_gain_10 (by decide) ?_
  refine lv_iload_n hx hb dX2_gain_11 rfl (lv_at hl 0 rfl) ?_
  refine lv_iload_n hx hb dX2_gain_12 rfl (lv_at hl 3 rfl) ?_
  refine lv_iadd hx hb dX2_gain_13 ?_
  refine va_mmax hx hb (hml.trans hl.1.symm) hown (hts (.methodLink RX2 63 Lib.Math.max.name) (by decide +kernel)) (hts (.static Lib.Math.max.name) (by decide +kernel)) (hts (.initialized "java/lang/Math" ) (by decide +kernel)) (hts (.code Lib.Math.max.name Lib.Math.max.code 2 (some .int)) (by decide +kernel)) (Nat.le_of_ble_eq_true rfl) (Nat.le_of_ble_eq_true rfl) (Nat.zero_le _) (Nat.zero_le _) dX2_gain_14 ?_
  refine lv_topi (fun y_4 ey_4 => ?_)
  have hf := lt_at ey_4 hf; clear ey_4
  refine lv_iload_n hx hb dX2_gain_17 rfl (lv_at hl 0 rfl) ?_
  refine lv_isub hx hb dX2_gain_18 ?_
  obtain ⟨r_5, z_6, h_7, hf⟩ := cl_el hf
  refine callVV (As := [.int p0, .int (0 : Int32), .int (y_4 - r_1)]) (rest := []) (ci := 2) (q0 := 9) ⟨hx, hb, hml, hown, hts⟩ (tX2_add_9 (l := l) (dC := dC) (dI := dI) (t0 := t0) (cI := cI) (cJ := cJ) (cZ := cZ) hA h_7) (cwV 3 hts gX2_gain_X2_add rfl rfl rfl (by decide +kernel) ⟨Nat.le_of_ble_eq_true rfl, Nat.le_of_ble_eq_true rfl⟩) hK hZ hP hS rfl (wc_9 A cI cJ cZ z_2) rfl rfl rfl hl.1 (Nat.le_of_ble_eq_true rfl) ⟨Nat.zero_le _, Nat.zero_le _⟩ dX2_gain_19 (fun H locs hP hS => ?_)
  refine lv_aload_n hx hb dX2_gain_22 rfl (lv_at hl 1 rfl) ?_
  refine lv_iload_n hx hb dX2_gain_23 rfl (lv_at hl 2 rfl) ?_
  refine lv_iconst (v := 0) hx hb dX2_gain_24 (by decide) ?_
  obtain ⟨r_8, z_9, h_10, hf⟩ := cl_el hf
  refine callVI (As := [.int p0, .int (0 : Int32)]) (rest := []) (ci := 2) (q0 := 9) ⟨hx, hb, hml, hown, hts⟩ (tX2_get_9 (l := l) (dC := dC) (dI := dI) (t0 := t0) (cI := cI) (cJ := cJ) (cZ := cZ) hA h_10) (cwV 2 hts gX2_gain_X2_get rfl rfl rfl (by decide +kernel) ⟨Nat.le_of_ble_eq_true rfl, Nat.le_of_ble_eq_true rfl⟩) hK hZ hP hS rfl (wc_9 A cI cJ cZ z_6) rfl rfl rfl hl.1 (Nat.le_of_ble_eq_true rfl) ⟨Nat.zero_le _, Nat.zero_le _⟩ dX2_gain_25 (fun H locs hP hS => ?_)
  exact retI hx hb hr hlocks hP hS hf dX2_gain_28
set_option maxHeartbeats 4000000 in
set_option maxRecDepth 100000 in
theorem tX7_monthsOf {l : Launch} {dC : Nat → ClassId} {dI : Nat → Nat → Nat} {A : Nat → Nat} {t0 : Nat} {cI cJ cZ : ClassId} (hA : dst A) {p0 : Int32} {p1 : Int32} {z : Mem} {r : Int32} {z' : Mem} (hf : fX7_monthsOf p0 p1 z = some (r, z')) : MI l dC dI A t0 cI cJ cZ yX7_monthsOf wsX7_monthsOf 5 [.ref (A 8), .int p0, .int p1, .ref (A 2)] z r z' := by
  refine Met.ofW (cc := cX7_monthsOf) (maxL := 7) (ret := (some .int)) (by decide) rfl ?_
  intro p e s m args below meth c s₁ B hml hv
  obtain ⟨rfl, hP, hK, hZ⟩ := hv
  have hx := B.exec
  have hb := B.bytes
  have hr := B.returns
  have hts := atoms_spec (ws := wsX7_monthsOf) B.pre
  have hown : s.vm.findClass RX7 = some m.cls := findClass_of_methodNamed B.named
  have hlocks := B.notSynchronized
  have hS : va_S (fr A) s.heap s.heap [] := va_S.rf
  have i7 : ∀ w ∈ wsX70, w ∈ wsX7_monthsOf := fun _ h => List.mem_cons_of_mem _ (List.mem_append_left _ (List.mem_append_right _ h))
  have hl := lv_entry ([.ref (A 8), .int p0, .int p1, .ref (A 2)]) (n := 7) (Nat.le_of_ble_eq_true rfl)
  rw [lg_entry_eq]
  generalize (lg_sl ([.ref (A 8), .int p0, .int p1, .ref (A 2)]) ++ List.replicate (7 - (lg_sl ([.ref (A 8), .int p0, .int p1, .ref (A 2)])).length) Slot.unset).toArray = ls at hl ⊢
  have hl : lv_has ls 7 [(0, .ref (A 8)), (1, .int p0), (2, .int p1), (3, .ref (A 2))] := hl
  have hP : wIs dC dI A cI cJ cZ z s.heap := hP
  rw [fX7_monthsOf] at hf
  refine lv_aload_n hx hb dX7_monthsOf_0 rfl (lv_at hl 0 rfl) ?_
  refine va_get (D := (dC, dI)) (ci := 7) (v := .ref (A 9)) (C := RX7) (T := TX7) (N := 2) hx hb hts i7 hown hK hP 8 (wc_8 A cI cJ cZ z) rfl 0 (by decide) (hts (.fieldLink RX7 10 "LightestRules$Year" "lookalikes" "LLightestRules$People;") (by decide +kernel)) (fun _ h9 => h9) rfl dX7_monthsOf_1 ?_
  refine lv_aload_n hx hb dX7_monthsOf_4 rfl (lv_at hl 3 rfl) ?_
  obtain ⟨r_1, z_2, h_3, hf⟩ := cl_el hf
  refine callVV (As := [.ref (A 2)]) (rest := []) (ci := 2) (q0 := 9) ⟨hx, hb, hml, hown, hts⟩ (tX2_becomeLike (l := l) (dC := dC) (dI := dI) (t0 := t0) (cI := cI) (cJ := cJ) (cZ := cZ) hA h_3) (cwV 1 hts gX7_monthsOf_X2_becomeLike rfl rfl rfl (by decide +kernel) ⟨Nat.le_of_ble_eq_true rfl, Nat.le_of_ble_eq_true rfl⟩) hK hZ hP hS rfl (wc_9 A cI cJ cZ z) rfl rfl rfl hl.1 (Nat.le_of_ble_eq_true rfl) ⟨Nat.zero_le _, Nat.zero_le _⟩ dX7_monthsOf_5 (fun H locs hP hS => ?_)
  refine lv_iconst (v := 0) hx hb dX7_monthsOf_8 (by decide) ?_
  refine lv_istore (lv' := [(4, .int (0 : Int32)), (0, .ref (A 8)), (1, .int p0), (2, .int p1), (3, .ref (A 2))]) hx hb dX7_monthsOf_9 hl (by decide) rfl (fun ls hl => ?_)
  refine lv_iconst (v := 0) hx hb dX7_monthsOf_11 (by decide) ?_
  refine lv_istore (lv' := [(5, .int (0 : Int32)), (4, .int (0 : Int32)), (0, .ref (A 8)), (1, .int p0), (2, .int p1), (3, .ref (A 2))]) hx hb dX7_monthsOf_12 hl (by decide) rfl (fun ls hl => ?_)
  obtain ⟨K_4, eK_4, hf⟩ := fX7_monthsOf_L14_g hf
  have hEK_4 : ∀ (x4_6 : Int32) (x5_7 : Int32) (z_5 : Mem) (H : Heap) (locs : List Loc) (ls : Array Slot), K_4 x4_6 x5_7 z_5 = some (r, z') → wIs dC dI A cI cJ cZ z_5 H → va_S (fr A) s.heap H locs → lv_has ls 7 [(0, .ref (A 8)), (1, .int p0), (2, .int p1), (3, .ref (A 2)), (4, .int x4_6), (5, .int x5_7)] → WI p l e wsX7_monthsOf 5 s m [.ref (A 8), .int p0, .int p1, .ref (A 2)] below meth c dC dI A cI cJ cZ r z' H locs (F0 m 77 ls []) := by
    intro x4_6 x5_7 z_5 H locs ls hf hP hS hl
    have hf := ap3 eK_4 hf
    refine lv_iload hx hb dX7_monthsOf_77 (lv_at hl 4 rfl) ?_
    exact retI hx hb hr hlocks hP hS hf dX7_monthsOf_79
  have hLK_4 : ∀ (n_11 : Nat) (x4_9 : Int32) (x5_10 : Int32) (z_8 : Mem) (H : Heap) (locs : List Loc) (ls : Array Slot), fX7_monthsOf_L14 K_4 p0 p1 n_11 x4_9 x5_10 z_8 = some (r, z') → wIs dC dI A cI cJ cZ z_8 H → va_S (fr A) s.heap H locs → lv_has ls 7 [(0, .ref (A 8)), (1, .int p0), (2, .int p1), (3, .ref (A 2)), (4, .int x4_9), (5, .int x5_10)] → WI p l e wsX7_monthsOf 5 s m [.ref (A 8), .int p0, .int p1, .ref (A 2)] below meth c dC dI A cI cJ cZ r z' H locs (F0 m 14 ls []) := by
    intro n_11
    induction n_11 with
    | zero => intro x4_9 x5_10 z_8 H locs ls hf; rw [fX7_monthsOf_L14_0] at hf; cases hf
    | succ n_11 ihK_4 =>
      intro x4_9 x5_10 z_8 H locs ls hf hP hS hl
      rw [fX7_monthsOf_L14_s] at hf
      refine lv_iload hx hb dX7_monthsOf_14 (lv_at hl 5 rfl) ?_
      refine lv_bipush (v := 12) hx hb dX7_monthsOf_16 (by decide) ?_
      refine lv_icmp_ge (tgt := 77) hx hb dX7_monthsOf_18 (by decide) (fun c_12 => ?_) (fun c_12 => ?_)
      · have hf := it_t c_12 hf
        exact hEK_4 _ _ _ _ _ _ hf hP hS (lv_sub hl [0, 1, 2, 3, 4, 5] rfl)
      · have hf := it_f c_12 hf
        refine lv_iconst (v := 0) hx hb dX7_monthsOf_21 (by decide) ?_
        refine lv_istore (lv' := [(6, .int (0 : Int32)), (0, .ref (A 8)), (1, .int p0), (2, .int p1), (3, .ref (A 2)), (4, .int x4_9), (5, .int x5_10)]) hx hb dX7_monthsOf_22 hl (by decide) rfl (fun ls hl => ?_)
        obtain ⟨K_13, eK_13, hf⟩ := fX7_monthsOf_L24_g hf
        have hEK_13 : ∀ (x6_15 : Int32) (z_14 : Mem) (H : Heap) (locs : List Loc) (ls : Array Slot), K_13 x6_15 z_14 = some (r, z') → wIs dC dI A cI cJ cZ z_14 H → va_S (fr A) s.heap H locs → lv_has ls 7 [(0, .ref (A 8)), (1, .int p0), (2, .int p1), (3, .ref (A 2)), (4, .int x4_9), (5, .int x5_10), (6, .int x6_15)] → WI p l e wsX7_monthsOf 5 s m [.ref (A 8), .int p0, .int p1, .ref (A 2)] below meth c dC dI A cI cJ cZ r z' H locs (F0 m 56 ls []) := by
          intro x6_15 z_14 H locs ls hf hP hS hl
          have hf := ap2 eK_13 hf
          refine lv_aload_n hx hb dX7_monthsOf_56 rfl (lv_at hl 0 rfl) ?_
          refine va_get (D := (dC, dI)) (ci := 7) (v := .ref (A 9)) (C := RX7) (T := TX7) (N := 2) hx hb hts i7 hown hK hP 8 (wc_8 A cI cJ cZ z_14) rfl 0 (by decide) (hts (.fieldLink RX7 10 "LightestRules$Year" "lookalikes" "LLightestRules$People;") (by decide +kernel)) (fun _ h9 => h9) rfl dX7_monthsOf_57 ?_
          refine lv_iload_n hx hb dX7_monthsOf_60 rfl (lv_at hl 2 rfl) ?_
          obtain ⟨r_16, z_17, h_18, hf⟩ := cl_el hf
          refine callVI (As := [.int p1]) (rest := []) (ci := 2) (q0 := 9) ⟨hx, hb, hml, hown, hts⟩ (tX2_crownedBy_9 (l := l) (dC := dC) (dI := dI) (t0 := t0) (cI := cI) (cJ := cJ) (cZ := cZ) hA h_18) (cwV 1 hts gX7_monthsOf_X2_crownedBy rfl rfl rfl (by decide +kernel) ⟨Nat.le_of_ble_eq_true rfl, Nat.le_of_ble_eq_true rfl⟩) hK hZ hP hS rfl (wc_9 A cI cJ cZ z_14) rfl rfl rfl hl.1 (Nat.le_of_ble_eq_true rfl) ⟨Nat.zero_le _, Nat.zero_le _⟩ dX7_monthsOf_61 (fun H locs hP hS => ?_)
          refine lv_iload_n hx hb dX7_monthsOf_64 rfl (lv_at hl 1 rfl) ?_
          refine lv_icmp_ne (tgt := 71) hx hb dX7_monthsOf_65 (by decide) (fun c_19 => ?_) (fun c_19 => ?_)
          · have hf := it_f c_19 hf
            obtain ⟨x5_20, ex5_20⟩ : ∃ q : Int32, q = x5_10 + (1 : Int32) := ⟨_, rfl⟩
            refine lv_iinc (v := x5_20) (lv' := [(5, .int x5_20), (0, .ref (A 8)), (1, .int p0), (2, .int p1), (3, .ref (A 2)), (4, .int x4_9), (6, .int x6_15)]) hx hb dX7_monthsOf_71 hl (k := 5) rfl (by rw [ex5_20]; rfl) (by decide) rfl (fun ls hl => ?_)
            have hf := lt_at ex5_20 hf; clear ex5_20
            refine lv_goto (tgt := 14) hx hb dX7_monthsOf_74 (by decide) ?_
            exact ihK_4 _ _ _ _ _ _ hf hP hS (lv_sub hl [1, 2, 3, 4, 5, 0] rfl)
          · have hf := it_t c_19 hf
            obtain ⟨x4_21, ex4_21⟩ : ∃ q : Int32, q = x4_9 + (1 : Int32) := ⟨_, rfl⟩
            refine lv_iinc (v := x4_21) (lv' := [(4, .int x4_21), (0, .ref (A 8)), (1, .int p0), (2, .int p1), (3, .ref (A 2)), (5, .int x5_10), (6, .int x6_15)]) hx hb dX7_monthsOf_68 hl (k := 4) rfl (by rw [ex4_21]; rfl) (by decide) rfl (fun ls hl => ?_)
            have hf := lt_at ex4_21 hf; clear ex4_21
            obtain ⟨x5_22, ex5_22⟩ : ∃ q : Int32, q = x5_10 + (1 : Int32) := ⟨_, rfl⟩
            refine lv_iinc (v := x5_22) (lv' := [(5, .int x5_22), (4, .int x4_21), (0, .ref (A 8)), (1, .int p0), (2, .int p1), (3, .ref (A 2)), (6, .int x6_15)]) hx hb dX7_monthsOf_71 hl (k := 5) rfl (by rw [ex5_22]; rfl) (by decide) rfl (fun ls hl => ?_)
            have hf := lt_at ex5_22 hf; clear ex5_22
            refine lv_goto (tgt := 14) hx hb dX7_monthsOf_74 (by decide) ?_
            exact ihK_4 _ _ _ _ _ _ hf hP hS (lv_sub hl [2, 3, 4, 5, 1, 0] rfl)
        have hLK_13 : ∀ (n_25 : Nat) (x6_24 : Int32) (z_23 : Mem) (H : Heap) (locs : List Loc) (ls : Array Slot), fX7_monthsOf_L24 K_13  n_25 x6_24 z_23 = some (r, z') → wIs dC dI A cI cJ cZ z_23 H → va_S (fr A) s.heap H locs → lv_has ls 7 [(0, .ref (A 8)), (1, .int p0), (2, .int p1), (3, .ref (A 2)), (4, .int x4_9), (5, .int x5_10), (6, .int x6_24)] → WI p l e wsX7_monthsOf 5 s m [.ref (A 8), .int p0, .int p1, .ref (A 2)] below meth c dC dI A cI cJ cZ r z' H locs (F0 m 24 ls []) := by
          intro n_25
          induction n_25 with
          | zero => intro x6_24 z_23 H locs ls hf; rw [fX7_monthsOf_L24_0] at hf; cases hf
          | succ n_25 ihK_13 =>
            intro x6_24 z_23 H locs ls hf hP hS hl
            rw [fX7_monthsOf_L24_s] at hf
            refine lv_iload hx hb dX7_monthsOf_24 (lv_at hl 6 rfl) ?_
            refine lv_aload_n hx hb dX7_monthsOf_26 rfl (lv_at hl 0 rfl) ?_
            refine va_get (D := (dC, dI)) (ci := 7) (v := .ref (A 9)) (C := RX7) (T := TX7) (N := 2) hx hb hts i7 hown hK hP 8 (wc_8 A cI cJ cZ z_23) rfl 0 (by decide) (hts (.fieldLink RX7 10 "LightestRules$Year" "lookalikes" "LLightestRules$People;") (by decide +kernel)) (fun _ h9 => h9) rfl dX7_monthsOf_27 ?_
            obtain ⟨r_26, z_27, h_28, hf⟩ := cl_el hf
            refine callVI (As := []) (rest := [.int x6_24]) (ci := 2) (q0 := 9) ⟨hx, hb, hml, hown, hts⟩ (tX2_size_9 (l := l) (dC := dC) (dI := dI) (t0 := t0) (cI := cI) (cJ := cJ) (cZ := cZ) hA h_28) (cwV 0 hts gX7_monthsOf_X2_size rfl rfl rfl (by decide +kernel) ⟨Nat.le_of_ble_eq_true rfl, Nat.le_of_ble_eq_true rfl⟩) hK hZ hP hS rfl (wc_9 A cI cJ cZ z_23) rfl rfl rfl hl.1 (Nat.le_of_ble_eq_true rfl) ⟨Nat.zero_le _, Nat.zero_le _⟩ dX7_monthsOf_30 (fun H locs hP hS => ?_)
            refine lv_icmp_ge (tgt := 56) hx hb dX7_monthsOf_33 (by decide) (fun c_29 => ?_) (fun c_29 => ?_)
            · have hf := it_t c_29 hf
              exact hEK_13 _ _ _ _ _ hf hP hS (lv_sub hl [0, 1, 2, 3, 4, 5, 6] rfl)
            · have hf := it_f c_29 hf
              refine lv_aload_n hx hb dX7_monthsOf_36 rfl (lv_at hl 0 rfl) ?_
              refine va_get (D := (dC, dI)) (ci := 7) (v := .ref (A 9)) (C := RX7) (T := TX7) (N := 2) hx hb hts i7 hown hK hP 8 (wc_8 A cI cJ cZ z_27) rfl 0 (by decide) (hts (.fieldLink RX7 10 "LightestRules$Year" "lookalikes" "LLightestRules$People;") (by decide +kernel)) (fun _ h9 => h9) rfl dX7_monthsOf_37 ?_
              refine lv_iload hx hb dX7_monthsOf_40 (lv_at hl 6 rfl) ?_
              refine lv_aload_n hx hb dX7_monthsOf_42 rfl (lv_at hl 0 rfl) ?_
              obtain ⟨r_30, z_31, h_32, hf⟩ := cl_el hf
              refine callVI (As := []) (rest := [.int x6_24, .ref (A 9)]) (ci := 7) (q0 := 8) ⟨hx, hb, hml, hown, hts⟩ (tX7_nextOunces (l := l) (dC := dC) (dI := dI) (t0 := t0) (cI := cI) (cJ := cJ) (cZ := cZ) hA h_32) (cwV 0 hts gX7_monthsOf_X7_nextOunces rfl rfl rfl (by decide +kernel) ⟨Nat.le_of_ble_eq_true rfl, Nat.le_of_ble_eq_true rfl⟩) hK hZ hP hS rfl (wc_8 A cI cJ cZ z_27) rfl rfl rfl hl.1 (Nat.le_of_ble_eq_true rfl) ⟨Nat.zero_le _, Nat.zero_le _⟩ dX7_monthsOf_43 (fun H locs hP hS => ?_)
              obtain ⟨r_33, z_34, h_35, hf⟩ := cl_el hf
              refine callVI (As := [.int x6_24, .int r_30]) (rest := []) (ci := 2) (q0 := 9) ⟨hx, hb, hml, hown, hts⟩ (tX2_gain_9 (l := l) (dC := dC) (dI := dI) (t0 := t0) (cI := cI) (cJ := cJ) (cZ := cZ) hA h_35) (cwV 2 hts gX7_monthsOf_X2_gain rfl rfl rfl (by decide +kernel) ⟨Nat.le_of_ble_eq_true rfl, Nat.le_of_ble_eq_true rfl⟩) hK hZ hP hS rfl (wc_9 A cI cJ cZ z_31) rfl rfl rfl hl.1 (Nat.le_of_ble_eq_true rfl) ⟨Nat.zero_le _, Nat.zero_le _⟩ dX7_monthsOf_46 (fun H locs hP hS => ?_)
              refine lv_pop hx hb dX7_monthsOf_49 rfl ?_
              obtain ⟨x6_36, ex6_36⟩ : ∃ q : Int32, q = x6_24 + (1 : Int32) := ⟨_, rfl⟩
              refine lv_iinc (v := x6_36) (lv' := [(6, .int x6_36), (0, .ref (A 8)), (1, .int p0), (2, .int p1), (3, .ref (A 2)), (4, .int x4_9), (5, .int x5_10)]) hx hb dX7_monthsOf_50 hl (k := 6) rfl (by rw [ex6_36]; rfl) (by decide) rfl (fun ls hl => ?_)
              have hf := lt_at ex6_36 hf; clear ex6_36
              refine lv_goto (tgt := 24) hx hb dX7_monthsOf_53 (by decide) ?_
              exact ihK_13 _ _ _ _ _ hf hP hS (lv_sub hl [1, 2, 3, 4, 5, 6, 0] rfl)
        exact hLK_13 FU _ _ _ _ _ hf hP hS (lv_sub hl [1, 2, 3, 4, 5, 6, 0] rfl)
  exact hLK_4 FU _ _ _ _ _ _ hf hP hS (lv_sub hl [2, 3, 4, 5, 1, 0] rfl)
set_option maxHeartbeats 4000000 in
set_option maxRecDepth 100000 in
theorem tX8_reign {l : Launch} {dC : Nat → ClassId} {dI : Nat → Nat → Nat} {A : Nat → Nat} {t0 : Nat} {cI cJ cZ : ClassId} (hA : dst A) {p0 : Int32} {p1 : Int32} {z : Mem} {r : Int32} {z' : Mem} (hf : fX8_reign p0 p1 z = some (r, z')) : MI l dC dI A t0 cI cJ cZ yX8_reign wsX8_reign 6 [.ref (A 0), .int p0, .int p1] z r z' := by
  refine Met.ofW (cc := cX8_reign) (maxL := 3) (ret := (some .int)) (by decide) rfl ?_
  intro p e s m args below meth c s₁ B hml hv
  obtain ⟨rfl, hP, hK, hZ⟩ := hv
  have hx := B.exec
  have hb := B.bytes
  have hr := B.returns
  have hts := atoms_spec (ws := wsX8_reign) B.pre
  have hown : s.vm.findClass RX8 = some m.cls := findClass_of_methodNamed B.named
  have hlocks := B.notSynchronized
  have hS : va_S (fr A) s.heap s.heap [] := va_S.rf
  have i8 : ∀ w ∈ wsX80, w ∈ wsX8_reign := fun _ h => List.mem_cons_of_mem _ (List.mem_append_left _ (List.mem_append_left _ (List.mem_append_right _ h)))
  have hl := lv_entry ([.ref (A 0), .int p0, .int p1]) (n := 3) (Nat.le_of_ble_eq_true rfl)
  rw [lg_entry_eq]
  generalize (lg_sl ([.ref (A 0), .int p0, .int p1]) ++ List.replicate (3 - (lg_sl ([.ref (A 0), .int p0, .int p1])).length) Slot.unset).toArray = ls at hl ⊢
  have hl : lv_has ls 3 [(0, .ref (A 0)), (1, .int p0), (2, .int p1)] := hl
  have hP : wIs dC dI A cI cJ cZ z s.heap := hP
  rw [fX8_reign] at hf
  refine lv_aload_n hx hb dX8_reign_0 rfl (lv_at hl 0 rfl) ?_
  refine va_get (D := (dC, dI)) (ci := 8) (v := .ref (A 2)) (C := RX8) (T := TX8) (N := 9) hx hb hts i8 hown hK hP 0 (wc_0 A cI cJ cZ z) rfl 1 (by decide) (hts (.fieldLink RX8 19 "LightestRules" "folk" "LLightestRules$People;") (by decide +kernel)) (fun _ h9 => h9) rfl dX8_reign_1 ?_
  refine lv_iload_n hx hb dX8_reign_4 rfl (lv_at hl 1 rfl) ?_
  obtain ⟨r_1, z_2, h_3, hf⟩ := cl_el hf
  refine callVI (As := [.int p0]) (rest := []) (ci := 2) (q0 := 2) ⟨hx, hb, hml, hown, hts⟩ (tX2_has (l := l) (dC := dC) (dI := dI) (t0 := t0) (cI := cI) (cJ := cJ) (cZ := cZ) hA h_3) (cwV 1 hts gX8_reign_X2_has rfl rfl rfl (by decide +kernel) ⟨Nat.le_of_ble_eq_true rfl, Nat.le_of_ble_eq_true rfl⟩) hK hZ hP hS rfl (wc_2 A cI cJ cZ z) rfl rfl rfl hl.1 (Nat.le_of_ble_eq_true rfl) ⟨Nat.zero_le _, Nat.zero_le _⟩ dX8_reign_5 (fun H locs hP hS => ?_)
  refine lv_if_ne (tgt := 13) hx hb dX8_reign_8 (by decide) (fun c_4 => ?_) (fun c_4 => ?_)
  · have hf := it_f c_4 hf
    refine lv_iload_n hx hb dX8_reign_13 rfl (lv_at hl 2 rfl) ?_
    obtain ⟨r_5, z_6, h_7, hf⟩ := cl_el hf
    refine callSI (As := [.int p1]) (rest := []) ⟨hx, hb, hml, hown, hts⟩ (tX8_isLaw (l := l) (dC := dC) (dI := dI) (t0 := t0) (cI := cI) (cJ := cJ) (cZ := cZ) hA h_7) (va_cwS 1 hts gX8_reign_X8_isLaw rfl rfl rfl (by decide +kernel) ⟨Nat.le_of_ble_eq_true rfl, Nat.le_of_ble_eq_true rfl⟩) hK hZ hP hS rfl rfl hl.1 (Nat.le_of_ble_eq_true rfl) ⟨Nat.zero_le _, Nat.zero_le _⟩ dX8_reign_14 (fun H locs hP hS => ?_)
    refine lv_if_eq (tgt := 36) hx hb dX8_reign_17 (by decide) (fun c_8 => ?_) (fun c_8 => ?_)
    · have hf := it_t c_8 hf
      refine lv_bipush (v := -2) hx hb dX8_reign_36 (by decide) ?_
      exact retI hx hb hr hlocks hP hS hf dX8_reign_38
    · have hf := it_f c_8 hf
      refine lv_aload_n hx hb dX8_reign_20 rfl (lv_at hl 0 rfl) ?_
      refine va_get (D := (dC, dI)) (ci := 8) (v := .ref (A 8)) (C := RX8) (T := TX8) (N := 9) hx hb hts i8 hown hK hP 0 (wc_0 A cI cJ cZ z_6) rfl 7 (by decide) (hts (.fieldLink RX8 61 "LightestRules" "year" "LLightestRules$Year;") (by decide +kernel)) (fun _ h9 => h9) rfl dX8_reign_21 ?_
      refine lv_iload_n hx hb dX8_reign_24 rfl (lv_at hl 1 rfl) ?_
      refine lv_iload_n hx hb dX8_reign_25 rfl (lv_at hl 2 rfl) ?_
      refine lv_aload_n hx hb dX8_reign_26 rfl (lv_at hl 0 rfl) ?_
      refine va_get (D := (dC, dI)) (ci := 8) (v := .ref (A 2)) (C := RX8) (T := TX8) (N := 9) hx hb hts i8 hown hK hP 0 (wc_0 A cI cJ cZ z_6) rfl 1 (by decide) (hts (.fieldLink RX8 19 "LightestRules" "folk" "LLightestRules$People;") (by decide +kernel)) (fun _ h9 => h9) rfl dX8_reign_27 ?_
      obtain ⟨r_9, z_10, h_11, hf⟩ := cl_el hf
      refine callVI (As := [.int p0, .int p1, .ref (A 2)]) (rest := []) (ci := 7) (q0 := 8) ⟨hx, hb, hml, hown, hts⟩ (tX7_monthsOf (l := l) (dC := dC) (dI := dI) (t0 := t0) (cI := cI) (cJ := cJ) (cZ := cZ) hA h_11) (cwV 3 hts gX8_reign_X7_monthsOf rfl rfl rfl (by decide +kernel) ⟨Nat.le_of_ble_eq_true rfl, Nat.le_of_ble_eq_true rfl⟩) hK hZ hP hS rfl (wc_8 A cI cJ cZ z_6) rfl rfl rfl hl.1 (Nat.le_of_ble_eq_true rfl) ⟨Nat.zero_le _, Nat.zero_le _⟩ dX8_reign_30 (fun H locs hP hS => ?_)
      refine lv_goto (tgt := 38) hx hb dX8_reign_33 (by decide) ?_
      exact retI hx hb hr hlocks hP hS hf dX8_reign_38
  · have hf := it_t c_4 hf
    refine lv_iconst (v := -1) hx hb dX8_reign_11 (by decide) ?_
    exact retI hx hb hr hlocks hP hS hf dX8_reign_12
