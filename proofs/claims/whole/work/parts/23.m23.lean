set_option maxHeartbeats 4000000 in
set_option maxRecDepth 100000 in
theorem tJ7_fill_53178_20 {l : Launch} {dC : Nat → ClassId} {dI : Nat → Nat → Nat} {A : Nat → Nat} {t0 : Nat} {cI cJ cZ : ClassId} (hA : dst A) {p1 : Int32} {z : Mem} {ru : Unit} {z' : Mem} (hf : fJ7_fill_53178_20 p1 z = some (ru, z')) : MV l dC dI A t0 cI cJ cZ yJ7_fill_53178 wsJ7_fill_53178 0 [.ref (A 20), .int p1] z z' := by
  refine Met.ofW (cc := cJ7_fill_53178) (maxL := 4) (ret := none) (by decide) rfl ?_
  intro p e s m args below meth c s₁ B hml hv
  obtain ⟨rfl, hP, hK, hZ⟩ := hv
  have hx := B.exec
  have hb := B.bytes
  have hr := B.returns
  have hts := atoms_spec (ws := wsJ7_fill_53178) B.pre
  have hown : s.vm.findClass RJ7 = some m.cls := findClass_of_methodNamed B.named
  have hlocks := B.notSynchronized
  have hS : va_S (fr A) s.heap s.heap [] := va_S.rf
  have hl := lv_entry ([.ref (A 20), .int p1]) (n := 4) (Nat.le_of_ble_eq_true rfl)
  rw [lg_entry_eq]
  generalize (lg_sl ([.ref (A 20), .int p1]) ++ List.replicate (4 - (lg_sl ([.ref (A 20), .int p1])).length) Slot.unset).toArray = ls at hl ⊢
  have hl : lv_has ls 4 [(0, .ref (A 20)), (1, .int p1)] := hl
  have hP : wIs dC dI A cI cJ cZ z s.heap := hP
  rw [fJ7_fill_53178_20] at hf
  refine lv_iconst (v := 0) hx hb dJ7_fill_53178_0 (by decide) ?_
  refine lv_istore_n (lv' := [(2, .int (0 : Int32)), (0, .ref (A 20)), (1, .int p1)]) hx hb dJ7_fill_53178_1 rfl hl (by decide) rfl (fun ls hl => ?_)
  refine lv_aload_n hx hb dJ7_fill_53178_2 rfl (lv_at hl 1 rfl) ?_
  refine va_alen hx hb hK hP 20 0 (wc_20 A cI cJ cZ z) rfl (v := 5) rfl dJ7_fill_53178_3 ?_
  refine lv_istore_n (lv' := [(3, .int (5 : Int32)), (2, .int (0 : Int32)), (0, .ref (A 20)), (1, .int p1)]) hx hb dJ7_fill_53178_4 rfl hl (by decide) rfl (fun ls hl => ?_)
  obtain ⟨K_1, eK_1, hf⟩ := fJ7_fill_53178_20_L5_g hf
  have hEK_1 : ∀ (x2_3 : Int32) (z_2 : Mem) (H : Heap) (locs : List Loc) (ls : Array Slot), K_1 x2_3 z_2 = some (ru, z') → wIs dC dI A cI cJ cZ z_2 H → va_S (fr A) s.heap H locs → lv_has ls 4 [(0, .ref (A 20)), (1, .int p1), (2, .int x2_3), (3, .int (5 : Int32))] → WV p l e wsJ7_fill_53178 0 s m [.ref (A 20), .int p1] below meth c dC dI A cI cJ cZ z' H locs (F0 m 20 ls []) := by
    intro x2_3 z_2 H locs ls hf hP hS hl
    have hf := ap2 eK_1 hf
    exact retV hx hb hr hlocks hP hS hf dJ7_fill_53178_20
  have hLK_1 : ∀ (n_6 : Nat) (x2_5 : Int32) (z_4 : Mem) (H : Heap) (locs : List Loc) (ls : Array Slot), fJ7_fill_53178_20_L5 K_1 p1 n_6 x2_5 z_4 = some (ru, z') → wIs dC dI A cI cJ cZ z_4 H → va_S (fr A) s.heap H locs → lv_has ls 4 [(0, .ref (A 20)), (1, .int p1), (2, .int x2_5), (3, .int (5 : Int32))] → WV p l e wsJ7_fill_53178 0 s m [.ref (A 20), .int p1] below meth c dC dI A cI cJ cZ z' H locs (F0 m 5 ls []) := by
    intro n_6
    induction n_6 with
    | zero => intro x2_5 z_4 H locs ls hf; rw [fJ7_fill_53178_20_L5_0] at hf; cases hf
    | succ n_6 ihK_1 =>
      intro x2_5 z_4 H locs ls hf hP hS hl
      rw [fJ7_fill_53178_20_L5_s] at hf
      refine lv_iload_n hx hb dJ7_fill_53178_5 rfl (lv_at hl 2 rfl) ?_
      refine lv_iload_n hx hb dJ7_fill_53178_6 rfl (lv_at hl 3 rfl) ?_
      refine lv_icmp_ge (tgt := 20) hx hb dJ7_fill_53178_7 (by decide) (fun c_7 => ?_) (fun c_7 => ?_)
      · have hf := it_t c_7 hf
        exact hEK_1 _ _ _ _ _ hf hP hS (lv_sub hl [0, 1, 2, 3] rfl)
      · have hf := it_f c_7 hf
        refine lv_aload_n hx hb dJ7_fill_53178_10 rfl (lv_at hl 0 rfl) ?_
        refine lv_iload_n hx hb dJ7_fill_53178_11 rfl (lv_at hl 2 rfl) ?_
        refine lv_iload_n hx hb dJ7_fill_53178_12 rfl (lv_at hl 1 rfl) ?_
        obtain ⟨n_8, hf⟩ := rg_el hf
        refine va_iast hx hb hK hP (wD hA cI cJ cZ z_4) hS 20 0 (wc_20 A cI cJ cZ z_4) rfl n_8 dJ7_fill_53178_13 (fun H locs hP _ hS => ?_)
        rw [wa_20 A cI cJ cZ z_4 x2_5.toNatClampNeg p1] at hP
        obtain ⟨z_9, hP, hf⟩ := lt_P (P := fun q => wIs dC dI A cI cJ cZ q H) hP hf
        obtain ⟨x2_10, ex2_10⟩ : ∃ q : Int32, q = x2_5 + (1 : Int32) := ⟨_, rfl⟩
        refine lv_iinc (v := x2_10) (lv' := [(2, .int x2_10), (0, .ref (A 20)), (1, .int p1), (3, .int (5 : Int32))]) hx hb dJ7_fill_53178_14 hl (k := 2) rfl (by rw [ex2_10]; rfl) (by decide) rfl (fun ls hl => ?_)
        have hf := lt_at ex2_10 hf; clear ex2_10
        refine lv_goto (tgt := 5) hx hb dJ7_fill_53178_17 (by decide) ?_
        exact ihK_1 _ _ _ _ _ hf hP hS (lv_sub hl [1, 2, 0, 3] rfl)
  exact hLK_1 FU _ _ _ _ _ hf hP hS (lv_sub hl [2, 3, 1, 0] rfl)
set_option maxHeartbeats 4000000 in
set_option maxRecDepth 100000 in
theorem tX4_isIn {l : Launch} {dC : Nat → ClassId} {dI : Nat → Nat → Nat} {A : Nat → Nat} {t0 : Nat} {cI cJ cZ : ClassId} (hA : dst A) {p0 : Int32} {p1 : Int32} {z : Mem} {r : Int32} {z' : Mem} (hf : fX4_isIn p0 p1 z = some (r, z')) : MI l dC dI A t0 cI cJ cZ yX4_isIn wsX4_isIn 0 [.ref (A 6), .int p0, .int p1] z r z' := by
  refine Met.ofW (cc := cX4_isIn) (maxL := 3) (ret := (some .boolean)) (by decide) rfl ?_
  intro p e s m args below meth c s₁ B hml hv
  obtain ⟨rfl, hP, hK, hZ⟩ := hv
  have hx := B.exec
  have hb := B.bytes
  have hr := B.returns
  have hts := atoms_spec (ws := wsX4_isIn) B.pre
  have hown : s.vm.findClass RX4 = some m.cls := findClass_of_methodNamed B.named
  have hlocks := B.notSynchronized
  have hS : va_S (fr A) s.heap s.heap [] := va_S.rf
  have i4 : ∀ w ∈ wsX40, w ∈ wsX4_isIn := fun _ h => List.mem_cons_of_mem _ (List.mem_append_right _ h)
  have hl := lv_entry ([.ref (A 6), .int p0, .int p1]) (n := 3) (Nat.le_of_ble_eq_true rfl)
  rw [lg_entry_eq]
  generalize (lg_sl ([.ref (A 6), .int p0, .int p1]) ++ List.replicate (3 - (lg_sl ([.ref (A 6), .int p0, .int p1])).length) Slot.unset).toArray = ls at hl ⊢
  have hl : lv_has ls 3 [(0, .ref (A 6)), (1, .int p0), (2, .int p1)] := hl
  have hP : wIs dC dI A cI cJ cZ z s.heap := hP
  rw [fX4_isIn] at hf
  refine lv_aload_n hx hb dX4_isIn_0 rfl (lv_at hl 0 rfl) ?_
  refine va_get (D := (dC, dI)) (ci := 4) (v := .ref (A 17)) (C := RX4) (T := TX4) (N := 7) hx hb hts i4 hown hK hP 6 (wc_6 A cI cJ cZ z) rfl 0 (by decide) (hts (.fieldLink RX4 11 "LightestRules$Searches" "searched" "[I") (by decide +kernel)) (fun _ h9 => h9) rfl dX4_isIn_1 ?_
  refine lv_iload_n hx hb dX4_isIn_4 rfl (lv_at hl 2 rfl) ?_
  obtain ⟨n_1, hf⟩ := rg_el hf
  refine va_iald hx hb hK hP 17 0 (wc_17 A cI cJ cZ z) rfl n_1 dX4_isIn_5 ?_
  refine lv_topi (fun a_2 ea_2 => ?_)
  have hf := lt_at ea_2 hf; clear ea_2
  refine lv_iload_n hx hb dX4_isIn_6 rfl (lv_at hl 1 rfl) ?_
  refine lv_ishr hx hb dX4_isIn_7 ?_
  refine lv_iconst (v := 1) hx hb dX4_isIn_8 (by decide) ?_
  refine lv_iand hx hb dX4_isIn_9 ?_
  refine lv_iconst (v := 1) hx hb dX4_isIn_10 (by decide) ?_
  refine lv_icmp_ne (tgt := 18) hx hb dX4_isIn_11 (by decide) (fun c_3 => ?_) (fun c_3 => ?_)
  · have hf := it_f c_3 hf
    refine lv_iconst (v := 0) hx hb dX4_isIn_18 (by decide) ?_
    exact retZ hx hb hr hlocks rfl hP hS hf dX4_isIn_19
  · have hf := it_t c_3 hf
    refine lv_iconst (v := 1) hx hb dX4_isIn_14 (by decide) ?_
    refine lv_goto (tgt := 19) hx hb dX4_isIn_15 (by decide) ?_
    exact retZ hx hb hr hlocks rfl hP hS hf dX4_isIn_19
set_option maxHeartbeats 4000000 in
set_option maxRecDepth 100000 in
theorem tX4_fewestFor {l : Launch} {dC : Nat → ClassId} {dI : Nat → Nat → Nat} {A : Nat → Nat} {t0 : Nat} {cI cJ cZ : ClassId} (hA : dst A) {p0 : Int32} {z : Mem} {r : Int32} {z' : Mem} (hf : fX4_fewestFor p0 z = some (r, z')) : MI l dC dI A t0 cI cJ cZ yX4_fewestFor wsX4_fewestFor 1 [.ref (A 6), .int p0] z r z' := by
  refine Met.ofW (cc := cX4_fewestFor) (maxL := 5) (ret := (some .int)) (by decide) rfl ?_
  intro p e s m args below meth c s₁ B hml hv
  obtain ⟨rfl, hP, hK, hZ⟩ := hv
  have hx := B.exec
  have hb := B.bytes
  have hr := B.returns
  have hts := atoms_spec (ws := wsX4_fewestFor) B.pre
  have hown : s.vm.findClass RX4 = some m.cls := findClass_of_methodNamed B.named
  have hlocks := B.notSynchronized
  have hS : va_S (fr A) s.heap s.heap [] := va_S.rf
  have i4 : ∀ w ∈ wsX40, w ∈ wsX4_fewestFor := fun _ h => List.mem_cons_of_mem _ (List.mem_append_right _ h)
  have hl := lv_entry ([.ref (A 6), .int p0]) (n := 5) (Nat.le_of_ble_eq_true rfl)
  rw [lg_entry_eq]
  generalize (lg_sl ([.ref (A 6), .int p0]) ++ List.replicate (5 - (lg_sl ([.ref (A 6), .int p0])).length) Slot.unset).toArray = ls at hl ⊢
  have hl : lv_has ls 5 [(0, .ref (A 6)), (1, .int p0)] := hl
  have hP : wIs dC dI A cI cJ cZ z s.heap := hP
  rw [fX4_fewestFor] at hf
  refine lv_iconst (v := 0) hx hb dX4_fewestFor_0 (by decide) ?_
  refine lv_istore_n (lv' := [(2, .int (0 : Int32)), (0, .ref (A 6)), (1, .int p0)]) hx hb dX4_fewestFor_1 rfl hl (by decide) rfl (fun ls hl => ?_)
  refine lv_iconst (v := 0) hx hb dX4_fewestFor_2 (by decide) ?_
  refine lv_istore_n (lv' := [(3, .int (0 : Int32)), (2, .int (0 : Int32)), (0, .ref (A 6)), (1, .int p0)]) hx hb dX4_fewestFor_3 rfl hl (by decide) rfl (fun ls hl => ?_)
  obtain ⟨K_1, eK_1, hf⟩ := fX4_fewestFor_L4_g hf
  have hEK_1 : ∀ (x2_3 : Int32) (x3_4 : Int32) (z_2 : Mem) (H : Heap) (locs : List Loc) (ls : Array Slot), K_1 x2_3 x3_4 z_2 = some (r, z') → wIs dC dI A cI cJ cZ z_2 H → va_S (fr A) s.heap H locs → lv_has ls 5 [(0, .ref (A 6)), (1, .int p0), (2, .int x2_3), (3, .int x3_4)] → WI p l e wsX4_fewestFor 1 s m [.ref (A 6), .int p0] below meth c dC dI A cI cJ cZ r z' H locs (F0 m 59 ls []) := by
    intro x2_3 x3_4 z_2 H locs ls hf hP hS hl
    have hf := ap3 eK_1 hf
    refine lv_iload_n hx hb dX4_fewestFor_59 rfl (lv_at hl 2 rfl) ?_
    exact retI hx hb hr hlocks hP hS hf dX4_fewestFor_60
  have hLK_1 : ∀ (n_8 : Nat) (x2_6 : Int32) (x3_7 : Int32) (z_5 : Mem) (H : Heap) (locs : List Loc) (ls : Array Slot), fX4_fewestFor_L4 K_1 p0 n_8 x2_6 x3_7 z_5 = some (r, z') → wIs dC dI A cI cJ cZ z_5 H → va_S (fr A) s.heap H locs → lv_has ls 5 [(0, .ref (A 6)), (1, .int p0), (2, .int x2_6), (3, .int x3_7)] → WI p l e wsX4_fewestFor 1 s m [.ref (A 6), .int p0] below meth c dC dI A cI cJ cZ r z' H locs (F0 m 4 ls []) := by
    intro n_8
    induction n_8 with
    | zero => intro x2_6 x3_7 z_5 H locs ls hf; rw [fX4_fewestFor_L4_0] at hf; cases hf
    | succ n_8 ihK_1 =>
      intro x2_6 x3_7 z_5 H locs ls hf hP hS hl
      rw [fX4_fewestFor_L4_s] at hf
      refine lv_iload_n hx hb dX4_fewestFor_4 rfl (lv_at hl 3 rfl) ?_
      refine lv_aload_n hx hb dX4_fewestFor_5 rfl (lv_at hl 0 rfl) ?_
      refine va_get (D := (dC, dI)) (ci := 4) (v := .int (z_5.1 6 4)) (C := RX4) (T := TX4) (N := 7) hx hb hts i4 hown hK hP 6 (wc_6 A cI cJ cZ z_5) rfl 4 (by decide) (hts (.fieldLink RX4 26 "LightestRules$Searches" "length" "I") (by decide +kernel)) (fun _ h9 => h9) rfl dX4_fewestFor_6 ?_
      refine lv_icmp_ge (tgt := 59) hx hb dX4_fewestFor_9 (by decide) (fun c_9 => ?_) (fun c_9 => ?_)
      · have hf := it_t c_9 hf
        exact hEK_1 _ _ _ _ _ _ hf hP hS (lv_sub hl [0, 1, 2, 3] rfl)
      · have hf := it_f c_9 hf
        refine lv_aload_n hx hb dX4_fewestFor_12 rfl (lv_at hl 0 rfl) ?_
        refine lv_iload_n hx hb dX4_fewestFor_13 rfl (lv_at hl 1 rfl) ?_
        refine lv_iload_n hx hb dX4_fewestFor_14 rfl (lv_at hl 3 rfl) ?_
        obtain ⟨r_10, z_11, h_12, hf⟩ := cl_el hf
        refine callVI (As := [.int p0, .int x3_7]) (rest := []) (ci := 4) (q0 := 6) ⟨hx, hb, hml, hown, hts⟩ (tX4_isIn (l := l) (dC := dC) (dI := dI) (t0 := t0) (cI := cI) (cJ := cJ) (cZ := cZ) hA h_12) (cwV 2 hts gX4_fewestFor_X4_isIn rfl rfl rfl (by decide +kernel) ⟨Nat.le_of_ble_eq_true rfl, Nat.le_of_ble_eq_true rfl⟩) hK hZ hP hS rfl (wc_6 A cI cJ cZ z_5) rfl rfl rfl hl.1 (Nat.le_of_ble_eq_true rfl) ⟨Nat.zero_le _, Nat.zero_le _⟩ dX4_fewestFor_15 (fun H locs hP hS => ?_)
        refine lv_if_eq (tgt := 53) hx hb dX4_fewestFor_18 (by decide) (fun c_13 => ?_) (fun c_13 => ?_)
        · have hf := it_t c_13 hf
          obtain ⟨x3_14, ex3_14⟩ : ∃ q : Int32, q = x3_7 + (1 : Int32) := ⟨_, rfl⟩
          refine lv_iinc (v := x3_14) (lv' := [(3, .int x3_14), (0, .ref (A 6)), (1, .int p0), (2, .int x2_6)]) hx hb dX4_fewestFor_53 hl (k := 3) rfl (by rw [ex3_14]; rfl) (by decide) rfl (fun ls hl => ?_)
          have hf := lt_at ex3_14 hf; clear ex3_14
          refine lv_goto (tgt := 4) hx hb dX4_fewestFor_56 (by decide) ?_
          exact ihK_1 _ _ _ _ _ _ hf hP hS (lv_sub hl [1, 2, 3, 0] rfl)
        · have hf := it_f c_13 hf
          refine lv_aload_n hx hb dX4_fewestFor_21 rfl (lv_at hl 0 rfl) ?_
          refine va_get (D := (dC, dI)) (ci := 4) (v := .ref (A 17)) (C := RX4) (T := TX4) (N := 7) hx hb hts i4 hown hK hP 6 (wc_6 A cI cJ cZ z_11) rfl 0 (by decide) (hts (.fieldLink RX4 11 "LightestRules$Searches" "searched" "[I") (by decide +kernel)) (fun _ h9 => h9) rfl dX4_fewestFor_22 ?_
          refine lv_iload_n hx hb dX4_fewestFor_25 rfl (lv_at hl 3 rfl) ?_
          obtain ⟨n_15, hf⟩ := rg_el hf
          refine va_iald hx hb hK hP 17 0 (wc_17 A cI cJ cZ z_11) rfl n_15 dX4_fewestFor_26 ?_
          refine lv_topi (fun a_16 ea_16 => ?_)
          have hf := lt_at ea_16 hf; clear ea_16
          refine lv_iload_n hx hb dX4_fewestFor_27 rfl (lv_at hl 1 rfl) ?_
          refine lv_iconst (v := 1) hx hb dX4_fewestFor_28 (by decide) ?_
          refine lv_iadd hx hb dX4_fewestFor_29 ?_
          refine lv_ishr hx hb dX4_fewestFor_30 ?_
          obtain ⟨r_17, z_18, h_19, hf⟩ := cl_el hf
          refine callSI (As := [.int (a_16 >>> ((p0 + (1 : Int32)) &&& 31))]) (rest := []) ⟨hx, hb, hml, hown, hts⟩ (tJ6_bitCount_0f7a4 (l := l) (dC := dC) (dI := dI) (t0 := t0) (cI := cI) (cJ := cJ) (cZ := cZ) hA h_19) (va_cwS 1 hts gX4_fewestFor_J6_bitCount_0f7a4 rfl rfl rfl (by decide +kernel) ⟨Nat.le_of_ble_eq_true rfl, Nat.le_of_ble_eq_true rfl⟩) hK hZ hP hS rfl rfl hl.1 (Nat.le_of_ble_eq_true rfl) ⟨Nat.zero_le _, Nat.zero_le _⟩ dX4_fewestFor_31 (fun H locs hP hS => ?_)
          refine lv_istore (lv' := [(4, .int r_17), (0, .ref (A 6)), (1, .int p0), (2, .int x2_6), (3, .int x3_7)]) hx hb dX4_fewestFor_34 hl (by decide) rfl (fun ls hl => ?_)
          refine lv_iload_n hx hb dX4_fewestFor_36 rfl (lv_at hl 3 rfl) ?_
          refine lv_aload_n hx hb dX4_fewestFor_37 rfl (lv_at hl 1 rfl) ?_
          refine va_get (D := (dC, dI)) (ci := 4) (v := .ref (A 18)) (C := RX4) (T := TX4) (N := 7) hx hb hts i4 hown hK hP 6 (wc_6 A cI cJ cZ z_18) rfl 1 (by decide) (hts (.fieldLink RX4 15 "LightestRules$Searches" "missing" "[I") (by decide +kernel)) (fun _ h9 => h9) rfl dX4_fewestFor_38 ?_
          refine lv_iload_n hx hb dX4_fewestFor_41 rfl (lv_at hl 4 rfl) ?_
          obtain ⟨n_20, hf⟩ := rg_el hf
          refine va_iald hx hb hK hP 18 0 (wc_18 A cI cJ cZ z_18) rfl n_20 dX4_fewestFor_42 ?_
          refine lv_topi (fun a_21 ea_21 => ?_)
          have hf := lt_at ea_21 hf; clear ea_21
          refine lv_bipush (v := 9) hx hb dX4_fewestFor_43 (by decide) ?_
          refine lv_iload hx hb dX4_fewestFor_45 (lv_at hl 0 rfl) ?_
          refine lv_imul hx hb dX4_fewestFor_47 ?_
          refine lv_isub hx hb dX4_fewestFor_48 ?_
          refine va_mmax hx hb (hml.trans hl.1.symm) hown (hts (.methodLink RX4 75 Lib.Math.max.name) (by decide +kernel)) (hts (.static Lib.Math.max.name) (by decide +kernel)) (hts (.initialized "java/lang/Math" ) (by decide +kernel)) (hts (.code Lib.Math.max.name Lib.Math.max.code 2 (some .int)) (by decide +kernel)) (Nat.le_of_ble_eq_true rfl) (Nat.le_of_ble_eq_true rfl) (Nat.zero_le _) (Nat.zero_le _) dX4_fewestFor_49 ?_
          refine lv_topi (fun y_22 ey_22 => ?_)
          have hf := lt_at ey_22 hf; clear ey_22
          refine lv_istore_n (lv' := [(2, .int y_22), (4, .int r_17), (0, .ref (A 6)), (1, .int p0), (3, .int x3_7)]) hx hb dX4_fewestFor_52 rfl hl (by decide) rfl (fun ls hl => ?_)
          obtain ⟨x3_23, ex3_23⟩ : ∃ q : Int32, q = x3_7 + (1 : Int32) := ⟨_, rfl⟩
          refine lv_iinc (v := x3_23) (lv' := [(3, .int x3_23), (2, .int y_22), (4, .int r_17), (0, .ref (A 6)), (1, .int p0)]) hx hb dX4_fewestFor_53 hl (k := 4) rfl (by rw [ex3_23]; rfl) (by decide) rfl (fun ls hl => ?_)
          have hf := lt_at ex3_23 hf; clear ex3_23
          refine lv_goto (tgt := 4) hx hb dX4_fewestFor_56 (by decide) ?_
          exact ihK_1 _ _ _ _ _ _ hf hP hS (lv_sub hl [3, 4, 1, 0] rfl)
  exact hLK_1 FU _ _ _ _ _ _ hf hP hS (lv_sub hl [2, 3, 1, 0] rfl)
set_option maxHeartbeats 4000000 in
set_option maxRecDepth 100000 in
theorem tX4_greatestFor {l : Launch} {dC : Nat → ClassId} {dI : Nat → Nat → Nat} {A : Nat → Nat} {t0 : Nat} {cI cJ cZ : ClassId} (hA : dst A) {p0 : Int32} {z : Mem} {r : Int32} {z' : Mem} (hf : fX4_greatestFor p0 z = some (r, z')) : MI l dC dI A t0 cI cJ cZ yX4_greatestFor wsX4_greatestFor 1 [.ref (A 6), .int p0] z r z' := by
  refine Met.ofW (cc := cX4_greatestFor) (maxL := 4) (ret := (some .int)) (by decide) rfl ?_
  intro p e s m args below meth c s₁ B hml hv
  obtain ⟨rfl, hP, hK, hZ⟩ := hv
  have hx := B.exec
  have hb := B.bytes
  have hr := B.returns
  have hts := atoms_spec (ws := wsX4_greatestFor) B.pre
  have hown : s.vm.findClass RX4 = some m.cls := findClass_of_methodNamed B.named
  have hlocks := B.notSynchronized
  have hS : va_S (fr A) s.heap s.heap [] := va_S.rf
  have i4 : ∀ w ∈ wsX40, w ∈ wsX4_greatestFor := fun _ h => List.mem_cons_of_mem _ (List.mem_append_right _ h)
  have hl := lv_entry ([.ref (A 6), .int p0]) (n := 4) (Nat.le_of_ble_eq_true rfl)
  rw [lg_entry_eq]
  generalize (lg_sl ([.ref (A 6), .int p0]) ++ List.replicate (4 - (lg_sl ([.ref (A 6), .int p0])).length) Slot.unset).toArray = ls at hl ⊢
  have hl : lv_has ls 4 [(0, .ref (A 6)), (1, .int p0)] := hl
  have hP : wIs dC dI A cI cJ cZ z s.heap := hP
  rw [fX4_greatestFor] at hf
  refine lv_bipush (v := 9) hx hb dX4_greatestFor_0 (by decide) ?_
  refine lv_istore_n (lv' := [(2, .int (9 : Int32)), (0, .ref (A 6)), (1, .int p0)]) hx hb dX4_greatestFor_2 rfl hl (by decide) rfl (fun ls hl => ?_)
  refine lv_iconst (v := 0) hx hb dX4_greatestFor_3 (by decide) ?_
  refine lv_istore_n (lv' := [(3, .int (0 : Int32)), (2, .int (9 : Int32)), (0, .ref (A 6)), (1, .int p0)]) hx hb dX4_greatestFor_4 rfl hl (by decide) rfl (fun ls hl => ?_)
  obtain ⟨K_1, eK_1, hf⟩ := fX4_greatestFor_L5_g hf
  have hEK_1 : ∀ (x2_3 : Int32) (x3_4 : Int32) (z_2 : Mem) (H : Heap) (locs : List Loc) (ls : Array Slot), K_1 x2_3 x3_4 z_2 = some (r, z') → wIs dC dI A cI cJ cZ z_2 H → va_S (fr A) s.heap H locs → lv_has ls 4 [(0, .ref (A 6)), (1, .int p0), (2, .int x2_3), (3, .int x3_4)] → WI p l e wsX4_greatestFor 1 s m [.ref (A 6), .int p0] below meth c dC dI A cI cJ cZ r z' H locs (F0 m 39 ls []) := by
    intro x2_3 x3_4 z_2 H locs ls hf hP hS hl
    have hf := ap3 eK_1 hf
    refine lv_iload_n hx hb dX4_greatestFor_39 rfl (lv_at hl 2 rfl) ?_
    exact retI hx hb hr hlocks hP hS hf dX4_greatestFor_40
  have hLK_1 : ∀ (n_8 : Nat) (x2_6 : Int32) (x3_7 : Int32) (z_5 : Mem) (H : Heap) (locs : List Loc) (ls : Array Slot), fX4_greatestFor_L5 K_1 p0 n_8 x2_6 x3_7 z_5 = some (r, z') → wIs dC dI A cI cJ cZ z_5 H → va_S (fr A) s.heap H locs → lv_has ls 4 [(0, .ref (A 6)), (1, .int p0), (2, .int x2_6), (3, .int x3_7)] → WI p l e wsX4_greatestFor 1 s m [.ref (A 6), .int p0] below meth c dC dI A cI cJ cZ r z' H locs (F0 m 5 ls []) := by
    intro n_8
    induction n_8 with
    | zero => intro x2_6 x3_7 z_5 H locs ls hf; rw [fX4_greatestFor_L5_0] at hf; cases hf
    | succ n_8 ihK_1 =>
      intro x2_6 x3_7 z_5 H locs ls hf hP hS hl
      rw [fX4_greatestFor_L5_s] at hf
      refine lv_iload_n hx hb dX4_greatestFor_5 rfl (lv_at hl 3 rfl) ?_
      refine lv_aload_n hx hb dX4_greatestFor_6 rfl (lv_at hl 0 rfl) ?_
      refine va_get (D := (dC, dI)) (ci := 4) (v := .int (z_5.1 6 4)) (C := RX4) (T := TX4) (N := 7) hx hb hts i4 hown hK hP 6 (wc_6 A cI cJ cZ z_5) rfl 4 (by decide) (hts (.fieldLink RX4 26 "LightestRules$Searches" "length" "I") (by decide +kernel)) (fun _ h9 => h9) rfl dX4_greatestFor_7 ?_
      refine lv_icmp_ge (tgt := 39) hx hb dX4_greatestFor_10 (by decide) (fun c_9 => ?_) (fun c_9 => ?_)
      · have hf := it_t c_9 hf
        exact hEK_1 _ _ _ _ _ _ hf hP hS (lv_sub hl [0, 1, 2, 3] rfl)
      · have hf := it_f c_9 hf
        refine lv_aload_n hx hb dX4_greatestFor_13 rfl (lv_at hl 0 rfl) ?_
        refine lv_iload_n hx hb dX4_greatestFor_14 rfl (lv_at hl 1 rfl) ?_
        refine lv_iload_n hx hb dX4_greatestFor_15 rfl (lv_at hl 3 rfl) ?_
        obtain ⟨r_10, z_11, h_12, hf⟩ := cl_el hf
        refine callVI (As := [.int p0, .int x3_7]) (rest := []) (ci := 4) (q0 := 6) ⟨hx, hb, hml, hown, hts⟩ (tX4_isIn (l := l) (dC := dC) (dI := dI) (t0 := t0) (cI := cI) (cJ := cJ) (cZ := cZ) hA h_12) (cwV 2 hts gX4_greatestFor_X4_isIn rfl rfl rfl (by decide +kernel) ⟨Nat.le_of_ble_eq_true rfl, Nat.le_of_ble_eq_true rfl⟩) hK hZ hP hS rfl (wc_6 A cI cJ cZ z_5) rfl rfl rfl hl.1 (Nat.le_of_ble_eq_true rfl) ⟨Nat.zero_le _, Nat.zero_le _⟩ dX4_greatestFor_16 (fun H locs hP hS => ?_)
        refine lv_if_eq (tgt := 33) hx hb dX4_greatestFor_19 (by decide) (fun c_13 => ?_) (fun c_13 => ?_)
        · have hf := it_t c_13 hf
          obtain ⟨x3_14, ex3_14⟩ : ∃ q : Int32, q = x3_7 + (1 : Int32) := ⟨_, rfl⟩
          refine lv_iinc (v := x3_14) (lv' := [(3, .int x3_14), (0, .ref (A 6)), (1, .int p0), (2, .int x2_6)]) hx hb dX4_greatestFor_33 hl (k := 3) rfl (by rw [ex3_14]; rfl) (by decide) rfl (fun ls hl => ?_)
          have hf := lt_at ex3_14 hf; clear ex3_14
          refine lv_goto (tgt := 5) hx hb dX4_greatestFor_36 (by decide) ?_
          exact ihK_1 _ _ _ _ _ _ hf hP hS (lv_sub hl [1, 2, 3, 0] rfl)
        · have hf := it_f c_13 hf
          refine lv_iload_n hx hb dX4_greatestFor_22 rfl (lv_at hl 2 rfl) ?_
          refine lv_aload_n hx hb dX4_greatestFor_23 rfl (lv_at hl 0 rfl) ?_
          refine va_get (D := (dC, dI)) (ci := 4) (v := .ref (A 18)) (C := RX4) (T := TX4) (N := 7) hx hb hts i4 hown hK hP 6 (wc_6 A cI cJ cZ z_11) rfl 1 (by decide) (hts (.fieldLink RX4 15 "LightestRules$Searches" "missing" "[I") (by decide +kernel)) (fun _ h9 => h9) rfl dX4_greatestFor_24 ?_
          refine lv_iload_n hx hb dX4_greatestFor_27 rfl (lv_at hl 3 rfl) ?_
          obtain ⟨n_15, hf⟩ := rg_el hf
          refine va_iald hx hb hK hP 18 0 (wc_18 A cI cJ cZ z_11) rfl n_15 dX4_greatestFor_28 ?_
          refine lv_topi (fun a_16 ea_16 => ?_)
          have hf := lt_at ea_16 hf; clear ea_16
          refine va_mmin hx hb (hml.trans hl.1.symm) hown (hts (.methodLink RX4 81 Lib.Math.min.name) (by decide +kernel)) (hts (.static Lib.Math.min.name) (by decide +kernel)) (hts (.initialized "java/lang/Math" ) (by decide +kernel)) (hts (.code Lib.Math.min.name Lib.Math.min.code 2 (some .int)) (by decide +kernel)) (Nat.le_of_ble_eq_true rfl) (Nat.le_of_ble_eq_true rfl) (Nat.zero_le _) (Nat.zero_le _) dX4_greatestFor_29 ?_
          refine lv_topi (fun y_17 ey_17 => ?_)
          have hf := lt_at ey_17 hf; clear ey_17
          refine lv_istore_n (lv' := [(2, .int y_17), (0, .ref (A 6)), (1, .int p0), (3, .int x3_7)]) hx hb dX4_greatestFor_32 rfl hl (by decide) rfl (fun ls hl => ?_)
          obtain ⟨x3_18, ex3_18⟩ : ∃ q : Int32, q = x3_7 + (1 : Int32) := ⟨_, rfl⟩
          refine lv_iinc (v := x3_18) (lv' := [(3, .int x3_18), (2, .int y_17), (0, .ref (A 6)), (1, .int p0)]) hx hb dX4_greatestFor_33 hl (k := 3) rfl (by rw [ex3_18]; rfl) (by decide) rfl (fun ls hl => ?_)
          have hf := lt_at ex3_18 hf; clear ex3_18
          refine lv_goto (tgt := 5) hx hb dX4_greatestFor_36 (by decide) ?_
          exact ihK_1 _ _ _ _ _ _ hf hP hS (lv_sub hl [2, 3, 1, 0] rfl)
  exact hLK_1 FU _ _ _ _ _ _ hf hP hS (lv_sub hl [2, 3, 1, 0] rfl)
set_option maxHeartbeats 4000000 in
set_option maxRecDepth 100000 in
theorem tX4_anySearched {l : Launch} {dC : Nat → ClassId} {dI : Nat → Nat → Nat} {A : Nat → Nat} {t0 : Nat} {cI cJ cZ : ClassId} (hA : dst A) {p0 : Int32} {z : Mem} {r : Int32} {z' : Mem} (hf : fX4_anySearched p0 z = some (r, z')) : MI l dC dI A t0 cI cJ cZ yX4_anySearched wsX4_anySearched 1 [.ref (A 6), .int p0] z r z' := by
  refine Met.ofW (cc := cX4_anySearched) (maxL := 3) (ret := (some .boolean)) (by decide) rfl ?_
  intro p e s m args below meth c s₁ B hml hv
  obtain ⟨rfl, hP, hK, hZ⟩ := hv
  have hx := B.exec
  have hb := B.bytes
  have hr := B.returns
  have hts := atoms_spec (ws := wsX4_anySearched) B.pre
  have hown : s.vm.findClass RX4 = some m.cls := findClass_of_methodNamed B.named
  have hlocks := B.notSynchronized
  have hS : va_S (fr A) s.heap s.heap [] := va_S.rf
  have i4 : ∀ w ∈ wsX40, w ∈ wsX4_anySearched := fun _ h => List.mem_cons_of_mem _ (List.mem_append_right _ h)
  have hl := lv_entry ([.ref (A 6), .int p0]) (n := 3) (Nat.le_of_ble_eq_true rfl)
  rw [lg_entry_eq]
  generalize (lg_sl ([.ref (A 6), .int p0]) ++ List.replicate (3 - (lg_sl ([.ref (A 6), .int p0])).length) Slot.unset).toArray = ls at hl ⊢
  have hl : lv_has ls 3 [(0, .ref (A 6)), (1, .int p0)] := hl
  have hP : wIs dC dI A cI cJ cZ z s.heap := hP
  rw [fX4_anySearched] at hf
  refine lv_iconst (v := 0) hx hb dX4_anySearched_0 (by decide) ?_
  refine lv_istore_n (lv' := [(2, .int (0 : Int32)), (0, .ref (A 6)), (1, .int p0)]) hx hb dX4_anySearched_1 rfl hl (by decide) rfl (fun ls hl => ?_)
  obtain ⟨K_1, eK_1, hf⟩ := fX4_anySearched_L2_g hf
  have hEK_1 : ∀ (x2_3 : Int32) (z_2 : Mem) (H : Heap) (locs : List Loc) (ls : Array Slot), K_1 x2_3 z_2 = some (r, z') → wIs dC dI A cI cJ cZ z_2 H → va_S (fr A) s.heap H locs → lv_has ls 3 [(0, .ref (A 6)), (1, .int p0), (2, .int x2_3)] → WI p l e wsX4_anySearched 1 s m [.ref (A 6), .int p0] below meth c dC dI A cI cJ cZ r z' H locs (F0 m 27 ls []) := by
    intro x2_3 z_2 H locs ls hf hP hS hl
    have hf := ap2 eK_1 hf
    refine lv_iconst (v := 0) hx hb dX4_anySearched_27 (by decide) ?_
    exact retZ hx hb hr hlocks rfl hP hS hf dX4_anySearched_28
  have hLK_1 : ∀ (n_6 : Nat) (x2_5 : Int32) (z_4 : Mem) (H : Heap) (locs : List Loc) (ls : Array Slot), fX4_anySearched_L2 K_1 p0 n_6 x2_5 z_4 = some (r, z') → wIs dC dI A cI cJ cZ z_4 H → va_S (fr A) s.heap H locs → lv_has ls 3 [(0, .ref (A 6)), (1, .int p0), (2, .int x2_5)] → WI p l e wsX4_anySearched 1 s m [.ref (A 6), .int p0] below meth c dC dI A cI cJ cZ r z' H locs (F0 m 2 ls []) := by
    intro n_6
    induction n_6 with
    | zero => intro x2_5 z_4 H locs ls hf; rw [fX4_anySearched_L2_0] at hf; cases hf
    | succ n_6 ihK_1 =>
      intro x2_5 z_4 H locs ls hf hP hS hl
      rw [fX4_anySearched_L2_s] at hf
      refine lv_iload_n hx hb dX4_anySearched_2 rfl (lv_at hl 2 rfl) ?_
      refine lv_aload_n hx hb dX4_anySearched_3 rfl (lv_at hl 0 rfl) ?_
      refine va_get (D := (dC, dI)) (ci := 4) (v := .int (z_4.1 6 4)) (C := RX4) (T := TX4) (N := 7) hx hb hts i4 hown hK hP 6 (wc_6 A cI cJ cZ z_4) rfl 4 (by decide) (hts (.fieldLink RX4 26 "LightestRules$Searches" "length" "I") (by decide +kernel)) (fun _ h9 => h9) rfl dX4_anySearched_4 ?_
      refine lv_icmp_ge (tgt := 27) hx hb dX4_anySearched_7 (by decide) (fun c_7 => ?_) (fun c_7 => ?_)
      · have hf := it_t c_7 hf
        exact hEK_1 _ _ _ _ _ hf hP hS (lv_sub hl [0, 1, 2] rfl)
      · have hf := it_f c_7 hf
        refine lv_aload_n hx hb dX4_anySearched_10 rfl (lv_at hl 0 rfl) ?_
        refine lv_iload_n hx hb dX4_anySearched_11 rfl (lv_at hl 1 rfl) ?_
        refine lv_iload_n hx hb dX4_anySearched_12 rfl (lv_at hl 2 rfl) ?_
        obtain ⟨r_8, z_9, h_10, hf⟩ := cl_el hf
        refine callVI (As := [.int p0, .int x2_5]) (rest := []) (ci := 4) (q0 := 6) ⟨hx, hb, hml, hown, hts⟩ (tX4_isIn (l := l) (dC := dC) (dI := dI) (t0 := t0) (cI := cI) (cJ := cJ) (cZ := cZ) hA h_10) (cwV 2 hts gX4_anySearched_X4_isIn rfl rfl rfl (by decide +kernel) ⟨Nat.le_of_ble_eq_true rfl, Nat.le_of_ble_eq_true rfl⟩) hK hZ hP hS rfl (wc_6 A cI cJ cZ z_4) rfl rfl rfl hl.1 (Nat.le_of_ble_eq_true rfl) ⟨Nat.zero_le _, Nat.zero_le _⟩ dX4_anySearched_13 (fun H locs hP hS => ?_)
        refine lv_if_eq (tgt := 21) hx hb dX4_anySearched_16 (by decide) (fun c_11 => ?_) (fun c_11 => ?_)
        · have hf := it_t c_11 hf
          obtain ⟨x2_12, ex2_12⟩ : ∃ q : Int32, q = x2_5 + (1 : Int32) := ⟨_, rfl⟩
          refine lv_iinc (v := x2_12) (lv' := [(2, .int x2_12), (0, .ref (A 6)), (1, .int p0)]) hx hb dX4_anySearched_21 hl (k := 2) rfl (by rw [ex2_12]; rfl) (by decide) rfl (fun ls hl => ?_)
          have hf := lt_at ex2_12 hf; clear ex2_12
          refine lv_goto (tgt := 2) hx hb dX4_anySearched_24 (by decide) ?_
          exact ihK_1 _ _ _ _ _ hf hP hS (lv_sub hl [1, 2, 0] rfl)
        · have hf := it_f c_11 hf
          refine lv_iconst (v := 1) hx hb dX4_anySearched_19 (by decide) ?_
          exact retZ hx hb hr hlocks rfl hP hS hf dX4_anySearched_20
  exact hLK_1 FU _ _ _ _ _ hf hP hS (lv_sub hl [1, 2, 0] rfl)
set_option maxHeartbeats 4000000 in
set_option maxRecDepth 100000 in
theorem tX4_give {l : Launch} {dC : Nat → ClassId} {dI : Nat → Nat → Nat} {A : Nat → Nat} {t0 : Nat} {cI cJ cZ : ClassId} (hA : dst A) {p0 : Int32} {p1 : Int32} {z : Mem} {ru : Unit} {z' : Mem} (hf : fX4_give p0 p1 z = some (ru, z')) : MV l dC dI A t0 cI cJ cZ yX4_give wsX4_give 1 [.ref (A 6), .int p0, .int p1] z z' := by
  refine Met.ofW (cc := cX4_give) (maxL := 4) (ret := none) (by decide) rfl ?_
  intro p e s m args below meth c s₁ B hml hv
  obtain ⟨rfl, hP, hK, hZ⟩ := hv
  have hx := B.exec
  have hb := B.bytes
  have hr := B.returns
  have hts := atoms_spec (ws := wsX4_give) B.pre
  have hown : s.vm.findClass RX4 = some m.cls := findClass_of_methodNamed B.named
  have hlocks := B.notSynchronized
  have hS : va_S (fr A) s.heap s.heap [] := va_S.rf
  have i4 : ∀ w ∈ wsX40, w ∈ wsX4_give := fun _ h => List.mem_cons_of_mem _ (List.mem_append_right _ h)
  have hl := lv_entry ([.ref (A 6), .int p0, .int p1]) (n := 4) (Nat.le_of_ble_eq_true rfl)
  rw [lg_entry_eq]
  generalize (lg_sl ([.ref (A 6), .int p0, .int p1]) ++ List.replicate (4 - (lg_sl ([.ref (A 6), .int p0, .int p1])).length) Slot.unset).toArray = ls at hl ⊢
  have hl : lv_has ls 4 [(0, .ref (A 6)), (1, .int p0), (2, .int p1)] := hl
  have hP : wIs dC dI A cI cJ cZ z s.heap := hP
  rw [fX4_give] at hf
  refine lv_iconst (v := 0) hx hb dX4_give_0 (by decide) ?_
  refine lv_istore_n (lv' := [(3, .int (0 : Int32)), (0, .ref (A 6)), (1, .int p0), (2, .int p1)]) hx hb dX4_give_1 rfl hl (by decide) rfl (fun ls hl => ?_)
  obtain ⟨K_1, eK_1, hf⟩ := fX4_give_L2_g hf
  have hEK_1 : ∀ (x3_3 : Int32) (z_2 : Mem) (H : Heap) (locs : List Loc) (ls : Array Slot), K_1 x3_3 z_2 = some (ru, z') → wIs dC dI A cI cJ cZ z_2 H → va_S (fr A) s.heap H locs → lv_has ls 4 [(0, .ref (A 6)), (1, .int p0), (2, .int p1), (3, .int x3_3)] → WV p l e wsX4_give 1 s m [.ref (A 6), .int p0, .int p1] below meth c dC dI A cI cJ cZ z' H locs (F0 m 35 ls []) := by
    intro x3_3 z_2 H locs ls hf hP hS hl
    have hf := ap2 eK_1 hf
    exact retV hx hb hr hlocks hP hS hf dX4_give_35
  have hLK_1 : ∀ (n_6 : Nat) (x3_5 : Int32) (z_4 : Mem) (H : Heap) (locs : List Loc) (ls : Array Slot), fX4_give_L2 K_1 p0 p1 n_6 x3_5 z_4 = some (ru, z') → wIs dC dI A cI cJ cZ z_4 H → va_S (fr A) s.heap H locs → lv_has ls 4 [(0, .ref (A 6)), (1, .int p0), (2, .int p1), (3, .int x3_5)] → WV p l e wsX4_give 1 s m [.ref (A 6), .int p0, .int p1] below meth c dC dI A cI cJ cZ z' H locs (F0 m 2 ls []) := by
    intro n_6
    induction n_6 with
    | zero => intro x3_5 z_4 H locs ls hf; rw [fX4_give_L2_0] at hf; cases hf
    | succ n_6 ihK_1 =>
      intro x3_5 z_4 H locs ls hf hP hS hl
      rw [fX4_give_L2_s] at hf
      refine lv_iload_n hx hb dX4_give_2 rfl (lv_at hl 3 rfl) ?_
      refine lv_aload_n hx hb dX4_give_3 rfl (lv_at hl 0 rfl) ?_
      refine va_get (D := (dC, dI)) (ci := 4) (v := .int (z_4.1 6 4)) (C := RX4) (T := TX4) (N := 7) hx hb hts i4 hown hK hP 6 (wc_6 A cI cJ cZ z_4) rfl 4 (by decide) (hts (.fieldLink RX4 26 "LightestRules$Searches" "length" "I") (by decide +kernel)) (fun _ h9 => h9) rfl dX4_give_4 ?_
      refine lv_icmp_ge (tgt := 35) hx hb dX4_give_7 (by decide) (fun c_7 => ?_) (fun c_7 => ?_)
      · have hf := it_t c_7 hf
        exact hEK_1 _ _ _ _ _ hf hP hS (lv_sub hl [0, 1, 2, 3] rfl)
      · have hf := it_f c_7 hf
        refine lv_aload_n hx hb dX4_give_10 rfl (lv_at hl 0 rfl) ?_
        refine lv_iload_n hx hb dX4_give_11 rfl (lv_at hl 1 rfl) ?_
        refine lv_iload_n hx hb dX4_give_12 rfl (lv_at hl 3 rfl) ?_
        obtain ⟨r_8, z_9, h_10, hf⟩ := cl_el hf
        refine callVI (As := [.int p0, .int x3_5]) (rest := []) (ci := 4) (q0 := 6) ⟨hx, hb, hml, hown, hts⟩ (tX4_isIn (l := l) (dC := dC) (dI := dI) (t0 := t0) (cI := cI) (cJ := cJ) (cZ := cZ) hA h_10) (cwV 2 hts gX4_give_X4_isIn rfl rfl rfl (by decide +kernel) ⟨Nat.le_of_ble_eq_true rfl, Nat.le_of_ble_eq_true rfl⟩) hK hZ hP hS rfl (wc_6 A cI cJ cZ z_4) rfl rfl rfl hl.1 (Nat.le_of_ble_eq_true rfl) ⟨Nat.zero_le _, Nat.zero_le _⟩ dX4_give_13 (fun H locs hP hS => ?_)
        refine lv_if_eq (tgt := 29) hx hb dX4_give_16 (by decide) (fun c_11 => ?_) (fun c_11 => ?_)
        · have hf := it_t c_11 hf
          obtain ⟨x3_12, ex3_12⟩ : ∃ q : Int32, q = x3_5 + (1 : Int32) := ⟨_, rfl⟩
          refine lv_iinc (v := x3_12) (lv' := [(3, .int x3_12), (0, .ref (A 6)), (1, .int p0), (2, .int p1)]) hx hb dX4_give_29 hl (k := 3) rfl (by rw [ex3_12]; rfl) (by decide) rfl (fun ls hl => ?_)
          have hf := lt_at ex3_12 hf; clear ex3_12
          refine lv_goto (tgt := 2) hx hb dX4_give_32 (by decide) ?_
          exact ihK_1 _ _ _ _ _ hf hP hS (lv_sub hl [1, 2, 3, 0] rfl)
        · have hf := it_f c_11 hf
          refine lv_aload_n hx hb dX4_give_19 rfl (lv_at hl 0 rfl) ?_
          refine va_get (D := (dC, dI)) (ci := 4) (v := .ref (A 18)) (C := RX4) (T := TX4) (N := 7) hx hb hts i4 hown hK hP 6 (wc_6 A cI cJ cZ z_9) rfl 1 (by decide) (hts (.fieldLink RX4 15 "LightestRules$Searches" "missing" "[I") (by decide +kernel)) (fun _ h9 => h9) rfl dX4_give_20 ?_
          refine lv_iload_n hx hb dX4_give_23 rfl (lv_at hl 3 rfl) ?_
          refine lv_dup2_11 hx hb dX4_give_24 rfl rfl ?_
          obtain ⟨n_13, hf⟩ := rg_el hf
          refine va_iald hx hb hK hP 18 0 (wc_18 A cI cJ cZ z_9) rfl n_13 dX4_give_25 ?_
          refine lv_topi (fun a_14 ea_14 => ?_)
          have hf := lt_at ea_14 hf; clear ea_14
          refine lv_iload_n hx hb dX4_give_26 rfl (lv_at hl 2 rfl) ?_
          refine lv_isub hx hb dX4_give_27 ?_
          refine lv_topi (fun y_15 ey_15 => ?_)
          have hf := lt_at ey_15 hf; clear ey_15
          obtain ⟨n_16, hf⟩ := rg_el hf
          refine va_iast hx hb hK hP (wD hA cI cJ cZ z_9) hS 18 0 (wc_18 A cI cJ cZ z_9) rfl n_16 dX4_give_28 (fun H locs hP _ hS => ?_)
          rw [wa_18 A cI cJ cZ z_9 x3_5.toNatClampNeg y_15] at hP
          obtain ⟨z_17, hP, hf⟩ := lt_P (P := fun q => wIs dC dI A cI cJ cZ q H) hP hf
          obtain ⟨x3_18, ex3_18⟩ : ∃ q : Int32, q = x3_5 + (1 : Int32) := ⟨_, rfl⟩
          refine lv_iinc (v := x3_18) (lv' := [(3, .int x3_18), (0, .ref (A 6)), (1, .int p0), (2, .int p1)]) hx hb dX4_give_29 hl (k := 3) rfl (by rw [ex3_18]; rfl) (by decide) rfl (fun ls hl => ?_)
          have hf := lt_at ex3_18 hf; clear ex3_18
          refine lv_goto (tgt := 2) hx hb dX4_give_32 (by decide) ?_
          exact ihK_1 _ _ _ _ _ hf hP hS (lv_sub hl [1, 2, 3, 0] rfl)
  exact hLK_1 FU _ _ _ _ _ hf hP hS (lv_sub hl [1, 2, 3, 0] rfl)
theorem tX4_rowsFrom_d6 {l : Launch} {dC : Nat → ClassId} {dI : Nat → Nat → Nat} {A : Nat → Nat} {t0 : Nat} {cI cJ cZ : ClassId} (hA : dst A) {p1 : Int32} {z : Mem} {r : Int32} {z' : Mem} (hf : fX4_rowsFrom_d6 p1 z = some (r, z')) : MI l dC dI A t0 cI cJ cZ yX4_rowsFrom wsX4_rowsFrom 0 [.ref (A 6), .int p1] z r z' := by
  cases hf
set_option maxHeartbeats 4000000 in
set_option maxRecDepth 100000 in
theorem tX4_noted {l : Launch} {dC : Nat → ClassId} {dI : Nat → Nat → Nat} {A : Nat → Nat} {t0 : Nat} {cI cJ cZ : ClassId} (hA : dst A) {p0 : Int32} {p1 : Int32} {p2 : Int32} {p3 : Int32} {z : Mem} {r : Int32} {z' : Mem} (hf : fX4_noted p0 p1 p2 p3 z = some (r, z')) : MI l dC dI A t0 cI cJ cZ yX4_noted wsX4_noted 1 [.ref (A 6), .int p0, .int p1, .int p2, .int p3] z r z' := by
  refine Met.ofW (cc := cX4_noted) (maxL := 5) (ret := (some .int)) (by decide) rfl ?_
  intro p e s m args below meth c s₁ B hml hv
  obtain ⟨rfl, hP, hK, hZ⟩ := hv
  have hx := B.exec
  have hb := B.bytes
  have hr := B.returns
  have hts := atoms_spec (ws := wsX4_noted) B.pre
  have hown : s.vm.findClass RX4 = some m.cls := findClass_of_methodNamed B.named
  have hlocks := B.notSynchronized
  have hS : va_S (fr A) s.heap s.heap [] := va_S.rf
  have i4 : ∀ w ∈ wsX40, w ∈ wsX4_noted := fun _ h => List.mem_cons_of_mem _ (List.mem_append_right _ h)
  have hl := lv_entry ([.ref (A 6), .int p0, .int p1, .int p2, .int p3]) (n := 5) (Nat.le_of_ble_eq_true rfl)
  rw [lg_entry_eq]
  generalize (lg_sl ([.ref (A 6), .int p0, .int p1, .int p2, .int p3]) ++ List.replicate (5 - (lg_sl ([.ref (A 6), .int p0, .int p1, .int p2, .int p3])).length) Slot.unset).toArray = ls at hl ⊢
  have hl : lv_has ls 5 [(0, .ref (A 6)), (1, .int p0), (2, .int p1), (3, .int p2), (4, .int p3)] := hl
  have hP : wIs dC dI A cI cJ cZ z s.heap := hP
  rw [fX4_noted] at hf
  refine lv_iload hx hb dX4_noted_0 (lv_at hl 4 rfl) ?_
  refine lv_if_le (tgt := 46) hx hb dX4_noted_2 (by decide) (fun c_1 => ?_) (fun c_1 => ?_)
  · have hf := it_t c_1 hf
    refine lv_iload hx hb dX4_noted_46 (lv_at hl 4 rfl) ?_
    exact retI hx hb hr hlocks hP hS hf dX4_noted_48
  · have hf := it_f c_1 hf
    refine lv_iload_n hx hb dX4_noted_5 rfl (lv_at hl 1 rfl) ?_
    refine lv_if_lt (tgt := 46) hx hb dX4_noted_6 (by decide) (fun c_2 => ?_) (fun c_2 => ?_)
    · have hf := it_t c_2 hf
      refine lv_iload hx hb dX4_noted_46 (lv_at hl 4 rfl) ?_
      exact retI hx hb hr hlocks hP hS hf dX4_noted_48
    · have hf := it_f c_2 hf
      refine lv_iload_n hx hb dX4_noted_9 rfl (lv_at hl 1 rfl) ?_
      refine lv_iconst (v := 5) hx hb dX4_noted_10 (by decide) ?_
      refine lv_icmp_ge (tgt := 46) hx hb dX4_noted_11 (by decide) (fun c_3 => ?_) (fun c_3 => ?_)
      · have hf := it_t c_3 hf
        refine lv_iload hx hb dX4_noted_46 (lv_at hl 4 rfl) ?_
        exact retI hx hb hr hlocks hP hS hf dX4_noted_48
      · have hf := it_f c_3 hf
        refine lv_aload_n hx hb dX4_noted_14 rfl (lv_at hl 0 rfl) ?_
        refine va_get (D := (dC, dI)) (ci := 4) (v := .ref (A 19)) (C := RX4) (T := TX4) (N := 7) hx hb hts i4 hown hK hP 6 (wc_6 A cI cJ cZ z) rfl 2 (by decide) (hts (.fieldLink RX4 20 "LightestRules$Searches" "least" "[I") (by decide +kernel)) (fun _ h9 => h9) rfl dX4_noted_15 ?_
        refine lv_iload_n hx hb dX4_noted_18 rfl (lv_at hl 1 rfl) ?_
        refine lv_aload_n hx hb dX4_noted_19 rfl (lv_at hl 0 rfl) ?_
        refine va_get (D := (dC, dI)) (ci := 4) (v := .ref (A 19)) (C := RX4) (T := TX4) (N := 7) hx hb hts i4 hown hK hP 6 (wc_6 A cI cJ cZ z) rfl 2 (by decide) (hts (.fieldLink RX4 20 "LightestRules$Searches" "least" "[I") (by decide +kernel)) (fun _ h9 => h9) rfl dX4_noted_20 ?_
        refine lv_iload_n hx hb dX4_noted_23 rfl (lv_at hl 1 rfl) ?_
        obtain ⟨n_4, hf⟩ := rg_el hf
        refine va_iald hx hb hK hP 19 0 (wc_19 A cI cJ cZ z) rfl n_4 dX4_noted_24 ?_
        refine lv_topi (fun a_5 ea_5 => ?_)
        have hf := lt_at ea_5 hf; clear ea_5
        refine lv_iload_n hx hb dX4_noted_25 rfl (lv_at hl 2 rfl) ?_
        refine va_mmin hx hb (hml.trans hl.1.symm) hown (hts (.methodLink RX4 81 Lib.Math.min.name) (by decide +kernel)) (hts (.static Lib.Math.min.name) (by decide +kernel)) (hts (.initialized "java/lang/Math" ) (by decide +kernel)) (hts (.code Lib.Math.min.name Lib.Math.min.code 2 (some .int)) (by decide +kernel)) (Nat.le_of_ble_eq_true rfl) (Nat.le_of_ble_eq_true rfl) (Nat.zero_le _) (Nat.zero_le _) dX4_noted_26 ?_
        refine lv_topi (fun y_6 ey_6 => ?_)
        have hf := lt_at ey_6 hf; clear ey_6
        obtain ⟨n_7, hf⟩ := rg_el hf
        refine va_iast hx hb hK hP (wD hA cI cJ cZ z) hS 19 0 (wc_19 A cI cJ cZ z) rfl n_7 dX4_noted_29 (fun H locs hP _ hS => ?_)
        rw [wa_19 A cI cJ cZ z p0.toNatClampNeg y_6] at hP
        obtain ⟨z_8, hP, hf⟩ := lt_P (P := fun q => wIs dC dI A cI cJ cZ q H) hP hf
        refine lv_aload_n hx hb dX4_noted_30 rfl (lv_at hl 0 rfl) ?_
        refine va_get (D := (dC, dI)) (ci := 4) (v := .ref (A 20)) (C := RX4) (T := TX4) (N := 7) hx hb hts i4 hown hK hP 6 (wc_6 A cI cJ cZ z_8) rfl 3 (by decide) (hts (.fieldLink RX4 23 "LightestRules$Searches" "most" "[I") (by decide +kernel)) (fun _ h9 => h9) rfl dX4_noted_31 ?_
        refine lv_iload_n hx hb dX4_noted_34 rfl (lv_at hl 1 rfl) ?_
        refine lv_aload_n hx hb dX4_noted_35 rfl (lv_at hl 0 rfl) ?_
        refine va_get (D := (dC, dI)) (ci := 4) (v := .ref (A 20)) (C := RX4) (T := TX4) (N := 7) hx hb hts i4 hown hK hP 6 (wc_6 A cI cJ cZ z_8) rfl 3 (by decide) (hts (.fieldLink RX4 23 "LightestRules$Searches" "most" "[I") (by decide +kernel)) (fun _ h9 => h9) rfl dX4_noted_36 ?_
        refine lv_iload_n hx hb dX4_noted_39 rfl (lv_at hl 1 rfl) ?_
        obtain ⟨n_9, hf⟩ := rg_el hf
        refine va_iald hx hb hK hP 20 0 (wc_20 A cI cJ cZ z_8) rfl n_9 dX4_noted_40 ?_
        refine lv_topi (fun a_10 ea_10 => ?_)
        have hf := lt_at ea_10 hf; clear ea_10
        refine lv_iload_n hx hb dX4_noted_41 rfl (lv_at hl 3 rfl) ?_
        refine va_mmax hx hb (hml.trans hl.1.symm) hown (hts (.methodLink RX4 75 Lib.Math.max.name) (by decide +kernel)) (hts (.static Lib.Math.max.name) (by decide +kernel)) (hts (.initialized "java/lang/Math" ) (by decide +kernel)) (hts (.code Lib.Math.max.name Lib.Math.max.code 2 (some .int)) (by decide +kernel)) (Nat.le_of_ble_eq_true rfl) (Nat.le_of_ble_eq_true rfl) (Nat.zero_le _) (Nat.zero_le _) dX4_noted_42 ?_
        refine lv_topi (fun y_11 ey_11 => ?_)
        have hf := lt_at ey_11 hf; clear ey_11
        obtain ⟨n_12, hf⟩ := rg_el hf
        refine va_iast hx hb hK hP (wD hA cI cJ cZ z_8) hS 20 0 (wc_20 A cI cJ cZ z_8) rfl n_12 dX4_noted_45 (fun H locs hP _ hS => ?_)
        rw [wa_20 A cI cJ cZ z_8 p0.toNatClampNeg y_11] at hP
        obtain ⟨z_13, hP, hf⟩ := lt_P (P := fun q => wIs dC dI A cI cJ cZ q H) hP hf
        refine lv_iload hx hb dX4_noted_46 (lv_at hl 4 rfl) ?_
        exact retI hx hb hr hlocks hP hS hf dX4_noted_48
set_option maxHeartbeats 4000000 in
set_option maxRecDepth 100000 in
theorem tX4_rowsFrom_d5 {l : Launch} {dC : Nat → ClassId} {dI : Nat → Nat → Nat} {A : Nat → Nat} {t0 : Nat} {cI cJ cZ : ClassId} (hA : dst A) {p1 : Int32} {z : Mem} {r : Int32} {z' : Mem} (hf : fX4_rowsFrom_d5 p1 z = some (r, z')) : MI l dC dI A t0 cI cJ cZ yX4_rowsFrom wsX4_rowsFrom 2 [.ref (A 6), .int p1] z r z' := by
  refine Met.ofW (cc := cX4_rowsFrom) (maxL := 6) (ret := (some .int)) (by decide) rfl ?_
  intro p e s m args below meth c s₁ B hml hv
  obtain ⟨rfl, hP, hK, hZ⟩ := hv
  have hx := B.exec
  have hb := B.bytes
  have hr := B.returns
  have hts := atoms_spec (ws := wsX4_rowsFrom) B.pre
  have hown : s.vm.findClass RX4 = some m.cls := findClass_of_methodNamed B.named
  have hlocks := B.notSynchronized
  have hS : va_S (fr A) s.heap s.heap [] := va_S.rf
  have hl := lv_entry ([.ref (A 6), .int p1]) (n := 6) (Nat.le_of_ble_eq_true rfl)
  rw [lg_entry_eq]
  generalize (lg_sl ([.ref (A 6), .int p1]) ++ List.replicate (6 - (lg_sl ([.ref (A 6), .int p1])).length) Slot.unset).toArray = ls at hl ⊢
  have hl : lv_has ls 6 [(0, .ref (A 6)), (1, .int p1)] := hl
  have hP : wIs dC dI A cI cJ cZ z s.heap := hP
  rw [fX4_rowsFrom_d5] at hf
  refine lv_iload_n hx hb dX4_rowsFrom_0 rfl (lv_at hl 1 rfl) ?_
  refine lv_if_lt (tgt := 9) hx hb dX4_rowsFrom_1 (by decide) (fun c_1 => ?_) (fun c_1 => ?_)
  · have hf := it_t c_1 hf
    refine lv_iconst (v := 1) hx hb dX4_rowsFrom_9 (by decide) ?_
    exact retI hx hb hr hlocks hP hS hf dX4_rowsFrom_10
  · have hf := it_f c_1 hf
    refine lv_iload_n hx hb dX4_rowsFrom_4 rfl (lv_at hl 1 rfl) ?_
    refine lv_iconst (v := 5) hx hb dX4_rowsFrom_5 (by decide) ?_
    refine lv_icmp_lt (tgt := 11) hx hb dX4_rowsFrom_6 (by decide) (fun c_2 => ?_) (fun c_2 => ?_)
    · have hf := it_t c_2 hf
      refine lv_aload_n hx hb dX4_rowsFrom_11 rfl (lv_at hl 0 rfl) ?_
      refine lv_iload_n hx hb dX4_rowsFrom_12 rfl (lv_at hl 1 rfl) ?_
      obtain ⟨r_3, z_4, h_5, hf⟩ := cl_el hf
      refine callVI (As := [.int p1]) (rest := []) (ci := 4) (q0 := 6) ⟨hx, hb, hml, hown, hts⟩ (tX4_fewestFor (l := l) (dC := dC) (dI := dI) (t0 := t0) (cI := cI) (cJ := cJ) (cZ := cZ) hA h_5) (cwV 1 hts gX4_rowsFrom_X4_fewestFor rfl rfl rfl (by decide +kernel) ⟨Nat.le_of_ble_eq_true rfl, Nat.le_of_ble_eq_true rfl⟩) hK hZ hP hS rfl (wc_6 A cI cJ cZ z) rfl rfl rfl hl.1 (Nat.le_of_ble_eq_true rfl) ⟨Nat.zero_le _, Nat.zero_le _⟩ dX4_rowsFrom_13 (fun H locs hP hS => ?_)
      refine lv_istore_n (lv' := [(2, .int r_3), (0, .ref (A 6)), (1, .int p1)]) hx hb dX4_rowsFrom_16 rfl hl (by decide) rfl (fun ls hl => ?_)
      refine lv_aload_n hx hb dX4_rowsFrom_17 rfl (lv_at hl 1 rfl) ?_
      refine lv_iload_n hx hb dX4_rowsFrom_18 rfl (lv_at hl 2 rfl) ?_
      obtain ⟨r_6, z_7, h_8, hf⟩ := cl_el hf
      refine callVI (As := [.int p1]) (rest := []) (ci := 4) (q0 := 6) ⟨hx, hb, hml, hown, hts⟩ (tX4_greatestFor (l := l) (dC := dC) (dI := dI) (t0 := t0) (cI := cI) (cJ := cJ) (cZ := cZ) hA h_8) (cwV 1 hts gX4_rowsFrom_X4_greatestFor rfl rfl rfl (by decide +kernel) ⟨Nat.le_of_ble_eq_true rfl, Nat.le_of_ble_eq_true rfl⟩) hK hZ hP hS rfl (wc_6 A cI cJ cZ z_4) rfl rfl rfl hl.1 (Nat.le_of_ble_eq_true rfl) ⟨Nat.zero_le _, Nat.zero_le _⟩ dX4_rowsFrom_19 (fun H locs hP hS => ?_)
      refine lv_istore_n (lv' := [(3, .int r_6), (2, .int r_3), (0, .ref (A 6)), (1, .int p1)]) hx hb dX4_rowsFrom_22 rfl hl (by decide) rfl (fun ls hl => ?_)
      refine lv_aload_n hx hb dX4_rowsFrom_23 rfl (lv_at hl 2 rfl) ?_
      refine lv_iload_n hx hb dX4_rowsFrom_24 rfl (lv_at hl 3 rfl) ?_
      obtain ⟨r_9, z_10, h_11, hf⟩ := cl_el hf
      refine callVI (As := [.int p1]) (rest := []) (ci := 4) (q0 := 6) ⟨hx, hb, hml, hown, hts⟩ (tX4_anySearched (l := l) (dC := dC) (dI := dI) (t0 := t0) (cI := cI) (cJ := cJ) (cZ := cZ) hA h_11) (cwV 1 hts gX4_rowsFrom_X4_anySearched rfl rfl rfl (by decide +kernel) ⟨Nat.le_of_ble_eq_true rfl, Nat.le_of_ble_eq_true rfl⟩) hK hZ hP hS rfl (wc_6 A cI cJ cZ z_7) rfl rfl rfl hl.1 (Nat.le_of_ble_eq_true rfl) ⟨Nat.zero_le _, Nat.zero_le _⟩ dX4_rowsFrom_25 (fun H locs hP hS => ?_)
      refine lv_if_ne (tgt := 49) hx hb dX4_rowsFrom_28 (by decide) (fun c_12 => ?_) (fun c_12 => ?_)
      · have hf := it_f c_12 hf
        refine lv_iconst (v := 0) hx hb dX4_rowsFrom_49 (by decide) ?_
        refine lv_istore (lv' := [(4, .int (0 : Int32)), (3, .int r_6), (2, .int r_3), (0, .ref (A 6)), (1, .int p1)]) hx hb dX4_rowsFrom_50 hl (by decide) rfl (fun ls hl => ?_)
        refine lv_iload_n hx hb dX4_rowsFrom_52 rfl (lv_at hl 2 rfl) ?_
        refine lv_istore (lv' := [(5, .int r_3), (4, .int (0 : Int32)), (3, .int r_6), (2, .int r_3), (0, .ref (A 6)), (1, .int p1)]) hx hb dX4_rowsFrom_53 hl (by decide) rfl (fun ls hl => ?_)
        obtain ⟨K_13, eK_13, hf⟩ := fX4_rowsFrom_d5_L55_g hf
        have hEK_13 : ∀ (x4_15 : Int32) (x5_16 : Int32) (z_14 : Mem) (H : Heap) (locs : List Loc) (ls : Array Slot), K_13 x4_15 x5_16 z_14 = some (r, z') → wIs dC dI A cI cJ cZ z_14 H → va_S (fr A) s.heap H locs → lv_has ls 6 [(0, .ref (A 6)), (1, .int p1), (2, .int r_3), (3, .int r_6), (4, .int x4_15), (5, .int x5_16)] → WI p l e wsX4_rowsFrom 2 s m [.ref (A 6), .int p1] below meth c dC dI A cI cJ cZ r z' H locs (F0 m 103 ls []) := by
          intro x4_15 x5_16 z_14 H locs ls hf hP hS hl
          have hf := ap3 eK_13 hf
          refine lv_iload hx hb dX4_rowsFrom_103 (lv_at hl 4 rfl) ?_
          exact retI hx hb hr hlocks hP hS hf dX4_rowsFrom_105
        have hLK_13 : ∀ (n_20 : Nat) (x4_18 : Int32) (x5_19 : Int32) (z_17 : Mem) (H : Heap) (locs : List Loc) (ls : Array Slot), fX4_rowsFrom_d5_L55 K_13 p1 r_6 n_20 x4_18 x5_19 z_17 = some (r, z') → wIs dC dI A cI cJ cZ z_17 H → va_S (fr A) s.heap H locs → lv_has ls 6 [(0, .ref (A 6)), (1, .int p1), (2, .int r_3), (3, .int r_6), (4, .int x4_18), (5, .int x5_19)] → WI p l e wsX4_rowsFrom 2 s m [.ref (A 6), .int p1] below meth c dC dI A cI cJ cZ r z' H locs (F0 m 55 ls []) := by
          intro n_20
          induction n_20 with
          | zero => intro x4_18 x5_19 z_17 H locs ls hf; rw [fX4_rowsFrom_d5_L55_0] at hf; cases hf
          | succ n_20 ihK_13 =>
            intro x4_18 x5_19 z_17 H locs ls hf hP hS hl
            rw [fX4_rowsFrom_d5_L55_s] at hf
            refine lv_iload hx hb dX4_rowsFrom_55 (lv_at hl 5 rfl) ?_
            refine lv_iload_n hx hb dX4_rowsFrom_57 rfl (lv_at hl 3 rfl) ?_
            refine lv_icmp_gt (tgt := 103) hx hb dX4_rowsFrom_58 (by decide) (fun c_21 => ?_) (fun c_21 => ?_)
            · have hf := it_t c_21 hf
              exact hEK_13 _ _ _ _ _ _ hf hP hS (lv_sub hl [0, 1, 2, 3, 4, 5] rfl)
            · have hf := it_f c_21 hf
              refine lv_aload_n hx hb dX4_rowsFrom_61 rfl (lv_at hl 0 rfl) ?_
              refine lv_iload_n hx hb dX4_rowsFrom_62 rfl (lv_at hl 1 rfl) ?_
              refine lv_iload hx hb dX4_rowsFrom_63 (lv_at hl 5 rfl) ?_
              obtain ⟨r_22, z_23, h_24, hf⟩ := cl_el hf
              refine callVV (As := [.int p1, .int x5_19]) (rest := []) (ci := 4) (q0 := 6) ⟨hx, hb, hml, hown, hts⟩ (tX4_give (l := l) (dC := dC) (dI := dI) (t0 := t0) (cI := cI) (cJ := cJ) (cZ := cZ) hA h_24) (cwV 2 hts gX4_rowsFrom_X4_give rfl rfl rfl (by decide +kernel) ⟨Nat.le_of_ble_eq_true rfl, Nat.le_of_ble_eq_true rfl⟩) hK hZ hP hS rfl (wc_6 A cI cJ cZ z_17) rfl rfl rfl hl.1 (Nat.le_of_ble_eq_true rfl) ⟨Nat.zero_le _, Nat.zero_le _⟩ dX4_rowsFrom_65 (fun H locs hP hS => ?_)
              refine lv_iload hx hb dX4_rowsFrom_68 (lv_at hl 4 rfl) ?_
              refine lv_aload_n hx hb dX4_rowsFrom_70 rfl (lv_at hl 0 rfl) ?_
              refine lv_iload_n hx hb dX4_rowsFrom_71 rfl (lv_at hl 1 rfl) ?_
              refine lv_iload hx hb dX4_rowsFrom_72 (lv_at hl 5 rfl) ?_
              refine lv_iload hx hb dX4_rowsFrom_74 (lv_at hl 5 rfl) ?_
              refine lv_aload_n hx hb dX4_rowsFrom_76 rfl (lv_at hl 0 rfl) ?_
              refine lv_iload_n hx hb dX4_rowsFrom_77 rfl (lv_at hl 1 rfl) ?_
              refine lv_iconst (v := 1) hx hb dX4_rowsFrom_78 (by decide) ?_
              refine lv_iadd hx hb dX4_rowsFrom_79 ?_
              obtain ⟨r_25, z_26, h_27, hf⟩ := cl_el hf
              refine callSI (As := [.ref (A 6), .int (p1 + (1 : Int32))]) (rest := [.int x5_19, .int x5_19, .int p1, .ref (A 6), .int x4_18]) ⟨hx, hb, hml, hown, hts⟩ (tX4_rowsFrom_d6 (l := l) (dC := dC) (dI := dI) (t0 := t0) (cI := cI) (cJ := cJ) (cZ := cZ) hA h_27) (va_cwS 2 hts gX4_rowsFrom_X4_rowsFrom rfl rfl rfl (by decide +kernel) ⟨Nat.le_of_ble_eq_true rfl, Nat.le_of_ble_eq_true rfl⟩) hK hZ hP hS rfl rfl hl.1 (Nat.le_of_ble_eq_true rfl) ⟨Nat.zero_le _, Nat.zero_le _⟩ dX4_rowsFrom_80 (fun H locs hP hS => ?_)
              obtain ⟨r_28, z_29, h_30, hf⟩ := cl_el hf
              refine callVI (As := [.int p1, .int x5_19, .int x5_19, .int r_25]) (rest := [.int x4_18]) (ci := 4) (q0 := 6) ⟨hx, hb, hml, hown, hts⟩ (tX4_noted (l := l) (dC := dC) (dI := dI) (t0 := t0) (cI := cI) (cJ := cJ) (cZ := cZ) hA h_30) (cwV 4 hts gX4_rowsFrom_X4_noted rfl rfl rfl (by decide +kernel) ⟨Nat.le_of_ble_eq_true rfl, Nat.le_of_ble_eq_true rfl⟩) hK hZ hP hS rfl (wc_6 A cI cJ cZ z_26) rfl rfl rfl hl.1 (Nat.le_of_ble_eq_true rfl) ⟨Nat.zero_le _, Nat.zero_le _⟩ dX4_rowsFrom_83 (fun H locs hP hS => ?_)
              refine lv_iadd hx hb dX4_rowsFrom_86 ?_
              refine lv_topi (fun x4_31 ex4_31 => ?_)
              have hf := lt_at ex4_31 hf; clear ex4_31
              refine lv_istore (lv' := [(4, .int x4_31), (0, .ref (A 6)), (1, .int p1), (2, .int r_3), (3, .int r_6), (5, .int x5_19)]) hx hb dX4_rowsFrom_87 hl (by decide) rfl (fun ls hl => ?_)
              refine lv_aload_n hx hb dX4_rowsFrom_89 rfl (lv_at hl 1 rfl) ?_
              refine lv_iload_n hx hb dX4_rowsFrom_90 rfl (lv_at hl 2 rfl) ?_
              refine lv_iload hx hb dX4_rowsFrom_91 (lv_at hl 5 rfl) ?_
              refine lv_ineg hx hb dX4_rowsFrom_93 ?_
              obtain ⟨r_32, z_33, h_34, hf⟩ := cl_el hf
              refine callVV (As := [.int p1, .int (-x5_19)]) (rest := []) (ci := 4) (q0 := 6) ⟨hx, hb, hml, hown, hts⟩ (tX4_give (l := l) (dC := dC) (dI := dI) (t0 := t0) (cI := cI) (cJ := cJ) (cZ := cZ) hA h_34) (cwV 2 hts gX4_rowsFrom_X4_give rfl rfl rfl (by decide +kernel) ⟨Nat.le_of_ble_eq_true rfl, Nat.le_of_ble_eq_true rfl⟩) hK hZ hP hS rfl (wc_6 A cI cJ cZ z_29) rfl rfl rfl hl.1 (Nat.le_of_ble_eq_true rfl) ⟨Nat.zero_le _, Nat.zero_le _⟩ dX4_rowsFrom_94 (fun H locs hP hS => ?_)
              obtain ⟨x5_35, ex5_35⟩ : ∃ q : Int32, q = x5_19 + (1 : Int32) := ⟨_, rfl⟩
              refine lv_iinc (v := x5_35) (lv' := [(5, .int x5_35), (4, .int x4_31), (0, .ref (A 6)), (1, .int p1), (2, .int r_3), (3, .int r_6)]) hx hb dX4_rowsFrom_97 hl (k := 5) rfl (by rw [ex5_35]; rfl) (by decide) rfl (fun ls hl => ?_)
              have hf := lt_at ex5_35 hf; clear ex5_35
              refine lv_goto (tgt := 55) hx hb dX4_rowsFrom_100 (by decide) ?_
              exact ihK_13 _ _ _ _ _ _ hf hP hS (lv_sub hl [2, 3, 4, 5, 1, 0] rfl)
        exact hLK_13 FU _ _ _ _ _ _ hf hP hS (lv_sub hl [4, 5, 3, 2, 1, 0] rfl)
      · have hf := it_t c_12 hf
        refine lv_bipush (v := 10) hx hb dX4_rowsFrom_31 (by decide) ?_
        refine lv_aload_n hx hb dX4_rowsFrom_33 rfl (lv_at hl 2 rfl) ?_
        refine lv_iload_n hx hb dX4_rowsFrom_34 rfl (lv_at hl 3 rfl) ?_
        refine lv_iload_n hx hb dX4_rowsFrom_35 rfl (lv_at hl 1 rfl) ?_
        refine lv_iload_n hx hb dX4_rowsFrom_36 rfl (lv_at hl 0 rfl) ?_
        refine lv_aload_n hx hb dX4_rowsFrom_37 rfl (lv_at hl 2 rfl) ?_
        refine lv_iload_n hx hb dX4_rowsFrom_38 rfl (lv_at hl 3 rfl) ?_
        refine lv_iconst (v := 1) hx hb dX4_rowsFrom_39 (by decide) ?_
        refine lv_iadd hx hb dX4_rowsFrom_40 ?_
        obtain ⟨r_36, z_37, h_38, hf⟩ := cl_el hf
        refine callSI (As := [.ref (A 6), .int (p1 + (1 : Int32))]) (rest := [.int r_6, .int r_3, .int p1, .ref (A 6), .int (10 : Int32)]) ⟨hx, hb, hml, hown, hts⟩ (tX4_rowsFrom_d6 (l := l) (dC := dC) (dI := dI) (t0 := t0) (cI := cI) (cJ := cJ) (cZ := cZ) hA h_38) (va_cwS 2 hts gX4_rowsFrom_X4_rowsFrom rfl rfl rfl (by decide +kernel) ⟨Nat.le_of_ble_eq_true rfl, Nat.le_of_ble_eq_true rfl⟩) hK hZ hP hS rfl rfl hl.1 (Nat.le_of_ble_eq_true rfl) ⟨Nat.zero_le _, Nat.zero_le _⟩ dX4_rowsFrom_41 (fun H locs hP hS => ?_)
        obtain ⟨r_39, z_40, h_41, hf⟩ := cl_el hf
        refine callVI (As := [.int p1, .int r_3, .int r_6, .int r_36]) (rest := [.int (10 : Int32)]) (ci := 4) (q0 := 6) ⟨hx, hb, hml, hown, hts⟩ (tX4_noted (l := l) (dC := dC) (dI := dI) (t0 := t0) (cI := cI) (cJ := cJ) (cZ := cZ) hA h_41) (cwV 4 hts gX4_rowsFrom_X4_noted rfl rfl rfl (by decide +kernel) ⟨Nat.le_of_ble_eq_true rfl, Nat.le_of_ble_eq_true rfl⟩) hK hZ hP hS rfl (wc_6 A cI cJ cZ z_37) rfl rfl rfl hl.1 (Nat.le_of_ble_eq_true rfl) ⟨Nat.zero_le _, Nat.zero_le _⟩ dX4_rowsFrom_44 (fun H locs hP hS => ?_)
        refine lv_imul hx hb dX4_rowsFrom_47 ?_
        exact retI hx hb hr hlocks hP hS hf dX4_rowsFrom_48
    · have hf := it_f c_2 hf
      refine lv_iconst (v := 1) hx hb dX4_rowsFrom_9 (by decide) ?_
      exact retI hx hb hr hlocks hP hS hf dX4_rowsFrom_10
