set_option maxHeartbeats 4000000 in
set_option maxRecDepth 100000 in
theorem tX3_sumOfWays {l : Launch} {dC : Nat → ClassId} {dI : Nat → Nat → Nat} {A : Nat → Nat} {t0 : Nat} {cI cJ cZ : ClassId} (hA : dst A) {p0 : Int32} {z : Mem} {r : Int64} {z' : Mem} (hf : fX3_sumOfWays p0 z = some (r, z')) : ML l dC dI A t0 cI cJ cZ yX3_sumOfWays wsX3_sumOfWays 0 [.ref (A 7), .int p0] z r z' := by
  refine Met.ofW (cc := cX3_sumOfWays) (maxL := 5) (ret := (some .long)) (by decide) rfl ?_
  intro p e s m args below meth c s₁ B hml hv
  obtain ⟨rfl, hP, hK, hZ⟩ := hv
  have hx := B.exec
  have hb := B.bytes
  have hr := B.returns
  have hts := atoms_spec (ws := wsX3_sumOfWays) B.pre
  have hown : s.vm.findClass RX3 = some m.cls := findClass_of_methodNamed B.named
  have hlocks := B.notSynchronized
  have hS : va_S (fr A) s.heap s.heap [] := va_S.rf
  have i3 : ∀ w ∈ wsX30, w ∈ wsX3_sumOfWays := fun _ h => List.mem_cons_of_mem _ (List.mem_append_right _ h)
  have hl := lv_entry ([.ref (A 7), .int p0]) (n := 5) (Nat.le_of_ble_eq_true rfl)
  rw [lg_entry_eq]
  generalize (lg_sl ([.ref (A 7), .int p0]) ++ List.replicate (5 - (lg_sl ([.ref (A 7), .int p0])).length) Slot.unset).toArray = ls at hl ⊢
  have hl : lv_has ls 5 [(0, .ref (A 7)), (1, .int p0)] := hl
  have hP : wIs dC dI A cI cJ cZ z s.heap := hP
  rw [fX3_sumOfWays] at hf
  refine lv_lconst (v := 0) hx hb dX3_sumOfWays_0 rfl ?_
  refine lv_lstore_n (lv' := [(2, .long (0 : Int64)), (0, .ref (A 7)), (1, .int p0)]) hx hb dX3_sumOfWays_1 rfl hl (by decide) rfl (fun ls hl => ?_)
  refine lv_iconst (v := 0) hx hb dX3_sumOfWays_2 (by decide) ?_
  refine lv_istore (lv' := [(4, .int (0 : Int32)), (2, .long (0 : Int64)), (0, .ref (A 7)), (1, .int p0)]) hx hb dX3_sumOfWays_3 hl (by decide) rfl (fun ls hl => ?_)
  obtain ⟨K_1, eK_1, hf⟩ := fX3_sumOfWays_L5_g hf
  have hEK_1 : ∀ (x2_3 : Int64) (x4_4 : Int32) (z_2 : Mem) (H : Heap) (locs : List Loc) (ls : Array Slot), K_1 x2_3 x4_4 z_2 = some (r, z') → wIs dC dI A cI cJ cZ z_2 H → va_S (fr A) s.heap H locs → lv_has ls 5 [(0, .ref (A 7)), (1, .int p0), (2, .long x2_3), (4, .int x4_4)] → WL p l e wsX3_sumOfWays 0 s m [.ref (A 7), .int p0] below meth c dC dI A cI cJ cZ r z' H locs (F0 m 35 ls []) := by
    intro x2_3 x4_4 z_2 H locs ls hf hP hS hl
    have hf := ap3 eK_1 hf
    refine lv_lload_n hx hb dX3_sumOfWays_35 rfl (lv_at hl 2 rfl) ?_
    exact retL hx hb hr hlocks hP hS hf dX3_sumOfWays_36
  have hLK_1 : ∀ (n_8 : Nat) (x2_6 : Int64) (x4_7 : Int32) (z_5 : Mem) (H : Heap) (locs : List Loc) (ls : Array Slot), fX3_sumOfWays_L5 K_1 p0 n_8 x2_6 x4_7 z_5 = some (r, z') → wIs dC dI A cI cJ cZ z_5 H → va_S (fr A) s.heap H locs → lv_has ls 5 [(0, .ref (A 7)), (1, .int p0), (2, .long x2_6), (4, .int x4_7)] → WL p l e wsX3_sumOfWays 0 s m [.ref (A 7), .int p0] below meth c dC dI A cI cJ cZ r z' H locs (F0 m 5 ls []) := by
    intro n_8
    induction n_8 with
    | zero => intro x2_6 x4_7 z_5 H locs ls hf; rw [fX3_sumOfWays_L5_0] at hf; cases hf
    | succ n_8 ihK_1 =>
      intro x2_6 x4_7 z_5 H locs ls hf hP hS hl
      rw [fX3_sumOfWays_L5_s] at hf
      refine lv_iload hx hb dX3_sumOfWays_5 (lv_at hl 3 rfl) ?_
      refine lv_iload_n hx hb dX3_sumOfWays_7 rfl (lv_at hl 1 rfl) ?_
      refine lv_icmp_ge (tgt := 35) hx hb dX3_sumOfWays_8 (by decide) (fun c_9 => ?_) (fun c_9 => ?_)
      · have hf := it_t c_9 hf
        exact hEK_1 _ _ _ _ _ _ hf hP hS (lv_sub hl [0, 1, 2, 3] rfl)
      · have hf := it_f c_9 hf
        refine lv_iload hx hb dX3_sumOfWays_11 (lv_at hl 3 rfl) ?_
        refine lv_sipush (v := 2197) hx hb dX3_sumOfWays_13 (by decide) ?_
        refine lv_icmp_ge (tgt := 35) hx hb dX3_sumOfWays_16 (by decide) (fun c_10 => ?_) (fun c_10 => ?_)
        · have hf := it_t c_10 hf
          exact hEK_1 _ _ _ _ _ _ hf hP hS (lv_sub hl [0, 1, 2, 3] rfl)
        · have hf := it_f c_10 hf
          refine lv_lload_n hx hb dX3_sumOfWays_19 rfl (lv_at hl 2 rfl) ?_
          refine lv_aload_n hx hb dX3_sumOfWays_20 rfl (lv_at hl 0 rfl) ?_
          refine va_get (D := (dC, dI)) (ci := 3) (v := .ref (A 23)) (C := RX3) (T := TX3) (N := 4) hx hb hts i3 hown hK hP 7 (wc_7 A cI cJ cZ z_5) rfl 2 (by decide) (hts (.fieldLink RX3 18 "LightestRules$RulersLine" "ways" "[J") (by decide +kernel)) (fun _ h9 => h9) rfl dX3_sumOfWays_21 ?_
          refine lv_iload hx hb dX3_sumOfWays_24 (lv_at hl 3 rfl) ?_
          obtain ⟨n_11, hf⟩ := rg_el hf
          refine va_lald hx hb hK hP 23 1 (wc_23 A cI cJ cZ z_5) rfl n_11 dX3_sumOfWays_26 ?_
          refine lv_topl (fun a_12 ea_12 => ?_)
          have hf := lt_at ea_12 hf; clear ea_12
          refine lv_ladd hx hb dX3_sumOfWays_27 ?_
          refine lv_topl (fun x2_13 ex2_13 => ?_)
          have hf := lt_at ex2_13 hf; clear ex2_13
          refine lv_lstore_n (lv' := [(2, .long x2_13), (0, .ref (A 7)), (1, .int p0), (4, .int x4_7)]) hx hb dX3_sumOfWays_28 rfl hl (by decide) rfl (fun ls hl => ?_)
          obtain ⟨x4_14, ex4_14⟩ : ∃ q : Int32, q = x4_7 + (1 : Int32) := ⟨_, rfl⟩
          refine lv_iinc (v := x4_14) (lv' := [(4, .int x4_14), (2, .long x2_13), (0, .ref (A 7)), (1, .int p0)]) hx hb dX3_sumOfWays_29 hl (k := 3) rfl (by rw [ex4_14]; rfl) (by decide) rfl (fun ls hl => ?_)
          have hf := lt_at ex4_14 hf; clear ex4_14
          refine lv_goto (tgt := 5) hx hb dX3_sumOfWays_32 (by decide) ?_
          exact ihK_1 _ _ _ _ _ _ hf hP hS (lv_sub hl [2, 3, 1, 0] rfl)
  exact hLK_1 FU _ _ _ _ _ _ hf hP hS (lv_sub hl [2, 3, 1, 0] rfl)
set_option maxHeartbeats 4000000 in
set_option maxRecDepth 100000 in
theorem tX3_lightestAt {l : Launch} {dC : Nat → ClassId} {dI : Nat → Nat → Nat} {A : Nat → Nat} {t0 : Nat} {cI cJ cZ : ClassId} (hA : dst A) {p0 : Int32} {p1 : Int32} {z : Mem} {r : Int32} {z' : Mem} (hf : fX3_lightestAt p0 p1 z = some (r, z')) : MI l dC dI A t0 cI cJ cZ yX3_lightestAt wsX3_lightestAt 0 [.ref (A 7), .int p0, .int p1] z r z' := by
  refine Met.ofW (cc := cX3_lightestAt) (maxL := 8) (ret := (some .int)) (by decide) rfl ?_
  intro p e s m args below meth c s₁ B hml hv
  obtain ⟨rfl, hP, hK, hZ⟩ := hv
  have hx := B.exec
  have hb := B.bytes
  have hr := B.returns
  have hts := atoms_spec (ws := wsX3_lightestAt) B.pre
  have hown : s.vm.findClass RX3 = some m.cls := findClass_of_methodNamed B.named
  have hlocks := B.notSynchronized
  have hS : va_S (fr A) s.heap s.heap [] := va_S.rf
  have i3 : ∀ w ∈ wsX30, w ∈ wsX3_lightestAt := fun _ h => List.mem_cons_of_mem _ (List.mem_append_right _ h)
  have hl := lv_entry ([.ref (A 7), .int p0, .int p1]) (n := 8) (Nat.le_of_ble_eq_true rfl)
  rw [lg_entry_eq]
  generalize (lg_sl ([.ref (A 7), .int p0, .int p1]) ++ List.replicate (8 - (lg_sl ([.ref (A 7), .int p0, .int p1])).length) Slot.unset).toArray = ls at hl ⊢
  have hl : lv_has ls 8 [(0, .ref (A 7)), (1, .int p0), (2, .int p1)] := hl
  have hP : wIs dC dI A cI cJ cZ z s.heap := hP
  rw [fX3_lightestAt] at hf
  refine lv_bipush (v := -9) hx hb dX3_lightestAt_0 (by decide) ?_
  refine lv_istore_n (lv' := [(3, .int (-9 : Int32)), (0, .ref (A 7)), (1, .int p0), (2, .int p1)]) hx hb dX3_lightestAt_2 rfl hl (by decide) rfl (fun ls hl => ?_)
  refine lv_iconst (v := 0) hx hb dX3_lightestAt_3 (by decide) ?_
  refine lv_istore (lv' := [(4, .int (0 : Int32)), (3, .int (-9 : Int32)), (0, .ref (A 7)), (1, .int p0), (2, .int p1)]) hx hb dX3_lightestAt_4 hl (by decide) rfl (fun ls hl => ?_)
  refine lv_iload_n hx hb dX3_lightestAt_6 rfl (lv_at hl 3 rfl) ?_
  refine lv_istore (lv' := [(5, .int p0), (4, .int (0 : Int32)), (3, .int (-9 : Int32)), (0, .ref (A 7)), (1, .int p0), (2, .int p1)]) hx hb dX3_lightestAt_7 hl (by decide) rfl (fun ls hl => ?_)
  refine lv_iconst (v := 0) hx hb dX3_lightestAt_9 (by decide) ?_
  refine lv_istore (lv' := [(6, .int (0 : Int32)), (5, .int p0), (4, .int (0 : Int32)), (3, .int (-9 : Int32)), (0, .ref (A 7)), (1, .int p0), (2, .int p1)]) hx hb dX3_lightestAt_10 hl (by decide) rfl (fun ls hl => ?_)
  obtain ⟨K_1, eK_1, hf⟩ := fX3_lightestAt_L12_g hf
  have hEK_1 : ∀ (x3_3 : Int32) (x4_4 : Int32) (x5_5 : Int32) (x6_6 : Int32) (z_2 : Mem) (H : Heap) (locs : List Loc) (ls : Array Slot), K_1 x3_3 x4_4 x5_5 x6_6 z_2 = some (r, z') → wIs dC dI A cI cJ cZ z_2 H → va_S (fr A) s.heap H locs → lv_has ls 8 [(0, .ref (A 7)), (1, .int p0), (2, .int p1), (3, .int x3_3), (4, .int x4_4), (5, .int x5_5), (6, .int x6_6)] → WI p l e wsX3_lightestAt 0 s m [.ref (A 7), .int p0, .int p1] below meth c dC dI A cI cJ cZ r z' H locs (F0 m 75 ls []) := by
    intro x3_3 x4_4 x5_5 x6_6 z_2 H locs ls hf hP hS hl
    have hf := ap5 eK_1 hf
    refine lv_iload_n hx hb dX3_lightestAt_75 rfl (lv_at hl 3 rfl) ?_
    exact retI hx hb hr hlocks hP hS hf dX3_lightestAt_76
  have hLK_1 : ∀ (n_12 : Nat) (x3_8 : Int32) (x4_9 : Int32) (x5_10 : Int32) (x6_11 : Int32) (z_7 : Mem) (H : Heap) (locs : List Loc) (ls : Array Slot), fX3_lightestAt_L12 K_1 p1 n_12 x3_8 x4_9 x5_10 x6_11 z_7 = some (r, z') → wIs dC dI A cI cJ cZ z_7 H → va_S (fr A) s.heap H locs → lv_has ls 8 [(0, .ref (A 7)), (1, .int p0), (2, .int p1), (3, .int x3_8), (4, .int x4_9), (5, .int x5_10), (6, .int x6_11)] → WI p l e wsX3_lightestAt 0 s m [.ref (A 7), .int p0, .int p1] below meth c dC dI A cI cJ cZ r z' H locs (F0 m 12 ls []) := by
    intro n_12
    induction n_12 with
    | zero => intro x3_8 x4_9 x5_10 x6_11 z_7 H locs ls hf; rw [fX3_lightestAt_L12_0] at hf; cases hf
    | succ n_12 ihK_1 =>
      intro x3_8 x4_9 x5_10 x6_11 z_7 H locs ls hf hP hS hl
      rw [fX3_lightestAt_L12_s] at hf
      refine lv_iload hx hb dX3_lightestAt_12 (lv_at hl 6 rfl) ?_
      refine lv_iload_n hx hb dX3_lightestAt_14 rfl (lv_at hl 2 rfl) ?_
      refine lv_icmp_ge (tgt := 75) hx hb dX3_lightestAt_15 (by decide) (fun c_13 => ?_) (fun c_13 => ?_)
      · have hf := it_t c_13 hf
        exact hEK_1 _ _ _ _ _ _ _ _ hf hP hS (lv_sub hl [0, 1, 2, 3, 4, 5, 6] rfl)
      · have hf := it_f c_13 hf
        refine lv_iload hx hb dX3_lightestAt_18 (lv_at hl 6 rfl) ?_
        refine lv_iconst (v := 3) hx hb dX3_lightestAt_20 (by decide) ?_
        refine lv_icmp_ge (tgt := 75) hx hb dX3_lightestAt_21 (by decide) (fun c_14 => ?_) (fun c_14 => ?_)
        · have hf := it_t c_14 hf
          exact hEK_1 _ _ _ _ _ _ _ _ hf hP hS (lv_sub hl [0, 1, 2, 3, 4, 5, 6] rfl)
        · have hf := it_f c_14 hf
          refine lv_aload_n hx hb dX3_lightestAt_24 rfl (lv_at hl 0 rfl) ?_
          refine va_get (D := (dC, dI)) (ci := 3) (v := .ref (A 22)) (C := RX3) (T := TX3) (N := 4) hx hb hts i3 hown hK hP 7 (wc_7 A cI cJ cZ z_7) rfl 1 (by decide) (hts (.fieldLink RX3 15 "LightestRules$RulersLine" "weights" "[I") (by decide +kernel)) (fun _ h9 => h9) rfl dX3_lightestAt_25 ?_
          refine lv_iload hx hb dX3_lightestAt_28 (lv_at hl 6 rfl) ?_
          obtain ⟨n_15, hf⟩ := rg_el hf
          refine va_iald hx hb hK hP 22 0 (wc_22 A cI cJ cZ z_7) rfl n_15 dX3_lightestAt_30 ?_
          refine lv_topi (fun a_16 ea_16 => ?_)
          have hf := lt_at ea_16 hf; clear ea_16
          refine lv_bipush (v := 8) hx hb dX3_lightestAt_31 (by decide) ?_
          refine lv_iload hx hb dX3_lightestAt_33 (lv_at hl 5 rfl) ?_
          refine lv_bipush (v := 13) hx hb dX3_lightestAt_35 (by decide) ?_
          obtain ⟨n_17, hf⟩ := nz_el hf
          refine lv_irem hx hb dX3_lightestAt_37 n_17 ?_
          refine lv_imul hx hb dX3_lightestAt_38 ?_
          refine lv_iadd hx hb dX3_lightestAt_39 ?_
          refine lv_topi (fun x7_18 ex7_18 => ?_)
          have hf := lt_at ex7_18 hf; clear ex7_18
          refine lv_istore (lv' := [(7, .int x7_18), (0, .ref (A 7)), (1, .int p0), (2, .int p1), (3, .int x3_8), (4, .int x4_9), (5, .int x5_10), (6, .int x6_11)]) hx hb dX3_lightestAt_40 hl (by decide) rfl (fun ls hl => ?_)
          refine lv_iload_n hx hb dX3_lightestAt_42 rfl (lv_at hl 4 rfl) ?_
          refine lv_bipush (v := -9) hx hb dX3_lightestAt_43 (by decide) ?_
          obtain ⟨K_19, eK_19, hf⟩ := jn_el hf
          have hK_19 : ∀ (x3_20 : Int32) (x4_21 : Int32) (z_22 : Mem) (H : Heap) (locs : List Loc) (ls : Array Slot), K_19 x3_20 x4_21 z_22 = some (r, z') → wIs dC dI A cI cJ cZ z_22 H → va_S (fr A) s.heap H locs → lv_has ls 8 [(7, .int x7_18), (0, .ref (A 7)), (1, .int p0), (2, .int p1), (3, .int x3_20), (4, .int x4_21), (5, .int x5_10), (6, .int x6_11)] → WI p l e wsX3_lightestAt 0 s m [.ref (A 7), .int p0, .int p1] below meth c dC dI A cI cJ cZ r z' H locs (F0 m 62 ls []) := by
            intro x3_20 x4_21 z_22 H locs ls hf hP hS hl
            have hf := ap3 eK_19 hf
            refine lv_iload hx hb dX3_lightestAt_62 (lv_at hl 6 rfl) ?_
            refine lv_bipush (v := 13) hx hb dX3_lightestAt_64 (by decide) ?_
            obtain ⟨n_23, hf⟩ := nz_el hf
            refine lv_idiv hx hb dX3_lightestAt_66 n_23 ?_
            refine lv_topi (fun x5_24 ex5_24 => ?_)
            have hf := lt_at ex5_24 hf; clear ex5_24
            refine lv_istore (lv' := [(5, .int x5_24), (7, .int x7_18), (0, .ref (A 7)), (1, .int p0), (2, .int p1), (3, .int x3_20), (4, .int x4_21), (6, .int x6_11)]) hx hb dX3_lightestAt_67 hl (by decide) rfl (fun ls hl => ?_)
            obtain ⟨x6_25, ex6_25⟩ : ∃ q : Int32, q = x6_11 + (1 : Int32) := ⟨_, rfl⟩
            refine lv_iinc (v := x6_25) (lv' := [(6, .int x6_25), (5, .int x5_24), (7, .int x7_18), (0, .ref (A 7)), (1, .int p0), (2, .int p1), (3, .int x3_20), (4, .int x4_21)]) hx hb dX3_lightestAt_69 hl (k := 7) rfl (by rw [ex6_25]; rfl) (by decide) rfl (fun ls hl => ?_)
            have hf := lt_at ex6_25 hf; clear ex6_25
            refine lv_goto (tgt := 12) hx hb dX3_lightestAt_72 (by decide) ?_
            exact ihK_1 _ _ _ _ _ _ _ _ hf hP hS (lv_sub hl [3, 4, 5, 6, 7, 1, 0] rfl)
          refine lv_icmp_eq (tgt := 55) hx hb dX3_lightestAt_45 (by decide) (fun c_26 => ?_) (fun c_26 => ?_)
          · have hf := it_t c_26 hf
            refine lv_iload hx hb dX3_lightestAt_55 (lv_at hl 7 rfl) ?_
            refine lv_istore_n (lv' := [(3, .int x6_11), (7, .int x7_18), (0, .ref (A 7)), (1, .int p0), (2, .int p1), (4, .int x4_9), (5, .int x5_10), (6, .int x6_11)]) hx hb dX3_lightestAt_57 rfl hl (by decide) rfl (fun ls hl => ?_)
            refine lv_iload hx hb dX3_lightestAt_58 (lv_at hl 1 rfl) ?_
            refine lv_istore (lv' := [(4, .int x7_18), (3, .int x6_11), (7, .int x7_18), (0, .ref (A 7)), (1, .int p0), (2, .int p1), (5, .int x5_10), (6, .int x6_11)]) hx hb dX3_lightestAt_60 hl (by decide) rfl (fun ls hl => ?_)
            exact hK_19 _ _ _ _ _ _ hf hP hS (lv_sub hl [2, 3, 4, 5, 1, 0, 6, 7] rfl)
          · have hf := it_f c_26 hf
            refine lv_iload hx hb dX3_lightestAt_48 (lv_at hl 0 rfl) ?_
            refine lv_iload hx hb dX3_lightestAt_50 (lv_at hl 5 rfl) ?_
            refine lv_icmp_ge (tgt := 62) hx hb dX3_lightestAt_52 (by decide) (fun c_27 => ?_) (fun c_27 => ?_)
            · have hf := it_t c_27 hf
              exact hK_19 _ _ _ _ _ _ hf hP hS (lv_sub hl [0, 1, 2, 3, 4, 5, 6, 7] rfl)
            · have hf := it_f c_27 hf
              refine lv_iload hx hb dX3_lightestAt_55 (lv_at hl 7 rfl) ?_
              refine lv_istore_n (lv' := [(3, .int x6_11), (7, .int x7_18), (0, .ref (A 7)), (1, .int p0), (2, .int p1), (4, .int x4_9), (5, .int x5_10), (6, .int x6_11)]) hx hb dX3_lightestAt_57 rfl hl (by decide) rfl (fun ls hl => ?_)
              refine lv_iload hx hb dX3_lightestAt_58 (lv_at hl 1 rfl) ?_
              refine lv_istore (lv' := [(4, .int x7_18), (3, .int x6_11), (7, .int x7_18), (0, .ref (A 7)), (1, .int p0), (2, .int p1), (5, .int x5_10), (6, .int x6_11)]) hx hb dX3_lightestAt_60 hl (by decide) rfl (fun ls hl => ?_)
              exact hK_19 _ _ _ _ _ _ hf hP hS (lv_sub hl [2, 3, 4, 5, 1, 0, 6, 7] rfl)
  exact hLK_1 FU _ _ _ _ _ _ _ _ hf hP hS (lv_sub hl [4, 5, 6, 3, 2, 1, 0] rfl)
set_option maxHeartbeats 4000000 in
set_option maxRecDepth 100000 in
theorem tX3_strikeOut {l : Launch} {dC : Nat → ClassId} {dI : Nat → Nat → Nat} {A : Nat → Nat} {t0 : Nat} {cI cJ cZ : ClassId} (hA : dst A) {p0 : Int32} {p1 : Int32} {p2 : Int32} {z : Mem} {ru : Unit} {z' : Mem} (hf : fX3_strikeOut p0 p1 p2 z = some (ru, z')) : MV l dC dI A t0 cI cJ cZ yX3_strikeOut wsX3_strikeOut 1 [.ref (A 7), .int p0, .int p1, .int p2] z z' := by
  refine Met.ofW (cc := cX3_strikeOut) (maxL := 5) (ret := none) (by decide) rfl ?_
  intro p e s m args below meth c s₁ B hml hv
  obtain ⟨rfl, hP, hK, hZ⟩ := hv
  have hx := B.exec
  have hb := B.bytes
  have hr := B.returns
  have hts := atoms_spec (ws := wsX3_strikeOut) B.pre
  have hown : s.vm.findClass RX3 = some m.cls := findClass_of_methodNamed B.named
  have hlocks := B.notSynchronized
  have hS : va_S (fr A) s.heap s.heap [] := va_S.rf
  have i3 : ∀ w ∈ wsX30, w ∈ wsX3_strikeOut := fun _ h => List.mem_cons_of_mem _ (List.mem_append_right _ h)
  have hl := lv_entry ([.ref (A 7), .int p0, .int p1, .int p2]) (n := 5) (Nat.le_of_ble_eq_true rfl)
  rw [lg_entry_eq]
  generalize (lg_sl ([.ref (A 7), .int p0, .int p1, .int p2]) ++ List.replicate (5 - (lg_sl ([.ref (A 7), .int p0, .int p1, .int p2])).length) Slot.unset).toArray = ls at hl ⊢
  have hl : lv_has ls 5 [(0, .ref (A 7)), (1, .int p0), (2, .int p1), (3, .int p2)] := hl
  have hP : wIs dC dI A cI cJ cZ z s.heap := hP
  rw [fX3_strikeOut] at hf
  refine lv_iconst (v := 0) hx hb dX3_strikeOut_0 (by decide) ?_
  refine lv_istore (lv' := [(4, .int (0 : Int32)), (0, .ref (A 7)), (1, .int p0), (2, .int p1), (3, .int p2)]) hx hb dX3_strikeOut_1 hl (by decide) rfl (fun ls hl => ?_)
  obtain ⟨K_1, eK_1, hf⟩ := fX3_strikeOut_L3_g hf
  have hEK_1 : ∀ (x4_3 : Int32) (z_2 : Mem) (H : Heap) (locs : List Loc) (ls : Array Slot), K_1 x4_3 z_2 = some (ru, z') → wIs dC dI A cI cJ cZ z_2 H → va_S (fr A) s.heap H locs → lv_has ls 5 [(0, .ref (A 7)), (1, .int p0), (2, .int p1), (3, .int p2), (4, .int x4_3)] → WV p l e wsX3_strikeOut 1 s m [.ref (A 7), .int p0, .int p1, .int p2] below meth c dC dI A cI cJ cZ z' H locs (F0 m 54 ls []) := by
    intro x4_3 z_2 H locs ls hf hP hS hl
    have hf := ap2 eK_1 hf
    exact retV hx hb hr hlocks hP hS hf dX3_strikeOut_54
  have hLK_1 : ∀ (n_6 : Nat) (x4_5 : Int32) (z_4 : Mem) (H : Heap) (locs : List Loc) (ls : Array Slot), fX3_strikeOut_L3 K_1 p0 p1 p2 n_6 x4_5 z_4 = some (ru, z') → wIs dC dI A cI cJ cZ z_4 H → va_S (fr A) s.heap H locs → lv_has ls 5 [(0, .ref (A 7)), (1, .int p0), (2, .int p1), (3, .int p2), (4, .int x4_5)] → WV p l e wsX3_strikeOut 1 s m [.ref (A 7), .int p0, .int p1, .int p2] below meth c dC dI A cI cJ cZ z' H locs (F0 m 3 ls []) := by
    intro n_6
    induction n_6 with
    | zero => intro x4_5 z_4 H locs ls hf; rw [fX3_strikeOut_L3_0] at hf; cases hf
    | succ n_6 ihK_1 =>
      intro x4_5 z_4 H locs ls hf hP hS hl
      rw [fX3_strikeOut_L3_s] at hf
      refine lv_iload hx hb dX3_strikeOut_3 (lv_at hl 4 rfl) ?_
      refine lv_iload_n hx hb dX3_strikeOut_5 rfl (lv_at hl 3 rfl) ?_
      refine lv_icmp_ge (tgt := 54) hx hb dX3_strikeOut_6 (by decide) (fun c_7 => ?_) (fun c_7 => ?_)
      · have hf := it_t c_7 hf
        exact hEK_1 _ _ _ _ _ hf hP hS (lv_sub hl [0, 1, 2, 3, 4] rfl)
      · have hf := it_f c_7 hf
        refine lv_iload hx hb dX3_strikeOut_9 (lv_at hl 4 rfl) ?_
        refine lv_sipush (v := 2197) hx hb dX3_strikeOut_11 (by decide) ?_
        refine lv_icmp_ge (tgt := 54) hx hb dX3_strikeOut_14 (by decide) (fun c_8 => ?_) (fun c_8 => ?_)
        · have hf := it_t c_8 hf
          exact hEK_1 _ _ _ _ _ hf hP hS (lv_sub hl [0, 1, 2, 3, 4] rfl)
        · have hf := it_f c_8 hf
          refine lv_aload_n hx hb dX3_strikeOut_17 rfl (lv_at hl 0 rfl) ?_
          refine va_get (D := (dC, dI)) (ci := 3) (v := .ref (A 23)) (C := RX3) (T := TX3) (N := 4) hx hb hts i3 hown hK hP 7 (wc_7 A cI cJ cZ z_4) rfl 2 (by decide) (hts (.fieldLink RX3 18 "LightestRules$RulersLine" "ways" "[J") (by decide +kernel)) (fun _ h9 => h9) rfl dX3_strikeOut_18 ?_
          refine lv_iload hx hb dX3_strikeOut_21 (lv_at hl 4 rfl) ?_
          obtain ⟨n_9, hf⟩ := rg_el hf
          refine va_lald hx hb hK hP 23 1 (wc_23 A cI cJ cZ z_4) rfl n_9 dX3_strikeOut_23 ?_
          refine lv_topl (fun a_10 ea_10 => ?_)
          have hf := lt_at ea_10 hf; clear ea_10
          refine lv_lconst (v := 0) hx hb dX3_strikeOut_24 rfl ?_
          refine W.lcmp hx hb dX3_strikeOut_25 ?_
          refine lv_if_eq (tgt := 48) hx hb dX3_strikeOut_26 (by decide) (fun c_11 => ?_) (fun c_11 => ?_)
          · have hf := it_t c_11 hf
            obtain ⟨x4_12, ex4_12⟩ : ∃ q : Int32, q = x4_5 + (1 : Int32) := ⟨_, rfl⟩
            refine lv_iinc (v := x4_12) (lv' := [(4, .int x4_12), (0, .ref (A 7)), (1, .int p0), (2, .int p1), (3, .int p2)]) hx hb dX3_strikeOut_48 hl (k := 4) rfl (by rw [ex4_12]; rfl) (by decide) rfl (fun ls hl => ?_)
            have hf := lt_at ex4_12 hf; clear ex4_12
            refine lv_goto (tgt := 3) hx hb dX3_strikeOut_51 (by decide) ?_
            exact ihK_1 _ _ _ _ _ hf hP hS (lv_sub hl [1, 2, 3, 4, 0] rfl)
          · have hf := it_f c_11 hf
            refine lv_aload_n hx hb dX3_strikeOut_29 rfl (lv_at hl 0 rfl) ?_
            refine lv_iload hx hb dX3_strikeOut_30 (lv_at hl 4 rfl) ?_
            refine lv_iload_n hx hb dX3_strikeOut_32 rfl (lv_at hl 2 rfl) ?_
            obtain ⟨r_13, z_14, h_15, hf⟩ := cl_el hf
            refine callVI (As := [.int x4_5, .int p1]) (rest := []) (ci := 3) (q0 := 7) ⟨hx, hb, hml, hown, hts⟩ (tX3_lightestAt (l := l) (dC := dC) (dI := dI) (t0 := t0) (cI := cI) (cJ := cJ) (cZ := cZ) hA h_15) (cwV 2 hts gX3_strikeOut_X3_lightestAt rfl rfl rfl (by decide +kernel) ⟨Nat.le_of_ble_eq_true rfl, Nat.le_of_ble_eq_true rfl⟩) hK hZ hP hS rfl (wc_7 A cI cJ cZ z_4) rfl rfl rfl hl.1 (Nat.le_of_ble_eq_true rfl) ⟨Nat.zero_le _, Nat.zero_le _⟩ dX3_strikeOut_33 (fun H locs hP hS => ?_)
            refine lv_iload_n hx hb dX3_strikeOut_36 rfl (lv_at hl 1 rfl) ?_
            refine lv_icmp_eq (tgt := 48) hx hb dX3_strikeOut_37 (by decide) (fun c_16 => ?_) (fun c_16 => ?_)
            · have hf := it_t c_16 hf
              obtain ⟨x4_17, ex4_17⟩ : ∃ q : Int32, q = x4_5 + (1 : Int32) := ⟨_, rfl⟩
              refine lv_iinc (v := x4_17) (lv' := [(4, .int x4_17), (0, .ref (A 7)), (1, .int p0), (2, .int p1), (3, .int p2)]) hx hb dX3_strikeOut_48 hl (k := 4) rfl (by rw [ex4_17]; rfl) (by decide) rfl (fun ls hl => ?_)
              have hf := lt_at ex4_17 hf; clear ex4_17
              refine lv_goto (tgt := 3) hx hb dX3_strikeOut_51 (by decide) ?_
              exact ihK_1 _ _ _ _ _ hf hP hS (lv_sub hl [1, 2, 3, 4, 0] rfl)
            · have hf := it_f c_16 hf
              refine lv_aload_n hx hb dX3_strikeOut_40 rfl (lv_at hl 0 rfl) ?_
              refine va_get (D := (dC, dI)) (ci := 3) (v := .ref (A 23)) (C := RX3) (T := TX3) (N := 4) hx hb hts i3 hown hK hP 7 (wc_7 A cI cJ cZ z_14) rfl 2 (by decide) (hts (.fieldLink RX3 18 "LightestRules$RulersLine" "ways" "[J") (by decide +kernel)) (fun _ h9 => h9) rfl dX3_strikeOut_41 ?_
              refine lv_iload hx hb dX3_strikeOut_44 (lv_at hl 4 rfl) ?_
              refine lv_lconst (v := 0) hx hb dX3_strikeOut_46 rfl ?_
              obtain ⟨n_18, hf⟩ := rg_el hf
              refine va_last hx hb hK hP (wD hA cI cJ cZ z_14) hS 23 1 (wc_23 A cI cJ cZ z_14) rfl n_18 dX3_strikeOut_47 (fun H locs hP _ hS => ?_)
              rw [wa_23 A cI cJ cZ z_14 x4_5.toNatClampNeg (0 : Int64)] at hP
              obtain ⟨z_19, hP, hf⟩ := lt_P (P := fun q => wIs dC dI A cI cJ cZ q H) hP hf
              obtain ⟨x4_20, ex4_20⟩ : ∃ q : Int32, q = x4_5 + (1 : Int32) := ⟨_, rfl⟩
              refine lv_iinc (v := x4_20) (lv' := [(4, .int x4_20), (0, .ref (A 7)), (1, .int p0), (2, .int p1), (3, .int p2)]) hx hb dX3_strikeOut_48 hl (k := 4) rfl (by rw [ex4_20]; rfl) (by decide) rfl (fun ls hl => ?_)
              have hf := lt_at ex4_20 hf; clear ex4_20
              refine lv_goto (tgt := 3) hx hb dX3_strikeOut_51 (by decide) ?_
              exact ihK_1 _ _ _ _ _ hf hP hS (lv_sub hl [1, 2, 3, 4, 0] rfl)
  exact hLK_1 FU _ _ _ _ _ hf hP hS (lv_sub hl [1, 2, 3, 4, 0] rfl)
set_option maxHeartbeats 4000000 in
set_option maxRecDepth 100000 in
theorem tX3_letEat {l : Launch} {dC : Nat → ClassId} {dI : Nat → Nat → Nat} {A : Nat → Nat} {t0 : Nat} {cI cJ cZ : ClassId} (hA : dst A) {p0 : Int32} {p1 : Int32} {z : Mem} {ru : Unit} {z' : Mem} (hf : fX3_letEat p0 p1 z = some (ru, z')) : MV l dC dI A t0 cI cJ cZ yX3_letEat wsX3_letEat 1 [.ref (A 7), .int p0, .int p1] z z' := by
  refine Met.ofW (cc := cX3_letEat) (maxL := 6) (ret := none) (by decide) rfl ?_
  intro p e s m args below meth c s₁ B hml hv
  obtain ⟨rfl, hP, hK, hZ⟩ := hv
  have hx := B.exec
  have hb := B.bytes
  have hr := B.returns
  have hts := atoms_spec (ws := wsX3_letEat) B.pre
  have hown : s.vm.findClass RX3 = some m.cls := findClass_of_methodNamed B.named
  have hlocks := B.notSynchronized
  have hS : va_S (fr A) s.heap s.heap [] := va_S.rf
  have i3 : ∀ w ∈ wsX30, w ∈ wsX3_letEat := fun _ h => List.mem_cons_of_mem _ (List.mem_append_right _ h)
  have hl := lv_entry ([.ref (A 7), .int p0, .int p1]) (n := 6) (Nat.le_of_ble_eq_true rfl)
  rw [lg_entry_eq]
  generalize (lg_sl ([.ref (A 7), .int p0, .int p1]) ++ List.replicate (6 - (lg_sl ([.ref (A 7), .int p0, .int p1])).length) Slot.unset).toArray = ls at hl ⊢
  have hl : lv_has ls 6 [(0, .ref (A 7)), (1, .int p0), (2, .int p1)] := hl
  have hP : wIs dC dI A cI cJ cZ z s.heap := hP
  rw [fX3_letEat] at hf
  refine lv_iload_n hx hb dX3_letEat_0 rfl (lv_at hl 1 rfl) ?_
  refine lv_iconst (v := 1) hx hb dX3_letEat_1 (by decide) ?_
  refine lv_icmp_ge (tgt := 6) hx hb dX3_letEat_2 (by decide) (fun c_1 => ?_) (fun c_1 => ?_)
  · have hf := it_t c_1 hf
    refine lv_iload_n hx hb dX3_letEat_6 rfl (lv_at hl 2 rfl) ?_
    refine lv_sipush (v := 2197) hx hb dX3_letEat_7 (by decide) ?_
    refine va_mmin hx hb (hml.trans hl.1.symm) hown (hts (.methodLink RX3 32 Lib.Math.min.name) (by decide +kernel)) (hts (.static Lib.Math.min.name) (by decide +kernel)) (hts (.initialized "java/lang/Math" ) (by decide +kernel)) (hts (.code Lib.Math.min.name Lib.Math.min.code 2 (some .int)) (by decide +kernel)) (Nat.le_of_ble_eq_true rfl) (Nat.le_of_ble_eq_true rfl) (Nat.zero_le _) (Nat.zero_le _) dX3_letEat_10 ?_
    refine lv_topi (fun y_2 ey_2 => ?_)
    have hf := lt_at ey_2 hf; clear ey_2
    refine lv_iconst (v := 1) hx hb dX3_letEat_13 (by decide) ?_
    refine lv_isub hx hb dX3_letEat_14 ?_
    refine lv_topi (fun x3_3 ex3_3 => ?_)
    have hf := lt_at ex3_3 hf; clear ex3_3
    refine lv_istore_n (lv' := [(3, .int x3_3), (0, .ref (A 7)), (1, .int p0), (2, .int p1)]) hx hb dX3_letEat_15 rfl hl (by decide) rfl (fun ls hl => ?_)
    obtain ⟨K_4, eK_4, hf⟩ := fX3_letEat_L16_g hf
    have hEK_4 : ∀ (x3_6 : Int32) (z_5 : Mem) (H : Heap) (locs : List Loc) (ls : Array Slot), K_4 x3_6 z_5 = some (ru, z') → wIs dC dI A cI cJ cZ z_5 H → va_S (fr A) s.heap H locs → lv_has ls 6 [(0, .ref (A 7)), (1, .int p0), (2, .int p1), (3, .int x3_6)] → WV p l e wsX3_letEat 1 s m [.ref (A 7), .int p0, .int p1] below meth c dC dI A cI cJ cZ z' H locs (F0 m 75 ls []) := by
      intro x3_6 z_5 H locs ls hf hP hS hl
      have hf := ap2 eK_4 hf
      exact retV hx hb hr hlocks hP hS hf dX3_letEat_75
    have hLK_4 : ∀ (n_9 : Nat) (x3_8 : Int32) (z_7 : Mem) (H : Heap) (locs : List Loc) (ls : Array Slot), fX3_letEat_L16 K_4 p0 n_9 x3_8 z_7 = some (ru, z') → wIs dC dI A cI cJ cZ z_7 H → va_S (fr A) s.heap H locs → lv_has ls 6 [(0, .ref (A 7)), (1, .int p0), (2, .int p1), (3, .int x3_8)] → WV p l e wsX3_letEat 1 s m [.ref (A 7), .int p0, .int p1] below meth c dC dI A cI cJ cZ z' H locs (F0 m 16 ls []) := by
      intro n_9
      induction n_9 with
      | zero => intro x3_8 z_7 H locs ls hf; rw [fX3_letEat_L16_0] at hf; cases hf
      | succ n_9 ihK_4 =>
        intro x3_8 z_7 H locs ls hf hP hS hl
        rw [fX3_letEat_L16_s] at hf
        refine lv_iload_n hx hb dX3_letEat_16 rfl (lv_at hl 3 rfl) ?_
        refine lv_iload_n hx hb dX3_letEat_17 rfl (lv_at hl 1 rfl) ?_
        refine lv_icmp_lt (tgt := 75) hx hb dX3_letEat_18 (by decide) (fun c_10 => ?_) (fun c_10 => ?_)
        · have hf := it_t c_10 hf
          exact hEK_4 _ _ _ _ _ hf hP hS (lv_sub hl [0, 1, 2, 3] rfl)
        · have hf := it_f c_10 hf
          refine lv_iconst (v := 3) hx hb dX3_letEat_21 (by decide) ?_
          refine lv_iload_n hx hb dX3_letEat_22 rfl (lv_at hl 3 rfl) ?_
          refine lv_iload_n hx hb dX3_letEat_23 rfl (lv_at hl 1 rfl) ?_
          obtain ⟨n_11, hf⟩ := nz_el hf
          refine lv_idiv hx hb dX3_letEat_24 n_11 ?_
          refine lv_bipush (v := 13) hx hb dX3_letEat_25 (by decide) ?_
          obtain ⟨n_12, hf⟩ := nz_el hf
          refine lv_irem hx hb dX3_letEat_27 n_12 ?_
          refine va_mmin hx hb (hml.trans hl.1.symm) hown (hts (.methodLink RX3 32 Lib.Math.min.name) (by decide +kernel)) (hts (.static Lib.Math.min.name) (by decide +kernel)) (hts (.initialized "java/lang/Math" ) (by decide +kernel)) (hts (.code Lib.Math.min.name Lib.Math.min.code 2 (some .int)) (by decide +kernel)) (Nat.le_of_ble_eq_true rfl) (Nat.le_of_ble_eq_true rfl) (Nat.zero_le _) (Nat.zero_le _) dX3_letEat_28 ?_
          refine lv_topi (fun y_13 ey_13 => ?_)
          have hf := lt_at ey_13 hf; clear ey_13
          refine lv_istore (lv' := [(4, .int y_13), (0, .ref (A 7)), (1, .int p0), (2, .int p1), (3, .int x3_8)]) hx hb dX3_letEat_31 hl (by decide) rfl (fun ls hl => ?_)
          refine lv_iconst (v := 1) hx hb dX3_letEat_33 (by decide) ?_
          refine lv_istore (lv' := [(5, .int (1 : Int32)), (4, .int y_13), (0, .ref (A 7)), (1, .int p0), (2, .int p1), (3, .int x3_8)]) hx hb dX3_letEat_34 hl (by decide) rfl (fun ls hl => ?_)
          obtain ⟨K_14, eK_14, hf⟩ := fX3_letEat_L36_g hf
          have hEK_14 : ∀ (x5_16 : Int32) (z_15 : Mem) (H : Heap) (locs : List Loc) (ls : Array Slot), K_14 x5_16 z_15 = some (ru, z') → wIs dC dI A cI cJ cZ z_15 H → va_S (fr A) s.heap H locs → lv_has ls 6 [(0, .ref (A 7)), (1, .int p0), (2, .int p1), (3, .int x3_8), (4, .int y_13), (5, .int x5_16)] → WV p l e wsX3_letEat 1 s m [.ref (A 7), .int p0, .int p1] below meth c dC dI A cI cJ cZ z' H locs (F0 m 69 ls []) := by
            intro x5_16 z_15 H locs ls hf hP hS hl
            have hf := ap2 eK_14 hf
            obtain ⟨x3_17, ex3_17⟩ : ∃ q : Int32, q = x3_8 + (-1 : Int32) := ⟨_, rfl⟩
            refine lv_iinc (v := x3_17) (lv' := [(3, .int x3_17), (0, .ref (A 7)), (1, .int p0), (2, .int p1), (4, .int y_13), (5, .int x5_16)]) hx hb dX3_letEat_69 hl (k := 3) rfl (by rw [ex3_17]; rfl) (by decide) rfl (fun ls hl => ?_)
            have hf := lt_at ex3_17 hf; clear ex3_17
            refine lv_goto (tgt := 16) hx hb dX3_letEat_72 (by decide) ?_
            exact ihK_4 _ _ _ _ _ hf hP hS (lv_sub hl [1, 2, 3, 0] rfl)
          have hLK_14 : ∀ (n_20 : Nat) (x5_19 : Int32) (z_18 : Mem) (H : Heap) (locs : List Loc) (ls : Array Slot), fX3_letEat_L36 K_14 p0 x3_8 y_13 n_20 x5_19 z_18 = some (ru, z') → wIs dC dI A cI cJ cZ z_18 H → va_S (fr A) s.heap H locs → lv_has ls 6 [(0, .ref (A 7)), (1, .int p0), (2, .int p1), (3, .int x3_8), (4, .int y_13), (5, .int x5_19)] → WV p l e wsX3_letEat 1 s m [.ref (A 7), .int p0, .int p1] below meth c dC dI A cI cJ cZ z' H locs (F0 m 36 ls []) := by
            intro n_20
            induction n_20 with
            | zero => intro x5_19 z_18 H locs ls hf; rw [fX3_letEat_L36_0] at hf; cases hf
            | succ n_20 ihK_14 =>
              intro x5_19 z_18 H locs ls hf hP hS hl
              rw [fX3_letEat_L36_s] at hf
              refine lv_iload hx hb dX3_letEat_36 (lv_at hl 5 rfl) ?_
              refine lv_iload hx hb dX3_letEat_38 (lv_at hl 4 rfl) ?_
              refine lv_icmp_gt (tgt := 69) hx hb dX3_letEat_40 (by decide) (fun c_21 => ?_) (fun c_21 => ?_)
              · have hf := it_t c_21 hf
                exact hEK_14 _ _ _ _ _ hf hP hS (lv_sub hl [0, 1, 2, 3, 4, 5] rfl)
              · have hf := it_f c_21 hf
                refine lv_aload_n hx hb dX3_letEat_43 rfl (lv_at hl 0 rfl) ?_
                refine va_get (D := (dC, dI)) (ci := 3) (v := .ref (A 23)) (C := RX3) (T := TX3) (N := 4) hx hb hts i3 hown hK hP 7 (wc_7 A cI cJ cZ z_18) rfl 2 (by decide) (hts (.fieldLink RX3 18 "LightestRules$RulersLine" "ways" "[J") (by decide +kernel)) (fun _ h9 => h9) rfl dX3_letEat_44 ?_
                refine lv_iload_n hx hb dX3_letEat_47 rfl (lv_at hl 3 rfl) ?_
                refine lv_dup2_11 hx hb dX3_letEat_48 rfl rfl ?_
                obtain ⟨n_22, hf⟩ := rg_el hf
                refine va_lald hx hb hK hP 23 1 (wc_23 A cI cJ cZ z_18) rfl n_22 dX3_letEat_49 ?_
                refine lv_topl (fun a_23 ea_23 => ?_)
                have hf := lt_at ea_23 hf; clear ea_23
                refine lv_aload_n hx hb dX3_letEat_50 rfl (lv_at hl 0 rfl) ?_
                refine va_get (D := (dC, dI)) (ci := 3) (v := .ref (A 23)) (C := RX3) (T := TX3) (N := 4) hx hb hts i3 hown hK hP 7 (wc_7 A cI cJ cZ z_18) rfl 2 (by decide) (hts (.fieldLink RX3 18 "LightestRules$RulersLine" "ways" "[J") (by decide +kernel)) (fun _ h9 => h9) rfl dX3_letEat_51 ?_
                refine lv_iload_n hx hb dX3_letEat_54 rfl (lv_at hl 3 rfl) ?_
                refine lv_iload hx hb dX3_letEat_55 (lv_at hl 5 rfl) ?_
                refine lv_iload_n hx hb dX3_letEat_57 rfl (lv_at hl 1 rfl) ?_
                refine lv_imul hx hb dX3_letEat_58 ?_
                refine lv_isub hx hb dX3_letEat_59 ?_
                refine lv_topi (fun y_24 ey_24 => ?_)
                have hf := lt_at ey_24 hf; clear ey_24
                obtain ⟨n_25, hf⟩ := rg_el hf
                refine va_lald hx hb hK hP 23 1 (wc_23 A cI cJ cZ z_18) rfl n_25 dX3_letEat_60 ?_
                refine lv_topl (fun a_26 ea_26 => ?_)
                have hf := lt_at ea_26 hf; clear ea_26
                refine lv_ladd hx hb dX3_letEat_61 ?_
                refine lv_topl (fun y_27 ey_27 => ?_)
                have hf := lt_at ey_27 hf; clear ey_27
                obtain ⟨n_28, hf⟩ := rg_el hf
                refine va_last hx hb hK hP (wD hA cI cJ cZ z_18) hS 23 1 (wc_23 A cI cJ cZ z_18) rfl n_28 dX3_letEat_62 (fun H locs hP _ hS => ?_)
                rw [wa_23 A cI cJ cZ z_18 x3_8.toNatClampNeg y_27] at hP
                obtain ⟨z_29, hP, hf⟩ := lt_P (P := fun q => wIs dC dI A cI cJ cZ q H) hP hf
                obtain ⟨x5_30, ex5_30⟩ : ∃ q : Int32, q = x5_19 + (1 : Int32) := ⟨_, rfl⟩
                refine lv_iinc (v := x5_30) (lv' := [(5, .int x5_30), (0, .ref (A 7)), (1, .int p0), (2, .int p1), (3, .int x3_8), (4, .int y_13)]) hx hb dX3_letEat_63 hl (k := 5) rfl (by rw [ex5_30]; rfl) (by decide) rfl (fun ls hl => ?_)
                have hf := lt_at ex5_30 hf; clear ex5_30
                refine lv_goto (tgt := 36) hx hb dX3_letEat_66 (by decide) ?_
                exact ihK_14 _ _ _ _ _ hf hP hS (lv_sub hl [1, 2, 3, 4, 5, 0] rfl)
          exact hLK_14 FU _ _ _ _ _ hf hP hS (lv_sub hl [2, 3, 4, 5, 1, 0] rfl)
    exact hLK_4 FU _ _ _ _ _ hf hP hS (lv_sub hl [1, 2, 3, 0] rfl)
  · have hf := it_f c_1 hf
    exact retV hx hb hr hlocks hP hS hf dX3_letEat_5
set_option maxHeartbeats 4000000 in
set_option maxRecDepth 100000 in
theorem tX3_fittingMeals {l : Launch} {dC : Nat → ClassId} {dI : Nat → Nat → Nat} {A : Nat → Nat} {t0 : Nat} {cI cJ cZ : ClassId} (hA : dst A)  {z : Mem} {r : Int64} {z' : Mem} (hf : fX3_fittingMeals z = some (r, z')) : ML l dC dI A t0 cI cJ cZ yX3_fittingMeals wsX3_fittingMeals 3 [.ref (A 7), .ref (A 2)] z r z' := by
  refine Met.ofW (cc := cX3_fittingMeals) (maxL := 6) (ret := (some .long)) (by decide) rfl ?_
  intro p e s m args below meth c s₁ B hml hv
  obtain ⟨rfl, hP, hK, hZ⟩ := hv
  have hx := B.exec
  have hb := B.bytes
  have hr := B.returns
  have hts := atoms_spec (ws := wsX3_fittingMeals) B.pre
  have hown : s.vm.findClass RX3 = some m.cls := findClass_of_methodNamed B.named
  have hlocks := B.notSynchronized
  have hS : va_S (fr A) s.heap s.heap [] := va_S.rf
  have i3 : ∀ w ∈ wsX30, w ∈ wsX3_fittingMeals := fun _ h => List.mem_cons_of_mem _ (List.mem_append_left _ (List.mem_append_right _ h))
  have hl := lv_entry ([.ref (A 7), .ref (A 2)]) (n := 6) (Nat.le_of_ble_eq_true rfl)
  rw [lg_entry_eq]
  generalize (lg_sl ([.ref (A 7), .ref (A 2)]) ++ List.replicate (6 - (lg_sl ([.ref (A 7), .ref (A 2)])).length) Slot.unset).toArray = ls at hl ⊢
  have hl : lv_has ls 6 [(0, .ref (A 7)), (1, .ref (A 2))] := hl
  have hP : wIs dC dI A cI cJ cZ z s.heap := hP
  rw [fX3_fittingMeals] at hf
  refine lv_aload_n hx hb dX3_fittingMeals_0 rfl (lv_at hl 1 rfl) ?_
  obtain ⟨r_1, z_2, h_3, hf⟩ := cl_el hf
  refine callVI (As := []) (rest := []) (ci := 2) (q0 := 2) ⟨hx, hb, hml, hown, hts⟩ (tX2_size_2 (l := l) (dC := dC) (dI := dI) (t0 := t0) (cI := cI) (cJ := cJ) (cZ := cZ) hA h_3) (cwV 0 hts gX3_fittingMeals_X2_size rfl rfl rfl (by decide +kernel) ⟨Nat.le_of_ble_eq_true rfl, Nat.le_of_ble_eq_true rfl⟩) hK hZ hP hS rfl (wc_2 A cI cJ cZ z) rfl rfl rfl hl.1 (Nat.le_of_ble_eq_true rfl) ⟨Nat.zero_le _, Nat.zero_le _⟩ dX3_fittingMeals_1 (fun H locs hP hS => ?_)
  refine lv_iconst (v := 3) hx hb dX3_fittingMeals_4 (by decide) ?_
  refine va_mmin hx hb (hml.trans hl.1.symm) hown (hts (.methodLink RX3 32 Lib.Math.min.name) (by decide +kernel)) (hts (.static Lib.Math.min.name) (by decide +kernel)) (hts (.initialized "java/lang/Math" ) (by decide +kernel)) (hts (.code Lib.Math.min.name Lib.Math.min.code 2 (some .int)) (by decide +kernel)) (Nat.le_of_ble_eq_true rfl) (Nat.le_of_ble_eq_true rfl) (Nat.zero_le _) (Nat.zero_le _) dX3_fittingMeals_5 ?_
  refine lv_topi (fun y_4 ey_4 => ?_)
  have hf := lt_at ey_4 hf; clear ey_4
  refine lv_istore_n (lv' := [(2, .int y_4), (0, .ref (A 7)), (1, .ref (A 2))]) hx hb dX3_fittingMeals_8 rfl hl (by decide) rfl (fun ls hl => ?_)
  refine lv_iconst (v := 0) hx hb dX3_fittingMeals_9 (by decide) ?_
  refine lv_istore_n (lv' := [(3, .int (0 : Int32)), (2, .int y_4), (0, .ref (A 7)), (1, .ref (A 2))]) hx hb dX3_fittingMeals_10 rfl hl (by decide) rfl (fun ls hl => ?_)
  obtain ⟨K_5, eK_5, hf⟩ := fX3_fittingMeals_L11_g hf
  have hEK_5 : ∀ (x3_7 : Int32) (z_6 : Mem) (H : Heap) (locs : List Loc) (ls : Array Slot), K_5 x3_7 z_6 = some (r, z') → wIs dC dI A cI cJ cZ z_6 H → va_S (fr A) s.heap H locs → lv_has ls 6 [(0, .ref (A 7)), (1, .ref (A 2)), (2, .int y_4), (3, .int x3_7)] → WL p l e wsX3_fittingMeals 3 s m [.ref (A 7), .ref (A 2)] below meth c dC dI A cI cJ cZ r z' H locs (F0 m 33 ls []) := by
    intro x3_7 z_6 H locs ls hf hP hS hl
    have hf := ap2 eK_5 hf
    refine lv_aload_n hx hb dX3_fittingMeals_33 rfl (lv_at hl 0 rfl) ?_
    refine va_get (D := (dC, dI)) (ci := 3) (v := .ref (A 23)) (C := RX3) (T := TX3) (N := 4) hx hb hts i3 hown hK hP 7 (wc_7 A cI cJ cZ z_6) rfl 2 (by decide) (hts (.fieldLink RX3 18 "LightestRules$RulersLine" "ways" "[J") (by decide +kernel)) (fun _ h9 => h9) rfl dX3_fittingMeals_34 ?_
    refine lv_lconst (v := 0) hx hb dX3_fittingMeals_37 rfl ?_
    obtain ⟨r_8, z_9, h_10, hf⟩ := cl_el hf
    refine callSV (As := [.ref (A 23), .long (0 : Int64)]) (rest := []) ⟨hx, hb, hml, hown, hts⟩ (tJ7_fill_d0a16_23 (l := l) (dC := dC) (dI := dI) (t0 := t0) (cI := cI) (cJ := cJ) (cZ := cZ) hA h_10) (va_cwS 2 hts gX3_fittingMeals_J7_fill_d0a16 rfl rfl rfl (by decide +kernel) ⟨Nat.le_of_ble_eq_true rfl, Nat.le_of_ble_eq_true rfl⟩) hK hZ hP hS rfl rfl hl.1 (Nat.le_of_ble_eq_true rfl) ⟨Nat.zero_le _, Nat.zero_le _⟩ dX3_fittingMeals_38 (fun H locs hP hS => ?_)
    refine lv_aload_n hx hb dX3_fittingMeals_41 rfl (lv_at hl 0 rfl) ?_
    refine va_get (D := (dC, dI)) (ci := 3) (v := .ref (A 23)) (C := RX3) (T := TX3) (N := 4) hx hb hts i3 hown hK hP 7 (wc_7 A cI cJ cZ z_9) rfl 2 (by decide) (hts (.fieldLink RX3 18 "LightestRules$RulersLine" "ways" "[J") (by decide +kernel)) (fun _ h9 => h9) rfl dX3_fittingMeals_42 ?_
    refine lv_iconst (v := 0) hx hb dX3_fittingMeals_45 (by decide) ?_
    refine lv_lconst (v := 1) hx hb dX3_fittingMeals_46 rfl ?_
    obtain ⟨n_11, hf⟩ := rg_el hf
    refine va_last hx hb hK hP (wD hA cI cJ cZ z_9) hS 23 1 (wc_23 A cI cJ cZ z_9) rfl n_11 dX3_fittingMeals_47 (fun H locs hP _ hS => ?_)
    rw [wa_23 A cI cJ cZ z_9 (0 : Int32).toNatClampNeg (1 : Int64)] at hP
    obtain ⟨z_12, hP, hf⟩ := lt_P (P := fun q => wIs dC dI A cI cJ cZ q H) hP hf
    refine lv_iconst (v := 1) hx hb dX3_fittingMeals_48 (by decide) ?_
    refine lv_istore_n (lv' := [(3, .int (1 : Int32)), (0, .ref (A 7)), (1, .ref (A 2)), (2, .int y_4)]) hx hb dX3_fittingMeals_49 rfl hl (by decide) rfl (fun ls hl => ?_)
    refine lv_iconst (v := 0) hx hb dX3_fittingMeals_50 (by decide) ?_
    refine lv_istore (lv' := [(4, .int (0 : Int32)), (3, .int (1 : Int32)), (0, .ref (A 7)), (1, .ref (A 2)), (2, .int y_4)]) hx hb dX3_fittingMeals_51 hl (by decide) rfl (fun ls hl => ?_)
    obtain ⟨K_13, eK_13, hf⟩ := fX3_fittingMeals_L53_g hf
    have hEK_13 : ∀ (x3_15 : Int32) (x4_16 : Int32) (z_14 : Mem) (H : Heap) (locs : List Loc) (ls : Array Slot), K_13 x3_15 x4_16 z_14 = some (r, z') → wIs dC dI A cI cJ cZ z_14 H → va_S (fr A) s.heap H locs → lv_has ls 6 [(0, .ref (A 7)), (1, .ref (A 2)), (2, .int y_4), (3, .int x3_15), (4, .int x4_16)] → WL p l e wsX3_fittingMeals 3 s m [.ref (A 7), .ref (A 2)] below meth c dC dI A cI cJ cZ r z' H locs (F0 m 133 ls []) := by
      intro x3_15 x4_16 z_14 H locs ls hf hP hS hl
      have hf := ap3 eK_13 hf
      refine lv_aload_n hx hb dX3_fittingMeals_133 rfl (lv_at hl 0 rfl) ?_
      refine lv_iload_n hx hb dX3_fittingMeals_134 rfl (lv_at hl 3 rfl) ?_
      obtain ⟨r_17, z_18, h_19, hf⟩ := cl_el hf
      refine callVL (As := [.int x3_15]) (rest := []) (ci := 3) (q0 := 7) ⟨hx, hb, hml, hown, hts⟩ (tX3_sumOfWays (l := l) (dC := dC) (dI := dI) (t0 := t0) (cI := cI) (cJ := cJ) (cZ := cZ) hA h_19) (cwV 1 hts gX3_fittingMeals_X3_sumOfWays rfl rfl rfl (by decide +kernel) ⟨Nat.le_of_ble_eq_true rfl, Nat.le_of_ble_eq_true rfl⟩) hK hZ hP hS rfl (wc_7 A cI cJ cZ z_14) rfl rfl rfl hl.1 (Nat.le_of_ble_eq_true rfl) ⟨Nat.zero_le _, Nat.zero_le _⟩ dX3_fittingMeals_135 (fun H locs hP hS => ?_)
      exact retL hx hb hr hlocks hP hS hf dX3_fittingMeals_138
    have hLK_13 : ∀ (n_23 : Nat) (x3_21 : Int32) (x4_22 : Int32) (z_20 : Mem) (H : Heap) (locs : List Loc) (ls : Array Slot), fX3_fittingMeals_L53 K_13 y_4 n_23 x3_21 x4_22 z_20 = some (r, z') → wIs dC dI A cI cJ cZ z_20 H → va_S (fr A) s.heap H locs → lv_has ls 6 [(0, .ref (A 7)), (1, .ref (A 2)), (2, .int y_4), (3, .int x3_21), (4, .int x4_22)] → WL p l e wsX3_fittingMeals 3 s m [.ref (A 7), .ref (A 2)] below meth c dC dI A cI cJ cZ r z' H locs (F0 m 53 ls []) := by
      intro n_23
      induction n_23 with
      | zero => intro x3_21 x4_22 z_20 H locs ls hf; rw [fX3_fittingMeals_L53_0] at hf; cases hf
      | succ n_23 ihK_13 =>
        intro x3_21 x4_22 z_20 H locs ls hf hP hS hl
        rw [fX3_fittingMeals_L53_s] at hf
        refine lv_iload hx hb dX3_fittingMeals_53 (lv_at hl 4 rfl) ?_
        refine lv_aload_n hx hb dX3_fittingMeals_55 rfl (lv_at hl 0 rfl) ?_
        refine va_get (D := (dC, dI)) (ci := 3) (v := .int (z_20.1 7 3)) (C := RX3) (T := TX3) (N := 4) hx hb hts i3 hown hK hP 7 (wc_7 A cI cJ cZ z_20) rfl 3 (by decide) (hts (.fieldLink RX3 22 "LightestRules$RulersLine" "length" "I") (by decide +kernel)) (fun _ h9 => h9) rfl dX3_fittingMeals_56 ?_
        refine lv_icmp_ge (tgt := 133) hx hb dX3_fittingMeals_59 (by decide) (fun c_24 => ?_) (fun c_24 => ?_)
        · have hf := it_t c_24 hf
          exact hEK_13 _ _ _ _ _ _ hf hP hS (lv_sub hl [0, 1, 2, 3, 4] rfl)
        · have hf := it_f c_24 hf
          refine lv_iconst (v := 0) hx hb dX3_fittingMeals_62 (by decide) ?_
          refine lv_istore (lv' := [(5, .int (0 : Int32)), (0, .ref (A 7)), (1, .ref (A 2)), (2, .int y_4), (3, .int x3_21), (4, .int x4_22)]) hx hb dX3_fittingMeals_63 hl (by decide) rfl (fun ls hl => ?_)
          obtain ⟨K_25, eK_25, hf⟩ := fX3_fittingMeals_L65_g hf
          have hEK_25 : ∀ (x3_27 : Int32) (x5_28 : Int32) (z_26 : Mem) (H : Heap) (locs : List Loc) (ls : Array Slot), K_25 x3_27 x5_28 z_26 = some (r, z') → wIs dC dI A cI cJ cZ z_26 H → va_S (fr A) s.heap H locs → lv_has ls 6 [(0, .ref (A 7)), (1, .ref (A 2)), (2, .int y_4), (3, .int x3_27), (4, .int x4_22), (5, .int x5_28)] → WL p l e wsX3_fittingMeals 3 s m [.ref (A 7), .ref (A 2)] below meth c dC dI A cI cJ cZ r z' H locs (F0 m 88 ls []) := by
            intro x3_27 x5_28 z_26 H locs ls hf hP hS hl
            have hf := ap3 eK_25 hf
            refine lv_iconst (v := 0) hx hb dX3_fittingMeals_88 (by decide) ?_
            refine lv_istore (lv' := [(5, .int (0 : Int32)), (0, .ref (A 7)), (1, .ref (A 2)), (2, .int y_4), (3, .int x3_27), (4, .int x4_22)]) hx hb dX3_fittingMeals_89 hl (by decide) rfl (fun ls hl => ?_)
            obtain ⟨K_29, eK_29, hf⟩ := fX3_fittingMeals_L91_g hf
            have hEK_29 : ∀ (x5_31 : Int32) (z_30 : Mem) (H : Heap) (locs : List Loc) (ls : Array Slot), K_29 x5_31 z_30 = some (r, z') → wIs dC dI A cI cJ cZ z_30 H → va_S (fr A) s.heap H locs → lv_has ls 6 [(0, .ref (A 7)), (1, .ref (A 2)), (2, .int y_4), (3, .int x3_27), (4, .int x4_22), (5, .int x5_31)] → WL p l e wsX3_fittingMeals 3 s m [.ref (A 7), .ref (A 2)] below meth c dC dI A cI cJ cZ r z' H locs (F0 m 114 ls []) := by
              intro x5_31 z_30 H locs ls hf hP hS hl
              have hf := ap2 eK_29 hf
              refine lv_aload_n hx hb dX3_fittingMeals_114 rfl (lv_at hl 0 rfl) ?_
              refine lv_aload_n hx hb dX3_fittingMeals_115 rfl (lv_at hl 0 rfl) ?_
              refine va_get (D := (dC, dI)) (ci := 3) (v := .ref (A 21)) (C := RX3) (T := TX3) (N := 4) hx hb hts i3 hown hK hP 7 (wc_7 A cI cJ cZ z_30) rfl 0 (by decide) (hts (.fieldLink RX3 11 "LightestRules$RulersLine" "rulers" "[I") (by decide +kernel)) (fun _ h9 => h9) rfl dX3_fittingMeals_116 ?_
              refine lv_iload hx hb dX3_fittingMeals_119 (lv_at hl 4 rfl) ?_
              obtain ⟨n_32, hf⟩ := rg_el hf
              refine va_iald hx hb hK hP 21 0 (wc_21 A cI cJ cZ z_30) rfl n_32 dX3_fittingMeals_121 ?_
              refine lv_topi (fun a_33 ea_33 => ?_)
              have hf := lt_at ea_33 hf; clear ea_33
              refine lv_iload_n hx hb dX3_fittingMeals_122 rfl (lv_at hl 2 rfl) ?_
              refine lv_iload_n hx hb dX3_fittingMeals_123 rfl (lv_at hl 3 rfl) ?_
              obtain ⟨r_34, z_35, h_36, hf⟩ := cl_el hf
              refine callVV (As := [.int a_33, .int y_4, .int x3_27]) (rest := []) (ci := 3) (q0 := 7) ⟨hx, hb, hml, hown, hts⟩ (tX3_strikeOut (l := l) (dC := dC) (dI := dI) (t0 := t0) (cI := cI) (cJ := cJ) (cZ := cZ) hA h_36) (cwV 3 hts gX3_fittingMeals_X3_strikeOut rfl rfl rfl (by decide +kernel) ⟨Nat.le_of_ble_eq_true rfl, Nat.le_of_ble_eq_true rfl⟩) hK hZ hP hS rfl (wc_7 A cI cJ cZ z_30) rfl rfl rfl hl.1 (Nat.le_of_ble_eq_true rfl) ⟨Nat.zero_le _, Nat.zero_le _⟩ dX3_fittingMeals_124 (fun H locs hP hS => ?_)
              obtain ⟨x4_37, ex4_37⟩ : ∃ q : Int32, q = x4_22 + (1 : Int32) := ⟨_, rfl⟩
              refine lv_iinc (v := x4_37) (lv' := [(4, .int x4_37), (0, .ref (A 7)), (1, .ref (A 2)), (2, .int y_4), (3, .int x3_27), (5, .int x5_31)]) hx hb dX3_fittingMeals_127 hl (k := 4) rfl (by rw [ex4_37]; rfl) (by decide) rfl (fun ls hl => ?_)
              have hf := lt_at ex4_37 hf; clear ex4_37
              refine lv_goto (tgt := 53) hx hb dX3_fittingMeals_130 (by decide) ?_
              exact ihK_13 _ _ _ _ _ _ hf hP hS (lv_sub hl [1, 2, 3, 4, 0] rfl)
            have hLK_29 : ∀ (n_40 : Nat) (x5_39 : Int32) (z_38 : Mem) (H : Heap) (locs : List Loc) (ls : Array Slot), fX3_fittingMeals_L91 K_29 y_4 x3_27 n_40 x5_39 z_38 = some (r, z') → wIs dC dI A cI cJ cZ z_38 H → va_S (fr A) s.heap H locs → lv_has ls 6 [(0, .ref (A 7)), (1, .ref (A 2)), (2, .int y_4), (3, .int x3_27), (4, .int x4_22), (5, .int x5_39)] → WL p l e wsX3_fittingMeals 3 s m [.ref (A 7), .ref (A 2)] below meth c dC dI A cI cJ cZ r z' H locs (F0 m 91 ls []) := by
              intro n_40
              induction n_40 with
              | zero => intro x5_39 z_38 H locs ls hf; rw [fX3_fittingMeals_L91_0] at hf; cases hf
              | succ n_40 ihK_29 =>
                intro x5_39 z_38 H locs ls hf hP hS hl
                rw [fX3_fittingMeals_L91_s] at hf
                refine lv_iload hx hb dX3_fittingMeals_91 (lv_at hl 5 rfl) ?_
                refine lv_iload_n hx hb dX3_fittingMeals_93 rfl (lv_at hl 2 rfl) ?_
                refine lv_icmp_ge (tgt := 114) hx hb dX3_fittingMeals_94 (by decide) (fun c_41 => ?_) (fun c_41 => ?_)
                · have hf := it_t c_41 hf
                  exact hEK_29 _ _ _ _ _ hf hP hS (lv_sub hl [0, 1, 2, 3, 4, 5] rfl)
                · have hf := it_f c_41 hf
                  refine lv_aload_n hx hb dX3_fittingMeals_97 rfl (lv_at hl 0 rfl) ?_
                  refine va_gets hx hb hZ.1 hS hown (hts (.fieldLink RX3 48 "LightestRules$RulersLine" "STRIDES" "[I") (by decide +kernel)) (fun _ h9 => h9) dX3_fittingMeals_98 ?_
                  refine lv_iload hx hb dX3_fittingMeals_101 (lv_at hl 5 rfl) ?_
                  obtain ⟨n_42, hf⟩ := rg_el hf
                  refine va_ti hx hb hZ.2 hS n_42 (v := .int (strI x5_39.toNatClampNeg)) rfl dX3_fittingMeals_103 ?_
                  refine lv_topi (fun a_43 ea_43 => ?_)
                  have hf := lt_at ea_43 hf; clear ea_43
                  refine lv_iload_n hx hb dX3_fittingMeals_104 rfl (lv_at hl 3 rfl) ?_
                  obtain ⟨r_44, z_45, h_46, hf⟩ := cl_el hf
                  refine callVV (As := [.int a_43, .int x3_27]) (rest := []) (ci := 3) (q0 := 7) ⟨hx, hb, hml, hown, hts⟩ (tX3_letEat (l := l) (dC := dC) (dI := dI) (t0 := t0) (cI := cI) (cJ := cJ) (cZ := cZ) hA h_46) (cwV 2 hts gX3_fittingMeals_X3_letEat rfl rfl rfl (by decide +kernel) ⟨Nat.le_of_ble_eq_true rfl, Nat.le_of_ble_eq_true rfl⟩) hK hZ hP hS rfl (wc_7 A cI cJ cZ z_38) rfl rfl rfl hl.1 (Nat.le_of_ble_eq_true rfl) ⟨Nat.zero_le _, Nat.zero_le _⟩ dX3_fittingMeals_105 (fun H locs hP hS => ?_)
                  obtain ⟨x5_47, ex5_47⟩ : ∃ q : Int32, q = x5_39 + (1 : Int32) := ⟨_, rfl⟩
                  refine lv_iinc (v := x5_47) (lv' := [(5, .int x5_47), (0, .ref (A 7)), (1, .ref (A 2)), (2, .int y_4), (3, .int x3_27), (4, .int x4_22)]) hx hb dX3_fittingMeals_108 hl (k := 5) rfl (by rw [ex5_47]; rfl) (by decide) rfl (fun ls hl => ?_)
                  have hf := lt_at ex5_47 hf; clear ex5_47
                  refine lv_goto (tgt := 91) hx hb dX3_fittingMeals_111 (by decide) ?_
                  exact ihK_29 _ _ _ _ _ hf hP hS (lv_sub hl [1, 2, 3, 4, 5, 0] rfl)
            exact hLK_29 FU _ _ _ _ _ hf hP hS (lv_sub hl [1, 2, 3, 4, 5, 0] rfl)
          have hLK_25 : ∀ (n_51 : Nat) (x3_49 : Int32) (x5_50 : Int32) (z_48 : Mem) (H : Heap) (locs : List Loc) (ls : Array Slot), fX3_fittingMeals_L65 K_25 y_4 n_51 x3_49 x5_50 z_48 = some (r, z') → wIs dC dI A cI cJ cZ z_48 H → va_S (fr A) s.heap H locs → lv_has ls 6 [(0, .ref (A 7)), (1, .ref (A 2)), (2, .int y_4), (3, .int x3_49), (4, .int x4_22), (5, .int x5_50)] → WL p l e wsX3_fittingMeals 3 s m [.ref (A 7), .ref (A 2)] below meth c dC dI A cI cJ cZ r z' H locs (F0 m 65 ls []) := by
            intro n_51
            induction n_51 with
            | zero => intro x3_49 x5_50 z_48 H locs ls hf; rw [fX3_fittingMeals_L65_0] at hf; cases hf
            | succ n_51 ihK_25 =>
              intro x3_49 x5_50 z_48 H locs ls hf hP hS hl
              rw [fX3_fittingMeals_L65_s] at hf
              refine lv_iload hx hb dX3_fittingMeals_65 (lv_at hl 5 rfl) ?_
              refine lv_iload_n hx hb dX3_fittingMeals_67 rfl (lv_at hl 2 rfl) ?_
              refine lv_icmp_ge (tgt := 88) hx hb dX3_fittingMeals_68 (by decide) (fun c_52 => ?_) (fun c_52 => ?_)
              · have hf := it_t c_52 hf
                exact hEK_25 _ _ _ _ _ _ hf hP hS (lv_sub hl [0, 1, 2, 3, 4, 5] rfl)
              · have hf := it_f c_52 hf
                refine lv_iload_n hx hb dX3_fittingMeals_71 rfl (lv_at hl 3 rfl) ?_
                refine lv_iconst (v := 3) hx hb dX3_fittingMeals_72 (by decide) ?_
                refine va_gets hx hb hZ.1 hS hown (hts (.fieldLink RX3 48 "LightestRules$RulersLine" "STRIDES" "[I") (by decide +kernel)) (fun _ h9 => h9) dX3_fittingMeals_73 ?_
                refine lv_iload hx hb dX3_fittingMeals_76 (lv_at hl 5 rfl) ?_
                obtain ⟨n_53, hf⟩ := rg_el hf
                refine va_ti hx hb hZ.2 hS n_53 (v := .int (strI x5_50.toNatClampNeg)) rfl dX3_fittingMeals_78 ?_
                refine lv_topi (fun a_54 ea_54 => ?_)
                have hf := lt_at ea_54 hf; clear ea_54
                refine lv_imul hx hb dX3_fittingMeals_79 ?_
                refine lv_iadd hx hb dX3_fittingMeals_80 ?_
                refine lv_topi (fun x3_55 ex3_55 => ?_)
                have hf := lt_at ex3_55 hf; clear ex3_55
                refine lv_istore_n (lv' := [(3, .int x3_55), (0, .ref (A 7)), (1, .ref (A 2)), (2, .int y_4), (4, .int x4_22), (5, .int x5_50)]) hx hb dX3_fittingMeals_81 rfl hl (by decide) rfl (fun ls hl => ?_)
                obtain ⟨x5_56, ex5_56⟩ : ∃ q : Int32, q = x5_50 + (1 : Int32) := ⟨_, rfl⟩
                refine lv_iinc (v := x5_56) (lv' := [(5, .int x5_56), (3, .int x3_55), (0, .ref (A 7)), (1, .ref (A 2)), (2, .int y_4), (4, .int x4_22)]) hx hb dX3_fittingMeals_82 hl (k := 5) rfl (by rw [ex5_56]; rfl) (by decide) rfl (fun ls hl => ?_)
                have hf := lt_at ex5_56 hf; clear ex5_56
                refine lv_goto (tgt := 65) hx hb dX3_fittingMeals_85 (by decide) ?_
                exact ihK_25 _ _ _ _ _ _ hf hP hS (lv_sub hl [2, 3, 4, 1, 5, 0] rfl)
          exact hLK_25 FU _ _ _ _ _ _ hf hP hS (lv_sub hl [1, 2, 3, 4, 5, 0] rfl)
    exact hLK_13 FU _ _ _ _ _ _ hf hP hS (lv_sub hl [2, 3, 4, 1, 0] rfl)
  have hLK_5 : ∀ (n_59 : Nat) (x3_58 : Int32) (z_57 : Mem) (H : Heap) (locs : List Loc) (ls : Array Slot), fX3_fittingMeals_L11 K_5 y_4 n_59 x3_58 z_57 = some (r, z') → wIs dC dI A cI cJ cZ z_57 H → va_S (fr A) s.heap H locs → lv_has ls 6 [(0, .ref (A 7)), (1, .ref (A 2)), (2, .int y_4), (3, .int x3_58)] → WL p l e wsX3_fittingMeals 3 s m [.ref (A 7), .ref (A 2)] below meth c dC dI A cI cJ cZ r z' H locs (F0 m 11 ls []) := by
    intro n_59
    induction n_59 with
    | zero => intro x3_58 z_57 H locs ls hf; rw [fX3_fittingMeals_L11_0] at hf; cases hf
    | succ n_59 ihK_5 =>
      intro x3_58 z_57 H locs ls hf hP hS hl
      rw [fX3_fittingMeals_L11_s] at hf
      refine lv_iload_n hx hb dX3_fittingMeals_11 rfl (lv_at hl 3 rfl) ?_
      refine lv_iload_n hx hb dX3_fittingMeals_12 rfl (lv_at hl 2 rfl) ?_
      refine lv_icmp_ge (tgt := 33) hx hb dX3_fittingMeals_13 (by decide) (fun c_60 => ?_) (fun c_60 => ?_)
      · have hf := it_t c_60 hf
        exact hEK_5 _ _ _ _ _ hf hP hS (lv_sub hl [0, 1, 2, 3] rfl)
      · have hf := it_f c_60 hf
        refine lv_aload_n hx hb dX3_fittingMeals_16 rfl (lv_at hl 0 rfl) ?_
        refine va_get (D := (dC, dI)) (ci := 3) (v := .ref (A 22)) (C := RX3) (T := TX3) (N := 4) hx hb hts i3 hown hK hP 7 (wc_7 A cI cJ cZ z_57) rfl 1 (by decide) (hts (.fieldLink RX3 15 "LightestRules$RulersLine" "weights" "[I") (by decide +kernel)) (fun _ h9 => h9) rfl dX3_fittingMeals_17 ?_
        refine lv_iload_n hx hb dX3_fittingMeals_20 rfl (lv_at hl 3 rfl) ?_
        refine lv_aload_n hx hb dX3_fittingMeals_21 rfl (lv_at hl 1 rfl) ?_
        refine lv_iload_n hx hb dX3_fittingMeals_22 rfl (lv_at hl 3 rfl) ?_
        obtain ⟨r_61, z_62, h_63, hf⟩ := cl_el hf
        refine callVI (As := [.int x3_58]) (rest := [.int x3_58, .ref (A 22)]) (ci := 2) (q0 := 2) ⟨hx, hb, hml, hown, hts⟩ (tX2_noonWeight_2 (l := l) (dC := dC) (dI := dI) (t0 := t0) (cI := cI) (cJ := cJ) (cZ := cZ) hA h_63) (cwV 1 hts gX3_fittingMeals_X2_noonWeight rfl rfl rfl (by decide +kernel) ⟨Nat.le_of_ble_eq_true rfl, Nat.le_of_ble_eq_true rfl⟩) hK hZ hP hS rfl (wc_2 A cI cJ cZ z_57) rfl rfl rfl hl.1 (Nat.le_of_ble_eq_true rfl) ⟨Nat.zero_le _, Nat.zero_le _⟩ dX3_fittingMeals_23 (fun H locs hP hS => ?_)
        obtain ⟨n_64, hf⟩ := rg_el hf
        refine va_iast hx hb hK hP (wD hA cI cJ cZ z_62) hS 22 0 (wc_22 A cI cJ cZ z_62) rfl n_64 dX3_fittingMeals_26 (fun H locs hP _ hS => ?_)
        rw [wa_22 A cI cJ cZ z_62 x3_58.toNatClampNeg r_61] at hP
        obtain ⟨z_65, hP, hf⟩ := lt_P (P := fun q => wIs dC dI A cI cJ cZ q H) hP hf
        obtain ⟨x3_66, ex3_66⟩ : ∃ q : Int32, q = x3_58 + (1 : Int32) := ⟨_, rfl⟩
        refine lv_iinc (v := x3_66) (lv' := [(3, .int x3_66), (0, .ref (A 7)), (1, .ref (A 2)), (2, .int y_4)]) hx hb dX3_fittingMeals_27 hl (k := 3) rfl (by rw [ex3_66]; rfl) (by decide) rfl (fun ls hl => ?_)
        have hf := lt_at ex3_66 hf; clear ex3_66
        refine lv_goto (tgt := 11) hx hb dX3_fittingMeals_30 (by decide) ?_
        exact ihK_5 _ _ _ _ _ hf hP hS (lv_sub hl [1, 2, 3, 0] rfl)
  exact hLK_5 FU _ _ _ _ _ hf hP hS (lv_sub hl [2, 3, 1, 0] rfl)
