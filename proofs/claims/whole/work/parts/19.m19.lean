set_option maxHeartbeats 4000000 in
set_option maxRecDepth 100000 in
theorem tX9_later {l : Launch} {dC : Nat → ClassId} {dI : Nat → Nat → Nat} {A : Nat → Nat} {t0 : Nat} {cI cJ cZ : ClassId} (hA : dst A) {p0 : Int32} {p1 : Int32} {p2 : Int32} {z : Mem} {r : Int32} {z' : Mem} (hf : fX9_later p0 p1 p2 z = some (r, z')) : MI l dC dI A t0 cI cJ cZ yX9_later wsX9_later 1 [.ref (A 25), .int p0, .int p1, .int p2] z r z' := by
  refine Met.ofW (cc := cX9_later) (maxL := 4) (ret := (some .int)) (by decide) rfl ?_
  intro p e s m args below meth c s₁ B hml hv
  obtain ⟨rfl, hP, hK, hZ⟩ := hv
  have hx := B.exec
  have hb := B.bytes
  have hr := B.returns
  have hts := atoms_spec (ws := wsX9_later) B.pre
  have hown : s.vm.findClass RX9 = some m.cls := findClass_of_methodNamed B.named
  have hlocks := B.notSynchronized
  have hS : va_S (fr A) s.heap s.heap [] := va_S.rf
  have i9 : ∀ w ∈ wsX90, w ∈ wsX9_later := fun _ h => List.mem_cons_of_mem _ (List.mem_append_right _ h)
  have hl := lv_entry ([.ref (A 25), .int p0, .int p1, .int p2]) (n := 4) (Nat.le_of_ble_eq_true rfl)
  rw [lg_entry_eq]
  generalize (lg_sl ([.ref (A 25), .int p0, .int p1, .int p2]) ++ List.replicate (4 - (lg_sl ([.ref (A 25), .int p0, .int p1, .int p2])).length) Slot.unset).toArray = ls at hl ⊢
  have hl : lv_has ls 4 [(0, .ref (A 25)), (1, .int p0), (2, .int p1), (3, .int p2)] := hl
  have hP : wIs dC dI A cI cJ cZ z s.heap := hP
  rw [fX9_later] at hf
  refine lv_aload_n hx hb dX9_later_0 rfl (lv_at hl 0 rfl) ?_
  refine va_get (D := (dC, dI)) (ci := 9) (v := .ref (A 27)) (C := RX9) (T := TX9) (N := 34) hx hb hts i9 hown hK hP 25 (wc_25 A cI cJ cZ z) rfl 5 (by decide) (hts (.fieldLink RX9 13 "LightestRulesModel" "now" "[I") (by decide +kernel)) (fun _ h9 => h9) rfl dX9_later_1 ?_
  refine lv_iconst (v := 5) hx hb dX9_later_4 (by decide) ?_
  refine lv_iload_n hx hb dX9_later_5 rfl (lv_at hl 1 rfl) ?_
  refine lv_imul hx hb dX9_later_6 ?_
  refine lv_topi (fun y_1 ey_1 => ?_)
  have hf := lt_at ey_1 hf; clear ey_1
  obtain ⟨n_2, hf⟩ := rg_el hf
  refine va_iald hx hb hK hP 27 0 (wc_27 A cI cJ cZ z) rfl n_2 dX9_later_7 ?_
  refine lv_topi (fun a_3 ea_3 => ?_)
  have hf := lt_at ea_3 hf; clear ea_3
  refine lv_aload_n hx hb dX9_later_8 rfl (lv_at hl 0 rfl) ?_
  refine va_get (D := (dC, dI)) (ci := 9) (v := .ref (A 27)) (C := RX9) (T := TX9) (N := 34) hx hb hts i9 hown hK hP 25 (wc_25 A cI cJ cZ z) rfl 5 (by decide) (hts (.fieldLink RX9 13 "LightestRulesModel" "now" "[I") (by decide +kernel)) (fun _ h9 => h9) rfl dX9_later_9 ?_
  refine lv_iconst (v := 5) hx hb dX9_later_12 (by decide) ?_
  refine lv_iload_n hx hb dX9_later_13 rfl (lv_at hl 1 rfl) ?_
  refine lv_imul hx hb dX9_later_14 ?_
  refine lv_iconst (v := 3) hx hb dX9_later_15 (by decide) ?_
  refine lv_iadd hx hb dX9_later_16 ?_
  refine lv_topi (fun y_4 ey_4 => ?_)
  have hf := lt_at ey_4 hf; clear ey_4
  obtain ⟨n_5, hf⟩ := rg_el hf
  refine va_iald hx hb hK hP 27 0 (wc_27 A cI cJ cZ z) rfl n_5 dX9_later_17 ?_
  refine lv_topi (fun a_6 ea_6 => ?_)
  have hf := lt_at ea_6 hf; clear ea_6
  refine lv_isub hx hb dX9_later_18 ?_
  refine lv_iconst (v := 2) hx hb dX9_later_19 (by decide) ?_
  refine lv_aload_n hx hb dX9_later_20 rfl (lv_at hl 0 rfl) ?_
  refine va_get (D := (dC, dI)) (ci := 9) (v := .int (z.1 25 8)) (C := RX9) (T := TX9) (N := 34) hx hb hts i9 hown hK hP 25 (wc_25 A cI cJ cZ z) rfl 8 (by decide) (hts (.fieldLink RX9 107 "LightestRulesModel" "burn" "I") (by decide +kernel)) (fun _ h9 => h9) rfl dX9_later_21 ?_
  refine lv_imul hx hb dX9_later_24 ?_
  refine lv_iload_n hx hb dX9_later_25 rfl (lv_at hl 2 rfl) ?_
  refine lv_imul hx hb dX9_later_26 ?_
  refine lv_isub hx hb dX9_later_27 ?_
  refine lv_iconst (v := 5) hx hb dX9_later_28 (by decide) ?_
  refine lv_iload_n hx hb dX9_later_29 rfl (lv_at hl 3 rfl) ?_
  refine lv_imul hx hb dX9_later_30 ?_
  refine lv_isub hx hb dX9_later_31 ?_
  obtain ⟨r_7, z_8, h_9, hf⟩ := cl_el hf
  refine callSI (As := [.int (((a_3 - a_6) - (((2 : Int32) * (z.1 25 8)) * p1)) - ((5 : Int32) * p2))]) (rest := []) ⟨hx, hb, hml, hown, hts⟩ (tX9_left (l := l) (dC := dC) (dI := dI) (t0 := t0) (cI := cI) (cJ := cJ) (cZ := cZ) hA h_9) (va_cwS 1 hts gX9_later_X9_left rfl rfl rfl (by decide +kernel) ⟨Nat.le_of_ble_eq_true rfl, Nat.le_of_ble_eq_true rfl⟩) hK hZ hP hS rfl rfl hl.1 (Nat.le_of_ble_eq_true rfl) ⟨Nat.zero_le _, Nat.zero_le _⟩ dX9_later_32 (fun H locs hP hS => ?_)
  refine lv_aload_n hx hb dX9_later_35 rfl (lv_at hl 0 rfl) ?_
  refine lv_iload_n hx hb dX9_later_36 rfl (lv_at hl 1 rfl) ?_
  obtain ⟨r_10, z_11, h_12, hf⟩ := cl_el hf
  refine callVI (As := [.int p0]) (rest := [.int r_7]) (ci := 9) (q0 := 25) ⟨hx, hb, hml, hown, hts⟩ (tX9_noonOf (l := l) (dC := dC) (dI := dI) (t0 := t0) (cI := cI) (cJ := cJ) (cZ := cZ) hA h_12) (cwV 1 hts gX9_later_X9_noonOf rfl rfl rfl (by decide +kernel) ⟨Nat.le_of_ble_eq_true rfl, Nat.le_of_ble_eq_true rfl⟩) hK hZ hP hS rfl (wc_25 A cI cJ cZ z_8) rfl rfl rfl hl.1 (Nat.le_of_ble_eq_true rfl) ⟨Nat.zero_le _, Nat.zero_le _⟩ dX9_later_37 (fun H locs hP hS => ?_)
  refine lv_iadd hx hb dX9_later_40 ?_
  refine lv_aload_n hx hb dX9_later_41 rfl (lv_at hl 0 rfl) ?_
  refine va_get (D := (dC, dI)) (ci := 9) (v := .ref (A 27)) (C := RX9) (T := TX9) (N := 34) hx hb hts i9 hown hK hP 25 (wc_25 A cI cJ cZ z_11) rfl 5 (by decide) (hts (.fieldLink RX9 13 "LightestRulesModel" "now" "[I") (by decide +kernel)) (fun _ h9 => h9) rfl dX9_later_42 ?_
  refine lv_iconst (v := 5) hx hb dX9_later_45 (by decide) ?_
  refine lv_iload_n hx hb dX9_later_46 rfl (lv_at hl 1 rfl) ?_
  refine lv_imul hx hb dX9_later_47 ?_
  refine lv_topi (fun y_13 ey_13 => ?_)
  have hf := lt_at ey_13 hf; clear ey_13
  obtain ⟨n_14, hf⟩ := rg_el hf
  refine va_iald hx hb hK hP 27 0 (wc_27 A cI cJ cZ z_11) rfl n_14 dX9_later_48 ?_
  refine lv_topi (fun a_15 ea_15 => ?_)
  have hf := lt_at ea_15 hf; clear ea_15
  refine lv_isub hx hb dX9_later_49 ?_
  exact retI hx hb hr hlocks hP hS hf dX9_later_50
set_option maxHeartbeats 4000000 in
set_option maxRecDepth 100000 in
theorem tX9_least {l : Launch} {dC : Nat → ClassId} {dI : Nat → Nat → Nat} {A : Nat → Nat} {t0 : Nat} {cI cJ cZ : ClassId} (hA : dst A) {p0 : Int32} {p1 : Int32} {p2 : Int32} {z : Mem} {r : Int32} {z' : Mem} (hf : fX9_least p0 p1 p2 z = some (r, z')) : MI l dC dI A t0 cI cJ cZ yX9_least wsX9_least 2 [.ref (A 25), .int p0, .int p1, .int p2] z r z' := by
  refine Met.ofW (cc := cX9_least) (maxL := 7) (ret := (some .int)) (by decide) rfl ?_
  intro p e s m args below meth c s₁ B hml hv
  obtain ⟨rfl, hP, hK, hZ⟩ := hv
  have hx := B.exec
  have hb := B.bytes
  have hr := B.returns
  have hts := atoms_spec (ws := wsX9_least) B.pre
  have hown : s.vm.findClass RX9 = some m.cls := findClass_of_methodNamed B.named
  have hlocks := B.notSynchronized
  have hS : va_S (fr A) s.heap s.heap [] := va_S.rf
  have i9 : ∀ w ∈ wsX90, w ∈ wsX9_least := fun _ h => List.mem_cons_of_mem _ (List.mem_append_right _ h)
  have hl := lv_entry ([.ref (A 25), .int p0, .int p1, .int p2]) (n := 7) (Nat.le_of_ble_eq_true rfl)
  rw [lg_entry_eq]
  generalize (lg_sl ([.ref (A 25), .int p0, .int p1, .int p2]) ++ List.replicate (7 - (lg_sl ([.ref (A 25), .int p0, .int p1, .int p2])).length) Slot.unset).toArray = ls at hl ⊢
  have hl : lv_has ls 7 [(0, .ref (A 25)), (1, .int p0), (2, .int p1), (3, .int p2)] := hl
  have hP : wIs dC dI A cI cJ cZ z s.heap := hP
  rw [fX9_least] at hf
  refine lv_iconst (v := 0) hx hb dX9_least_0 (by decide) ?_
  refine lv_istore (lv' := [(4, .int (0 : Int32)), (0, .ref (A 25)), (1, .int p0), (2, .int p1), (3, .int p2)]) hx hb dX9_least_1 hl (by decide) rfl (fun ls hl => ?_)
  obtain ⟨K_1, eK_1, hf⟩ := fX9_least_L3_g hf
  have hEK_1 : ∀ (x4_3 : Int32) (z_2 : Mem) (H : Heap) (locs : List Loc) (ls : Array Slot), K_1 x4_3 z_2 = some (r, z') → wIs dC dI A cI cJ cZ z_2 H → va_S (fr A) s.heap H locs → lv_has ls 7 [(0, .ref (A 25)), (1, .int p0), (2, .int p1), (3, .int p2), (4, .int x4_3)] → WI p l e wsX9_least 2 s m [.ref (A 25), .int p0, .int p1, .int p2] below meth c dC dI A cI cJ cZ r z' H locs (F0 m 92 ls []) := by
    intro x4_3 z_2 H locs ls hf hP hS hl
    have hf := ap2 eK_1 hf
    refine lv_bipush (v := -9) hx hb dX9_least_92 (by decide) ?_
    exact retI hx hb hr hlocks hP hS hf dX9_least_94
  have hLK_1 : ∀ (n_6 : Nat) (x4_5 : Int32) (z_4 : Mem) (H : Heap) (locs : List Loc) (ls : Array Slot), fX9_least_L3 K_1 p0 p1 p2 n_6 x4_5 z_4 = some (r, z') → wIs dC dI A cI cJ cZ z_4 H → va_S (fr A) s.heap H locs → lv_has ls 7 [(0, .ref (A 25)), (1, .int p0), (2, .int p1), (3, .int p2), (4, .int x4_5)] → WI p l e wsX9_least 2 s m [.ref (A 25), .int p0, .int p1, .int p2] below meth c dC dI A cI cJ cZ r z' H locs (F0 m 3 ls []) := by
    intro n_6
    induction n_6 with
    | zero => intro x4_5 z_4 H locs ls hf; rw [fX9_least_L3_0] at hf; cases hf
    | succ n_6 ihK_1 =>
      intro x4_5 z_4 H locs ls hf hP hS hl
      rw [fX9_least_L3_s] at hf
      refine lv_iload hx hb dX9_least_3 (lv_at hl 4 rfl) ?_
      refine lv_bipush (v := 9) hx hb dX9_least_5 (by decide) ?_
      refine lv_iload_n hx hb dX9_least_7 rfl (lv_at hl 2 rfl) ?_
      refine lv_imul hx hb dX9_least_8 ?_
      refine lv_icmp_gt (tgt := 92) hx hb dX9_least_9 (by decide) (fun c_7 => ?_) (fun c_7 => ?_)
      · have hf := it_t c_7 hf
        exact hEK_1 _ _ _ _ _ hf hP hS (lv_sub hl [0, 1, 2, 3, 4] rfl)
      · have hf := it_f c_7 hf
        refine lv_iconst (v := 1) hx hb dX9_least_12 (by decide) ?_
        refine lv_istore (lv' := [(5, .int (1 : Int32)), (0, .ref (A 25)), (1, .int p0), (2, .int p1), (3, .int p2), (4, .int x4_5)]) hx hb dX9_least_13 hl (by decide) rfl (fun ls hl => ?_)
        refine lv_iconst (v := 0) hx hb dX9_least_15 (by decide) ?_
        refine lv_istore (lv' := [(6, .int (0 : Int32)), (5, .int (1 : Int32)), (0, .ref (A 25)), (1, .int p0), (2, .int p1), (3, .int p2), (4, .int x4_5)]) hx hb dX9_least_16 hl (by decide) rfl (fun ls hl => ?_)
        obtain ⟨K_8, eK_8, hf⟩ := fX9_least_L18_g hf
        have hEK_8 : ∀ (x5_10 : Int32) (x6_11 : Int32) (z_9 : Mem) (H : Heap) (locs : List Loc) (ls : Array Slot), K_8 x5_10 x6_11 z_9 = some (r, z') → wIs dC dI A cI cJ cZ z_9 H → va_S (fr A) s.heap H locs → lv_has ls 7 [(0, .ref (A 25)), (1, .int p0), (2, .int p1), (3, .int p2), (4, .int x4_5), (5, .int x5_10), (6, .int x6_11)] → WI p l e wsX9_least 2 s m [.ref (A 25), .int p0, .int p1, .int p2] below meth c dC dI A cI cJ cZ r z' H locs (F0 m 78 ls []) := by
          intro x5_10 x6_11 z_9 H locs ls hf hP hS hl
          have hf := ap3 eK_8 hf
          refine lv_iload hx hb dX9_least_78 (lv_at hl 5 rfl) ?_
          refine lv_if_eq (tgt := 86) hx hb dX9_least_80 (by decide) (fun c_12 => ?_) (fun c_12 => ?_)
          · have hf := it_t c_12 hf
            obtain ⟨x4_13, ex4_13⟩ : ∃ q : Int32, q = x4_5 + (1 : Int32) := ⟨_, rfl⟩
            refine lv_iinc (v := x4_13) (lv' := [(4, .int x4_13), (0, .ref (A 25)), (1, .int p0), (2, .int p1), (3, .int p2), (5, .int x5_10), (6, .int x6_11)]) hx hb dX9_least_86 hl (k := 4) rfl (by rw [ex4_13]; rfl) (by decide) rfl (fun ls hl => ?_)
            have hf := lt_at ex4_13 hf; clear ex4_13
            refine lv_goto (tgt := 3) hx hb dX9_least_89 (by decide) ?_
            exact ihK_1 _ _ _ _ _ hf hP hS (lv_sub hl [1, 2, 3, 4, 0] rfl)
          · have hf := it_f c_12 hf
            refine lv_iload hx hb dX9_least_83 (lv_at hl 4 rfl) ?_
            exact retI hx hb hr hlocks hP hS hf dX9_least_85
        have hLK_8 : ∀ (n_17 : Nat) (x5_15 : Int32) (x6_16 : Int32) (z_14 : Mem) (H : Heap) (locs : List Loc) (ls : Array Slot), fX9_least_L18 K_8 p0 p1 p2 x4_5 n_17 x5_15 x6_16 z_14 = some (r, z') → wIs dC dI A cI cJ cZ z_14 H → va_S (fr A) s.heap H locs → lv_has ls 7 [(0, .ref (A 25)), (1, .int p0), (2, .int p1), (3, .int p2), (4, .int x4_5), (5, .int x5_15), (6, .int x6_16)] → WI p l e wsX9_least 2 s m [.ref (A 25), .int p0, .int p1, .int p2] below meth c dC dI A cI cJ cZ r z' H locs (F0 m 18 ls []) := by
          intro n_17
          induction n_17 with
          | zero => intro x5_15 x6_16 z_14 H locs ls hf; rw [fX9_least_L18_0] at hf; cases hf
          | succ n_17 ihK_8 =>
            intro x5_15 x6_16 z_14 H locs ls hf hP hS hl
            rw [fX9_least_L18_s] at hf
            refine lv_iload hx hb dX9_least_18 (lv_at hl 6 rfl) ?_
            refine lv_aload_n hx hb dX9_least_20 rfl (lv_at hl 0 rfl) ?_
            refine va_get (D := (dC, dI)) (ci := 9) (v := .int (z_14.1 25 6)) (C := RX9) (T := TX9) (N := 34) hx hb hts i9 hown hK hP 25 (wc_25 A cI cJ cZ z_14) rfl 6 (by decide) (hts (.fieldLink RX9 104 "LightestRulesModel" "many" "I") (by decide +kernel)) (fun _ h9 => h9) rfl dX9_least_21 ?_
            refine lv_icmp_ge (tgt := 78) hx hb dX9_least_24 (by decide) (fun c_18 => ?_) (fun c_18 => ?_)
            · have hf := it_t c_18 hf
              exact hEK_8 _ _ _ _ _ _ hf hP hS (lv_sub hl [0, 1, 2, 3, 4, 5, 6] rfl)
            · have hf := it_f c_18 hf
              refine lv_iload hx hb dX9_least_27 (lv_at hl 5 rfl) ?_
              refine lv_if_eq (tgt := 69) hx hb dX9_least_29 (by decide) (fun c_19 => ?_) (fun c_19 => ?_)
              · have hf := it_t c_19 hf
                refine lv_iconst (v := 0) hx hb dX9_least_69 (by decide) ?_
                refine lv_istore (lv' := [(5, .int (0 : Int32)), (0, .ref (A 25)), (1, .int p0), (2, .int p1), (3, .int p2), (4, .int x4_5), (6, .int x6_16)]) hx hb dX9_least_70 hl (by decide) rfl (fun ls hl => ?_)
                obtain ⟨x6_20, ex6_20⟩ : ∃ q : Int32, q = x6_16 + (1 : Int32) := ⟨_, rfl⟩
                refine lv_iinc (v := x6_20) (lv' := [(6, .int x6_20), (5, .int (0 : Int32)), (0, .ref (A 25)), (1, .int p0), (2, .int p1), (3, .int p2), (4, .int x4_5)]) hx hb dX9_least_72 hl (k := 6) rfl (by rw [ex6_20]; rfl) (by decide) rfl (fun ls hl => ?_)
                have hf := lt_at ex6_20 hf; clear ex6_20
                refine lv_goto (tgt := 18) hx hb dX9_least_75 (by decide) ?_
                exact ihK_8 _ _ _ _ _ _ hf hP hS (lv_sub hl [2, 3, 4, 5, 6, 1, 0] rfl)
              · have hf := it_f c_19 hf
                refine lv_iload hx hb dX9_least_32 (lv_at hl 6 rfl) ?_
                refine lv_iload_n hx hb dX9_least_34 rfl (lv_at hl 1 rfl) ?_
                refine lv_icmp_eq (tgt := 65) hx hb dX9_least_35 (by decide) (fun c_21 => ?_) (fun c_21 => ?_)
                · have hf := it_t c_21 hf
                  refine lv_iconst (v := 1) hx hb dX9_least_65 (by decide) ?_
                  refine lv_goto (tgt := 70) hx hb dX9_least_66 (by decide) ?_
                  refine lv_istore (lv' := [(5, .int (1 : Int32)), (0, .ref (A 25)), (1, .int p0), (2, .int p1), (3, .int p2), (4, .int x4_5), (6, .int x6_16)]) hx hb dX9_least_70 hl (by decide) rfl (fun ls hl => ?_)
                  obtain ⟨x6_22, ex6_22⟩ : ∃ q : Int32, q = x6_16 + (1 : Int32) := ⟨_, rfl⟩
                  refine lv_iinc (v := x6_22) (lv' := [(6, .int x6_22), (5, .int (1 : Int32)), (0, .ref (A 25)), (1, .int p0), (2, .int p1), (3, .int p2), (4, .int x4_5)]) hx hb dX9_least_72 hl (k := 6) rfl (by rw [ex6_22]; rfl) (by decide) rfl (fun ls hl => ?_)
                  have hf := lt_at ex6_22 hf; clear ex6_22
                  refine lv_goto (tgt := 18) hx hb dX9_least_75 (by decide) ?_
                  exact ihK_8 _ _ _ _ _ _ hf hP hS (lv_sub hl [2, 3, 4, 5, 6, 1, 0] rfl)
                · have hf := it_f c_21 hf
                  refine lv_aload_n hx hb dX9_least_38 rfl (lv_at hl 0 rfl) ?_
                  refine lv_iload_n hx hb dX9_least_39 rfl (lv_at hl 1 rfl) ?_
                  refine lv_iload_n hx hb dX9_least_40 rfl (lv_at hl 2 rfl) ?_
                  refine lv_iload hx hb dX9_least_41 (lv_at hl 4 rfl) ?_
                  obtain ⟨r_23, z_24, h_25, hf⟩ := cl_el hf
                  refine callVI (As := [.int p0, .int p1, .int x4_5]) (rest := []) (ci := 9) (q0 := 25) ⟨hx, hb, hml, hown, hts⟩ (tX9_later (l := l) (dC := dC) (dI := dI) (t0 := t0) (cI := cI) (cJ := cJ) (cZ := cZ) hA h_25) (cwV 3 hts gX9_least_X9_later rfl rfl rfl (by decide +kernel) ⟨Nat.le_of_ble_eq_true rfl, Nat.le_of_ble_eq_true rfl⟩) hK hZ hP hS rfl (wc_25 A cI cJ cZ z_14) rfl rfl rfl hl.1 (Nat.le_of_ble_eq_true rfl) ⟨Nat.zero_le _, Nat.zero_le _⟩ dX9_least_43 (fun H locs hP hS => ?_)
                  refine lv_iload_n hx hb dX9_least_46 rfl (lv_at hl 1 rfl) ?_
                  refine lv_aload_n hx hb dX9_least_47 rfl (lv_at hl 0 rfl) ?_
                  refine lv_iload hx hb dX9_least_48 (lv_at hl 6 rfl) ?_
                  refine lv_iload_n hx hb dX9_least_50 rfl (lv_at hl 2 rfl) ?_
                  refine lv_iload_n hx hb dX9_least_51 rfl (lv_at hl 3 rfl) ?_
                  refine lv_iload_n hx hb dX9_least_52 rfl (lv_at hl 2 rfl) ?_
                  refine lv_imul hx hb dX9_least_53 ?_
                  obtain ⟨r_26, z_27, h_28, hf⟩ := cl_el hf
                  refine callVI (As := [.int x6_16, .int p1, .int (p2 * p1)]) (rest := [.int p0, .int r_23]) (ci := 9) (q0 := 25) ⟨hx, hb, hml, hown, hts⟩ (tX9_later (l := l) (dC := dC) (dI := dI) (t0 := t0) (cI := cI) (cJ := cJ) (cZ := cZ) hA h_28) (cwV 3 hts gX9_least_X9_later rfl rfl rfl (by decide +kernel) ⟨Nat.le_of_ble_eq_true rfl, Nat.le_of_ble_eq_true rfl⟩) hK hZ hP hS rfl (wc_25 A cI cJ cZ z_24) rfl rfl rfl hl.1 (Nat.le_of_ble_eq_true rfl) ⟨Nat.zero_le _, Nat.zero_le _⟩ dX9_least_54 (fun H locs hP hS => ?_)
                  refine lv_iload hx hb dX9_least_57 (lv_at hl 6 rfl) ?_
                  obtain ⟨r_29, z_30, h_31, hf⟩ := cl_el hf
                  refine callSI (As := [.int r_23, .int p0, .int r_26, .int x6_16]) (rest := []) ⟨hx, hb, hml, hown, hts⟩ (tX9_isLighter (l := l) (dC := dC) (dI := dI) (t0 := t0) (cI := cI) (cJ := cJ) (cZ := cZ) hA h_31) (va_cwS 4 hts gX9_least_X9_isLighter rfl rfl rfl (by decide +kernel) ⟨Nat.le_of_ble_eq_true rfl, Nat.le_of_ble_eq_true rfl⟩) hK hZ hP hS rfl rfl hl.1 (Nat.le_of_ble_eq_true rfl) ⟨Nat.zero_le _, Nat.zero_le _⟩ dX9_least_59 (fun H locs hP hS => ?_)
                  refine lv_if_eq (tgt := 69) hx hb dX9_least_62 (by decide) (fun c_32 => ?_) (fun c_32 => ?_)
                  · have hf := it_t c_32 hf
                    refine lv_iconst (v := 0) hx hb dX9_least_69 (by decide) ?_
                    refine lv_istore (lv' := [(5, .int (0 : Int32)), (0, .ref (A 25)), (1, .int p0), (2, .int p1), (3, .int p2), (4, .int x4_5), (6, .int x6_16)]) hx hb dX9_least_70 hl (by decide) rfl (fun ls hl => ?_)
                    obtain ⟨x6_33, ex6_33⟩ : ∃ q : Int32, q = x6_16 + (1 : Int32) := ⟨_, rfl⟩
                    refine lv_iinc (v := x6_33) (lv' := [(6, .int x6_33), (5, .int (0 : Int32)), (0, .ref (A 25)), (1, .int p0), (2, .int p1), (3, .int p2), (4, .int x4_5)]) hx hb dX9_least_72 hl (k := 6) rfl (by rw [ex6_33]; rfl) (by decide) rfl (fun ls hl => ?_)
                    have hf := lt_at ex6_33 hf; clear ex6_33
                    refine lv_goto (tgt := 18) hx hb dX9_least_75 (by decide) ?_
                    exact ihK_8 _ _ _ _ _ _ hf hP hS (lv_sub hl [2, 3, 4, 5, 6, 1, 0] rfl)
                  · have hf := it_f c_32 hf
                    refine lv_iconst (v := 1) hx hb dX9_least_65 (by decide) ?_
                    refine lv_goto (tgt := 70) hx hb dX9_least_66 (by decide) ?_
                    refine lv_istore (lv' := [(5, .int (1 : Int32)), (0, .ref (A 25)), (1, .int p0), (2, .int p1), (3, .int p2), (4, .int x4_5), (6, .int x6_16)]) hx hb dX9_least_70 hl (by decide) rfl (fun ls hl => ?_)
                    obtain ⟨x6_34, ex6_34⟩ : ∃ q : Int32, q = x6_16 + (1 : Int32) := ⟨_, rfl⟩
                    refine lv_iinc (v := x6_34) (lv' := [(6, .int x6_34), (5, .int (1 : Int32)), (0, .ref (A 25)), (1, .int p0), (2, .int p1), (3, .int p2), (4, .int x4_5)]) hx hb dX9_least_72 hl (k := 6) rfl (by rw [ex6_34]; rfl) (by decide) rfl (fun ls hl => ?_)
                    have hf := lt_at ex6_34 hf; clear ex6_34
                    refine lv_goto (tgt := 18) hx hb dX9_least_75 (by decide) ?_
                    exact ihK_8 _ _ _ _ _ _ hf hP hS (lv_sub hl [2, 3, 4, 5, 6, 1, 0] rfl)
        exact hLK_8 FU _ _ _ _ _ _ hf hP hS (lv_sub hl [2, 3, 4, 5, 6, 1, 0] rfl)
  exact hLK_1 FU _ _ _ _ _ hf hP hS (lv_sub hl [1, 2, 3, 4, 0] rfl)
set_option maxHeartbeats 4000000 in
set_option maxRecDepth 100000 in
theorem tX9_share {l : Launch} {dC : Nat → ClassId} {dI : Nat → Nat → Nat} {A : Nat → Nat} {t0 : Nat} {cI cJ cZ : ClassId} (hA : dst A) {p0 : Int32} {p1 : Int32} {p2 : Int32} {z : Mem} {r : Int32} {z' : Mem} (hf : fX9_share p0 p1 p2 z = some (r, z')) : MI l dC dI A t0 cI cJ cZ yX9_share wsX9_share 0 [.int p0, .int p1, .int p2] z r z' := by
  refine Met.ofW (cc := cX9_share) (maxL := 3) (ret := (some .int)) (by decide) rfl ?_
  intro p e s m args below meth c s₁ B hml hv
  obtain ⟨rfl, hP, hK, hZ⟩ := hv
  have hx := B.exec
  have hb := B.bytes
  have hr := B.returns
  have hts := atoms_spec (ws := wsX9_share) B.pre
  have hown : s.vm.findClass RX9 = some m.cls := findClass_of_methodNamed B.named
  have hlocks := B.notSynchronized
  have hS : va_S (fr A) s.heap s.heap [] := va_S.rf
  have hl := lv_entry ([.int p0, .int p1, .int p2]) (n := 3) (Nat.le_of_ble_eq_true rfl)
  rw [lg_entry_eq]
  generalize (lg_sl ([.int p0, .int p1, .int p2]) ++ List.replicate (3 - (lg_sl ([.int p0, .int p1, .int p2])).length) Slot.unset).toArray = ls at hl ⊢
  have hl : lv_has ls 3 [(0, .int p0), (1, .int p1), (2, .int p2)] := hl
  have hP : wIs dC dI A cI cJ cZ z s.heap := hP
  rw [fX9_share] at hf
  refine lv_iload_n hx hb dX9_share_0 rfl (lv_at hl 0 rfl) ?_
  refine lv_iload_n hx hb dX9_share_1 rfl (lv_at hl 1 rfl) ?_
  obtain ⟨n_1, hf⟩ := nz_el hf
  refine lv_idiv hx hb dX9_share_2 n_1 ?_
  refine lv_iload_n hx hb dX9_share_3 rfl (lv_at hl 2 rfl) ?_
  refine lv_iload_n hx hb dX9_share_4 rfl (lv_at hl 1 rfl) ?_
  refine lv_iload_n hx hb dX9_share_5 rfl (lv_at hl 0 rfl) ?_
  refine lv_iload_n hx hb dX9_share_6 rfl (lv_at hl 1 rfl) ?_
  obtain ⟨n_2, hf⟩ := nz_el hf
  refine lv_irem hx hb dX9_share_7 n_2 ?_
  refine lv_isub hx hb dX9_share_8 ?_
  refine lv_icmp_lt (tgt := 16) hx hb dX9_share_9 (by decide) (fun c_3 => ?_) (fun c_3 => ?_)
  · have hf := it_t c_3 hf
    refine lv_iconst (v := 0) hx hb dX9_share_16 (by decide) ?_
    refine lv_iadd hx hb dX9_share_17 ?_
    exact retI hx hb hr hlocks hP hS hf dX9_share_18
  · have hf := it_f c_3 hf
    refine lv_iconst (v := 1) hx hb dX9_share_12 (by decide) ?_
    refine lv_goto (tgt := 17) hx hb dX9_share_13 (by decide) ?_
    refine lv_iadd hx hb dX9_share_17 ?_
    exact retI hx hb hr hlocks hP hS hf dX9_share_18
set_option maxHeartbeats 4000000 in
set_option maxRecDepth 100000 in
theorem tX9_sure {l : Launch} {dC : Nat → ClassId} {dI : Nat → Nat → Nat} {A : Nat → Nat} {t0 : Nat} {cI cJ cZ : ClassId} (hA : dst A) {p0 : Int32} {p1 : Int32} {p2 : Int32} {z : Mem} {r : Int32} {z' : Mem} (hf : fX9_sure p0 p1 p2 z = some (r, z')) : MI l dC dI A t0 cI cJ cZ yX9_sure wsX9_sure 3 [.ref (A 25), .int p0, .int p1, .int p2] z r z' := by
  refine Met.ofW (cc := cX9_sure) (maxL := 7) (ret := (some .int)) (by decide) rfl ?_
  intro p e s m args below meth c s₁ B hml hv
  obtain ⟨rfl, hP, hK, hZ⟩ := hv
  have hx := B.exec
  have hb := B.bytes
  have hr := B.returns
  have hts := atoms_spec (ws := wsX9_sure) B.pre
  have hown : s.vm.findClass RX9 = some m.cls := findClass_of_methodNamed B.named
  have hlocks := B.notSynchronized
  have hS : va_S (fr A) s.heap s.heap [] := va_S.rf
  have i9 : ∀ w ∈ wsX90, w ∈ wsX9_sure := fun _ h => List.mem_cons_of_mem _ (List.mem_append_right _ h)
  have hl := lv_entry ([.ref (A 25), .int p0, .int p1, .int p2]) (n := 7) (Nat.le_of_ble_eq_true rfl)
  rw [lg_entry_eq]
  generalize (lg_sl ([.ref (A 25), .int p0, .int p1, .int p2]) ++ List.replicate (7 - (lg_sl ([.ref (A 25), .int p0, .int p1, .int p2])).length) Slot.unset).toArray = ls at hl ⊢
  have hl : lv_has ls 7 [(0, .ref (A 25)), (1, .int p0), (2, .int p1), (3, .int p2)] := hl
  have hP : wIs dC dI A cI cJ cZ z s.heap := hP
  rw [fX9_sure] at hf
  refine lv_aload_n hx hb dX9_sure_0 rfl (lv_at hl 0 rfl) ?_
  refine lv_iload_n hx hb dX9_sure_1 rfl (lv_at hl 1 rfl) ?_
  obtain ⟨r_1, z_2, h_3, hf⟩ := cl_el hf
  refine callVI (As := [.int p0]) (rest := []) (ci := 9) (q0 := 25) ⟨hx, hb, hml, hown, hts⟩ (tX9_isPerson (l := l) (dC := dC) (dI := dI) (t0 := t0) (cI := cI) (cJ := cJ) (cZ := cZ) hA h_3) (cwV 1 hts gX9_sure_X9_isPerson rfl rfl rfl (by decide +kernel) ⟨Nat.le_of_ble_eq_true rfl, Nat.le_of_ble_eq_true rfl⟩) hK hZ hP hS rfl (wc_25 A cI cJ cZ z) rfl rfl rfl hl.1 (Nat.le_of_ble_eq_true rfl) ⟨Nat.zero_le _, Nat.zero_le _⟩ dX9_sure_2 (fun H locs hP hS => ?_)
  refine lv_if_ne (tgt := 10) hx hb dX9_sure_5 (by decide) (fun c_4 => ?_) (fun c_4 => ?_)
  · have hf := it_f c_4 hf
    refine lv_iload_n hx hb dX9_sure_10 rfl (lv_at hl 2 rfl) ?_
    refine lv_i2l hx hb dX9_sure_11 rfl ?_
    refine lv_lconst (v := 1) hx hb dX9_sure_12 rfl ?_
    refine lv_ldc2 hx hb hown (hts (.constantLong RX9 151 (5)) (by decide +kernel)) dX9_sure_13 ?_
    obtain ⟨r_5, z_6, h_7, hf⟩ := cl_el hf
    refine callSI (As := [.long (p1.toInt64), .long (1 : Int64), .long (5 : Int64)]) (rest := []) ⟨hx, hb, hml, hown, hts⟩ (tX9_in (l := l) (dC := dC) (dI := dI) (t0 := t0) (cI := cI) (cJ := cJ) (cZ := cZ) hA h_7) (va_cwS 3 hts gX9_sure_X9_in rfl rfl rfl (by decide +kernel) ⟨Nat.le_of_ble_eq_true rfl, Nat.le_of_ble_eq_true rfl⟩) hK hZ hP hS rfl rfl hl.1 (Nat.le_of_ble_eq_true rfl) ⟨Nat.zero_le _, Nat.zero_le _⟩ dX9_sure_16 (fun H locs hP hS => ?_)
    refine lv_if_eq (tgt := 34) hx hb dX9_sure_19 (by decide) (fun c_8 => ?_) (fun c_8 => ?_)
    · have hf := it_t c_8 hf
      refine lv_bipush (v := -2) hx hb dX9_sure_34 (by decide) ?_
      exact retI hx hb hr hlocks hP hS hf dX9_sure_36
    · have hf := it_f c_8 hf
      refine lv_iload_n hx hb dX9_sure_22 rfl (lv_at hl 3 rfl) ?_
      refine lv_i2l hx hb dX9_sure_23 rfl ?_
      refine lv_lconst (v := 0) hx hb dX9_sure_24 rfl ?_
      refine lv_ldc2 hx hb hown (hts (.constantLong RX9 132 (9)) (by decide +kernel)) dX9_sure_25 ?_
      obtain ⟨r_9, z_10, h_11, hf⟩ := cl_el hf
      refine callSI (As := [.long (p2.toInt64), .long (0 : Int64), .long (9 : Int64)]) (rest := []) ⟨hx, hb, hml, hown, hts⟩ (tX9_in (l := l) (dC := dC) (dI := dI) (t0 := t0) (cI := cI) (cJ := cJ) (cZ := cZ) hA h_11) (va_cwS 3 hts gX9_sure_X9_in rfl rfl rfl (by decide +kernel) ⟨Nat.le_of_ble_eq_true rfl, Nat.le_of_ble_eq_true rfl⟩) hK hZ hP hS rfl rfl hl.1 (Nat.le_of_ble_eq_true rfl) ⟨Nat.zero_le _, Nat.zero_le _⟩ dX9_sure_28 (fun H locs hP hS => ?_)
      refine lv_if_ne (tgt := 37) hx hb dX9_sure_31 (by decide) (fun c_12 => ?_) (fun c_12 => ?_)
      · have hf := it_f c_12 hf
        refine lv_aload_n hx hb dX9_sure_37 rfl (lv_at hl 0 rfl) ?_
        refine va_get (D := (dC, dI)) (ci := 9) (v := .int (z_10.1 25 6)) (C := RX9) (T := TX9) (N := 34) hx hb hts i9 hown hK hP 25 (wc_25 A cI cJ cZ z_10) rfl 6 (by decide) (hts (.fieldLink RX9 104 "LightestRulesModel" "many" "I") (by decide +kernel)) (fun _ h9 => h9) rfl dX9_sure_38 ?_
        refine lv_iconst (v := 1) hx hb dX9_sure_41 (by decide) ?_
        refine lv_icmp_ne (tgt := 48) hx hb dX9_sure_42 (by decide) (fun c_13 => ?_) (fun c_13 => ?_)
        · have hf := it_f c_13 hf
          refine lv_aload_n hx hb dX9_sure_48 rfl (lv_at hl 0 rfl) ?_
          refine lv_iload_n hx hb dX9_sure_49 rfl (lv_at hl 1 rfl) ?_
          refine lv_iload_n hx hb dX9_sure_50 rfl (lv_at hl 2 rfl) ?_
          refine lv_iload_n hx hb dX9_sure_51 rfl (lv_at hl 3 rfl) ?_
          obtain ⟨r_14, z_15, h_16, hf⟩ := cl_el hf
          refine callVI (As := [.int p0, .int p1, .int p2]) (rest := []) (ci := 9) (q0 := 25) ⟨hx, hb, hml, hown, hts⟩ (tX9_least (l := l) (dC := dC) (dI := dI) (t0 := t0) (cI := cI) (cJ := cJ) (cZ := cZ) hA h_16) (cwV 3 hts gX9_sure_X9_least rfl rfl rfl (by decide +kernel) ⟨Nat.le_of_ble_eq_true rfl, Nat.le_of_ble_eq_true rfl⟩) hK hZ hP hS rfl (wc_25 A cI cJ cZ z_10) rfl rfl rfl hl.1 (Nat.le_of_ble_eq_true rfl) ⟨Nat.zero_le _, Nat.zero_le _⟩ dX9_sure_52 (fun H locs hP hS => ?_)
          refine lv_istore (lv' := [(4, .int r_14), (0, .ref (A 25)), (1, .int p0), (2, .int p1), (3, .int p2)]) hx hb dX9_sure_55 hl (by decide) rfl (fun ls hl => ?_)
          refine lv_iconst (v := 0) hx hb dX9_sure_57 (by decide) ?_
          refine lv_istore (lv' := [(5, .int (0 : Int32)), (4, .int r_14), (0, .ref (A 25)), (1, .int p0), (2, .int p1), (3, .int p2)]) hx hb dX9_sure_58 hl (by decide) rfl (fun ls hl => ?_)
          refine lv_iconst (v := 0) hx hb dX9_sure_60 (by decide) ?_
          refine lv_istore (lv' := [(6, .int (0 : Int32)), (5, .int (0 : Int32)), (4, .int r_14), (0, .ref (A 25)), (1, .int p0), (2, .int p1), (3, .int p2)]) hx hb dX9_sure_61 hl (by decide) rfl (fun ls hl => ?_)
          obtain ⟨K_17, eK_17, hf⟩ := fX9_sure_L63_g hf
          have hEK_17 : ∀ (x5_19 : Int32) (x6_20 : Int32) (z_18 : Mem) (H : Heap) (locs : List Loc) (ls : Array Slot), K_17 x5_19 x6_20 z_18 = some (r, z') → wIs dC dI A cI cJ cZ z_18 H → va_S (fr A) s.heap H locs → lv_has ls 7 [(0, .ref (A 25)), (1, .int p0), (2, .int p1), (3, .int p2), (4, .int r_14), (5, .int x5_19), (6, .int x6_20)] → WI p l e wsX9_sure 3 s m [.ref (A 25), .int p0, .int p1, .int p2] below meth c dC dI A cI cJ cZ r z' H locs (F0 m 104 ls []) := by
            intro x5_19 x6_20 z_18 H locs ls hf hP hS hl
            have hf := ap3 eK_17 hf
            refine lv_iload hx hb dX9_sure_104 (lv_at hl 4 rfl) ?_
            refine lv_bipush (v := -9) hx hb dX9_sure_106 (by decide) ?_
            refine lv_icmp_ne (tgt := 116) hx hb dX9_sure_108 (by decide) (fun c_21 => ?_) (fun c_21 => ?_)
            · have hf := it_f c_21 hf
              refine lv_iload hx hb dX9_sure_116 (lv_at hl 5 rfl) ?_
              exact retI hx hb hr hlocks hP hS hf dX9_sure_118
            · have hf := it_t c_21 hf
              refine lv_bipush (v := -9) hx hb dX9_sure_111 (by decide) ?_
              refine lv_goto (tgt := 118) hx hb dX9_sure_113 (by decide) ?_
              exact retI hx hb hr hlocks hP hS hf dX9_sure_118
          have hLK_17 : ∀ (n_25 : Nat) (x5_23 : Int32) (x6_24 : Int32) (z_22 : Mem) (H : Heap) (locs : List Loc) (ls : Array Slot), fX9_sure_L63 K_17 p1 r_14 n_25 x5_23 x6_24 z_22 = some (r, z') → wIs dC dI A cI cJ cZ z_22 H → va_S (fr A) s.heap H locs → lv_has ls 7 [(0, .ref (A 25)), (1, .int p0), (2, .int p1), (3, .int p2), (4, .int r_14), (5, .int x5_23), (6, .int x6_24)] → WI p l e wsX9_sure 3 s m [.ref (A 25), .int p0, .int p1, .int p2] below meth c dC dI A cI cJ cZ r z' H locs (F0 m 63 ls []) := by
            intro n_25
            induction n_25 with
            | zero => intro x5_23 x6_24 z_22 H locs ls hf; rw [fX9_sure_L63_0] at hf; cases hf
            | succ n_25 ihK_17 =>
              intro x5_23 x6_24 z_22 H locs ls hf hP hS hl
              rw [fX9_sure_L63_s] at hf
              refine lv_iload hx hb dX9_sure_63 (lv_at hl 6 rfl) ?_
              refine lv_iload_n hx hb dX9_sure_65 rfl (lv_at hl 2 rfl) ?_
              refine lv_icmp_ge (tgt := 104) hx hb dX9_sure_66 (by decide) (fun c_26 => ?_) (fun c_26 => ?_)
              · have hf := it_t c_26 hf
                exact hEK_17 _ _ _ _ _ _ hf hP hS (lv_sub hl [0, 1, 2, 3, 4, 5, 6] rfl)
              · have hf := it_f c_26 hf
                refine lv_iload hx hb dX9_sure_69 (lv_at hl 4 rfl) ?_
                refine lv_bipush (v := -9) hx hb dX9_sure_71 (by decide) ?_
                refine lv_icmp_eq (tgt := 104) hx hb dX9_sure_73 (by decide) (fun c_27 => ?_) (fun c_27 => ?_)
                · have hf := it_t c_27 hf
                  exact hEK_17 _ _ _ _ _ _ hf hP hS (lv_sub hl [0, 1, 2, 3, 4, 5, 6] rfl)
                · have hf := it_f c_27 hf
                  refine lv_iload hx hb dX9_sure_76 (lv_at hl 5 rfl) ?_
                  refine lv_iload hx hb dX9_sure_78 (lv_at hl 4 rfl) ?_
                  refine lv_iload_n hx hb dX9_sure_80 rfl (lv_at hl 2 rfl) ?_
                  refine lv_iload hx hb dX9_sure_81 (lv_at hl 6 rfl) ?_
                  obtain ⟨r_28, z_29, h_30, hf⟩ := cl_el hf
                  refine callSI (As := [.int r_14, .int p1, .int x6_24]) (rest := [.int x5_23]) ⟨hx, hb, hml, hown, hts⟩ (tX9_share (l := l) (dC := dC) (dI := dI) (t0 := t0) (cI := cI) (cJ := cJ) (cZ := cZ) hA h_30) (va_cwS 3 hts gX9_sure_X9_share rfl rfl rfl (by decide +kernel) ⟨Nat.le_of_ble_eq_true rfl, Nat.le_of_ble_eq_true rfl⟩) hK hZ hP hS rfl rfl hl.1 (Nat.le_of_ble_eq_true rfl) ⟨Nat.zero_le _, Nat.zero_le _⟩ dX9_sure_83 (fun H locs hP hS => ?_)
                  refine lv_iload hx hb dX9_sure_86 (lv_at hl 4 rfl) ?_
                  refine lv_iload_n hx hb dX9_sure_88 rfl (lv_at hl 2 rfl) ?_
                  refine lv_iload hx hb dX9_sure_89 (lv_at hl 6 rfl) ?_
                  obtain ⟨r_31, z_32, h_33, hf⟩ := cl_el hf
                  refine callSI (As := [.int r_14, .int p1, .int x6_24]) (rest := [.int r_28, .int x5_23]) ⟨hx, hb, hml, hown, hts⟩ (tX9_share (l := l) (dC := dC) (dI := dI) (t0 := t0) (cI := cI) (cJ := cJ) (cZ := cZ) hA h_33) (va_cwS 3 hts gX9_sure_X9_share rfl rfl rfl (by decide +kernel) ⟨Nat.le_of_ble_eq_true rfl, Nat.le_of_ble_eq_true rfl⟩) hK hZ hP hS rfl rfl hl.1 (Nat.le_of_ble_eq_true rfl) ⟨Nat.zero_le _, Nat.zero_le _⟩ dX9_sure_91 (fun H locs hP hS => ?_)
                  refine lv_imul hx hb dX9_sure_94 ?_
                  refine lv_iadd hx hb dX9_sure_95 ?_
                  refine lv_topi (fun x5_34 ex5_34 => ?_)
                  have hf := lt_at ex5_34 hf; clear ex5_34
                  refine lv_istore (lv' := [(5, .int x5_34), (0, .ref (A 25)), (1, .int p0), (2, .int p1), (3, .int p2), (4, .int r_14), (6, .int x6_24)]) hx hb dX9_sure_96 hl (by decide) rfl (fun ls hl => ?_)
                  obtain ⟨x6_35, ex6_35⟩ : ∃ q : Int32, q = x6_24 + (1 : Int32) := ⟨_, rfl⟩
                  refine lv_iinc (v := x6_35) (lv' := [(6, .int x6_35), (5, .int x5_34), (0, .ref (A 25)), (1, .int p0), (2, .int p1), (3, .int p2), (4, .int r_14)]) hx hb dX9_sure_98 hl (k := 6) rfl (by rw [ex6_35]; rfl) (by decide) rfl (fun ls hl => ?_)
                  have hf := lt_at ex6_35 hf; clear ex6_35
                  refine lv_goto (tgt := 63) hx hb dX9_sure_101 (by decide) ?_
                  exact ihK_17 _ _ _ _ _ _ hf hP hS (lv_sub hl [2, 3, 4, 5, 6, 1, 0] rfl)
          exact hLK_17 FU _ _ _ _ _ _ hf hP hS (lv_sub hl [3, 4, 5, 6, 2, 1, 0] rfl)
        · have hf := it_t c_13 hf
          refine lv_bipush (v := -3) hx hb dX9_sure_45 (by decide) ?_
          exact retI hx hb hr hlocks hP hS hf dX9_sure_47
      · have hf := it_t c_12 hf
        refine lv_bipush (v := -2) hx hb dX9_sure_34 (by decide) ?_
        exact retI hx hb hr hlocks hP hS hf dX9_sure_36
  · have hf := it_t c_4 hf
    refine lv_iconst (v := -1) hx hb dX9_sure_8 (by decide) ?_
    exact retI hx hb hr hlocks hP hS hf dX9_sure_9
set_option maxHeartbeats 4000000 in
set_option maxRecDepth 100000 in
theorem tX8_sureAt {l : Launch} {dC : Nat → ClassId} {dI : Nat → Nat → Nat} {A : Nat → Nat} {t0 : Nat} {cI cJ cZ : ClassId} (hA : dst A) {p0 : Int32} {p1 : Int32} {p2 : Int32} {p3 : Int32} {z : Mem} {r : Int32} {z' : Mem} (hf : fX8_sureAt p0 p1 p2 p3 z = some (r, z')) : MI l dC dI A t0 cI cJ cZ yX8_sureAt wsX8_sureAt 5 [.ref (A 0), .int p0, .int p1, .int p2, .int p3] z r z' := by
  refine Met.ofW (cc := cX8_sureAt) (maxL := 7) (ret := (some .int)) (by decide) rfl ?_
  intro p e s m args below meth c s₁ B hml hv
  obtain ⟨rfl, hP, hK, hZ⟩ := hv
  have hx := B.exec
  have hb := B.bytes
  have hr := B.returns
  have hts := atoms_spec (ws := wsX8_sureAt) B.pre
  have hown : s.vm.findClass RX8 = some m.cls := findClass_of_methodNamed B.named
  have hlocks := B.notSynchronized
  have hS : va_S (fr A) s.heap s.heap [] := va_S.rf
  have hl := lv_entry ([.ref (A 0), .int p0, .int p1, .int p2, .int p3]) (n := 7) (Nat.le_of_ble_eq_true rfl)
  rw [lg_entry_eq]
  generalize (lg_sl ([.ref (A 0), .int p0, .int p1, .int p2, .int p3]) ++ List.replicate (7 - (lg_sl ([.ref (A 0), .int p0, .int p1, .int p2, .int p3])).length) Slot.unset).toArray = ls at hl ⊢
  have hl : lv_has ls 7 [(0, .ref (A 0)), (1, .int p0), (2, .int p1), (3, .int p2), (4, .int p3)] := hl
  have hP : wIs dC dI A cI cJ cZ z s.heap := hP
  rw [fX8_sureAt] at hf
  refine lv_aload_n hx hb dX8_sureAt_0 rfl (lv_at hl 0 rfl) ?_
  refine lv_iload_n hx hb dX8_sureAt_1 rfl (lv_at hl 1 rfl) ?_
  refine lv_iload_n hx hb dX8_sureAt_2 rfl (lv_at hl 2 rfl) ?_
  refine lv_iload_n hx hb dX8_sureAt_3 rfl (lv_at hl 3 rfl) ?_
  obtain ⟨r_1, z_2, h_3, hf⟩ := cl_el hf
  refine callVI (As := [.int p0, .int p1, .int p2]) (rest := []) (ci := 8) (q0 := 0) ⟨hx, hb, hml, hown, hts⟩ (tX8_refusalOfSure (l := l) (dC := dC) (dI := dI) (t0 := t0) (cI := cI) (cJ := cJ) (cZ := cZ) hA h_3) (cwV 3 hts gX8_sureAt_X8_refusalOfSure rfl rfl rfl (by decide +kernel) ⟨Nat.le_of_ble_eq_true rfl, Nat.le_of_ble_eq_true rfl⟩) hK hZ hP hS rfl (wc_0 A cI cJ cZ z) rfl rfl rfl hl.1 (Nat.le_of_ble_eq_true rfl) ⟨Nat.zero_le _, Nat.zero_le _⟩ dX8_sureAt_4 (fun H locs hP hS => ?_)
  refine lv_istore (lv' := [(5, .int r_1), (0, .ref (A 0)), (1, .int p0), (2, .int p1), (3, .int p2), (4, .int p3)]) hx hb dX8_sureAt_7 hl (by decide) rfl (fun ls hl => ?_)
  refine lv_iload hx hb dX8_sureAt_9 (lv_at hl 0 rfl) ?_
  refine lv_if_eq (tgt := 17) hx hb dX8_sureAt_11 (by decide) (fun c_4 => ?_) (fun c_4 => ?_)
  · have hf := it_t c_4 hf
    refine lv_aload_n hx hb dX8_sureAt_17 rfl (lv_at hl 1 rfl) ?_
    refine lv_iload_n hx hb dX8_sureAt_18 rfl (lv_at hl 2 rfl) ?_
    refine lv_iload_n hx hb dX8_sureAt_19 rfl (lv_at hl 3 rfl) ?_
    refine lv_iload_n hx hb dX8_sureAt_20 rfl (lv_at hl 4 rfl) ?_
    obtain ⟨r_5, z_6, h_7, hf⟩ := cl_el hf
    refine callVI (As := [.int p0, .int p1, .int p2]) (rest := []) (ci := 8) (q0 := 0) ⟨hx, hb, hml, hown, hts⟩ (tX8_leastSureToil (l := l) (dC := dC) (dI := dI) (t0 := t0) (cI := cI) (cJ := cJ) (cZ := cZ) hA h_7) (cwV 3 hts gX8_sureAt_X8_leastSureToil rfl rfl rfl (by decide +kernel) ⟨Nat.le_of_ble_eq_true rfl, Nat.le_of_ble_eq_true rfl⟩) hK hZ hP hS rfl (wc_0 A cI cJ cZ z_2) rfl rfl rfl hl.1 (Nat.le_of_ble_eq_true rfl) ⟨Nat.zero_le _, Nat.zero_le _⟩ dX8_sureAt_21 (fun H locs hP hS => ?_)
    refine lv_istore (lv' := [(6, .int r_5), (5, .int r_1), (0, .ref (A 0)), (1, .int p0), (2, .int p1), (3, .int p2), (4, .int p3)]) hx hb dX8_sureAt_24 hl (by decide) rfl (fun ls hl => ?_)
    refine lv_iload hx hb dX8_sureAt_26 (lv_at hl 0 rfl) ?_
    refine lv_bipush (v := -9) hx hb dX8_sureAt_28 (by decide) ?_
    refine lv_icmp_eq (tgt := 44) hx hb dX8_sureAt_30 (by decide) (fun c_8 => ?_) (fun c_8 => ?_)
    · have hf := it_t c_8 hf
      refine lv_bipush (v := -9) hx hb dX8_sureAt_44 (by decide) ?_
      refine lv_goto (tgt := 57) hx hb dX8_sureAt_46 (by decide) ?_
      exact retI hx hb hr hlocks hP hS hf dX8_sureAt_57
    · have hf := it_f c_8 hf
      refine lv_iload hx hb dX8_sureAt_33 (lv_at hl 6 rfl) ?_
      refine lv_if_lt (tgt := 44) hx hb dX8_sureAt_35 (by decide) (fun c_9 => ?_) (fun c_9 => ?_)
      · have hf := it_t c_9 hf
        refine lv_bipush (v := -9) hx hb dX8_sureAt_44 (by decide) ?_
        refine lv_goto (tgt := 57) hx hb dX8_sureAt_46 (by decide) ?_
        exact retI hx hb hr hlocks hP hS hf dX8_sureAt_57
      · have hf := it_f c_9 hf
        refine lv_iload hx hb dX8_sureAt_38 (lv_at hl 6 rfl) ?_
        refine lv_iload_n hx hb dX8_sureAt_40 rfl (lv_at hl 4 rfl) ?_
        refine lv_icmp_lt (tgt := 49) hx hb dX8_sureAt_41 (by decide) (fun c_10 => ?_) (fun c_10 => ?_)
        · have hf := it_t c_10 hf
          refine lv_iload hx hb dX8_sureAt_49 (lv_at hl 0 rfl) ?_
          refine lv_iload_n hx hb dX8_sureAt_51 rfl (lv_at hl 4 rfl) ?_
          refine lv_iload hx hb dX8_sureAt_52 (lv_at hl 6 rfl) ?_
          obtain ⟨r_11, z_12, h_13, hf⟩ := cl_el hf
          refine callSI (As := [.int r_5, .int p1, .int p3]) (rest := []) ⟨hx, hb, hml, hown, hts⟩ (tX8_toilOnDay (l := l) (dC := dC) (dI := dI) (t0 := t0) (cI := cI) (cJ := cJ) (cZ := cZ) hA h_13) (va_cwS 3 hts gX8_sureAt_X8_toilOnDay rfl rfl rfl (by decide +kernel) ⟨Nat.le_of_ble_eq_true rfl, Nat.le_of_ble_eq_true rfl⟩) hK hZ hP hS rfl rfl hl.1 (Nat.le_of_ble_eq_true rfl) ⟨Nat.zero_le _, Nat.zero_le _⟩ dX8_sureAt_54 (fun H locs hP hS => ?_)
          exact retI hx hb hr hlocks hP hS hf dX8_sureAt_57
        · have hf := it_f c_10 hf
          refine lv_bipush (v := -9) hx hb dX8_sureAt_44 (by decide) ?_
          refine lv_goto (tgt := 57) hx hb dX8_sureAt_46 (by decide) ?_
          exact retI hx hb hr hlocks hP hS hf dX8_sureAt_57
  · have hf := it_f c_4 hf
    refine lv_iload hx hb dX8_sureAt_14 (lv_at hl 0 rfl) ?_
    exact retI hx hb hr hlocks hP hS hf dX8_sureAt_16
set_option maxHeartbeats 4000000 in
set_option maxRecDepth 100000 in
theorem tX9_sureAt {l : Launch} {dC : Nat → ClassId} {dI : Nat → Nat → Nat} {A : Nat → Nat} {t0 : Nat} {cI cJ cZ : ClassId} (hA : dst A) {p0 : Int32} {p1 : Int32} {p2 : Int32} {p3 : Int32} {z : Mem} {r : Int32} {z' : Mem} (hf : fX9_sureAt p0 p1 p2 p3 z = some (r, z')) : MI l dC dI A t0 cI cJ cZ yX9_sureAt wsX9_sureAt 3 [.ref (A 25), .int p0, .int p1, .int p2, .int p3] z r z' := by
  refine Met.ofW (cc := cX9_sureAt) (maxL := 6) (ret := (some .int)) (by decide) rfl ?_
  intro p e s m args below meth c s₁ B hml hv
  obtain ⟨rfl, hP, hK, hZ⟩ := hv
  have hx := B.exec
  have hb := B.bytes
  have hr := B.returns
  have hts := atoms_spec (ws := wsX9_sureAt) B.pre
  have hown : s.vm.findClass RX9 = some m.cls := findClass_of_methodNamed B.named
  have hlocks := B.notSynchronized
  have hS : va_S (fr A) s.heap s.heap [] := va_S.rf
  have i9 : ∀ w ∈ wsX90, w ∈ wsX9_sureAt := fun _ h => List.mem_cons_of_mem _ (List.mem_append_right _ h)
  have hl := lv_entry ([.ref (A 25), .int p0, .int p1, .int p2, .int p3]) (n := 6) (Nat.le_of_ble_eq_true rfl)
  rw [lg_entry_eq]
  generalize (lg_sl ([.ref (A 25), .int p0, .int p1, .int p2, .int p3]) ++ List.replicate (6 - (lg_sl ([.ref (A 25), .int p0, .int p1, .int p2, .int p3])).length) Slot.unset).toArray = ls at hl ⊢
  have hl : lv_has ls 6 [(0, .ref (A 25)), (1, .int p0), (2, .int p1), (3, .int p2), (4, .int p3)] := hl
  have hP : wIs dC dI A cI cJ cZ z s.heap := hP
  rw [fX9_sureAt] at hf
  refine lv_aload_n hx hb dX9_sureAt_0 rfl (lv_at hl 0 rfl) ?_
  refine lv_iload_n hx hb dX9_sureAt_1 rfl (lv_at hl 1 rfl) ?_
  obtain ⟨r_1, z_2, h_3, hf⟩ := cl_el hf
  refine callVI (As := [.int p0]) (rest := []) (ci := 9) (q0 := 25) ⟨hx, hb, hml, hown, hts⟩ (tX9_isPerson (l := l) (dC := dC) (dI := dI) (t0 := t0) (cI := cI) (cJ := cJ) (cZ := cZ) hA h_3) (cwV 1 hts gX9_sureAt_X9_isPerson rfl rfl rfl (by decide +kernel) ⟨Nat.le_of_ble_eq_true rfl, Nat.le_of_ble_eq_true rfl⟩) hK hZ hP hS rfl (wc_25 A cI cJ cZ z) rfl rfl rfl hl.1 (Nat.le_of_ble_eq_true rfl) ⟨Nat.zero_le _, Nat.zero_le _⟩ dX9_sureAt_2 (fun H locs hP hS => ?_)
  refine lv_if_ne (tgt := 10) hx hb dX9_sureAt_5 (by decide) (fun c_4 => ?_) (fun c_4 => ?_)
  · have hf := it_f c_4 hf
    refine lv_iload_n hx hb dX9_sureAt_10 rfl (lv_at hl 2 rfl) ?_
    refine lv_i2l hx hb dX9_sureAt_11 rfl ?_
    refine lv_lconst (v := 1) hx hb dX9_sureAt_12 rfl ?_
    refine lv_ldc2 hx hb hown (hts (.constantLong RX9 151 (5)) (by decide +kernel)) dX9_sureAt_13 ?_
    obtain ⟨r_5, z_6, h_7, hf⟩ := cl_el hf
    refine callSI (As := [.long (p1.toInt64), .long (1 : Int64), .long (5 : Int64)]) (rest := []) ⟨hx, hb, hml, hown, hts⟩ (tX9_in (l := l) (dC := dC) (dI := dI) (t0 := t0) (cI := cI) (cJ := cJ) (cZ := cZ) hA h_7) (va_cwS 3 hts gX9_sureAt_X9_in rfl rfl rfl (by decide +kernel) ⟨Nat.le_of_ble_eq_true rfl, Nat.le_of_ble_eq_true rfl⟩) hK hZ hP hS rfl rfl hl.1 (Nat.le_of_ble_eq_true rfl) ⟨Nat.zero_le _, Nat.zero_le _⟩ dX9_sureAt_16 (fun H locs hP hS => ?_)
    refine lv_if_eq (tgt := 34) hx hb dX9_sureAt_19 (by decide) (fun c_8 => ?_) (fun c_8 => ?_)
    · have hf := it_t c_8 hf
      refine lv_bipush (v := -2) hx hb dX9_sureAt_34 (by decide) ?_
      exact retI hx hb hr hlocks hP hS hf dX9_sureAt_36
    · have hf := it_f c_8 hf
      refine lv_iload_n hx hb dX9_sureAt_22 rfl (lv_at hl 3 rfl) ?_
      refine lv_i2l hx hb dX9_sureAt_23 rfl ?_
      refine lv_lconst (v := 0) hx hb dX9_sureAt_24 rfl ?_
      refine lv_ldc2 hx hb hown (hts (.constantLong RX9 132 (9)) (by decide +kernel)) dX9_sureAt_25 ?_
      obtain ⟨r_9, z_10, h_11, hf⟩ := cl_el hf
      refine callSI (As := [.long (p2.toInt64), .long (0 : Int64), .long (9 : Int64)]) (rest := []) ⟨hx, hb, hml, hown, hts⟩ (tX9_in (l := l) (dC := dC) (dI := dI) (t0 := t0) (cI := cI) (cJ := cJ) (cZ := cZ) hA h_11) (va_cwS 3 hts gX9_sureAt_X9_in rfl rfl rfl (by decide +kernel) ⟨Nat.le_of_ble_eq_true rfl, Nat.le_of_ble_eq_true rfl⟩) hK hZ hP hS rfl rfl hl.1 (Nat.le_of_ble_eq_true rfl) ⟨Nat.zero_le _, Nat.zero_le _⟩ dX9_sureAt_28 (fun H locs hP hS => ?_)
      refine lv_if_ne (tgt := 37) hx hb dX9_sureAt_31 (by decide) (fun c_12 => ?_) (fun c_12 => ?_)
      · have hf := it_f c_12 hf
        refine lv_aload_n hx hb dX9_sureAt_37 rfl (lv_at hl 0 rfl) ?_
        refine va_get (D := (dC, dI)) (ci := 9) (v := .int (z_10.1 25 6)) (C := RX9) (T := TX9) (N := 34) hx hb hts i9 hown hK hP 25 (wc_25 A cI cJ cZ z_10) rfl 6 (by decide) (hts (.fieldLink RX9 104 "LightestRulesModel" "many" "I") (by decide +kernel)) (fun _ h9 => h9) rfl dX9_sureAt_38 ?_
        refine lv_iconst (v := 1) hx hb dX9_sureAt_41 (by decide) ?_
        refine lv_icmp_ne (tgt := 48) hx hb dX9_sureAt_42 (by decide) (fun c_13 => ?_) (fun c_13 => ?_)
        · have hf := it_f c_13 hf
          refine lv_aload_n hx hb dX9_sureAt_48 rfl (lv_at hl 0 rfl) ?_
          refine lv_iload_n hx hb dX9_sureAt_49 rfl (lv_at hl 1 rfl) ?_
          refine lv_iload_n hx hb dX9_sureAt_50 rfl (lv_at hl 2 rfl) ?_
          refine lv_iload_n hx hb dX9_sureAt_51 rfl (lv_at hl 3 rfl) ?_
          obtain ⟨r_14, z_15, h_16, hf⟩ := cl_el hf
          refine callVI (As := [.int p0, .int p1, .int p2]) (rest := []) (ci := 9) (q0 := 25) ⟨hx, hb, hml, hown, hts⟩ (tX9_least (l := l) (dC := dC) (dI := dI) (t0 := t0) (cI := cI) (cJ := cJ) (cZ := cZ) hA h_16) (cwV 3 hts gX9_sureAt_X9_least rfl rfl rfl (by decide +kernel) ⟨Nat.le_of_ble_eq_true rfl, Nat.le_of_ble_eq_true rfl⟩) hK hZ hP hS rfl (wc_25 A cI cJ cZ z_10) rfl rfl rfl hl.1 (Nat.le_of_ble_eq_true rfl) ⟨Nat.zero_le _, Nat.zero_le _⟩ dX9_sureAt_52 (fun H locs hP hS => ?_)
          refine lv_istore (lv' := [(5, .int r_14), (0, .ref (A 25)), (1, .int p0), (2, .int p1), (3, .int p2), (4, .int p3)]) hx hb dX9_sureAt_55 hl (by decide) rfl (fun ls hl => ?_)
          refine lv_iload hx hb dX9_sureAt_57 (lv_at hl 0 rfl) ?_
          refine lv_bipush (v := -9) hx hb dX9_sureAt_59 (by decide) ?_
          refine lv_icmp_eq (tgt := 78) hx hb dX9_sureAt_61 (by decide) (fun c_17 => ?_) (fun c_17 => ?_)
          · have hf := it_t c_17 hf
            refine lv_bipush (v := -9) hx hb dX9_sureAt_78 (by decide) ?_
            refine lv_goto (tgt := 91) hx hb dX9_sureAt_80 (by decide) ?_
            exact retI hx hb hr hlocks hP hS hf dX9_sureAt_91
          · have hf := it_f c_17 hf
            refine lv_iload hx hb dX9_sureAt_64 (lv_at hl 5 rfl) ?_
            refine lv_i2l hx hb dX9_sureAt_66 rfl ?_
            refine lv_lconst (v := 0) hx hb dX9_sureAt_67 rfl ?_
            refine lv_iload_n hx hb dX9_sureAt_68 rfl (lv_at hl 3 rfl) ?_
            refine lv_iconst (v := 1) hx hb dX9_sureAt_69 (by decide) ?_
            refine lv_isub hx hb dX9_sureAt_70 ?_
            refine lv_i2l hx hb dX9_sureAt_71 rfl ?_
            obtain ⟨r_18, z_19, h_20, hf⟩ := cl_el hf
            refine callSI (As := [.long (p3.toInt64), .long (0 : Int64), .long ((p1 - (1 : Int32)).toInt64)]) (rest := []) ⟨hx, hb, hml, hown, hts⟩ (tX9_in (l := l) (dC := dC) (dI := dI) (t0 := t0) (cI := cI) (cJ := cJ) (cZ := cZ) hA h_20) (va_cwS 3 hts gX9_sureAt_X9_in rfl rfl rfl (by decide +kernel) ⟨Nat.le_of_ble_eq_true rfl, Nat.le_of_ble_eq_true rfl⟩) hK hZ hP hS rfl rfl hl.1 (Nat.le_of_ble_eq_true rfl) ⟨Nat.zero_le _, Nat.zero_le _⟩ dX9_sureAt_72 (fun H locs hP hS => ?_)
            refine lv_if_ne (tgt := 83) hx hb dX9_sureAt_75 (by decide) (fun c_21 => ?_) (fun c_21 => ?_)
            · have hf := it_f c_21 hf
              refine lv_iload hx hb dX9_sureAt_83 (lv_at hl 0 rfl) ?_
              refine lv_iload_n hx hb dX9_sureAt_85 rfl (lv_at hl 3 rfl) ?_
              refine lv_iload hx hb dX9_sureAt_86 (lv_at hl 5 rfl) ?_
              obtain ⟨r_22, z_23, h_24, hf⟩ := cl_el hf
              refine callSI (As := [.int r_14, .int p1, .int p3]) (rest := []) ⟨hx, hb, hml, hown, hts⟩ (tX9_share (l := l) (dC := dC) (dI := dI) (t0 := t0) (cI := cI) (cJ := cJ) (cZ := cZ) hA h_24) (va_cwS 3 hts gX9_sureAt_X9_share rfl rfl rfl (by decide +kernel) ⟨Nat.le_of_ble_eq_true rfl, Nat.le_of_ble_eq_true rfl⟩) hK hZ hP hS rfl rfl hl.1 (Nat.le_of_ble_eq_true rfl) ⟨Nat.zero_le _, Nat.zero_le _⟩ dX9_sureAt_88 (fun H locs hP hS => ?_)
              exact retI hx hb hr hlocks hP hS hf dX9_sureAt_91
            · have hf := it_t c_21 hf
              refine lv_bipush (v := -9) hx hb dX9_sureAt_78 (by decide) ?_
              refine lv_goto (tgt := 91) hx hb dX9_sureAt_80 (by decide) ?_
              exact retI hx hb hr hlocks hP hS hf dX9_sureAt_91
        · have hf := it_t c_13 hf
          refine lv_bipush (v := -3) hx hb dX9_sureAt_45 (by decide) ?_
          exact retI hx hb hr hlocks hP hS hf dX9_sureAt_47
      · have hf := it_t c_12 hf
        refine lv_bipush (v := -2) hx hb dX9_sureAt_34 (by decide) ?_
        exact retI hx hb hr hlocks hP hS hf dX9_sureAt_36
  · have hf := it_t c_4 hf
    refine lv_iconst (v := -1) hx hb dX9_sureAt_8 (by decide) ?_
    exact retI hx hb hr hlocks hP hS hf dX9_sureAt_9
