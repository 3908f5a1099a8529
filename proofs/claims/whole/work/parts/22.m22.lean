set_option maxHeartbeats 4000000 in
set_option maxRecDepth 100000 in
theorem tX9_mayBe {l : Launch} {dC : Nat → ClassId} {dI : Nat → Nat → Nat} {A : Nat → Nat} {t0 : Nat} {cI cJ cZ : ClassId} (hA : dst A) {p0 : Int32} {z : Mem} {r : Int32} {z' : Mem} (hf : fX9_mayBe p0 z = some (r, z')) : MI l dC dI A t0 cI cJ cZ yX9_mayBe wsX9_mayBe 0 [.ref (A 25), .int p0] z r z' := by
  refine Met.ofW (cc := cX9_mayBe) (maxL := 9) (ret := (some .int)) (by decide) rfl ?_
  intro p e s m args below meth c s₁ B hml hv
  obtain ⟨rfl, hP, hK, hZ⟩ := hv
  have hx := B.exec
  have hb := B.bytes
  have hr := B.returns
  have hts := atoms_spec (ws := wsX9_mayBe) B.pre
  have hown : s.vm.findClass RX9 = some m.cls := findClass_of_methodNamed B.named
  have hlocks := B.notSynchronized
  have hS : va_S (fr A) s.heap s.heap [] := va_S.rf
  have i9 : ∀ w ∈ wsX90, w ∈ wsX9_mayBe := fun _ h => List.mem_cons_of_mem _ (List.mem_append_right _ h)
  have hl := lv_entry ([.ref (A 25), .int p0]) (n := 9) (Nat.le_of_ble_eq_true rfl)
  rw [lg_entry_eq]
  generalize (lg_sl ([.ref (A 25), .int p0]) ++ List.replicate (9 - (lg_sl ([.ref (A 25), .int p0])).length) Slot.unset).toArray = ls at hl ⊢
  have hl : lv_has ls 9 [(0, .ref (A 25)), (1, .int p0)] := hl
  have hP : wIs dC dI A cI cJ cZ z s.heap := hP
  rw [fX9_mayBe] at hf
  refine lv_iconst (v := 0) hx hb dX9_mayBe_0 (by decide) ?_
  refine lv_istore_n (lv' := [(2, .int (0 : Int32)), (0, .ref (A 25)), (1, .int p0)]) hx hb dX9_mayBe_1 rfl hl (by decide) rfl (fun ls hl => ?_)
  refine lv_iconst (v := 0) hx hb dX9_mayBe_2 (by decide) ?_
  refine lv_istore_n (lv' := [(3, .int (0 : Int32)), (2, .int (0 : Int32)), (0, .ref (A 25)), (1, .int p0)]) hx hb dX9_mayBe_3 rfl hl (by decide) rfl (fun ls hl => ?_)
  obtain ⟨K_1, eK_1, hf⟩ := fX9_mayBe_L4_g hf
  have hEK_1 : ∀ (x2_3 : Int32) (x3_4 : Int32) (z_2 : Mem) (H : Heap) (locs : List Loc) (ls : Array Slot), K_1 x2_3 x3_4 z_2 = some (r, z') → wIs dC dI A cI cJ cZ z_2 H → va_S (fr A) s.heap H locs → lv_has ls 9 [(0, .ref (A 25)), (1, .int p0), (2, .int x2_3), (3, .int x3_4)] → WI p l e wsX9_mayBe 0 s m [.ref (A 25), .int p0] below meth c dC dI A cI cJ cZ r z' H locs (F0 m 147 ls []) := by
    intro x2_3 x3_4 z_2 H locs ls hf hP hS hl
    have hf := ap3 eK_1 hf
    refine lv_iload_n hx hb dX9_mayBe_147 rfl (lv_at hl 2 rfl) ?_
    exact retI hx hb hr hlocks hP hS hf dX9_mayBe_148
  have hLK_1 : ∀ (n_8 : Nat) (x2_6 : Int32) (x3_7 : Int32) (z_5 : Mem) (H : Heap) (locs : List Loc) (ls : Array Slot), fX9_mayBe_L4 K_1 p0 n_8 x2_6 x3_7 z_5 = some (r, z') → wIs dC dI A cI cJ cZ z_5 H → va_S (fr A) s.heap H locs → lv_has ls 9 [(0, .ref (A 25)), (1, .int p0), (2, .int x2_6), (3, .int x3_7)] → WI p l e wsX9_mayBe 0 s m [.ref (A 25), .int p0] below meth c dC dI A cI cJ cZ r z' H locs (F0 m 4 ls []) := by
    intro n_8
    induction n_8 with
    | zero => intro x2_6 x3_7 z_5 H locs ls hf; rw [fX9_mayBe_L4_0] at hf; cases hf
    | succ n_8 ihK_1 =>
      intro x2_6 x3_7 z_5 H locs ls hf hP hS hl
      rw [fX9_mayBe_L4_s] at hf
      refine lv_iload_n hx hb dX9_mayBe_4 rfl (lv_at hl 3 rfl) ?_
      refine lv_bipush (v := 9) hx hb dX9_mayBe_5 (by decide) ?_
      refine lv_icmp_ge (tgt := 147) hx hb dX9_mayBe_7 (by decide) (fun c_9 => ?_) (fun c_9 => ?_)
      · have hf := it_t c_9 hf
        exact hEK_1 _ _ _ _ _ _ hf hP hS (lv_sub hl [0, 1, 2, 3] rfl)
      · have hf := it_f c_9 hf
        refine lv_iconst (v := 1) hx hb dX9_mayBe_10 (by decide) ?_
        refine lv_istore (lv' := [(4, .int (1 : Int32)), (0, .ref (A 25)), (1, .int p0), (2, .int x2_6), (3, .int x3_7)]) hx hb dX9_mayBe_11 hl (by decide) rfl (fun ls hl => ?_)
        refine lv_iconst (v := 0) hx hb dX9_mayBe_13 (by decide) ?_
        refine lv_istore (lv' := [(5, .int (0 : Int32)), (4, .int (1 : Int32)), (0, .ref (A 25)), (1, .int p0), (2, .int x2_6), (3, .int x3_7)]) hx hb dX9_mayBe_14 hl (by decide) rfl (fun ls hl => ?_)
        obtain ⟨K_10, eK_10, hf⟩ := fX9_mayBe_L16_g hf
        have hEK_10 : ∀ (x4_12 : Int32) (x5_13 : Int32) (z_11 : Mem) (H : Heap) (locs : List Loc) (ls : Array Slot), K_10 x4_12 x5_13 z_11 = some (r, z') → wIs dC dI A cI cJ cZ z_11 H → va_S (fr A) s.heap H locs → lv_has ls 9 [(0, .ref (A 25)), (1, .int p0), (2, .int x2_6), (3, .int x3_7), (4, .int x4_12), (5, .int x5_13)] → WI p l e wsX9_mayBe 0 s m [.ref (A 25), .int p0] below meth c dC dI A cI cJ cZ r z' H locs (F0 m 126 ls []) := by
          intro x4_12 x5_13 z_11 H locs ls hf hP hS hl
          have hf := ap3 eK_10 hf
          refine lv_iload_n hx hb dX9_mayBe_126 rfl (lv_at hl 2 rfl) ?_
          refine lv_iload hx hb dX9_mayBe_127 (lv_at hl 4 rfl) ?_
          refine lv_if_eq (tgt := 138) hx hb dX9_mayBe_129 (by decide) (fun c_14 => ?_) (fun c_14 => ?_)
          · have hf := it_t c_14 hf
            refine lv_iconst (v := 0) hx hb dX9_mayBe_138 (by decide) ?_
            refine lv_ior hx hb dX9_mayBe_139 ?_
            refine lv_topi (fun x2_15 ex2_15 => ?_)
            have hf := lt_at ex2_15 hf; clear ex2_15
            refine lv_istore_n (lv' := [(2, .int x2_15), (0, .ref (A 25)), (1, .int p0), (3, .int x3_7), (4, .int x4_12), (5, .int x5_13)]) hx hb dX9_mayBe_140 rfl hl (by decide) rfl (fun ls hl => ?_)
            obtain ⟨x3_16, ex3_16⟩ : ∃ q : Int32, q = x3_7 + (1 : Int32) := ⟨_, rfl⟩
            refine lv_iinc (v := x3_16) (lv' := [(3, .int x3_16), (2, .int x2_15), (0, .ref (A 25)), (1, .int p0), (4, .int x4_12), (5, .int x5_13)]) hx hb dX9_mayBe_141 hl (k := 3) rfl (by rw [ex3_16]; rfl) (by decide) rfl (fun ls hl => ?_)
            have hf := lt_at ex3_16 hf; clear ex3_16
            refine lv_goto (tgt := 4) hx hb dX9_mayBe_144 (by decide) ?_
            exact ihK_1 _ _ _ _ _ _ hf hP hS (lv_sub hl [2, 3, 1, 0] rfl)
          · have hf := it_f c_14 hf
            refine lv_iconst (v := 1) hx hb dX9_mayBe_132 (by decide) ?_
            refine lv_iload_n hx hb dX9_mayBe_133 rfl (lv_at hl 3 rfl) ?_
            refine lv_ishl hx hb dX9_mayBe_134 ?_
            refine lv_goto (tgt := 139) hx hb dX9_mayBe_135 (by decide) ?_
            refine lv_ior hx hb dX9_mayBe_139 ?_
            refine lv_topi (fun x2_17 ex2_17 => ?_)
            have hf := lt_at ex2_17 hf; clear ex2_17
            refine lv_istore_n (lv' := [(2, .int x2_17), (0, .ref (A 25)), (1, .int p0), (3, .int x3_7), (4, .int x4_12), (5, .int x5_13)]) hx hb dX9_mayBe_140 rfl hl (by decide) rfl (fun ls hl => ?_)
            obtain ⟨x3_18, ex3_18⟩ : ∃ q : Int32, q = x3_7 + (1 : Int32) := ⟨_, rfl⟩
            refine lv_iinc (v := x3_18) (lv' := [(3, .int x3_18), (2, .int x2_17), (0, .ref (A 25)), (1, .int p0), (4, .int x4_12), (5, .int x5_13)]) hx hb dX9_mayBe_141 hl (k := 3) rfl (by rw [ex3_18]; rfl) (by decide) rfl (fun ls hl => ?_)
            have hf := lt_at ex3_18 hf; clear ex3_18
            refine lv_goto (tgt := 4) hx hb dX9_mayBe_144 (by decide) ?_
            exact ihK_1 _ _ _ _ _ _ hf hP hS (lv_sub hl [2, 3, 1, 0] rfl)
        have hLK_10 : ∀ (n_22 : Nat) (x4_20 : Int32) (x5_21 : Int32) (z_19 : Mem) (H : Heap) (locs : List Loc) (ls : Array Slot), fX9_mayBe_L16 K_10 p0 x3_7 n_22 x4_20 x5_21 z_19 = some (r, z') → wIs dC dI A cI cJ cZ z_19 H → va_S (fr A) s.heap H locs → lv_has ls 9 [(0, .ref (A 25)), (1, .int p0), (2, .int x2_6), (3, .int x3_7), (4, .int x4_20), (5, .int x5_21)] → WI p l e wsX9_mayBe 0 s m [.ref (A 25), .int p0] below meth c dC dI A cI cJ cZ r z' H locs (F0 m 16 ls []) := by
          intro n_22
          induction n_22 with
          | zero => intro x4_20 x5_21 z_19 H locs ls hf; rw [fX9_mayBe_L16_0] at hf; cases hf
          | succ n_22 ihK_10 =>
            intro x4_20 x5_21 z_19 H locs ls hf hP hS hl
            rw [fX9_mayBe_L16_s] at hf
            refine lv_iload hx hb dX9_mayBe_16 (lv_at hl 5 rfl) ?_
            refine lv_aload_n hx hb dX9_mayBe_18 rfl (lv_at hl 0 rfl) ?_
            refine va_get (D := (dC, dI)) (ci := 9) (v := .int (z_19.1 25 17)) (C := RX9) (T := TX9) (N := 34) hx hb hts i9 hown hK hP 25 (wc_25 A cI cJ cZ z_19) rfl 17 (by decide) (hts (.fieldLink RX9 164 "LightestRulesModel" "weighings" "I") (by decide +kernel)) (fun _ h9 => h9) rfl dX9_mayBe_19 ?_
            refine lv_icmp_ge (tgt := 126) hx hb dX9_mayBe_22 (by decide) (fun c_23 => ?_) (fun c_23 => ?_)
            · have hf := it_t c_23 hf
              exact hEK_10 _ _ _ _ _ _ hf hP hS (lv_sub hl [0, 1, 2, 3, 4, 5] rfl)
            · have hf := it_f c_23 hf
              refine lv_aload_n hx hb dX9_mayBe_25 rfl (lv_at hl 0 rfl) ?_
              refine va_get (D := (dC, dI)) (ci := 9) (v := .ref (A 30)) (C := RX9) (T := TX9) (N := 34) hx hb hts i9 hown hK hP 25 (wc_25 A cI cJ cZ z_19) rfl 18 (by decide) (hts (.fieldLink RX9 22 "LightestRulesModel" "lefts" "[I") (by decide +kernel)) (fun _ h9 => h9) rfl dX9_mayBe_26 ?_
              refine lv_iload hx hb dX9_mayBe_29 (lv_at hl 5 rfl) ?_
              obtain ⟨n_24, hf⟩ := rg_el hf
              refine va_iald hx hb hK hP 30 0 (wc_30 A cI cJ cZ z_19) rfl n_24 dX9_mayBe_31 ?_
              refine lv_topi (fun a_25 ea_25 => ?_)
              have hf := lt_at ea_25 hf; clear ea_25
              refine lv_iload_n hx hb dX9_mayBe_32 rfl (lv_at hl 3 rfl) ?_
              refine lv_ishr hx hb dX9_mayBe_33 ?_
              refine lv_iconst (v := 1) hx hb dX9_mayBe_34 (by decide) ?_
              refine lv_iand hx hb dX9_mayBe_35 ?_
              refine lv_iconst (v := 1) hx hb dX9_mayBe_36 (by decide) ?_
              obtain ⟨K_26, eK_26, hf⟩ := jn_el hf
              have hK_26 : ∀ (v_27 : Int32) (z_28 : Mem) (H : Heap) (locs : List Loc) (ls : Array Slot), K_26 v_27 z_28 = some (r, z') → wIs dC dI A cI cJ cZ z_28 H → va_S (fr A) s.heap H locs → lv_has ls 9 [(0, .ref (A 25)), (1, .int p0), (2, .int x2_6), (3, .int x3_7), (4, .int x4_20), (5, .int x5_21)] → WI p l e wsX9_mayBe 0 s m [.ref (A 25), .int p0] below meth c dC dI A cI cJ cZ r z' H locs (F0 m 45 ls [.int v_27]) := by
                intro v_27 z_28 H locs ls hf hP hS hl
                have hf := ap2 eK_26 hf
                refine lv_istore (lv' := [(6, .int v_27), (0, .ref (A 25)), (1, .int p0), (2, .int x2_6), (3, .int x3_7), (4, .int x4_20), (5, .int x5_21)]) hx hb dX9_mayBe_45 hl (by decide) rfl (fun ls hl => ?_)
                refine lv_aload_n hx hb dX9_mayBe_47 rfl (lv_at hl 1 rfl) ?_
                refine va_get (D := (dC, dI)) (ci := 9) (v := .ref (A 31)) (C := RX9) (T := TX9) (N := 34) hx hb hts i9 hown hK hP 25 (wc_25 A cI cJ cZ z_28) rfl 19 (by decide) (hts (.fieldLink RX9 25 "LightestRulesModel" "rights" "[I") (by decide +kernel)) (fun _ h9 => h9) rfl dX9_mayBe_48 ?_
                refine lv_iload hx hb dX9_mayBe_51 (lv_at hl 6 rfl) ?_
                obtain ⟨n_29, hf⟩ := rg_el hf
                refine va_iald hx hb hK hP 31 0 (wc_31 A cI cJ cZ z_28) rfl n_29 dX9_mayBe_53 ?_
                refine lv_topi (fun a_30 ea_30 => ?_)
                have hf := lt_at ea_30 hf; clear ea_30
                refine lv_iload_n hx hb dX9_mayBe_54 rfl (lv_at hl 4 rfl) ?_
                refine lv_ishr hx hb dX9_mayBe_55 ?_
                refine lv_iconst (v := 1) hx hb dX9_mayBe_56 (by decide) ?_
                refine lv_iand hx hb dX9_mayBe_57 ?_
                refine lv_iconst (v := 1) hx hb dX9_mayBe_58 (by decide) ?_
                obtain ⟨K_31, eK_31, hf⟩ := jn_el hf
                have hK_31 : ∀ (v_32 : Int32) (z_33 : Mem) (H : Heap) (locs : List Loc) (ls : Array Slot), K_31 v_32 z_33 = some (r, z') → wIs dC dI A cI cJ cZ z_33 H → va_S (fr A) s.heap H locs → lv_has ls 9 [(6, .int v_27), (0, .ref (A 25)), (1, .int p0), (2, .int x2_6), (3, .int x3_7), (4, .int x4_20), (5, .int x5_21)] → WI p l e wsX9_mayBe 0 s m [.ref (A 25), .int p0] below meth c dC dI A cI cJ cZ r z' H locs (F0 m 67 ls [.int v_32]) := by
                  intro v_32 z_33 H locs ls hf hP hS hl
                  have hf := ap2 eK_31 hf
                  refine lv_istore (lv' := [(7, .int v_32), (6, .int v_27), (0, .ref (A 25)), (1, .int p0), (2, .int x2_6), (3, .int x3_7), (4, .int x4_20), (5, .int x5_21)]) hx hb dX9_mayBe_67 hl (by decide) rfl (fun ls hl => ?_)
                  refine lv_iload hx hb dX9_mayBe_69 (lv_at hl 1 rfl) ?_
                  obtain ⟨K_34, eK_34, hf⟩ := jn_el hf
                  have hK_34 : ∀ (v_35 : Int32) (z_36 : Mem) (H : Heap) (locs : List Loc) (ls : Array Slot), K_34 v_35 z_36 = some (r, z') → wIs dC dI A cI cJ cZ z_36 H → va_S (fr A) s.heap H locs → lv_has ls 9 [(7, .int v_32), (6, .int v_27), (0, .ref (A 25)), (1, .int p0), (2, .int x2_6), (3, .int x3_7), (4, .int x4_20), (5, .int x5_21)] → WI p l e wsX9_mayBe 0 s m [.ref (A 25), .int p0] below meth c dC dI A cI cJ cZ r z' H locs (F0 m 94 ls [.int v_35]) := by
                    intro v_35 z_36 H locs ls hf hP hS hl
                    have hf := ap2 eK_34 hf
                    refine lv_istore (lv' := [(8, .int v_35), (7, .int v_32), (6, .int v_27), (0, .ref (A 25)), (1, .int p0), (2, .int x2_6), (3, .int x3_7), (4, .int x4_20), (5, .int x5_21)]) hx hb dX9_mayBe_94 hl (by decide) rfl (fun ls hl => ?_)
                    refine lv_iload hx hb dX9_mayBe_96 (lv_at hl 7 rfl) ?_
                    refine lv_if_eq (tgt := 117) hx hb dX9_mayBe_98 (by decide) (fun c_37 => ?_) (fun c_37 => ?_)
                    · have hf := it_t c_37 hf
                      refine lv_iconst (v := 0) hx hb dX9_mayBe_117 (by decide) ?_
                      refine lv_istore (lv' := [(4, .int (0 : Int32)), (8, .int v_35), (7, .int v_32), (6, .int v_27), (0, .ref (A 25)), (1, .int p0), (2, .int x2_6), (3, .int x3_7), (5, .int x5_21)]) hx hb dX9_mayBe_118 hl (by decide) rfl (fun ls hl => ?_)
                      obtain ⟨x5_38, ex5_38⟩ : ∃ q : Int32, q = x5_21 + (1 : Int32) := ⟨_, rfl⟩
                      refine lv_iinc (v := x5_38) (lv' := [(5, .int x5_38), (4, .int (0 : Int32)), (8, .int v_35), (7, .int v_32), (6, .int v_27), (0, .ref (A 25)), (1, .int p0), (2, .int x2_6), (3, .int x3_7)]) hx hb dX9_mayBe_120 hl (k := 8) rfl (by rw [ex5_38]; rfl) (by decide) rfl (fun ls hl => ?_)
                      have hf := lt_at ex5_38 hf; clear ex5_38
                      refine lv_goto (tgt := 16) hx hb dX9_mayBe_123 (by decide) ?_
                      exact ihK_10 _ _ _ _ _ _ hf hP hS (lv_sub hl [5, 6, 7, 8, 1, 0] rfl)
                    · have hf := it_f c_37 hf
                      refine lv_iload hx hb dX9_mayBe_101 (lv_at hl 0 rfl) ?_
                      refine lv_aload_n hx hb dX9_mayBe_103 rfl (lv_at hl 3 rfl) ?_
                      refine va_get (D := (dC, dI)) (ci := 9) (v := .ref (A 32)) (C := RX9) (T := TX9) (N := 34) hx hb hts i9 hown hK hP 25 (wc_25 A cI cJ cZ z_36) rfl 20 (by decide) (hts (.fieldLink RX9 28 "LightestRulesModel" "comes" "[I") (by decide +kernel)) (fun _ h9 => h9) rfl dX9_mayBe_104 ?_
                      refine lv_iload hx hb dX9_mayBe_107 (lv_at hl 8 rfl) ?_
                      obtain ⟨n_39, hf⟩ := rg_el hf
                      refine va_iald hx hb hK hP 32 0 (wc_32 A cI cJ cZ z_36) rfl n_39 dX9_mayBe_109 ?_
                      refine lv_topi (fun a_40 ea_40 => ?_)
                      have hf := lt_at ea_40 hf; clear ea_40
                      refine lv_icmp_ne (tgt := 117) hx hb dX9_mayBe_110 (by decide) (fun c_41 => ?_) (fun c_41 => ?_)
                      · have hf := it_f c_41 hf
                        refine lv_iconst (v := 0) hx hb dX9_mayBe_117 (by decide) ?_
                        refine lv_istore (lv' := [(4, .int (0 : Int32)), (8, .int v_35), (7, .int v_32), (6, .int v_27), (0, .ref (A 25)), (1, .int p0), (2, .int x2_6), (3, .int x3_7), (5, .int x5_21)]) hx hb dX9_mayBe_118 hl (by decide) rfl (fun ls hl => ?_)
                        obtain ⟨x5_42, ex5_42⟩ : ∃ q : Int32, q = x5_21 + (1 : Int32) := ⟨_, rfl⟩
                        refine lv_iinc (v := x5_42) (lv' := [(5, .int x5_42), (4, .int (0 : Int32)), (8, .int v_35), (7, .int v_32), (6, .int v_27), (0, .ref (A 25)), (1, .int p0), (2, .int x2_6), (3, .int x3_7)]) hx hb dX9_mayBe_120 hl (k := 8) rfl (by rw [ex5_42]; rfl) (by decide) rfl (fun ls hl => ?_)
                        have hf := lt_at ex5_42 hf; clear ex5_42
                        refine lv_goto (tgt := 16) hx hb dX9_mayBe_123 (by decide) ?_
                        exact ihK_10 _ _ _ _ _ _ hf hP hS (lv_sub hl [5, 6, 7, 8, 1, 0] rfl)
                      · have hf := it_t c_41 hf
                        refine lv_iconst (v := 1) hx hb dX9_mayBe_113 (by decide) ?_
                        refine lv_goto (tgt := 118) hx hb dX9_mayBe_114 (by decide) ?_
                        refine lv_istore (lv' := [(4, .int (1 : Int32)), (8, .int v_35), (7, .int v_32), (6, .int v_27), (0, .ref (A 25)), (1, .int p0), (2, .int x2_6), (3, .int x3_7), (5, .int x5_21)]) hx hb dX9_mayBe_118 hl (by decide) rfl (fun ls hl => ?_)
                        obtain ⟨x5_43, ex5_43⟩ : ∃ q : Int32, q = x5_21 + (1 : Int32) := ⟨_, rfl⟩
                        refine lv_iinc (v := x5_43) (lv' := [(5, .int x5_43), (4, .int (1 : Int32)), (8, .int v_35), (7, .int v_32), (6, .int v_27), (0, .ref (A 25)), (1, .int p0), (2, .int x2_6), (3, .int x3_7)]) hx hb dX9_mayBe_120 hl (k := 8) rfl (by rw [ex5_43]; rfl) (by decide) rfl (fun ls hl => ?_)
                        have hf := lt_at ex5_43 hf; clear ex5_43
                        refine lv_goto (tgt := 16) hx hb dX9_mayBe_123 (by decide) ?_
                        exact ihK_10 _ _ _ _ _ _ hf hP hS (lv_sub hl [5, 6, 7, 8, 1, 0] rfl)
                  refine lv_if_ne (tgt := 83) hx hb dX9_mayBe_71 (by decide) (fun c_44 => ?_) (fun c_44 => ?_)
                  · have hf := it_f c_44 hf
                    refine lv_iload hx hb dX9_mayBe_83 (lv_at hl 1 rfl) ?_
                    refine lv_iload_n hx hb dX9_mayBe_85 rfl (lv_at hl 3 rfl) ?_
                    refine lv_icmp_ne (tgt := 93) hx hb dX9_mayBe_86 (by decide) (fun c_45 => ?_) (fun c_45 => ?_)
                    · have hf := it_f c_45 hf
                      refine lv_iconst (v := 2) hx hb dX9_mayBe_93 (by decide) ?_
                      exact hK_34 _ _ _ _ _ hf hP hS (lv_sub hl [0, 1, 2, 3, 4, 5, 6, 7] rfl)
                    · have hf := it_t c_45 hf
                      refine lv_iconst (v := 1) hx hb dX9_mayBe_89 (by decide) ?_
                      refine lv_goto (tgt := 94) hx hb dX9_mayBe_90 (by decide) ?_
                      exact hK_34 _ _ _ _ _ hf hP hS (lv_sub hl [0, 1, 2, 3, 4, 5, 6, 7] rfl)
                  · have hf := it_t c_44 hf
                    refine lv_iload hx hb dX9_mayBe_74 (lv_at hl 0 rfl) ?_
                    refine lv_if_ne (tgt := 83) hx hb dX9_mayBe_76 (by decide) (fun c_46 => ?_) (fun c_46 => ?_)
                    · have hf := it_f c_46 hf
                      refine lv_iload hx hb dX9_mayBe_83 (lv_at hl 1 rfl) ?_
                      refine lv_iload_n hx hb dX9_mayBe_85 rfl (lv_at hl 3 rfl) ?_
                      refine lv_icmp_ne (tgt := 93) hx hb dX9_mayBe_86 (by decide) (fun c_47 => ?_) (fun c_47 => ?_)
                      · have hf := it_f c_47 hf
                        refine lv_iconst (v := 2) hx hb dX9_mayBe_93 (by decide) ?_
                        exact hK_34 _ _ _ _ _ hf hP hS (lv_sub hl [0, 1, 2, 3, 4, 5, 6, 7] rfl)
                      · have hf := it_t c_47 hf
                        refine lv_iconst (v := 1) hx hb dX9_mayBe_89 (by decide) ?_
                        refine lv_goto (tgt := 94) hx hb dX9_mayBe_90 (by decide) ?_
                        exact hK_34 _ _ _ _ _ hf hP hS (lv_sub hl [0, 1, 2, 3, 4, 5, 6, 7] rfl)
                    · have hf := it_t c_46 hf
                      refine lv_iconst (v := 0) hx hb dX9_mayBe_79 (by decide) ?_
                      refine lv_goto (tgt := 94) hx hb dX9_mayBe_80 (by decide) ?_
                      exact hK_34 _ _ _ _ _ hf hP hS (lv_sub hl [0, 1, 2, 3, 4, 5, 6, 7] rfl)
                refine lv_icmp_ne (tgt := 66) hx hb dX9_mayBe_59 (by decide) (fun c_48 => ?_) (fun c_48 => ?_)
                · have hf := it_f c_48 hf
                  refine lv_iconst (v := 0) hx hb dX9_mayBe_66 (by decide) ?_
                  exact hK_31 _ _ _ _ _ hf hP hS (lv_sub hl [0, 1, 2, 3, 4, 5, 6] rfl)
                · have hf := it_t c_48 hf
                  refine lv_iconst (v := 1) hx hb dX9_mayBe_62 (by decide) ?_
                  refine lv_goto (tgt := 67) hx hb dX9_mayBe_63 (by decide) ?_
                  exact hK_31 _ _ _ _ _ hf hP hS (lv_sub hl [0, 1, 2, 3, 4, 5, 6] rfl)
              refine lv_icmp_ne (tgt := 44) hx hb dX9_mayBe_37 (by decide) (fun c_49 => ?_) (fun c_49 => ?_)
              · have hf := it_f c_49 hf
                refine lv_iconst (v := 0) hx hb dX9_mayBe_44 (by decide) ?_
                exact hK_26 _ _ _ _ _ hf hP hS (lv_sub hl [0, 1, 2, 3, 4, 5] rfl)
              · have hf := it_t c_49 hf
                refine lv_iconst (v := 1) hx hb dX9_mayBe_40 (by decide) ?_
                refine lv_goto (tgt := 45) hx hb dX9_mayBe_41 (by decide) ?_
                exact hK_26 _ _ _ _ _ hf hP hS (lv_sub hl [0, 1, 2, 3, 4, 5] rfl)
        exact hLK_10 FU _ _ _ _ _ _ hf hP hS (lv_sub hl [2, 3, 4, 5, 1, 0] rfl)
  exact hLK_1 FU _ _ _ _ _ _ hf hP hS (lv_sub hl [2, 3, 1, 0] rfl)
set_option maxHeartbeats 4000000 in
set_option maxRecDepth 100000 in
theorem tX4_append {l : Launch} {dC : Nat → ClassId} {dI : Nat → Nat → Nat} {A : Nat → Nat} {t0 : Nat} {cI cJ cZ : ClassId} (hA : dst A) {p0 : Int32} {p1 : Int32} {z : Mem} {r : Int32} {z' : Mem} (hf : fX4_append p0 p1 z = some (r, z')) : MI l dC dI A t0 cI cJ cZ yX4_append wsX4_append 0 [.ref (A 6), .int p0, .int p1] z r z' := by
  refine Met.ofW (cc := cX4_append) (maxL := 3) (ret := (some .boolean)) (by decide) rfl ?_
  intro p e s m args below meth c s₁ B hml hv
  obtain ⟨rfl, hP, hK, hZ⟩ := hv
  have hx := B.exec
  have hb := B.bytes
  have hr := B.returns
  have hts := atoms_spec (ws := wsX4_append) B.pre
  have hown : s.vm.findClass RX4 = some m.cls := findClass_of_methodNamed B.named
  have hlocks := B.notSynchronized
  have hS : va_S (fr A) s.heap s.heap [] := va_S.rf
  have i4 : ∀ w ∈ wsX40, w ∈ wsX4_append := fun _ h => List.mem_cons_of_mem _ (List.mem_append_right _ h)
  have hl := lv_entry ([.ref (A 6), .int p0, .int p1]) (n := 3) (Nat.le_of_ble_eq_true rfl)
  rw [lg_entry_eq]
  generalize (lg_sl ([.ref (A 6), .int p0, .int p1]) ++ List.replicate (3 - (lg_sl ([.ref (A 6), .int p0, .int p1])).length) Slot.unset).toArray = ls at hl ⊢
  have hl : lv_has ls 3 [(0, .ref (A 6)), (1, .int p0), (2, .int p1)] := hl
  have hP : wIs dC dI A cI cJ cZ z s.heap := hP
  rw [fX4_append] at hf
  refine lv_aload_n hx hb dX4_append_0 rfl (lv_at hl 0 rfl) ?_
  refine va_get (D := (dC, dI)) (ci := 4) (v := .int (z.1 6 4)) (C := RX4) (T := TX4) (N := 7) hx hb hts i4 hown hK hP 6 (wc_6 A cI cJ cZ z) rfl 4 (by decide) (hts (.fieldLink RX4 26 "LightestRules$Searches" "length" "I") (by decide +kernel)) (fun _ h9 => h9) rfl dX4_append_1 ?_
  refine lv_bipush (v := 8) hx hb dX4_append_4 (by decide) ?_
  refine lv_icmp_ne (tgt := 11) hx hb dX4_append_6 (by decide) (fun c_1 => ?_) (fun c_1 => ?_)
  · have hf := it_f c_1 hf
    refine lv_aload_n hx hb dX4_append_11 rfl (lv_at hl 0 rfl) ?_
    refine va_get (D := (dC, dI)) (ci := 4) (v := .ref (A 17)) (C := RX4) (T := TX4) (N := 7) hx hb hts i4 hown hK hP 6 (wc_6 A cI cJ cZ z) rfl 0 (by decide) (hts (.fieldLink RX4 11 "LightestRules$Searches" "searched" "[I") (by decide +kernel)) (fun _ h9 => h9) rfl dX4_append_12 ?_
    refine lv_aload_n hx hb dX4_append_15 rfl (lv_at hl 0 rfl) ?_
    refine va_get (D := (dC, dI)) (ci := 4) (v := .int (z.1 6 4)) (C := RX4) (T := TX4) (N := 7) hx hb hts i4 hown hK hP 6 (wc_6 A cI cJ cZ z) rfl 4 (by decide) (hts (.fieldLink RX4 26 "LightestRules$Searches" "length" "I") (by decide +kernel)) (fun _ h9 => h9) rfl dX4_append_16 ?_
    refine lv_iload_n hx hb dX4_append_19 rfl (lv_at hl 1 rfl) ?_
    obtain ⟨n_2, hf⟩ := rg_el hf
    refine va_iast hx hb hK hP (wD hA cI cJ cZ z) hS 17 0 (wc_17 A cI cJ cZ z) rfl n_2 dX4_append_20 (fun H locs hP _ hS => ?_)
    rw [wa_17 A cI cJ cZ z (z.1 6 4).toNatClampNeg p0] at hP
    obtain ⟨z_3, hP, hf⟩ := lt_P (P := fun q => wIs dC dI A cI cJ cZ q H) hP hf
    refine lv_aload_n hx hb dX4_append_21 rfl (lv_at hl 0 rfl) ?_
    refine va_get (D := (dC, dI)) (ci := 4) (v := .ref (A 18)) (C := RX4) (T := TX4) (N := 7) hx hb hts i4 hown hK hP 6 (wc_6 A cI cJ cZ z_3) rfl 1 (by decide) (hts (.fieldLink RX4 15 "LightestRules$Searches" "missing" "[I") (by decide +kernel)) (fun _ h9 => h9) rfl dX4_append_22 ?_
    refine lv_aload_n hx hb dX4_append_25 rfl (lv_at hl 0 rfl) ?_
    refine va_get (D := (dC, dI)) (ci := 4) (v := .int (z_3.1 6 4)) (C := RX4) (T := TX4) (N := 7) hx hb hts i4 hown hK hP 6 (wc_6 A cI cJ cZ z_3) rfl 4 (by decide) (hts (.fieldLink RX4 26 "LightestRules$Searches" "length" "I") (by decide +kernel)) (fun _ h9 => h9) rfl dX4_append_26 ?_
    refine lv_iload_n hx hb dX4_append_29 rfl (lv_at hl 2 rfl) ?_
    obtain ⟨n_4, hf⟩ := rg_el hf
    refine va_iast hx hb hK hP (wD hA cI cJ cZ z_3) hS 18 0 (wc_18 A cI cJ cZ z_3) rfl n_4 dX4_append_30 (fun H locs hP _ hS => ?_)
    rw [wa_18 A cI cJ cZ z_3 (z_3.1 6 4).toNatClampNeg p1] at hP
    obtain ⟨z_5, hP, hf⟩ := lt_P (P := fun q => wIs dC dI A cI cJ cZ q H) hP hf
    refine lv_aload_n hx hb dX4_append_31 rfl (lv_at hl 0 rfl) ?_
    refine lv_dup hx hb dX4_append_32 rfl ?_
    refine va_get (D := (dC, dI)) (ci := 4) (v := .int (z_5.1 6 4)) (C := RX4) (T := TX4) (N := 7) hx hb hts i4 hown hK hP 6 (wc_6 A cI cJ cZ z_5) rfl 4 (by decide) (hts (.fieldLink RX4 26 "LightestRules$Searches" "length" "I") (by decide +kernel)) (fun _ h9 => h9) rfl dX4_append_33 ?_
    refine lv_iconst (v := 1) hx hb dX4_append_36 (by decide) ?_
    refine lv_iadd hx hb dX4_append_37 ?_
    refine lv_topi (fun y_6 ey_6 => ?_)
    have hf := lt_at ey_6 hf; clear ey_6
    refine va_put (D := (dC, dI)) (ci := 4) (v := .int y_6) (ty := .int) (C := RX4) (T := TX4) (N := 7) hx hb hts i4 tyX4 tyX4_ok nmX4 hown hK hP (wD hA cI cJ cZ z_5) hS 6 (wc_6 A cI cJ cZ z_5) rfl 4 (by decide) (hts (.fieldLink RX4 26 "LightestRules$Searches" "length" "I") (by decide +kernel)) (fun _ h9 => h9) rfl (by decide +kernel) rfl rfl (Nat.le_of_ble_eq_true rfl) dX4_append_38 (fun H locs hP _ hS => ?_)
    rw [ws_6_4 A cI cJ cZ z_5 y_6] at hP
    obtain ⟨z_7, hP, hf⟩ := lt_P (P := fun q => wIs dC dI A cI cJ cZ q H) hP hf
    refine lv_aload_n hx hb dX4_append_41 rfl (lv_at hl 0 rfl) ?_
    refine lv_iconst (v := 0) hx hb dX4_append_42 (by decide) ?_
    refine va_put (D := (dC, dI)) (ci := 4) (v := .int (0 : Int32)) (ty := .boolean) (C := RX4) (T := TX4) (N := 7) hx hb hts i4 tyX4 tyX4_ok nmX4 hown hK hP (wD hA cI cJ cZ z_7) hS 6 (wc_6 A cI cJ cZ z_7) rfl 6 (by decide) (hts (.fieldLink RX4 33 "LightestRules$Searches" "fresh" "Z") (by decide +kernel)) (fun _ h9 => h9) rfl (by decide +kernel) rfl rfl (Nat.le_of_ble_eq_true rfl) dX4_append_43 (fun H locs hP _ hS => ?_)
    rw [ws_6_6 A cI cJ cZ z_7 (0 : Int32)] at hP
    obtain ⟨z_8, hP, hf⟩ := lt_P (P := fun q => wIs dC dI A cI cJ cZ q H) hP hf
    refine lv_iconst (v := 1) hx hb dX4_append_46 (by decide) ?_
    exact retZ hx hb hr hlocks rfl hP hS hf dX4_append_47
  · have hf := it_t c_1 hf
    refine lv_iconst (v := 0) hx hb dX4_append_9 (by decide) ?_
    exact retZ hx hb hr hlocks rfl hP hS hf dX4_append_10
set_option maxHeartbeats 4000000 in
set_option maxRecDepth 100000 in
theorem tX4_length {l : Launch} {dC : Nat → ClassId} {dI : Nat → Nat → Nat} {A : Nat → Nat} {t0 : Nat} {cI cJ cZ : ClassId} (hA : dst A)  {z : Mem} {r : Int32} {z' : Mem} (hf : fX4_length z = some (r, z')) : MI l dC dI A t0 cI cJ cZ yX4_length wsX4_length 0 [.ref (A 6)] z r z' := by
  refine Met.ofW (cc := cX4_length) (maxL := 1) (ret := (some .int)) (by decide) rfl ?_
  intro p e s m args below meth c s₁ B hml hv
  obtain ⟨rfl, hP, hK, hZ⟩ := hv
  have hx := B.exec
  have hb := B.bytes
  have hr := B.returns
  have hts := atoms_spec (ws := wsX4_length) B.pre
  have hown : s.vm.findClass RX4 = some m.cls := findClass_of_methodNamed B.named
  have hlocks := B.notSynchronized
  have hS : va_S (fr A) s.heap s.heap [] := va_S.rf
  have i4 : ∀ w ∈ wsX40, w ∈ wsX4_length := fun _ h => List.mem_cons_of_mem _ (List.mem_append_right _ h)
  have hl := lv_entry ([.ref (A 6)]) (n := 1) (Nat.le_of_ble_eq_true rfl)
  rw [lg_entry_eq]
  generalize (lg_sl ([.ref (A 6)]) ++ List.replicate (1 - (lg_sl ([.ref (A 6)])).length) Slot.unset).toArray = ls at hl ⊢
  have hl : lv_has ls 1 [(0, .ref (A 6))] := hl
  have hP : wIs dC dI A cI cJ cZ z s.heap := hP
  rw [fX4_length] at hf
  refine lv_aload_n hx hb dX4_length_0 rfl (lv_at hl 0 rfl) ?_
  refine va_get (D := (dC, dI)) (ci := 4) (v := .int (z.1 6 4)) (C := RX4) (T := TX4) (N := 7) hx hb hts i4 hown hK hP 6 (wc_6 A cI cJ cZ z) rfl 4 (by decide) (hts (.fieldLink RX4 26 "LightestRules$Searches" "length" "I") (by decide +kernel)) (fun _ h9 => h9) rfl dX4_length_1 ?_
  exact retI hx hb hr hlocks hP hS hf dX4_length_4
set_option maxHeartbeats 4000000 in
set_option maxRecDepth 100000 in
theorem tX8_search {l : Launch} {dC : Nat → ClassId} {dI : Nat → Nat → Nat} {A : Nat → Nat} {t0 : Nat} {cI cJ cZ : ClassId} (hA : dst A) {p0 : Int32} {p1 : Int32} {z : Mem} {r : Int32} {z' : Mem} (hf : fX8_search p0 p1 z = some (r, z')) : MI l dC dI A t0 cI cJ cZ yX8_search wsX8_search 1 [.ref (A 0), .int p0, .int p1] z r z' := by
  refine Met.ofW (cc := cX8_search) (maxL := 3) (ret := (some .int)) (by decide) rfl ?_
  intro p e s m args below meth c s₁ B hml hv
  obtain ⟨rfl, hP, hK, hZ⟩ := hv
  have hx := B.exec
  have hb := B.bytes
  have hr := B.returns
  have hts := atoms_spec (ws := wsX8_search) B.pre
  have hown : s.vm.findClass RX8 = some m.cls := findClass_of_methodNamed B.named
  have hlocks := B.notSynchronized
  have hS : va_S (fr A) s.heap s.heap [] := va_S.rf
  have i8 : ∀ w ∈ wsX80, w ∈ wsX8_search := fun _ h => List.mem_cons_of_mem _ (List.mem_append_left _ (List.mem_append_right _ h))
  have hl := lv_entry ([.ref (A 0), .int p0, .int p1]) (n := 3) (Nat.le_of_ble_eq_true rfl)
  rw [lg_entry_eq]
  generalize (lg_sl ([.ref (A 0), .int p0, .int p1]) ++ List.replicate (3 - (lg_sl ([.ref (A 0), .int p0, .int p1])).length) Slot.unset).toArray = ls at hl ⊢
  have hl : lv_has ls 3 [(0, .ref (A 0)), (1, .int p0), (2, .int p1)] := hl
  have hP : wIs dC dI A cI cJ cZ z s.heap := hP
  rw [fX8_search] at hf
  refine lv_iload_n hx hb dX8_search_0 rfl (lv_at hl 1 rfl) ?_
  refine lv_iconst (v := 1) hx hb dX8_search_1 (by decide) ?_
  refine lv_icmp_lt (tgt := 21) hx hb dX8_search_2 (by decide) (fun c_1 => ?_) (fun c_1 => ?_)
  · have hf := it_t c_1 hf
    refine lv_bipush (v := -2) hx hb dX8_search_21 (by decide) ?_
    exact retI hx hb hr hlocks hP hS hf dX8_search_23
  · have hf := it_f c_1 hf
    refine lv_iload_n hx hb dX8_search_5 rfl (lv_at hl 1 rfl) ?_
    refine lv_bipush (v := 31) hx hb dX8_search_6 (by decide) ?_
    refine lv_icmp_gt (tgt := 21) hx hb dX8_search_8 (by decide) (fun c_2 => ?_) (fun c_2 => ?_)
    · have hf := it_t c_2 hf
      refine lv_bipush (v := -2) hx hb dX8_search_21 (by decide) ?_
      exact retI hx hb hr hlocks hP hS hf dX8_search_23
    · have hf := it_f c_2 hf
      refine lv_iload_n hx hb dX8_search_11 rfl (lv_at hl 2 rfl) ?_
      refine lv_if_lt (tgt := 21) hx hb dX8_search_12 (by decide) (fun c_3 => ?_) (fun c_3 => ?_)
      · have hf := it_t c_3 hf
        refine lv_bipush (v := -2) hx hb dX8_search_21 (by decide) ?_
        exact retI hx hb hr hlocks hP hS hf dX8_search_23
      · have hf := it_f c_3 hf
        refine lv_iload_n hx hb dX8_search_15 rfl (lv_at hl 2 rfl) ?_
        refine lv_bipush (v := 45) hx hb dX8_search_16 (by decide) ?_
        refine lv_icmp_le (tgt := 24) hx hb dX8_search_18 (by decide) (fun c_4 => ?_) (fun c_4 => ?_)
        · have hf := it_t c_4 hf
          refine lv_aload_n hx hb dX8_search_24 rfl (lv_at hl 0 rfl) ?_
          refine va_get (D := (dC, dI)) (ci := 8) (v := .ref (A 6)) (C := RX8) (T := TX8) (N := 9) hx hb hts i8 hown hK hP 0 (wc_0 A cI cJ cZ z) rfl 5 (by decide) (hts (.fieldLink RX8 47 "LightestRules" "searches" "LLightestRules$Searches;") (by decide +kernel)) (fun _ h9 => h9) rfl dX8_search_25 ?_
          refine lv_iload_n hx hb dX8_search_28 rfl (lv_at hl 1 rfl) ?_
          refine lv_iload_n hx hb dX8_search_29 rfl (lv_at hl 2 rfl) ?_
          obtain ⟨r_5, z_6, h_7, hf⟩ := cl_el hf
          refine callVI (As := [.int p0, .int p1]) (rest := []) (ci := 4) (q0 := 6) ⟨hx, hb, hml, hown, hts⟩ (tX4_append (l := l) (dC := dC) (dI := dI) (t0 := t0) (cI := cI) (cJ := cJ) (cZ := cZ) hA h_7) (cwV 2 hts gX8_search_X4_append rfl rfl rfl (by decide +kernel) ⟨Nat.le_of_ble_eq_true rfl, Nat.le_of_ble_eq_true rfl⟩) hK hZ hP hS rfl (wc_6 A cI cJ cZ z) rfl rfl rfl hl.1 (Nat.le_of_ble_eq_true rfl) ⟨Nat.zero_le _, Nat.zero_le _⟩ dX8_search_30 (fun H locs hP hS => ?_)
          refine lv_if_eq (tgt := 46) hx hb dX8_search_33 (by decide) (fun c_8 => ?_) (fun c_8 => ?_)
          · have hf := it_t c_8 hf
            refine lv_bipush (v := -4) hx hb dX8_search_46 (by decide) ?_
            exact retI hx hb hr hlocks hP hS hf dX8_search_48
          · have hf := it_f c_8 hf
            refine lv_aload_n hx hb dX8_search_36 rfl (lv_at hl 0 rfl) ?_
            refine va_get (D := (dC, dI)) (ci := 8) (v := .ref (A 6)) (C := RX8) (T := TX8) (N := 9) hx hb hts i8 hown hK hP 0 (wc_0 A cI cJ cZ z_6) rfl 5 (by decide) (hts (.fieldLink RX8 47 "LightestRules" "searches" "LLightestRules$Searches;") (by decide +kernel)) (fun _ h9 => h9) rfl dX8_search_37 ?_
            obtain ⟨r_9, z_10, h_11, hf⟩ := cl_el hf
            refine callVI (As := []) (rest := []) (ci := 4) (q0 := 6) ⟨hx, hb, hml, hown, hts⟩ (tX4_length (l := l) (dC := dC) (dI := dI) (t0 := t0) (cI := cI) (cJ := cJ) (cZ := cZ) hA h_11) (cwV 0 hts gX8_search_X4_length rfl rfl rfl (by decide +kernel) ⟨Nat.le_of_ble_eq_true rfl, Nat.le_of_ble_eq_true rfl⟩) hK hZ hP hS rfl (wc_6 A cI cJ cZ z_6) rfl rfl rfl hl.1 (Nat.le_of_ble_eq_true rfl) ⟨Nat.zero_le _, Nat.zero_le _⟩ dX8_search_40 (fun H locs hP hS => ?_)
            refine lv_goto (tgt := 48) hx hb dX8_search_43 (by decide) ?_
            exact retI hx hb hr hlocks hP hS hf dX8_search_48
        · have hf := it_f c_4 hf
          refine lv_bipush (v := -2) hx hb dX8_search_21 (by decide) ?_
          exact retI hx hb hr hlocks hP hS hf dX8_search_23
set_option maxHeartbeats 4000000 in
set_option maxRecDepth 100000 in
theorem tX9_search {l : Launch} {dC : Nat → ClassId} {dI : Nat → Nat → Nat} {A : Nat → Nat} {t0 : Nat} {cI cJ cZ : ClassId} (hA : dst A) {p0 : Int32} {p1 : Int32} {z : Mem} {r : Int32} {z' : Mem} (hf : fX9_search p0 p1 z = some (r, z')) : MI l dC dI A t0 cI cJ cZ yX9_search wsX9_search 1 [.ref (A 25), .int p0, .int p1] z r z' := by
  refine Met.ofW (cc := cX9_search) (maxL := 3) (ret := (some .int)) (by decide) rfl ?_
  intro p e s m args below meth c s₁ B hml hv
  obtain ⟨rfl, hP, hK, hZ⟩ := hv
  have hx := B.exec
  have hb := B.bytes
  have hr := B.returns
  have hts := atoms_spec (ws := wsX9_search) B.pre
  have hown : s.vm.findClass RX9 = some m.cls := findClass_of_methodNamed B.named
  have hlocks := B.notSynchronized
  have hS : va_S (fr A) s.heap s.heap [] := va_S.rf
  have i9 : ∀ w ∈ wsX90, w ∈ wsX9_search := fun _ h => List.mem_cons_of_mem _ (List.mem_append_right _ h)
  have hl := lv_entry ([.ref (A 25), .int p0, .int p1]) (n := 3) (Nat.le_of_ble_eq_true rfl)
  rw [lg_entry_eq]
  generalize (lg_sl ([.ref (A 25), .int p0, .int p1]) ++ List.replicate (3 - (lg_sl ([.ref (A 25), .int p0, .int p1])).length) Slot.unset).toArray = ls at hl ⊢
  have hl : lv_has ls 3 [(0, .ref (A 25)), (1, .int p0), (2, .int p1)] := hl
  have hP : wIs dC dI A cI cJ cZ z s.heap := hP
  rw [fX9_search] at hf
  refine lv_iload_n hx hb dX9_search_0 rfl (lv_at hl 1 rfl) ?_
  refine lv_i2l hx hb dX9_search_1 rfl ?_
  refine lv_lconst (v := 1) hx hb dX9_search_2 rfl ?_
  refine lv_ldc2 hx hb hown (hts (.constantLong RX9 167 (31)) (by decide +kernel)) dX9_search_3 ?_
  obtain ⟨r_1, z_2, h_3, hf⟩ := cl_el hf
  refine callSI (As := [.long (p0.toInt64), .long (1 : Int64), .long (31 : Int64)]) (rest := []) ⟨hx, hb, hml, hown, hts⟩ (tX9_in (l := l) (dC := dC) (dI := dI) (t0 := t0) (cI := cI) (cJ := cJ) (cZ := cZ) hA h_3) (va_cwS 3 hts gX9_search_X9_in rfl rfl rfl (by decide +kernel) ⟨Nat.le_of_ble_eq_true rfl, Nat.le_of_ble_eq_true rfl⟩) hK hZ hP hS rfl rfl hl.1 (Nat.le_of_ble_eq_true rfl) ⟨Nat.zero_le _, Nat.zero_le _⟩ dX9_search_6 (fun H locs hP hS => ?_)
  refine lv_if_eq (tgt := 24) hx hb dX9_search_9 (by decide) (fun c_4 => ?_) (fun c_4 => ?_)
  · have hf := it_t c_4 hf
    refine lv_bipush (v := -2) hx hb dX9_search_24 (by decide) ?_
    exact retI hx hb hr hlocks hP hS hf dX9_search_26
  · have hf := it_f c_4 hf
    refine lv_iload_n hx hb dX9_search_12 rfl (lv_at hl 2 rfl) ?_
    refine lv_i2l hx hb dX9_search_13 rfl ?_
    refine lv_lconst (v := 0) hx hb dX9_search_14 rfl ?_
    refine lv_ldc2 hx hb hown (hts (.constantLong RX9 169 (45)) (by decide +kernel)) dX9_search_15 ?_
    obtain ⟨r_5, z_6, h_7, hf⟩ := cl_el hf
    refine callSI (As := [.long (p1.toInt64), .long (0 : Int64), .long (45 : Int64)]) (rest := []) ⟨hx, hb, hml, hown, hts⟩ (tX9_in (l := l) (dC := dC) (dI := dI) (t0 := t0) (cI := cI) (cJ := cJ) (cZ := cZ) hA h_7) (va_cwS 3 hts gX9_search_X9_in rfl rfl rfl (by decide +kernel) ⟨Nat.le_of_ble_eq_true rfl, Nat.le_of_ble_eq_true rfl⟩) hK hZ hP hS rfl rfl hl.1 (Nat.le_of_ble_eq_true rfl) ⟨Nat.zero_le _, Nat.zero_le _⟩ dX9_search_18 (fun H locs hP hS => ?_)
    refine lv_if_ne (tgt := 27) hx hb dX9_search_21 (by decide) (fun c_8 => ?_) (fun c_8 => ?_)
    · have hf := it_f c_8 hf
      refine lv_aload_n hx hb dX9_search_27 rfl (lv_at hl 0 rfl) ?_
      refine va_get (D := (dC, dI)) (ci := 9) (v := .int (z_6.1 25 21)) (C := RX9) (T := TX9) (N := 34) hx hb hts i9 hown hK hP 25 (wc_25 A cI cJ cZ z_6) rfl 21 (by decide) (hts (.fieldLink RX9 171 "LightestRulesModel" "searches" "I") (by decide +kernel)) (fun _ h9 => h9) rfl dX9_search_28 ?_
      refine lv_bipush (v := 8) hx hb dX9_search_31 (by decide) ?_
      refine lv_icmp_ne (tgt := 39) hx hb dX9_search_33 (by decide) (fun c_9 => ?_) (fun c_9 => ?_)
      · have hf := it_f c_9 hf
        refine lv_aload_n hx hb dX9_search_39 rfl (lv_at hl 0 rfl) ?_
        refine va_get (D := (dC, dI)) (ci := 9) (v := .ref (A 33)) (C := RX9) (T := TX9) (N := 34) hx hb hts i9 hown hK hP 25 (wc_25 A cI cJ cZ z_6) rfl 22 (by decide) (hts (.fieldLink RX9 31 "LightestRulesModel" "searched" "[I") (by decide +kernel)) (fun _ h9 => h9) rfl dX9_search_40 ?_
        refine lv_aload_n hx hb dX9_search_43 rfl (lv_at hl 0 rfl) ?_
        refine va_get (D := (dC, dI)) (ci := 9) (v := .int (z_6.1 25 21)) (C := RX9) (T := TX9) (N := 34) hx hb hts i9 hown hK hP 25 (wc_25 A cI cJ cZ z_6) rfl 21 (by decide) (hts (.fieldLink RX9 171 "LightestRulesModel" "searches" "I") (by decide +kernel)) (fun _ h9 => h9) rfl dX9_search_44 ?_
        refine lv_iload_n hx hb dX9_search_47 rfl (lv_at hl 1 rfl) ?_
        obtain ⟨n_10, hf⟩ := rg_el hf
        refine va_iast hx hb hK hP (wD hA cI cJ cZ z_6) hS 33 0 (wc_33 A cI cJ cZ z_6) rfl n_10 dX9_search_48 (fun H locs hP _ hS => ?_)
        rw [wa_33 A cI cJ cZ z_6 (z_6.1 25 21).toNatClampNeg p0] at hP
        obtain ⟨z_11, hP, hf⟩ := lt_P (P := fun q => wIs dC dI A cI cJ cZ q H) hP hf
        refine lv_aload_n hx hb dX9_search_49 rfl (lv_at hl 0 rfl) ?_
        refine va_get (D := (dC, dI)) (ci := 9) (v := .ref (A 34)) (C := RX9) (T := TX9) (N := 34) hx hb hts i9 hown hK hP 25 (wc_25 A cI cJ cZ z_11) rfl 23 (by decide) (hts (.fieldLink RX9 34 "LightestRulesModel" "together" "[I") (by decide +kernel)) (fun _ h9 => h9) rfl dX9_search_50 ?_
        refine lv_aload_n hx hb dX9_search_53 rfl (lv_at hl 0 rfl) ?_
        refine va_get (D := (dC, dI)) (ci := 9) (v := .int (z_11.1 25 21)) (C := RX9) (T := TX9) (N := 34) hx hb hts i9 hown hK hP 25 (wc_25 A cI cJ cZ z_11) rfl 21 (by decide) (hts (.fieldLink RX9 171 "LightestRulesModel" "searches" "I") (by decide +kernel)) (fun _ h9 => h9) rfl dX9_search_54 ?_
        refine lv_iload_n hx hb dX9_search_57 rfl (lv_at hl 2 rfl) ?_
        obtain ⟨n_12, hf⟩ := rg_el hf
        refine va_iast hx hb hK hP (wD hA cI cJ cZ z_11) hS 34 0 (wc_34 A cI cJ cZ z_11) rfl n_12 dX9_search_58 (fun H locs hP _ hS => ?_)
        rw [wa_34 A cI cJ cZ z_11 (z_11.1 25 21).toNatClampNeg p1] at hP
        obtain ⟨z_13, hP, hf⟩ := lt_P (P := fun q => wIs dC dI A cI cJ cZ q H) hP hf
        refine lv_aload_n hx hb dX9_search_59 rfl (lv_at hl 0 rfl) ?_
        refine lv_dup hx hb dX9_search_60 rfl ?_
        refine va_get (D := (dC, dI)) (ci := 9) (v := .int (z_13.1 25 21)) (C := RX9) (T := TX9) (N := 34) hx hb hts i9 hown hK hP 25 (wc_25 A cI cJ cZ z_13) rfl 21 (by decide) (hts (.fieldLink RX9 171 "LightestRulesModel" "searches" "I") (by decide +kernel)) (fun _ h9 => h9) rfl dX9_search_61 ?_
        refine lv_iconst (v := 1) hx hb dX9_search_64 (by decide) ?_
        refine lv_iadd hx hb dX9_search_65 ?_
        refine lv_topi (fun y_14 ey_14 => ?_)
        have hf := lt_at ey_14 hf; clear ey_14
        refine va_put (D := (dC, dI)) (ci := 9) (v := .int y_14) (ty := .int) (C := RX9) (T := TX9) (N := 34) hx hb hts i9 tyX9 tyX9_ok nmX9 hown hK hP (wD hA cI cJ cZ z_13) hS 25 (wc_25 A cI cJ cZ z_13) rfl 21 (by decide) (hts (.fieldLink RX9 171 "LightestRulesModel" "searches" "I") (by decide +kernel)) (fun _ h9 => h9) rfl (by decide +kernel) rfl rfl (Nat.le_of_ble_eq_true rfl) dX9_search_66 (fun H locs hP _ hS => ?_)
        rw [ws_25_21 A cI cJ cZ z_13 y_14] at hP
        obtain ⟨z_15, hP, hf⟩ := lt_P (P := fun q => wIs dC dI A cI cJ cZ q H) hP hf
        refine lv_aload_n hx hb dX9_search_69 rfl (lv_at hl 0 rfl) ?_
        refine va_get (D := (dC, dI)) (ci := 9) (v := .int (z_15.1 25 21)) (C := RX9) (T := TX9) (N := 34) hx hb hts i9 hown hK hP 25 (wc_25 A cI cJ cZ z_15) rfl 21 (by decide) (hts (.fieldLink RX9 171 "LightestRulesModel" "searches" "I") (by decide +kernel)) (fun _ h9 => h9) rfl dX9_search_70 ?_
        exact retI hx hb hr hlocks hP hS hf dX9_search_73
      · have hf := it_t c_9 hf
        refine lv_bipush (v := -4) hx hb dX9_search_36 (by decide) ?_
        exact retI hx hb hr hlocks hP hS hf dX9_search_38
    · have hf := it_t c_8 hf
      refine lv_bipush (v := -2) hx hb dX9_search_24 (by decide) ?_
      exact retI hx hb hr hlocks hP hS hf dX9_search_26
set_option maxHeartbeats 4000000 in
set_option maxRecDepth 100000 in
theorem tX4_clear {l : Launch} {dC : Nat → ClassId} {dI : Nat → Nat → Nat} {A : Nat → Nat} {t0 : Nat} {cI cJ cZ : ClassId} (hA : dst A)  {z : Mem} {ru : Unit} {z' : Mem} (hf : fX4_clear z = some (ru, z')) : MV l dC dI A t0 cI cJ cZ yX4_clear wsX4_clear 0 [.ref (A 6)] z z' := by
  refine Met.ofW (cc := cX4_clear) (maxL := 1) (ret := none) (by decide) rfl ?_
  intro p e s m args below meth c s₁ B hml hv
  obtain ⟨rfl, hP, hK, hZ⟩ := hv
  have hx := B.exec
  have hb := B.bytes
  have hr := B.returns
  have hts := atoms_spec (ws := wsX4_clear) B.pre
  have hown : s.vm.findClass RX4 = some m.cls := findClass_of_methodNamed B.named
  have hlocks := B.notSynchronized
  have hS : va_S (fr A) s.heap s.heap [] := va_S.rf
  have i4 : ∀ w ∈ wsX40, w ∈ wsX4_clear := fun _ h => List.mem_cons_of_mem _ (List.mem_append_right _ h)
  have hl := lv_entry ([.ref (A 6)]) (n := 1) (Nat.le_of_ble_eq_true rfl)
  rw [lg_entry_eq]
  generalize (lg_sl ([.ref (A 6)]) ++ List.replicate (1 - (lg_sl ([.ref (A 6)])).length) Slot.unset).toArray = ls at hl ⊢
  have hl : lv_has ls 1 [(0, .ref (A 6))] := hl
  have hP : wIs dC dI A cI cJ cZ z s.heap := hP
  rw [fX4_clear] at hf
  refine lv_aload_n hx hb dX4_clear_0 rfl (lv_at hl 0 rfl) ?_
  refine lv_iconst (v := 0) hx hb dX4_clear_1 (by decide) ?_
  refine va_put (D := (dC, dI)) (ci := 4) (v := .int (0 : Int32)) (ty := .int) (C := RX4) (T := TX4) (N := 7) hx hb hts i4 tyX4 tyX4_ok nmX4 hown hK hP (wD hA cI cJ cZ z) hS 6 (wc_6 A cI cJ cZ z) rfl 4 (by decide) (hts (.fieldLink RX4 26 "LightestRules$Searches" "length" "I") (by decide +kernel)) (fun _ h9 => h9) rfl (by decide +kernel) rfl rfl (Nat.le_of_ble_eq_true rfl) dX4_clear_2 (fun H locs hP _ hS => ?_)
  rw [ws_6_4 A cI cJ cZ z (0 : Int32)] at hP
  obtain ⟨z_1, hP, hf⟩ := lt_P (P := fun q => wIs dC dI A cI cJ cZ q H) hP hf
  refine lv_aload_n hx hb dX4_clear_5 rfl (lv_at hl 0 rfl) ?_
  refine lv_iconst (v := 0) hx hb dX4_clear_6 (by decide) ?_
  refine va_put (D := (dC, dI)) (ci := 4) (v := .int (0 : Int32)) (ty := .boolean) (C := RX4) (T := TX4) (N := 7) hx hb hts i4 tyX4 tyX4_ok nmX4 hown hK hP (wD hA cI cJ cZ z_1) hS 6 (wc_6 A cI cJ cZ z_1) rfl 6 (by decide) (hts (.fieldLink RX4 33 "LightestRules$Searches" "fresh" "Z") (by decide +kernel)) (fun _ h9 => h9) rfl (by decide +kernel) rfl rfl (Nat.le_of_ble_eq_true rfl) dX4_clear_7 (fun H locs hP _ hS => ?_)
  rw [ws_6_6 A cI cJ cZ z_1 (0 : Int32)] at hP
  obtain ⟨z_2, hP, hf⟩ := lt_P (P := fun q => wIs dC dI A cI cJ cZ q H) hP hf
  exact retV hx hb hr hlocks hP hS hf dX4_clear_10
set_option maxHeartbeats 4000000 in
set_option maxRecDepth 100000 in
theorem tX8_unsearch {l : Launch} {dC : Nat → ClassId} {dI : Nat → Nat → Nat} {A : Nat → Nat} {t0 : Nat} {cI cJ cZ : ClassId} (hA : dst A)  {z : Mem} {r : Int32} {z' : Mem} (hf : fX8_unsearch z = some (r, z')) : MI l dC dI A t0 cI cJ cZ yX8_unsearch wsX8_unsearch 1 [.ref (A 0)] z r z' := by
  refine Met.ofW (cc := cX8_unsearch) (maxL := 2) (ret := (some .int)) (by decide) rfl ?_
  intro p e s m args below meth c s₁ B hml hv
  obtain ⟨rfl, hP, hK, hZ⟩ := hv
  have hx := B.exec
  have hb := B.bytes
  have hr := B.returns
  have hts := atoms_spec (ws := wsX8_unsearch) B.pre
  have hown : s.vm.findClass RX8 = some m.cls := findClass_of_methodNamed B.named
  have hlocks := B.notSynchronized
  have hS : va_S (fr A) s.heap s.heap [] := va_S.rf
  have i8 : ∀ w ∈ wsX80, w ∈ wsX8_unsearch := fun _ h => List.mem_cons_of_mem _ (List.mem_append_left _ (List.mem_append_right _ h))
  have hl := lv_entry ([.ref (A 0)]) (n := 2) (Nat.le_of_ble_eq_true rfl)
  rw [lg_entry_eq]
  generalize (lg_sl ([.ref (A 0)]) ++ List.replicate (2 - (lg_sl ([.ref (A 0)])).length) Slot.unset).toArray = ls at hl ⊢
  have hl : lv_has ls 2 [(0, .ref (A 0))] := hl
  have hP : wIs dC dI A cI cJ cZ z s.heap := hP
  rw [fX8_unsearch] at hf
  refine lv_aload_n hx hb dX8_unsearch_0 rfl (lv_at hl 0 rfl) ?_
  refine va_get (D := (dC, dI)) (ci := 8) (v := .ref (A 6)) (C := RX8) (T := TX8) (N := 9) hx hb hts i8 hown hK hP 0 (wc_0 A cI cJ cZ z) rfl 5 (by decide) (hts (.fieldLink RX8 47 "LightestRules" "searches" "LLightestRules$Searches;") (by decide +kernel)) (fun _ h9 => h9) rfl dX8_unsearch_1 ?_
  obtain ⟨r_1, z_2, h_3, hf⟩ := cl_el hf
  refine callVI (As := []) (rest := []) (ci := 4) (q0 := 6) ⟨hx, hb, hml, hown, hts⟩ (tX4_length (l := l) (dC := dC) (dI := dI) (t0 := t0) (cI := cI) (cJ := cJ) (cZ := cZ) hA h_3) (cwV 0 hts gX8_unsearch_X4_length rfl rfl rfl (by decide +kernel) ⟨Nat.le_of_ble_eq_true rfl, Nat.le_of_ble_eq_true rfl⟩) hK hZ hP hS rfl (wc_6 A cI cJ cZ z) rfl rfl rfl hl.1 (Nat.le_of_ble_eq_true rfl) ⟨Nat.zero_le _, Nat.zero_le _⟩ dX8_unsearch_4 (fun H locs hP hS => ?_)
  refine lv_istore_n (lv' := [(1, .int r_1), (0, .ref (A 0))]) hx hb dX8_unsearch_7 rfl hl (by decide) rfl (fun ls hl => ?_)
  refine lv_aload_n hx hb dX8_unsearch_8 rfl (lv_at hl 1 rfl) ?_
  refine va_get (D := (dC, dI)) (ci := 8) (v := .ref (A 6)) (C := RX8) (T := TX8) (N := 9) hx hb hts i8 hown hK hP 0 (wc_0 A cI cJ cZ z_2) rfl 5 (by decide) (hts (.fieldLink RX8 47 "LightestRules" "searches" "LLightestRules$Searches;") (by decide +kernel)) (fun _ h9 => h9) rfl dX8_unsearch_9 ?_
  obtain ⟨r_4, z_5, h_6, hf⟩ := cl_el hf
  refine callVV (As := []) (rest := []) (ci := 4) (q0 := 6) ⟨hx, hb, hml, hown, hts⟩ (tX4_clear (l := l) (dC := dC) (dI := dI) (t0 := t0) (cI := cI) (cJ := cJ) (cZ := cZ) hA h_6) (cwV 0 hts gX8_unsearch_X4_clear rfl rfl rfl (by decide +kernel) ⟨Nat.le_of_ble_eq_true rfl, Nat.le_of_ble_eq_true rfl⟩) hK hZ hP hS rfl (wc_6 A cI cJ cZ z_2) rfl rfl rfl hl.1 (Nat.le_of_ble_eq_true rfl) ⟨Nat.zero_le _, Nat.zero_le _⟩ dX8_unsearch_12 (fun H locs hP hS => ?_)
  refine lv_iload_n hx hb dX8_unsearch_15 rfl (lv_at hl 0 rfl) ?_
  exact retI hx hb hr hlocks hP hS hf dX8_unsearch_16
set_option maxHeartbeats 4000000 in
set_option maxRecDepth 100000 in
theorem tX9_unsearch {l : Launch} {dC : Nat → ClassId} {dI : Nat → Nat → Nat} {A : Nat → Nat} {t0 : Nat} {cI cJ cZ : ClassId} (hA : dst A)  {z : Mem} {r : Int32} {z' : Mem} (hf : fX9_unsearch z = some (r, z')) : MI l dC dI A t0 cI cJ cZ yX9_unsearch wsX9_unsearch 0 [.ref (A 25)] z r z' := by
  refine Met.ofW (cc := cX9_unsearch) (maxL := 2) (ret := (some .int)) (by decide) rfl ?_
  intro p e s m args below meth c s₁ B hml hv
  obtain ⟨rfl, hP, hK, hZ⟩ := hv
  have hx := B.exec
  have hb := B.bytes
  have hr := B.returns
  have hts := atoms_spec (ws := wsX9_unsearch) B.pre
  have hown : s.vm.findClass RX9 = some m.cls := findClass_of_methodNamed B.named
  have hlocks := B.notSynchronized
  have hS : va_S (fr A) s.heap s.heap [] := va_S.rf
  have i9 : ∀ w ∈ wsX90, w ∈ wsX9_unsearch := fun _ h => List.mem_cons_of_mem _ (List.mem_append_right _ h)
  have hl := lv_entry ([.ref (A 25)]) (n := 2) (Nat.le_of_ble_eq_true rfl)
  rw [lg_entry_eq]
  generalize (lg_sl ([.ref (A 25)]) ++ List.replicate (2 - (lg_sl ([.ref (A 25)])).length) Slot.unset).toArray = ls at hl ⊢
  have hl : lv_has ls 2 [(0, .ref (A 25))] := hl
  have hP : wIs dC dI A cI cJ cZ z s.heap := hP
  rw [fX9_unsearch] at hf
  refine lv_aload_n hx hb dX9_unsearch_0 rfl (lv_at hl 0 rfl) ?_
  refine va_get (D := (dC, dI)) (ci := 9) (v := .int (z.1 25 21)) (C := RX9) (T := TX9) (N := 34) hx hb hts i9 hown hK hP 25 (wc_25 A cI cJ cZ z) rfl 21 (by decide) (hts (.fieldLink RX9 171 "LightestRulesModel" "searches" "I") (by decide +kernel)) (fun _ h9 => h9) rfl dX9_unsearch_1 ?_
  refine lv_topi (fun x1_1 ex1_1 => ?_)
  have hf := lt_at ex1_1 hf; clear ex1_1
  refine lv_istore_n (lv' := [(1, .int x1_1), (0, .ref (A 25))]) hx hb dX9_unsearch_4 rfl hl (by decide) rfl (fun ls hl => ?_)
  refine lv_aload_n hx hb dX9_unsearch_5 rfl (lv_at hl 1 rfl) ?_
  refine lv_iconst (v := 0) hx hb dX9_unsearch_6 (by decide) ?_
  refine va_put (D := (dC, dI)) (ci := 9) (v := .int (0 : Int32)) (ty := .int) (C := RX9) (T := TX9) (N := 34) hx hb hts i9 tyX9 tyX9_ok nmX9 hown hK hP (wD hA cI cJ cZ z) hS 25 (wc_25 A cI cJ cZ z) rfl 21 (by decide) (hts (.fieldLink RX9 171 "LightestRulesModel" "searches" "I") (by decide +kernel)) (fun _ h9 => h9) rfl (by decide +kernel) rfl rfl (Nat.le_of_ble_eq_true rfl) dX9_unsearch_7 (fun H locs hP _ hS => ?_)
  rw [ws_25_21 A cI cJ cZ z (0 : Int32)] at hP
  obtain ⟨z_2, hP, hf⟩ := lt_P (P := fun q => wIs dC dI A cI cJ cZ q H) hP hf
  refine lv_iload_n hx hb dX9_unsearch_10 rfl (lv_at hl 0 rfl) ?_
  exact retI hx hb hr hlocks hP hS hf dX9_unsearch_11
set_option maxHeartbeats 4000000 in
set_option maxRecDepth 100000 in
theorem tJ7_fill_53178_19 {l : Launch} {dC : Nat → ClassId} {dI : Nat → Nat → Nat} {A : Nat → Nat} {t0 : Nat} {cI cJ cZ : ClassId} (hA : dst A) {p1 : Int32} {z : Mem} {ru : Unit} {z' : Mem} (hf : fJ7_fill_53178_19 p1 z = some (ru, z')) : MV l dC dI A t0 cI cJ cZ yJ7_fill_53178 wsJ7_fill_53178 0 [.ref (A 19), .int p1] z z' := by
  refine Met.ofW (cc := cJ7_fill_53178) (maxL := 4) (ret := none) (by decide) rfl ?_
  intro p e s m args below meth c s₁ B hml hv
  obtain ⟨rfl, hP, hK, hZ⟩ := hv
  have hx := B.exec
  have hb := B.bytes
  have hr := B.returns
  have hts := atoms_spec (ws := wsJ7_fill_53178) B.pre
  have hown : s.vm.findClass RJ7 = some m.cls := findClass_of_methodNamed B.named
  have hlocks := B.notSynchronized
  have hS : va_S (fr A) s.heap s.heap [] := va_S.rf
  have hl := lv_entry ([.ref (A 19), .int p1]) (n := 4) (Nat.le_of_ble_eq_true rfl)
  rw [lg_entry_eq]
  generalize (lg_sl ([.ref (A 19), .int p1]) ++ List.replicate (4 - (lg_sl ([.ref (A 19), .int p1])).length) Slot.unset).toArray = ls at hl ⊢
  have hl : lv_has ls 4 [(0, .ref (A 19)), (1, .int p1)] := hl
  have hP : wIs dC dI A cI cJ cZ z s.heap := hP
  rw [fJ7_fill_53178_19] at hf
  refine lv_iconst (v := 0) hx hb dJ7_fill_53178_0 (by decide) ?_
  refine lv_istore_n (lv' := [(2, .int (0 : Int32)), (0, .ref (A 19)), (1, .int p1)]) hx hb dJ7_fill_53178_1 rfl hl (by decide) rfl (fun ls hl => ?_)
  refine lv_aload_n hx hb dJ7_fill_53178_2 rfl (lv_at hl 1 rfl) ?_
  refine va_alen hx hb hK hP 19 0 (wc_19 A cI cJ cZ z) rfl (v := 5) rfl dJ7_fill_53178_3 ?_
  refine lv_istore_n (lv' := [(3, .int (5 : Int32)), (2, .int (0 : Int32)), (0, .ref (A 19)), (1, .int p1)]) hx hb dJ7_fill_53178_4 rfl hl (by decide) rfl (fun ls hl => ?_)
  obtain ⟨K_1, eK_1, hf⟩ := fJ7_fill_53178_19_L5_g hf
  have hEK_1 : ∀ (x2_3 : Int32) (z_2 : Mem) (H : Heap) (locs : List Loc) (ls : Array Slot), K_1 x2_3 z_2 = some (ru, z') → wIs dC dI A cI cJ cZ z_2 H → va_S (fr A) s.heap H locs → lv_has ls 4 [(0, .ref (A 19)), (1, .int p1), (2, .int x2_3), (3, .int (5 : Int32))] → WV p l e wsJ7_fill_53178 0 s m [.ref (A 19), .int p1] below meth c dC dI A cI cJ cZ z' H locs (F0 m 20 ls []) := by
    intro x2_3 z_2 H locs ls hf hP hS hl
    have hf := ap2 eK_1 hf
    exact retV hx hb hr hlocks hP hS hf dJ7_fill_53178_20
  have hLK_1 : ∀ (n_6 : Nat) (x2_5 : Int32) (z_4 : Mem) (H : Heap) (locs : List Loc) (ls : Array Slot), fJ7_fill_53178_19_L5 K_1 p1 n_6 x2_5 z_4 = some (ru, z') → wIs dC dI A cI cJ cZ z_4 H → va_S (fr A) s.heap H locs → lv_has ls 4 [(0, .ref (A 19)), (1, .int p1), (2, .int x2_5), (3, .int (5 : Int32))] → WV p l e wsJ7_fill_53178 0 s m [.ref (A 19), .int p1] below meth c dC dI A cI cJ cZ z' H locs (F0 m 5 ls []) := by
    intro n_6
    induction n_6 with
    | zero => intro x2_5 z_4 H locs ls hf; rw [fJ7_fill_53178_19_L5_0] at hf; cases hf
    | succ n_6 ihK_1 =>
      intro x2_5 z_4 H locs ls hf hP hS hl
      rw [fJ7_fill_53178_19_L5_s] at hf
      refine lv_iload_n hx hb dJ7_fill_53178_5 rfl (lv_at hl 2 rfl) ?_
      refine lv_iload_n hx hb dJ7_fill_53178_6 rfl (lv_at hl 3 rfl) ?_
      refine lv_icmp_ge (tgt := 20) hx hb dJ7_fill_53178_7 (by decide) (fun c_7 => ?_) (fun c_7 => ?_)
      · have hf := it_t c_7 hf
        exact hEK_1 _ _ _ _ _ hf hP hS (lv_sub hl [0, 1, 2, 3] rfl)
      · have hf := it_f c_7 hf
        refine lv_aload_n hx hb dJ7_fill_53178_10 rfl (lv_at hl 0 rfl) ?_
        refine lv_iload_n hx hb dJ7_fill_53178_11 rfl (lv_at hl 2 rfl) ?_
        refine lv_iload_n hx hb dJ7_fill_53178_12 rfl (lv_at hl 1 rfl) ?_
        obtain ⟨n_8, hf⟩ := rg_el hf
        refine va_iast hx hb hK hP (wD hA cI cJ cZ z_4) hS 19 0 (wc_19 A cI cJ cZ z_4) rfl n_8 dJ7_fill_53178_13 (fun H locs hP _ hS => ?_)
        rw [wa_19 A cI cJ cZ z_4 x2_5.toNatClampNeg p1] at hP
        obtain ⟨z_9, hP, hf⟩ := lt_P (P := fun q => wIs dC dI A cI cJ cZ q H) hP hf
        obtain ⟨x2_10, ex2_10⟩ : ∃ q : Int32, q = x2_5 + (1 : Int32) := ⟨_, rfl⟩
        refine lv_iinc (v := x2_10) (lv' := [(2, .int x2_10), (0, .ref (A 19)), (1, .int p1), (3, .int (5 : Int32))]) hx hb dJ7_fill_53178_14 hl (k := 2) rfl (by rw [ex2_10]; rfl) (by decide) rfl (fun ls hl => ?_)
        have hf := lt_at ex2_10 hf; clear ex2_10
        refine lv_goto (tgt := 5) hx hb dJ7_fill_53178_17 (by decide) ?_
        exact ihK_1 _ _ _ _ _ hf hP hS (lv_sub hl [1, 2, 0, 3] rfl)
  exact hLK_1 FU _ _ _ _ _ hf hP hS (lv_sub hl [2, 3, 1, 0] rfl)
