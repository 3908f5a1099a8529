set_option maxHeartbeats 4000000 in
set_option maxRecDepth 100000 in
theorem tX9_reign {l : Launch} {dC : Nat → ClassId} {dI : Nat → Nat → Nat} {A : Nat → Nat} {t0 : Nat} {cI cJ cZ : ClassId} (hA : dst A) {p0 : Int32} {p1 : Int32} {z : Mem} {r : Int32} {z' : Mem} (hf : fX9_reign p0 p1 z = some (r, z')) : MI l dC dI A t0 cI cJ cZ yX9_reign wsX9_reign 2 [.ref (A 25), .int p0, .int p1] z r z' := by
  refine Met.ofW (cc := cX9_reign) (maxL := 7) (ret := (some .int)) (by decide) rfl ?_
  intro p e s m args below meth c s₁ B hml hv
  obtain ⟨rfl, hP, hK, hZ⟩ := hv
  have hx := B.exec
  have hb := B.bytes
  have hr := B.returns
  have hts := atoms_spec (ws := wsX9_reign) B.pre
  have hown : s.vm.findClass RX9 = some m.cls := findClass_of_methodNamed B.named
  have hlocks := B.notSynchronized
  have hS : va_S (fr A) s.heap s.heap [] := va_S.rf
  have i9 : ∀ w ∈ wsX90, w ∈ wsX9_reign := fun _ h => List.mem_cons_of_mem _ (List.mem_append_right _ h)
  have hl := lv_entry ([.ref (A 25), .int p0, .int p1]) (n := 7) (Nat.le_of_ble_eq_true rfl)
  rw [lg_entry_eq]
  generalize (lg_sl ([.ref (A 25), .int p0, .int p1]) ++ List.replicate (7 - (lg_sl ([.ref (A 25), .int p0, .int p1])).length) Slot.unset).toArray = ls at hl ⊢
  have hl : lv_has ls 7 [(0, .ref (A 25)), (1, .int p0), (2, .int p1)] := hl
  have hP : wIs dC dI A cI cJ cZ z s.heap := hP
  rw [fX9_reign] at hf
  refine lv_aload_n hx hb dX9_reign_0 rfl (lv_at hl 0 rfl) ?_
  refine lv_iload_n hx hb dX9_reign_1 rfl (lv_at hl 1 rfl) ?_
  obtain ⟨r_1, z_2, h_3, hf⟩ := cl_el hf
  refine callVI (As := [.int p0]) (rest := []) (ci := 9) (q0 := 25) ⟨hx, hb, hml, hown, hts⟩ (tX9_isPerson (l := l) (dC := dC) (dI := dI) (t0 := t0) (cI := cI) (cJ := cJ) (cZ := cZ) hA h_3) (cwV 1 hts gX9_reign_X9_isPerson rfl rfl rfl (by decide +kernel) ⟨Nat.le_of_ble_eq_true rfl, Nat.le_of_ble_eq_true rfl⟩) hK hZ hP hS rfl (wc_25 A cI cJ cZ z) rfl rfl rfl hl.1 (Nat.le_of_ble_eq_true rfl) ⟨Nat.zero_le _, Nat.zero_le _⟩ dX9_reign_2 (fun H locs hP hS => ?_)
  refine lv_if_ne (tgt := 10) hx hb dX9_reign_5 (by decide) (fun c_4 => ?_) (fun c_4 => ?_)
  · have hf := it_f c_4 hf
    refine lv_iload_n hx hb dX9_reign_10 rfl (lv_at hl 2 rfl) ?_
    refine lv_i2l hx hb dX9_reign_11 rfl ?_
    refine lv_lconst (v := 0) hx hb dX9_reign_12 rfl ?_
    refine lv_ldc2 hx hb hown (hts (.constantLong RX9 127 (2)) (by decide +kernel)) dX9_reign_13 ?_
    obtain ⟨r_5, z_6, h_7, hf⟩ := cl_el hf
    refine callSI (As := [.long (p1.toInt64), .long (0 : Int64), .long (2 : Int64)]) (rest := []) ⟨hx, hb, hml, hown, hts⟩ (tX9_in (l := l) (dC := dC) (dI := dI) (t0 := t0) (cI := cI) (cJ := cJ) (cZ := cZ) hA h_7) (va_cwS 3 hts gX9_reign_X9_in rfl rfl rfl (by decide +kernel) ⟨Nat.le_of_ble_eq_true rfl, Nat.le_of_ble_eq_true rfl⟩) hK hZ hP hS rfl rfl hl.1 (Nat.le_of_ble_eq_true rfl) ⟨Nat.zero_le _, Nat.zero_le _⟩ dX9_reign_16 (fun H locs hP hS => ?_)
    refine lv_if_ne (tgt := 25) hx hb dX9_reign_19 (by decide) (fun c_8 => ?_) (fun c_8 => ?_)
    · have hf := it_f c_8 hf
      refine lv_iconst (v := 0) hx hb dX9_reign_25 (by decide) ?_
      refine lv_istore_n (lv' := [(3, .int (0 : Int32)), (0, .ref (A 25)), (1, .int p0), (2, .int p1)]) hx hb dX9_reign_26 rfl hl (by decide) rfl (fun ls hl => ?_)
      obtain ⟨K_9, eK_9, hf⟩ := fX9_reign_L27_g hf
      have hEK_9 : ∀ (x3_11 : Int32) (z_10 : Mem) (H : Heap) (locs : List Loc) (ls : Array Slot), K_9 x3_11 z_10 = some (r, z') → wIs dC dI A cI cJ cZ z_10 H → va_S (fr A) s.heap H locs → lv_has ls 7 [(0, .ref (A 25)), (1, .int p0), (2, .int p1), (3, .int x3_11)] → WI p l e wsX9_reign 2 s m [.ref (A 25), .int p0, .int p1] below meth c dC dI A cI cJ cZ r z' H locs (F0 m 51 ls []) := by
        intro x3_11 z_10 H locs ls hf hP hS hl
        have hf := ap2 eK_9 hf
        refine lv_iconst (v := 0) hx hb dX9_reign_51 (by decide) ?_
        refine lv_istore_n (lv' := [(3, .int (0 : Int32)), (0, .ref (A 25)), (1, .int p0), (2, .int p1)]) hx hb dX9_reign_52 rfl hl (by decide) rfl (fun ls hl => ?_)
        refine lv_iconst (v := 0) hx hb dX9_reign_53 (by decide) ?_
        refine lv_istore (lv' := [(4, .int (0 : Int32)), (3, .int (0 : Int32)), (0, .ref (A 25)), (1, .int p0), (2, .int p1)]) hx hb dX9_reign_54 hl (by decide) rfl (fun ls hl => ?_)
        obtain ⟨K_12, eK_12, hf⟩ := fX9_reign_L56_g hf
        have hEK_12 : ∀ (x3_14 : Int32) (x4_15 : Int32) (z_13 : Mem) (H : Heap) (locs : List Loc) (ls : Array Slot), K_12 x3_14 x4_15 z_13 = some (r, z') → wIs dC dI A cI cJ cZ z_13 H → va_S (fr A) s.heap H locs → lv_has ls 7 [(0, .ref (A 25)), (1, .int p0), (2, .int p1), (3, .int x3_14), (4, .int x4_15)] → WI p l e wsX9_reign 2 s m [.ref (A 25), .int p0, .int p1] below meth c dC dI A cI cJ cZ r z' H locs (F0 m 162 ls []) := by
          intro x3_14 x4_15 z_13 H locs ls hf hP hS hl
          have hf := ap3 eK_12 hf
          refine lv_iconst (v := 0) hx hb dX9_reign_162 (by decide) ?_
          refine lv_istore (lv' := [(4, .int (0 : Int32)), (0, .ref (A 25)), (1, .int p0), (2, .int p1), (3, .int x3_14)]) hx hb dX9_reign_163 hl (by decide) rfl (fun ls hl => ?_)
          obtain ⟨K_16, eK_16, hf⟩ := fX9_reign_L165_g hf
          have hEK_16 : ∀ (x4_18 : Int32) (z_17 : Mem) (H : Heap) (locs : List Loc) (ls : Array Slot), K_16 x4_18 z_17 = some (r, z') → wIs dC dI A cI cJ cZ z_17 H → va_S (fr A) s.heap H locs → lv_has ls 7 [(0, .ref (A 25)), (1, .int p0), (2, .int p1), (3, .int x3_14), (4, .int x4_18)] → WI p l e wsX9_reign 2 s m [.ref (A 25), .int p0, .int p1] below meth c dC dI A cI cJ cZ r z' H locs (F0 m 192 ls []) := by
            intro x4_18 z_17 H locs ls hf hP hS hl
            have hf := ap2 eK_16 hf
            refine lv_iload_n hx hb dX9_reign_192 rfl (lv_at hl 3 rfl) ?_
            exact retI hx hb hr hlocks hP hS hf dX9_reign_193
          have hLK_16 : ∀ (n_21 : Nat) (x4_20 : Int32) (z_19 : Mem) (H : Heap) (locs : List Loc) (ls : Array Slot), fX9_reign_L165 K_16  n_21 x4_20 z_19 = some (r, z') → wIs dC dI A cI cJ cZ z_19 H → va_S (fr A) s.heap H locs → lv_has ls 7 [(0, .ref (A 25)), (1, .int p0), (2, .int p1), (3, .int x3_14), (4, .int x4_20)] → WI p l e wsX9_reign 2 s m [.ref (A 25), .int p0, .int p1] below meth c dC dI A cI cJ cZ r z' H locs (F0 m 165 ls []) := by
            intro n_21
            induction n_21 with
            | zero => intro x4_20 z_19 H locs ls hf; rw [fX9_reign_L165_0] at hf; cases hf
            | succ n_21 ihK_16 =>
              intro x4_20 z_19 H locs ls hf hP hS hl
              rw [fX9_reign_L165_s] at hf
              refine lv_iload hx hb dX9_reign_165 (lv_at hl 4 rfl) ?_
              refine lv_bipush (v := 26) hx hb dX9_reign_167 (by decide) ?_
              refine lv_icmp_ge (tgt := 192) hx hb dX9_reign_169 (by decide) (fun c_22 => ?_) (fun c_22 => ?_)
              · have hf := it_t c_22 hf
                exact hEK_16 _ _ _ _ _ hf hP hS (lv_sub hl [0, 1, 2, 3, 4] rfl)
              · have hf := it_f c_22 hf
                refine lv_aload_n hx hb dX9_reign_172 rfl (lv_at hl 0 rfl) ?_
                refine va_get (D := (dC, dI)) (ci := 9) (v := .ref (A 27)) (C := RX9) (T := TX9) (N := 34) hx hb hts i9 hown hK hP 25 (wc_25 A cI cJ cZ z_19) rfl 5 (by decide) (hts (.fieldLink RX9 13 "LightestRulesModel" "now" "[I") (by decide +kernel)) (fun _ h9 => h9) rfl dX9_reign_173 ?_
                refine lv_iload hx hb dX9_reign_176 (lv_at hl 4 rfl) ?_
                refine lv_aload_n hx hb dX9_reign_178 rfl (lv_at hl 0 rfl) ?_
                refine va_get (D := (dC, dI)) (ci := 9) (v := .ref (A 40)) (C := RX9) (T := TX9) (N := 34) hx hb hts i9 hown hK hP 25 (wc_25 A cI cJ cZ z_19) rfl 31 (by decide) (hts (.fieldLink RX9 53 "LightestRulesModel" "spare" "[I") (by decide +kernel)) (fun _ h9 => h9) rfl dX9_reign_179 ?_
                refine lv_iload hx hb dX9_reign_182 (lv_at hl 4 rfl) ?_
                obtain ⟨n_23, hf⟩ := rg_el hf
                refine va_iald hx hb hK hP 40 0 (wc_40 A cI cJ cZ z_19) rfl n_23 dX9_reign_184 ?_
                refine lv_topi (fun a_24 ea_24 => ?_)
                have hf := lt_at ea_24 hf; clear ea_24
                obtain ⟨n_25, hf⟩ := rg_el hf
                refine va_iast hx hb hK hP (wD hA cI cJ cZ z_19) hS 27 0 (wc_27 A cI cJ cZ z_19) rfl n_25 dX9_reign_185 (fun H locs hP _ hS => ?_)
                rw [wa_27 A cI cJ cZ z_19 x4_20.toNatClampNeg a_24] at hP
                obtain ⟨z_26, hP, hf⟩ := lt_P (P := fun q => wIs dC dI A cI cJ cZ q H) hP hf
                obtain ⟨x4_27, ex4_27⟩ : ∃ q : Int32, q = x4_20 + (1 : Int32) := ⟨_, rfl⟩
                refine lv_iinc (v := x4_27) (lv' := [(4, .int x4_27), (0, .ref (A 25)), (1, .int p0), (2, .int p1), (3, .int x3_14)]) hx hb dX9_reign_186 hl (k := 4) rfl (by rw [ex4_27]; rfl) (by decide) rfl (fun ls hl => ?_)
                have hf := lt_at ex4_27 hf; clear ex4_27
                refine lv_goto (tgt := 165) hx hb dX9_reign_189 (by decide) ?_
                exact ihK_16 _ _ _ _ _ hf hP hS (lv_sub hl [1, 2, 3, 4, 0] rfl)
          exact hLK_16 FU _ _ _ _ _ hf hP hS (lv_sub hl [1, 2, 3, 4, 0] rfl)
        have hLK_12 : ∀ (n_31 : Nat) (x3_29 : Int32) (x4_30 : Int32) (z_28 : Mem) (H : Heap) (locs : List Loc) (ls : Array Slot), fX9_reign_L56 K_12 p0 p1 n_31 x3_29 x4_30 z_28 = some (r, z') → wIs dC dI A cI cJ cZ z_28 H → va_S (fr A) s.heap H locs → lv_has ls 7 [(0, .ref (A 25)), (1, .int p0), (2, .int p1), (3, .int x3_29), (4, .int x4_30)] → WI p l e wsX9_reign 2 s m [.ref (A 25), .int p0, .int p1] below meth c dC dI A cI cJ cZ r z' H locs (F0 m 56 ls []) := by
          intro n_31
          induction n_31 with
          | zero => intro x3_29 x4_30 z_28 H locs ls hf; rw [fX9_reign_L56_0] at hf; cases hf
          | succ n_31 ihK_12 =>
            intro x3_29 x4_30 z_28 H locs ls hf hP hS hl
            rw [fX9_reign_L56_s] at hf
            refine lv_iload hx hb dX9_reign_56 (lv_at hl 4 rfl) ?_
            refine lv_bipush (v := 12) hx hb dX9_reign_58 (by decide) ?_
            refine lv_icmp_ge (tgt := 162) hx hb dX9_reign_60 (by decide) (fun c_32 => ?_) (fun c_32 => ?_)
            · have hf := it_t c_32 hf
              exact hEK_12 _ _ _ _ _ _ hf hP hS (lv_sub hl [0, 1, 2, 3, 4] rfl)
            · have hf := it_f c_32 hf
              refine lv_iconst (v := 0) hx hb dX9_reign_63 (by decide) ?_
              refine lv_istore (lv' := [(5, .int (0 : Int32)), (0, .ref (A 25)), (1, .int p0), (2, .int p1), (3, .int x3_29), (4, .int x4_30)]) hx hb dX9_reign_64 hl (by decide) rfl (fun ls hl => ?_)
              obtain ⟨K_33, eK_33, hf⟩ := fX9_reign_L66_g hf
              have hEK_33 : ∀ (x5_35 : Int32) (z_34 : Mem) (H : Heap) (locs : List Loc) (ls : Array Slot), K_33 x5_35 z_34 = some (r, z') → wIs dC dI A cI cJ cZ z_34 H → va_S (fr A) s.heap H locs → lv_has ls 7 [(0, .ref (A 25)), (1, .int p0), (2, .int p1), (3, .int x3_29), (4, .int x4_30), (5, .int x5_35)] → WI p l e wsX9_reign 2 s m [.ref (A 25), .int p0, .int p1] below meth c dC dI A cI cJ cZ r z' H locs (F0 m 139 ls []) := by
                intro x5_35 z_34 H locs ls hf hP hS hl
                have hf := ap2 eK_33 hf
                refine lv_iload_n hx hb dX9_reign_139 rfl (lv_at hl 3 rfl) ?_
                refine lv_aload_n hx hb dX9_reign_140 rfl (lv_at hl 0 rfl) ?_
                refine lv_iload_n hx hb dX9_reign_141 rfl (lv_at hl 2 rfl) ?_
                obtain ⟨r_36, z_37, h_38, hf⟩ := cl_el hf
                refine callVI (As := [.int p1]) (rest := [.int x3_29]) (ci := 9) (q0 := 25) ⟨hx, hb, hml, hown, hts⟩ (tX9_crownBy (l := l) (dC := dC) (dI := dI) (t0 := t0) (cI := cI) (cJ := cJ) (cZ := cZ) hA h_38) (cwV 1 hts gX9_reign_X9_crownBy rfl rfl rfl (by decide +kernel) ⟨Nat.le_of_ble_eq_true rfl, Nat.le_of_ble_eq_true rfl⟩) hK hZ hP hS rfl (wc_25 A cI cJ cZ z_34) rfl rfl rfl hl.1 (Nat.le_of_ble_eq_true rfl) ⟨Nat.zero_le _, Nat.zero_le _⟩ dX9_reign_142 (fun H locs hP hS => ?_)
                refine lv_iload_n hx hb dX9_reign_145 rfl (lv_at hl 1 rfl) ?_
                refine lv_icmp_ne (tgt := 153) hx hb dX9_reign_146 (by decide) (fun c_39 => ?_) (fun c_39 => ?_)
                · have hf := it_f c_39 hf
                  refine lv_iconst (v := 0) hx hb dX9_reign_153 (by decide) ?_
                  refine lv_iadd hx hb dX9_reign_154 ?_
                  refine lv_topi (fun x3_40 ex3_40 => ?_)
                  have hf := lt_at ex3_40 hf; clear ex3_40
                  refine lv_istore_n (lv' := [(3, .int x3_40), (0, .ref (A 25)), (1, .int p0), (2, .int p1), (4, .int x4_30), (5, .int x5_35)]) hx hb dX9_reign_155 rfl hl (by decide) rfl (fun ls hl => ?_)
                  obtain ⟨x4_41, ex4_41⟩ : ∃ q : Int32, q = x4_30 + (1 : Int32) := ⟨_, rfl⟩
                  refine lv_iinc (v := x4_41) (lv' := [(4, .int x4_41), (3, .int x3_40), (0, .ref (A 25)), (1, .int p0), (2, .int p1), (5, .int x5_35)]) hx hb dX9_reign_156 hl (k := 4) rfl (by rw [ex4_41]; rfl) (by decide) rfl (fun ls hl => ?_)
                  have hf := lt_at ex4_41 hf; clear ex4_41
                  refine lv_goto (tgt := 56) hx hb dX9_reign_159 (by decide) ?_
                  exact ihK_12 _ _ _ _ _ _ hf hP hS (lv_sub hl [2, 3, 4, 1, 0] rfl)
                · have hf := it_t c_39 hf
                  refine lv_iconst (v := 1) hx hb dX9_reign_149 (by decide) ?_
                  refine lv_goto (tgt := 154) hx hb dX9_reign_150 (by decide) ?_
                  refine lv_iadd hx hb dX9_reign_154 ?_
                  refine lv_topi (fun x3_42 ex3_42 => ?_)
                  have hf := lt_at ex3_42 hf; clear ex3_42
                  refine lv_istore_n (lv' := [(3, .int x3_42), (0, .ref (A 25)), (1, .int p0), (2, .int p1), (4, .int x4_30), (5, .int x5_35)]) hx hb dX9_reign_155 rfl hl (by decide) rfl (fun ls hl => ?_)
                  obtain ⟨x4_43, ex4_43⟩ : ∃ q : Int32, q = x4_30 + (1 : Int32) := ⟨_, rfl⟩
                  refine lv_iinc (v := x4_43) (lv' := [(4, .int x4_43), (3, .int x3_42), (0, .ref (A 25)), (1, .int p0), (2, .int p1), (5, .int x5_35)]) hx hb dX9_reign_156 hl (k := 4) rfl (by rw [ex4_43]; rfl) (by decide) rfl (fun ls hl => ?_)
                  have hf := lt_at ex4_43 hf; clear ex4_43
                  refine lv_goto (tgt := 56) hx hb dX9_reign_159 (by decide) ?_
                  exact ihK_12 _ _ _ _ _ _ hf hP hS (lv_sub hl [2, 3, 4, 1, 0] rfl)
              have hLK_33 : ∀ (n_46 : Nat) (x5_45 : Int32) (z_44 : Mem) (H : Heap) (locs : List Loc) (ls : Array Slot), fX9_reign_L66 K_33  n_46 x5_45 z_44 = some (r, z') → wIs dC dI A cI cJ cZ z_44 H → va_S (fr A) s.heap H locs → lv_has ls 7 [(0, .ref (A 25)), (1, .int p0), (2, .int p1), (3, .int x3_29), (4, .int x4_30), (5, .int x5_45)] → WI p l e wsX9_reign 2 s m [.ref (A 25), .int p0, .int p1] below meth c dC dI A cI cJ cZ r z' H locs (F0 m 66 ls []) := by
                intro n_46
                induction n_46 with
                | zero => intro x5_45 z_44 H locs ls hf; rw [fX9_reign_L66_0] at hf; cases hf
                | succ n_46 ihK_33 =>
                  intro x5_45 z_44 H locs ls hf hP hS hl
                  rw [fX9_reign_L66_s] at hf
                  refine lv_iload hx hb dX9_reign_66 (lv_at hl 5 rfl) ?_
                  refine lv_aload_n hx hb dX9_reign_68 rfl (lv_at hl 0 rfl) ?_
                  refine va_get (D := (dC, dI)) (ci := 9) (v := .int (z_44.1 25 6)) (C := RX9) (T := TX9) (N := 34) hx hb hts i9 hown hK hP 25 (wc_25 A cI cJ cZ z_44) rfl 6 (by decide) (hts (.fieldLink RX9 104 "LightestRulesModel" "many" "I") (by decide +kernel)) (fun _ h9 => h9) rfl dX9_reign_69 ?_
                  refine lv_icmp_ge (tgt := 139) hx hb dX9_reign_72 (by decide) (fun c_47 => ?_) (fun c_47 => ?_)
                  · have hf := it_t c_47 hf
                    exact hEK_33 _ _ _ _ _ hf hP hS (lv_sub hl [0, 1, 2, 3, 4, 5] rfl)
                  · have hf := it_f c_47 hf
                    refine lv_aload_n hx hb dX9_reign_75 rfl (lv_at hl 0 rfl) ?_
                    refine lv_aload_n hx hb dX9_reign_76 rfl (lv_at hl 0 rfl) ?_
                    refine va_get (D := (dC, dI)) (ci := 9) (v := .long (z_44.2 25 30)) (C := RX9) (T := TX9) (N := 34) hx hb hts i9 hown hK hP 25 (wc_25 A cI cJ cZ z_44) rfl 30 (by decide) (hts (.fieldLink RX9 204 "LightestRulesModel" "seed" "J") (by decide +kernel)) (fun _ h9 => h9) rfl dX9_reign_77 ?_
                    refine lv_ldc2 hx hb hown (hts (.constantLong RX9 208 (6364136223846793005)) (by decide +kernel)) dX9_reign_80 ?_
                    refine lv_lmul hx hb dX9_reign_83 ?_
                    refine lv_ldc2 hx hb hown (hts (.constantLong RX9 210 (1442695040888963407)) (by decide +kernel)) dX9_reign_84 ?_
                    refine lv_ladd hx hb dX9_reign_87 ?_
                    refine lv_topl (fun y_48 ey_48 => ?_)
                    have hf := lt_at ey_48 hf; clear ey_48
                    refine va_put (D := (dC, dI)) (ci := 9) (v := .long y_48) (ty := .long) (C := RX9) (T := TX9) (N := 34) hx hb hts i9 tyX9 tyX9_ok nmX9 hown hK hP (wD hA cI cJ cZ z_44) hS 25 (wc_25 A cI cJ cZ z_44) rfl 30 (by decide) (hts (.fieldLink RX9 204 "LightestRulesModel" "seed" "J") (by decide +kernel)) (fun _ h9 => h9) rfl (by decide +kernel) rfl rfl (Nat.le_of_ble_eq_true rfl) dX9_reign_88 (fun H locs hP _ hS => ?_)
                    rw [ws_25_30 A cI cJ cZ z_44 y_48] at hP
                    obtain ⟨z_49, hP, hf⟩ := lt_P (P := fun q => wIs dC dI A cI cJ cZ q H) hP hf
                    refine lv_aload_n hx hb dX9_reign_91 rfl (lv_at hl 0 rfl) ?_
                    refine va_get (D := (dC, dI)) (ci := 9) (v := .long (z_49.2 25 30)) (C := RX9) (T := TX9) (N := 34) hx hb hts i9 hown hK hP 25 (wc_25 A cI cJ cZ z_49) rfl 30 (by decide) (hts (.fieldLink RX9 204 "LightestRulesModel" "seed" "J") (by decide +kernel)) (fun _ h9 => h9) rfl dX9_reign_92 ?_
                    refine lv_bipush (v := 33) hx hb dX9_reign_95 (by decide) ?_
                    refine lv_lushr hx hb dX9_reign_97 rfl ?_
                    refine lv_ldc2 hx hb hown (hts (.constantLong RX9 212 (7)) (by decide +kernel)) dX9_reign_98 ?_
                    obtain ⟨n_50, hf⟩ := nzl_el hf
                    refine lv_lrem hx hb dX9_reign_101 n_50 ?_
                    refine lv_topl (fun y_51 ey_51 => ?_)
                    have hf := lt_at ey_51 hf; clear ey_51
                    refine lv_l2i hx hb dX9_reign_102 rfl ?_
                    refine lv_iconst (v := 3) hx hb dX9_reign_103 (by decide) ?_
                    refine lv_isub hx hb dX9_reign_104 ?_
                    refine lv_topi (fun x6_52 ex6_52 => ?_)
                    have hf := lt_at ex6_52 hf; clear ex6_52
                    refine lv_istore (lv' := [(6, .int x6_52), (0, .ref (A 25)), (1, .int p0), (2, .int p1), (3, .int x3_29), (4, .int x4_30), (5, .int x5_45)]) hx hb dX9_reign_105 hl (by decide) rfl (fun ls hl => ?_)
                    refine lv_aload_n hx hb dX9_reign_107 rfl (lv_at hl 1 rfl) ?_
                    refine va_get (D := (dC, dI)) (ci := 9) (v := .ref (A 27)) (C := RX9) (T := TX9) (N := 34) hx hb hts i9 hown hK hP 25 (wc_25 A cI cJ cZ z_49) rfl 5 (by decide) (hts (.fieldLink RX9 13 "LightestRulesModel" "now" "[I") (by decide +kernel)) (fun _ h9 => h9) rfl dX9_reign_108 ?_
                    refine lv_iconst (v := 5) hx hb dX9_reign_111 (by decide) ?_
                    refine lv_iload hx hb dX9_reign_112 (lv_at hl 6 rfl) ?_
                    refine lv_imul hx hb dX9_reign_114 ?_
                    refine lv_aload_n hx hb dX9_reign_115 rfl (lv_at hl 1 rfl) ?_
                    refine va_get (D := (dC, dI)) (ci := 9) (v := .ref (A 27)) (C := RX9) (T := TX9) (N := 34) hx hb hts i9 hown hK hP 25 (wc_25 A cI cJ cZ z_49) rfl 5 (by decide) (hts (.fieldLink RX9 13 "LightestRulesModel" "now" "[I") (by decide +kernel)) (fun _ h9 => h9) rfl dX9_reign_116 ?_
                    refine lv_iconst (v := 5) hx hb dX9_reign_119 (by decide) ?_
                    refine lv_iload hx hb dX9_reign_120 (lv_at hl 6 rfl) ?_
                    refine lv_imul hx hb dX9_reign_122 ?_
                    refine lv_topi (fun y_53 ey_53 => ?_)
                    have hf := lt_at ey_53 hf; clear ey_53
                    obtain ⟨n_54, hf⟩ := rg_el hf
                    refine va_iald hx hb hK hP 27 0 (wc_27 A cI cJ cZ z_49) rfl n_54 dX9_reign_123 ?_
                    refine lv_topi (fun a_55 ea_55 => ?_)
                    have hf := lt_at ea_55 hf; clear ea_55
                    refine lv_iconst (v := 5) hx hb dX9_reign_124 (by decide) ?_
                    refine lv_iload hx hb dX9_reign_125 (lv_at hl 0 rfl) ?_
                    refine lv_imul hx hb dX9_reign_127 ?_
                    refine lv_iadd hx hb dX9_reign_128 ?_
                    obtain ⟨r_56, z_57, h_58, hf⟩ := cl_el hf
                    refine callSI (As := [.int (a_55 + ((5 : Int32) * x6_52))]) (rest := [.int ((5 : Int32) * x5_45), .ref (A 27)]) ⟨hx, hb, hml, hown, hts⟩ (tX9_left (l := l) (dC := dC) (dI := dI) (t0 := t0) (cI := cI) (cJ := cJ) (cZ := cZ) hA h_58) (va_cwS 1 hts gX9_reign_X9_left rfl rfl rfl (by decide +kernel) ⟨Nat.le_of_ble_eq_true rfl, Nat.le_of_ble_eq_true rfl⟩) hK hZ hP hS rfl rfl hl.1 (Nat.le_of_ble_eq_true rfl) ⟨Nat.zero_le _, Nat.zero_le _⟩ dX9_reign_129 (fun H locs hP hS => ?_)
                    obtain ⟨n_59, hf⟩ := rg_el hf
                    refine va_iast hx hb hK hP (wD hA cI cJ cZ z_57) hS 27 0 (wc_27 A cI cJ cZ z_57) rfl n_59 dX9_reign_132 (fun H locs hP _ hS => ?_)
                    rw [wa_27 A cI cJ cZ z_57 ((5 : Int32) * x5_45).toNatClampNeg r_56] at hP
                    obtain ⟨z_60, hP, hf⟩ := lt_P (P := fun q => wIs dC dI A cI cJ cZ q H) hP hf
                    obtain ⟨x5_61, ex5_61⟩ : ∃ q : Int32, q = x5_45 + (1 : Int32) := ⟨_, rfl⟩
                    refine lv_iinc (v := x5_61) (lv' := [(5, .int x5_61), (6, .int x6_52), (0, .ref (A 25)), (1, .int p0), (2, .int p1), (3, .int x3_29), (4, .int x4_30)]) hx hb dX9_reign_133 hl (k := 6) rfl (by rw [ex5_61]; rfl) (by decide) rfl (fun ls hl => ?_)
                    have hf := lt_at ex5_61 hf; clear ex5_61
                    refine lv_goto (tgt := 66) hx hb dX9_reign_136 (by decide) ?_
                    exact ihK_33 _ _ _ _ _ hf hP hS (lv_sub hl [2, 3, 4, 5, 6, 0] rfl)
              exact hLK_33 FU _ _ _ _ _ hf hP hS (lv_sub hl [1, 2, 3, 4, 5, 0] rfl)
        exact hLK_12 FU _ _ _ _ _ _ hf hP hS (lv_sub hl [2, 3, 4, 1, 0] rfl)
      have hLK_9 : ∀ (n_64 : Nat) (x3_63 : Int32) (z_62 : Mem) (H : Heap) (locs : List Loc) (ls : Array Slot), fX9_reign_L27 K_9  n_64 x3_63 z_62 = some (r, z') → wIs dC dI A cI cJ cZ z_62 H → va_S (fr A) s.heap H locs → lv_has ls 7 [(0, .ref (A 25)), (1, .int p0), (2, .int p1), (3, .int x3_63)] → WI p l e wsX9_reign 2 s m [.ref (A 25), .int p0, .int p1] below meth c dC dI A cI cJ cZ r z' H locs (F0 m 27 ls []) := by
        intro n_64
        induction n_64 with
        | zero => intro x3_63 z_62 H locs ls hf; rw [fX9_reign_L27_0] at hf; cases hf
        | succ n_64 ihK_9 =>
          intro x3_63 z_62 H locs ls hf hP hS hl
          rw [fX9_reign_L27_s] at hf
          refine lv_iload_n hx hb dX9_reign_27 rfl (lv_at hl 3 rfl) ?_
          refine lv_bipush (v := 26) hx hb dX9_reign_28 (by decide) ?_
          refine lv_icmp_ge (tgt := 51) hx hb dX9_reign_30 (by decide) (fun c_65 => ?_) (fun c_65 => ?_)
          · have hf := it_t c_65 hf
            exact hEK_9 _ _ _ _ _ hf hP hS (lv_sub hl [0, 1, 2, 3] rfl)
          · have hf := it_f c_65 hf
            refine lv_aload_n hx hb dX9_reign_33 rfl (lv_at hl 0 rfl) ?_
            refine va_get (D := (dC, dI)) (ci := 9) (v := .ref (A 40)) (C := RX9) (T := TX9) (N := 34) hx hb hts i9 hown hK hP 25 (wc_25 A cI cJ cZ z_62) rfl 31 (by decide) (hts (.fieldLink RX9 53 "LightestRulesModel" "spare" "[I") (by decide +kernel)) (fun _ h9 => h9) rfl dX9_reign_34 ?_
            refine lv_iload_n hx hb dX9_reign_37 rfl (lv_at hl 3 rfl) ?_
            refine lv_aload_n hx hb dX9_reign_38 rfl (lv_at hl 0 rfl) ?_
            refine va_get (D := (dC, dI)) (ci := 9) (v := .ref (A 27)) (C := RX9) (T := TX9) (N := 34) hx hb hts i9 hown hK hP 25 (wc_25 A cI cJ cZ z_62) rfl 5 (by decide) (hts (.fieldLink RX9 13 "LightestRulesModel" "now" "[I") (by decide +kernel)) (fun _ h9 => h9) rfl dX9_reign_39 ?_
            refine lv_iload_n hx hb dX9_reign_42 rfl (lv_at hl 3 rfl) ?_
            obtain ⟨n_66, hf⟩ := rg_el hf
            refine va_iald hx hb hK hP 27 0 (wc_27 A cI cJ cZ z_62) rfl n_66 dX9_reign_43 ?_
            refine lv_topi (fun a_67 ea_67 => ?_)
            have hf := lt_at ea_67 hf; clear ea_67
            obtain ⟨n_68, hf⟩ := rg_el hf
            refine va_iast hx hb hK hP (wD hA cI cJ cZ z_62) hS 40 0 (wc_40 A cI cJ cZ z_62) rfl n_68 dX9_reign_44 (fun H locs hP _ hS => ?_)
            rw [wa_40 A cI cJ cZ z_62 x3_63.toNatClampNeg a_67] at hP
            obtain ⟨z_69, hP, hf⟩ := lt_P (P := fun q => wIs dC dI A cI cJ cZ q H) hP hf
            obtain ⟨x3_70, ex3_70⟩ : ∃ q : Int32, q = x3_63 + (1 : Int32) := ⟨_, rfl⟩
            refine lv_iinc (v := x3_70) (lv' := [(3, .int x3_70), (0, .ref (A 25)), (1, .int p0), (2, .int p1)]) hx hb dX9_reign_45 hl (k := 3) rfl (by rw [ex3_70]; rfl) (by decide) rfl (fun ls hl => ?_)
            have hf := lt_at ex3_70 hf; clear ex3_70
            refine lv_goto (tgt := 27) hx hb dX9_reign_48 (by decide) ?_
            exact ihK_9 _ _ _ _ _ hf hP hS (lv_sub hl [1, 2, 3, 0] rfl)
      exact hLK_9 FU _ _ _ _ _ hf hP hS (lv_sub hl [1, 2, 3, 0] rfl)
    · have hf := it_t c_8 hf
      refine lv_bipush (v := -2) hx hb dX9_reign_22 (by decide) ?_
      exact retI hx hb hr hlocks hP hS hf dX9_reign_24
  · have hf := it_t c_4 hf
    refine lv_iconst (v := -1) hx hb dX9_reign_8 (by decide) ?_
    exact retI hx hb hr hlocks hP hS hf dX9_reign_9
set_option maxHeartbeats 4000000 in
set_option maxRecDepth 100000 in
theorem tX5_isSlot {l : Launch} {dC : Nat → ClassId} {dI : Nat → Nat → Nat} {A : Nat → Nat} {t0 : Nat} {cI cJ cZ : ClassId} (hA : dst A) {p0 : Int32} {z : Mem} {r : Int32} {z' : Mem} (hf : fX5_isSlot p0 z = some (r, z')) : MI l dC dI A t0 cI cJ cZ yX5_isSlot wsX5_isSlot 0 [.int p0] z r z' := by
  refine Met.ofW (cc := cX5_isSlot) (maxL := 1) (ret := (some .boolean)) (by decide) rfl ?_
  intro p e s m args below meth c s₁ B hml hv
  obtain ⟨rfl, hP, hK, hZ⟩ := hv
  have hx := B.exec
  have hb := B.bytes
  have hr := B.returns
  have hts := atoms_spec (ws := wsX5_isSlot) B.pre
  have hown : s.vm.findClass RX5 = some m.cls := findClass_of_methodNamed B.named
  have hlocks := B.notSynchronized
  have hS : va_S (fr A) s.heap s.heap [] := va_S.rf
  have hl := lv_entry ([.int p0]) (n := 1) (Nat.le_of_ble_eq_true rfl)
  rw [lg_entry_eq]
  generalize (lg_sl ([.int p0]) ++ List.replicate (1 - (lg_sl ([.int p0])).length) Slot.unset).toArray = ls at hl ⊢
  have hl : lv_has ls 1 [(0, .int p0)] := hl
  have hP : wIs dC dI A cI cJ cZ z s.heap := hP
  rw [fX5_isSlot] at hf
  refine lv_iload_n hx hb dX5_isSlot_0 rfl (lv_at hl 0 rfl) ?_
  refine lv_if_lt (tgt := 13) hx hb dX5_isSlot_1 (by decide) (fun c_1 => ?_) (fun c_1 => ?_)
  · have hf := it_t c_1 hf
    refine lv_iconst (v := 0) hx hb dX5_isSlot_13 (by decide) ?_
    exact retZ hx hb hr hlocks rfl hP hS hf dX5_isSlot_14
  · have hf := it_f c_1 hf
    refine lv_iload_n hx hb dX5_isSlot_4 rfl (lv_at hl 0 rfl) ?_
    refine lv_iconst (v := 2) hx hb dX5_isSlot_5 (by decide) ?_
    refine lv_icmp_ge (tgt := 13) hx hb dX5_isSlot_6 (by decide) (fun c_2 => ?_) (fun c_2 => ?_)
    · have hf := it_t c_2 hf
      refine lv_iconst (v := 0) hx hb dX5_isSlot_13 (by decide) ?_
      exact retZ hx hb hr hlocks rfl hP hS hf dX5_isSlot_14
    · have hf := it_f c_2 hf
      refine lv_iconst (v := 1) hx hb dX5_isSlot_9 (by decide) ?_
      refine lv_goto (tgt := 14) hx hb dX5_isSlot_10 (by decide) ?_
      exact retZ hx hb hr hlocks rfl hP hS hf dX5_isSlot_14
set_option maxHeartbeats 4000000 in
set_option maxRecDepth 100000 in
theorem tX2_copyTo_2_13 {l : Launch} {dC : Nat → ClassId} {dI : Nat → Nat → Nat} {A : Nat → Nat} {t0 : Nat} {cI cJ cZ : ClassId} (hA : dst A) {p1 : Int32} {z : Mem} {ru : Unit} {z' : Mem} (hf : fX2_copyTo_2_13 p1 z = some (ru, z')) : MV l dC dI A t0 cI cJ cZ yX2_copyTo wsX2_copyTo 1 [.ref (A 2), .ref (A 13), .int p1] z z' := by
  refine Met.ofW (cc := cX2_copyTo) (maxL := 3) (ret := none) (by decide) rfl ?_
  intro p e s m args below meth c s₁ B hml hv
  obtain ⟨rfl, hP, hK, hZ⟩ := hv
  have hx := B.exec
  have hb := B.bytes
  have hr := B.returns
  have hts := atoms_spec (ws := wsX2_copyTo) B.pre
  have hown : s.vm.findClass RX2 = some m.cls := findClass_of_methodNamed B.named
  have hlocks := B.notSynchronized
  have hS : va_S (fr A) s.heap s.heap [] := va_S.rf
  have i2 : ∀ w ∈ wsX20, w ∈ wsX2_copyTo := fun _ h => List.mem_cons_of_mem _ (List.mem_append_right _ h)
  have hl := lv_entry ([.ref (A 2), .ref (A 13), .int p1]) (n := 3) (Nat.le_of_ble_eq_true rfl)
  rw [lg_entry_eq]
  generalize (lg_sl ([.ref (A 2), .ref (A 13), .int p1]) ++ List.replicate (3 - (lg_sl ([.ref (A 2), .ref (A 13), .int p1])).length) Slot.unset).toArray = ls at hl ⊢
  have hl : lv_has ls 3 [(0, .ref (A 2)), (1, .ref (A 13)), (2, .int p1)] := hl
  have hP : wIs dC dI A cI cJ cZ z s.heap := hP
  rw [fX2_copyTo_2_13] at hf
  refine lv_iload_n hx hb dX2_copyTo_0 rfl (lv_at hl 2 rfl) ?_
  refine lv_if_lt (tgt := 28) hx hb dX2_copyTo_1 (by decide) (fun c_1 => ?_) (fun c_1 => ?_)
  · have hf := it_t c_1 hf
    exact retV hx hb hr hlocks hP hS hf dX2_copyTo_28
  · have hf := it_f c_1 hf
    refine lv_iload_n hx hb dX2_copyTo_4 rfl (lv_at hl 2 rfl) ?_
    refine lv_aload_n hx hb dX2_copyTo_5 rfl (lv_at hl 1 rfl) ?_
    refine va_alen hx hb hK hP 13 0 (wc_13 A cI cJ cZ z) rfl (v := 52) rfl dX2_copyTo_6 ?_
    refine lv_bipush (v := 26) hx hb dX2_copyTo_7 (by decide) ?_
    obtain ⟨n_2, hf⟩ := nz_el hf
    refine lv_idiv hx hb dX2_copyTo_9 n_2 ?_
    refine lv_icmp_ge (tgt := 28) hx hb dX2_copyTo_10 (by decide) (fun c_3 => ?_) (fun c_3 => ?_)
    · have hf := it_t c_3 hf
      exact retV hx hb hr hlocks hP hS hf dX2_copyTo_28
    · have hf := it_f c_3 hf
      refine lv_aload_n hx hb dX2_copyTo_13 rfl (lv_at hl 0 rfl) ?_
      refine va_get (D := (dC, dI)) (ci := 2) (v := .ref (A 11)) (C := RX2) (T := TX2) (N := 4) hx hb hts i2 hown hK hP 2 (wc_2 A cI cJ cZ z) rfl 0 (by decide) (hts (.fieldLink RX2 11 "LightestRules$People" "cells" "[I") (by decide +kernel)) (fun _ h9 => h9) rfl dX2_copyTo_14 ?_
      refine lv_iconst (v := 0) hx hb dX2_copyTo_17 (by decide) ?_
      refine lv_aload_n hx hb dX2_copyTo_18 rfl (lv_at hl 1 rfl) ?_
      refine lv_iload_n hx hb dX2_copyTo_19 rfl (lv_at hl 2 rfl) ?_
      refine lv_bipush (v := 26) hx hb dX2_copyTo_20 (by decide) ?_
      refine lv_imul hx hb dX2_copyTo_22 ?_
      refine lv_bipush (v := 26) hx hb dX2_copyTo_23 (by decide) ?_
      obtain ⟨n_4, hf⟩ := ac_el hf
      refine va_copyi hx hb (hml.trans hl.1.symm) hown (hts (.methodLink RX2 54 arraycopyName) (by decide +kernel)) (hts (.native arraycopyName) (by decide +kernel)) (hts (.static arraycopyName) (by decide +kernel)) (hts (.initialized "java/lang/System" ) (by decide +kernel)) hK hP (wD hA cI cJ cZ z) hS 11 13 0 0 (wc_11 A cI cJ cZ z) (wc_13 A cI cJ cZ z) rfl rfl rfl n_4.1 n_4.2.1 n_4.2.2.1 n_4.2.2.2.1 n_4.2.2.2.2 (fun _ _ => rfl) (Nat.le_of_ble_eq_true rfl) (Nat.le_of_ble_eq_true rfl) dX2_copyTo_25 (fun H locs hP _ hS => ?_)
      rw [wr_13 A cI cJ cZ z (va_cpy (z.1 11) (z.1 13) (0 : Int32).toNatClampNeg (p1 * (26 : Int32)).toNatClampNeg (26 : Int32).toNatClampNeg)] at hP
      obtain ⟨z_5, hP, hf⟩ := lt_P (P := fun q => wIs dC dI A cI cJ cZ q H) hP hf
      exact retV hx hb hr hlocks hP hS hf dX2_copyTo_28
set_option maxHeartbeats 4000000 in
set_option maxRecDepth 100000 in
theorem tX5_put {l : Launch} {dC : Nat → ClassId} {dI : Nat → Nat → Nat} {A : Nat → Nat} {t0 : Nat} {cI cJ cZ : ClassId} (hA : dst A) {p0 : Int32} {z : Mem} {ru : Unit} {z' : Mem} (hf : fX5_put p0 z = some (ru, z')) : MV l dC dI A t0 cI cJ cZ yX5_put wsX5_put 2 [.ref (A 4), .int p0, .ref (A 2)] z z' := by
  refine Met.ofW (cc := cX5_put) (maxL := 3) (ret := none) (by decide) rfl ?_
  intro p e s m args below meth c s₁ B hml hv
  obtain ⟨rfl, hP, hK, hZ⟩ := hv
  have hx := B.exec
  have hb := B.bytes
  have hr := B.returns
  have hts := atoms_spec (ws := wsX5_put) B.pre
  have hown : s.vm.findClass RX5 = some m.cls := findClass_of_methodNamed B.named
  have hlocks := B.notSynchronized
  have hS : va_S (fr A) s.heap s.heap [] := va_S.rf
  have i5 : ∀ w ∈ wsX50, w ∈ wsX5_put := fun _ h => List.mem_cons_of_mem _ (List.mem_append_left _ (List.mem_append_right _ h))
  have hl := lv_entry ([.ref (A 4), .int p0, .ref (A 2)]) (n := 3) (Nat.le_of_ble_eq_true rfl)
  rw [lg_entry_eq]
  generalize (lg_sl ([.ref (A 4), .int p0, .ref (A 2)]) ++ List.replicate (3 - (lg_sl ([.ref (A 4), .int p0, .ref (A 2)])).length) Slot.unset).toArray = ls at hl ⊢
  have hl : lv_has ls 3 [(0, .ref (A 4)), (1, .int p0), (2, .ref (A 2))] := hl
  have hP : wIs dC dI A cI cJ cZ z s.heap := hP
  rw [fX5_put] at hf
  refine lv_iload_n hx hb dX5_put_0 rfl (lv_at hl 1 rfl) ?_
  obtain ⟨r_1, z_2, h_3, hf⟩ := cl_el hf
  refine callSI (As := [.int p0]) (rest := []) ⟨hx, hb, hml, hown, hts⟩ (tX5_isSlot (l := l) (dC := dC) (dI := dI) (t0 := t0) (cI := cI) (cJ := cJ) (cZ := cZ) hA h_3) (va_cwS 1 hts gX5_put_X5_isSlot rfl rfl rfl (by decide +kernel) ⟨Nat.le_of_ble_eq_true rfl, Nat.le_of_ble_eq_true rfl⟩) hK hZ hP hS rfl rfl hl.1 (Nat.le_of_ble_eq_true rfl) ⟨Nat.zero_le _, Nat.zero_le _⟩ dX5_put_1 (fun H locs hP hS => ?_)
  refine lv_if_eq (tgt := 28) hx hb dX5_put_4 (by decide) (fun c_4 => ?_) (fun c_4 => ?_)
  · have hf := it_t c_4 hf
    exact retV hx hb hr hlocks hP hS hf dX5_put_28
  · have hf := it_f c_4 hf
    refine lv_aload_n hx hb dX5_put_7 rfl (lv_at hl 2 rfl) ?_
    refine lv_aload_n hx hb dX5_put_8 rfl (lv_at hl 0 rfl) ?_
    refine va_get (D := (dC, dI)) (ci := 5) (v := .ref (A 13)) (C := RX5) (T := TX5) (N := 2) hx hb hts i5 hown hK hP 4 (wc_4 A cI cJ cZ z_2) rfl 0 (by decide) (hts (.fieldLink RX5 11 "LightestRules$Slots" "kept" "[I") (by decide +kernel)) (fun _ h9 => h9) rfl dX5_put_9 ?_
    refine lv_iload_n hx hb dX5_put_12 rfl (lv_at hl 1 rfl) ?_
    obtain ⟨r_5, z_6, h_7, hf⟩ := cl_el hf
    refine callVV (As := [.ref (A 13), .int p0]) (rest := []) (ci := 2) (q0 := 2) ⟨hx, hb, hml, hown, hts⟩ (tX2_copyTo_2_13 (l := l) (dC := dC) (dI := dI) (t0 := t0) (cI := cI) (cJ := cJ) (cZ := cZ) hA h_7) (cwV 2 hts gX5_put_X2_copyTo rfl rfl rfl (by decide +kernel) ⟨Nat.le_of_ble_eq_true rfl, Nat.le_of_ble_eq_true rfl⟩) hK hZ hP hS rfl (wc_2 A cI cJ cZ z_2) rfl rfl rfl hl.1 (Nat.le_of_ble_eq_true rfl) ⟨Nat.zero_le _, Nat.zero_le _⟩ dX5_put_13 (fun H locs hP hS => ?_)
    refine lv_aload_n hx hb dX5_put_16 rfl (lv_at hl 0 rfl) ?_
    refine lv_dup hx hb dX5_put_17 rfl ?_
    refine va_get (D := (dC, dI)) (ci := 5) (v := .int (z_6.1 4 1)) (C := RX5) (T := TX5) (N := 2) hx hb hts i5 hown hK hP 4 (wc_4 A cI cJ cZ z_6) rfl 1 (by decide) (hts (.fieldLink RX5 15 "LightestRules$Slots" "filledBits" "I") (by decide +kernel)) (fun _ h9 => h9) rfl dX5_put_18 ?_
    refine lv_iconst (v := 1) hx hb dX5_put_21 (by decide) ?_
    refine lv_iload_n hx hb dX5_put_22 rfl (lv_at hl 1 rfl) ?_
    refine lv_ishl hx hb dX5_put_23 ?_
    refine lv_ior hx hb dX5_put_24 ?_
    refine lv_topi (fun y_8 ey_8 => ?_)
    have hf := lt_at ey_8 hf; clear ey_8
    refine va_put (D := (dC, dI)) (ci := 5) (v := .int y_8) (ty := .int) (C := RX5) (T := TX5) (N := 2) hx hb hts i5 tyX5 tyX5_ok nmX5 hown hK hP (wD hA cI cJ cZ z_6) hS 4 (wc_4 A cI cJ cZ z_6) rfl 1 (by decide) (hts (.fieldLink RX5 15 "LightestRules$Slots" "filledBits" "I") (by decide +kernel)) (fun _ h9 => h9) rfl (by decide +kernel) rfl rfl (Nat.le_of_ble_eq_true rfl) dX5_put_25 (fun H locs hP _ hS => ?_)
    rw [ws_4_1 A cI cJ cZ z_6 y_8] at hP
    obtain ⟨z_9, hP, hf⟩ := lt_P (P := fun q => wIs dC dI A cI cJ cZ q H) hP hf
    exact retV hx hb hr hlocks hP hS hf dX5_put_28
set_option maxHeartbeats 4000000 in
set_option maxRecDepth 100000 in
theorem tX8_keep {l : Launch} {dC : Nat → ClassId} {dI : Nat → Nat → Nat} {A : Nat → Nat} {t0 : Nat} {cI cJ cZ : ClassId} (hA : dst A) {p0 : Int32} {z : Mem} {r : Int32} {z' : Mem} (hf : fX8_keep p0 z = some (r, z')) : MI l dC dI A t0 cI cJ cZ yX8_keep wsX8_keep 3 [.ref (A 0), .int p0] z r z' := by
  refine Met.ofW (cc := cX8_keep) (maxL := 2) (ret := (some .int)) (by decide) rfl ?_
  intro p e s m args below meth c s₁ B hml hv
  obtain ⟨rfl, hP, hK, hZ⟩ := hv
  have hx := B.exec
  have hb := B.bytes
  have hr := B.returns
  have hts := atoms_spec (ws := wsX8_keep) B.pre
  have hown : s.vm.findClass RX8 = some m.cls := findClass_of_methodNamed B.named
  have hlocks := B.notSynchronized
  have hS : va_S (fr A) s.heap s.heap [] := va_S.rf
  have i8 : ∀ w ∈ wsX80, w ∈ wsX8_keep := fun _ h => List.mem_cons_of_mem _ (List.mem_append_left _ (List.mem_append_left _ (List.mem_append_right _ h)))
  have hl := lv_entry ([.ref (A 0), .int p0]) (n := 2) (Nat.le_of_ble_eq_true rfl)
  rw [lg_entry_eq]
  generalize (lg_sl ([.ref (A 0), .int p0]) ++ List.replicate (2 - (lg_sl ([.ref (A 0), .int p0])).length) Slot.unset).toArray = ls at hl ⊢
  have hl : lv_has ls 2 [(0, .ref (A 0)), (1, .int p0)] := hl
  have hP : wIs dC dI A cI cJ cZ z s.heap := hP
  rw [fX8_keep] at hf
  refine lv_iload_n hx hb dX8_keep_0 rfl (lv_at hl 1 rfl) ?_
  obtain ⟨r_1, z_2, h_3, hf⟩ := cl_el hf
  refine callSI (As := [.int p0]) (rest := []) ⟨hx, hb, hml, hown, hts⟩ (tX5_isSlot (l := l) (dC := dC) (dI := dI) (t0 := t0) (cI := cI) (cJ := cJ) (cZ := cZ) hA h_3) (va_cwS 1 hts gX8_keep_X5_isSlot rfl rfl rfl (by decide +kernel) ⟨Nat.le_of_ble_eq_true rfl, Nat.le_of_ble_eq_true rfl⟩) hK hZ hP hS rfl rfl hl.1 (Nat.le_of_ble_eq_true rfl) ⟨Nat.zero_le _, Nat.zero_le _⟩ dX8_keep_1 (fun H locs hP hS => ?_)
  refine lv_if_ne (tgt := 9) hx hb dX8_keep_4 (by decide) (fun c_4 => ?_) (fun c_4 => ?_)
  · have hf := it_f c_4 hf
    refine lv_aload_n hx hb dX8_keep_9 rfl (lv_at hl 0 rfl) ?_
    refine va_get (D := (dC, dI)) (ci := 8) (v := .ref (A 4)) (C := RX8) (T := TX8) (N := 9) hx hb hts i8 hown hK hP 0 (wc_0 A cI cJ cZ z_2) rfl 3 (by decide) (hts (.fieldLink RX8 33 "LightestRules" "slots" "LLightestRules$Slots;") (by decide +kernel)) (fun _ h9 => h9) rfl dX8_keep_10 ?_
    refine lv_iload_n hx hb dX8_keep_13 rfl (lv_at hl 1 rfl) ?_
    refine lv_aload_n hx hb dX8_keep_14 rfl (lv_at hl 0 rfl) ?_
    refine va_get (D := (dC, dI)) (ci := 8) (v := .ref (A 2)) (C := RX8) (T := TX8) (N := 9) hx hb hts i8 hown hK hP 0 (wc_0 A cI cJ cZ z_2) rfl 1 (by decide) (hts (.fieldLink RX8 19 "LightestRules" "folk" "LLightestRules$People;") (by decide +kernel)) (fun _ h9 => h9) rfl dX8_keep_15 ?_
    obtain ⟨r_5, z_6, h_7, hf⟩ := cl_el hf
    refine callVV (As := [.int p0, .ref (A 2)]) (rest := []) (ci := 5) (q0 := 4) ⟨hx, hb, hml, hown, hts⟩ (tX5_put (l := l) (dC := dC) (dI := dI) (t0 := t0) (cI := cI) (cJ := cJ) (cZ := cZ) hA h_7) (cwV 2 hts gX8_keep_X5_put rfl rfl rfl (by decide +kernel) ⟨Nat.le_of_ble_eq_true rfl, Nat.le_of_ble_eq_true rfl⟩) hK hZ hP hS rfl (wc_4 A cI cJ cZ z_2) rfl rfl rfl hl.1 (Nat.le_of_ble_eq_true rfl) ⟨Nat.zero_le _, Nat.zero_le _⟩ dX8_keep_18 (fun H locs hP hS => ?_)
    refine lv_aload_n hx hb dX8_keep_21 rfl (lv_at hl 0 rfl) ?_
    refine va_get (D := (dC, dI)) (ci := 8) (v := .ref (A 2)) (C := RX8) (T := TX8) (N := 9) hx hb hts i8 hown hK hP 0 (wc_0 A cI cJ cZ z_6) rfl 1 (by decide) (hts (.fieldLink RX8 19 "LightestRules" "folk" "LLightestRules$People;") (by decide +kernel)) (fun _ h9 => h9) rfl dX8_keep_22 ?_
    obtain ⟨r_8, z_9, h_10, hf⟩ := cl_el hf
    refine callVI (As := []) (rest := []) (ci := 2) (q0 := 2) ⟨hx, hb, hml, hown, hts⟩ (tX2_today (l := l) (dC := dC) (dI := dI) (t0 := t0) (cI := cI) (cJ := cJ) (cZ := cZ) hA h_10) (cwV 0 hts gX8_keep_X2_today rfl rfl rfl (by decide +kernel) ⟨Nat.le_of_ble_eq_true rfl, Nat.le_of_ble_eq_true rfl⟩) hK hZ hP hS rfl (wc_2 A cI cJ cZ z_6) rfl rfl rfl hl.1 (Nat.le_of_ble_eq_true rfl) ⟨Nat.zero_le _, Nat.zero_le _⟩ dX8_keep_25 (fun H locs hP hS => ?_)
    exact retI hx hb hr hlocks hP hS hf dX8_keep_28
  · have hf := it_t c_4 hf
    refine lv_iconst (v := -1) hx hb dX8_keep_7 (by decide) ?_
    exact retI hx hb hr hlocks hP hS hf dX8_keep_8
set_option maxHeartbeats 4000000 in
set_option maxRecDepth 100000 in
theorem tX9_keep {l : Launch} {dC : Nat → ClassId} {dI : Nat → Nat → Nat} {A : Nat → Nat} {t0 : Nat} {cI cJ cZ : ClassId} (hA : dst A) {p0 : Int32} {z : Mem} {r : Int32} {z' : Mem} (hf : fX9_keep p0 z = some (r, z')) : MI l dC dI A t0 cI cJ cZ yX9_keep wsX9_keep 1 [.ref (A 25), .int p0] z r z' := by
  refine Met.ofW (cc := cX9_keep) (maxL := 3) (ret := (some .int)) (by decide) rfl ?_
  intro p e s m args below meth c s₁ B hml hv
  obtain ⟨rfl, hP, hK, hZ⟩ := hv
  have hx := B.exec
  have hb := B.bytes
  have hr := B.returns
  have hts := atoms_spec (ws := wsX9_keep) B.pre
  have hown : s.vm.findClass RX9 = some m.cls := findClass_of_methodNamed B.named
  have hlocks := B.notSynchronized
  have hS : va_S (fr A) s.heap s.heap [] := va_S.rf
  have i9 : ∀ w ∈ wsX90, w ∈ wsX9_keep := fun _ h => List.mem_cons_of_mem _ (List.mem_append_right _ h)
  have hl := lv_entry ([.ref (A 25), .int p0]) (n := 3) (Nat.le_of_ble_eq_true rfl)
  rw [lg_entry_eq]
  generalize (lg_sl ([.ref (A 25), .int p0]) ++ List.replicate (3 - (lg_sl ([.ref (A 25), .int p0])).length) Slot.unset).toArray = ls at hl ⊢
  have hl : lv_has ls 3 [(0, .ref (A 25)), (1, .int p0)] := hl
  have hP : wIs dC dI A cI cJ cZ z s.heap := hP
  rw [fX9_keep] at hf
  refine lv_iload_n hx hb dX9_keep_0 rfl (lv_at hl 1 rfl) ?_
  refine lv_i2l hx hb dX9_keep_1 rfl ?_
  refine lv_lconst (v := 0) hx hb dX9_keep_2 rfl ?_
  refine lv_lconst (v := 1) hx hb dX9_keep_3 rfl ?_
  obtain ⟨r_1, z_2, h_3, hf⟩ := cl_el hf
  refine callSI (As := [.long (p0.toInt64), .long (0 : Int64), .long (1 : Int64)]) (rest := []) ⟨hx, hb, hml, hown, hts⟩ (tX9_in (l := l) (dC := dC) (dI := dI) (t0 := t0) (cI := cI) (cJ := cJ) (cZ := cZ) hA h_3) (va_cwS 3 hts gX9_keep_X9_in rfl rfl rfl (by decide +kernel) ⟨Nat.le_of_ble_eq_true rfl, Nat.le_of_ble_eq_true rfl⟩) hK hZ hP hS rfl rfl hl.1 (Nat.le_of_ble_eq_true rfl) ⟨Nat.zero_le _, Nat.zero_le _⟩ dX9_keep_4 (fun H locs hP hS => ?_)
  refine lv_if_ne (tgt := 12) hx hb dX9_keep_7 (by decide) (fun c_4 => ?_) (fun c_4 => ?_)
  · have hf := it_f c_4 hf
    refine lv_aload_n hx hb dX9_keep_12 rfl (lv_at hl 0 rfl) ?_
    refine va_get (D := (dC, dI)) (ci := 9) (v := .ref (A 41)) (C := RX9) (T := TX9) (N := 34) hx hb hts i9 hown hK hP 25 (wc_25 A cI cJ cZ z_2) rfl 32 (by decide) (hts (.fieldLink RX9 56 "LightestRulesModel" "isKept" "[Z") (by decide +kernel)) (fun _ h9 => h9) rfl dX9_keep_13 ?_
    refine lv_iload_n hx hb dX9_keep_16 rfl (lv_at hl 1 rfl) ?_
    refine lv_iconst (v := 1) hx hb dX9_keep_17 (by decide) ?_
    obtain ⟨n_5, hf⟩ := rg_el hf
    refine va_zast hx hb hK hP (wD hA cI cJ cZ z_2) hS 41 2 (wc_41 A cI cJ cZ z_2) rfl n_5 dX9_keep_18 (fun H locs hP _ hS => ?_)
    rw [wa_41 A cI cJ cZ z_2 p0.toNatClampNeg (vp_nar .boolean (1 : Int32))] at hP
    obtain ⟨z_6, hP, hf⟩ := lt_P (P := fun q => wIs dC dI A cI cJ cZ q H) hP hf
    refine lv_iconst (v := 0) hx hb dX9_keep_19 (by decide) ?_
    refine lv_istore_n (lv' := [(2, .int (0 : Int32)), (0, .ref (A 25)), (1, .int p0)]) hx hb dX9_keep_20 rfl hl (by decide) rfl (fun ls hl => ?_)
    obtain ⟨K_7, eK_7, hf⟩ := fX9_keep_L21_g hf
    have hEK_7 : ∀ (x2_9 : Int32) (z_8 : Mem) (H : Heap) (locs : List Loc) (ls : Array Slot), K_7 x2_9 z_8 = some (r, z') → wIs dC dI A cI cJ cZ z_8 H → va_S (fr A) s.heap H locs → lv_has ls 3 [(0, .ref (A 25)), (1, .int p0), (2, .int x2_9)] → WI p l e wsX9_keep 1 s m [.ref (A 25), .int p0] below meth c dC dI A cI cJ cZ r z' H locs (F0 m 50 ls []) := by
      intro x2_9 z_8 H locs ls hf hP hS hl
      have hf := ap2 eK_7 hf
      refine lv_aload_n hx hb dX9_keep_50 rfl (lv_at hl 0 rfl) ?_
      refine va_get (D := (dC, dI)) (ci := 9) (v := .ref (A 27)) (C := RX9) (T := TX9) (N := 34) hx hb hts i9 hown hK hP 25 (wc_25 A cI cJ cZ z_8) rfl 5 (by decide) (hts (.fieldLink RX9 13 "LightestRulesModel" "now" "[I") (by decide +kernel)) (fun _ h9 => h9) rfl dX9_keep_51 ?_
      refine lv_bipush (v := 25) hx hb dX9_keep_54 (by decide) ?_
      obtain ⟨n_10, hf⟩ := rg_el hf
      refine va_iald hx hb hK hP 27 0 (wc_27 A cI cJ cZ z_8) rfl n_10 dX9_keep_56 ?_
      refine lv_topi (fun a_11 ea_11 => ?_)
      have hf := lt_at ea_11 hf; clear ea_11
      exact retI hx hb hr hlocks hP hS hf dX9_keep_57
    have hLK_7 : ∀ (n_14 : Nat) (x2_13 : Int32) (z_12 : Mem) (H : Heap) (locs : List Loc) (ls : Array Slot), fX9_keep_L21 K_7 p0 n_14 x2_13 z_12 = some (r, z') → wIs dC dI A cI cJ cZ z_12 H → va_S (fr A) s.heap H locs → lv_has ls 3 [(0, .ref (A 25)), (1, .int p0), (2, .int x2_13)] → WI p l e wsX9_keep 1 s m [.ref (A 25), .int p0] below meth c dC dI A cI cJ cZ r z' H locs (F0 m 21 ls []) := by
      intro n_14
      induction n_14 with
      | zero => intro x2_13 z_12 H locs ls hf; rw [fX9_keep_L21_0] at hf; cases hf
      | succ n_14 ihK_7 =>
        intro x2_13 z_12 H locs ls hf hP hS hl
        rw [fX9_keep_L21_s] at hf
        refine lv_iload_n hx hb dX9_keep_21 rfl (lv_at hl 2 rfl) ?_
        refine lv_bipush (v := 26) hx hb dX9_keep_22 (by decide) ?_
        refine lv_icmp_ge (tgt := 50) hx hb dX9_keep_24 (by decide) (fun c_15 => ?_) (fun c_15 => ?_)
        · have hf := it_t c_15 hf
          exact hEK_7 _ _ _ _ _ hf hP hS (lv_sub hl [0, 1, 2] rfl)
        · have hf := it_f c_15 hf
          refine lv_aload_n hx hb dX9_keep_27 rfl (lv_at hl 0 rfl) ?_
          refine va_get (D := (dC, dI)) (ci := 9) (v := .ref (A 42)) (C := RX9) (T := TX9) (N := 34) hx hb hts i9 hown hK hP 25 (wc_25 A cI cJ cZ z_12) rfl 33 (by decide) (hts (.fieldLink RX9 60 "LightestRulesModel" "kept" "[I") (by decide +kernel)) (fun _ h9 => h9) rfl dX9_keep_28 ?_
          refine lv_bipush (v := 26) hx hb dX9_keep_31 (by decide) ?_
          refine lv_iload_n hx hb dX9_keep_33 rfl (lv_at hl 1 rfl) ?_
          refine lv_imul hx hb dX9_keep_34 ?_
          refine lv_iload_n hx hb dX9_keep_35 rfl (lv_at hl 2 rfl) ?_
          refine lv_iadd hx hb dX9_keep_36 ?_
          refine lv_aload_n hx hb dX9_keep_37 rfl (lv_at hl 0 rfl) ?_
          refine va_get (D := (dC, dI)) (ci := 9) (v := .ref (A 27)) (C := RX9) (T := TX9) (N := 34) hx hb hts i9 hown hK hP 25 (wc_25 A cI cJ cZ z_12) rfl 5 (by decide) (hts (.fieldLink RX9 13 "LightestRulesModel" "now" "[I") (by decide +kernel)) (fun _ h9 => h9) rfl dX9_keep_38 ?_
          refine lv_iload_n hx hb dX9_keep_41 rfl (lv_at hl 2 rfl) ?_
          obtain ⟨n_16, hf⟩ := rg_el hf
          refine va_iald hx hb hK hP 27 0 (wc_27 A cI cJ cZ z_12) rfl n_16 dX9_keep_42 ?_
          refine lv_topi (fun a_17 ea_17 => ?_)
          have hf := lt_at ea_17 hf; clear ea_17
          obtain ⟨n_18, hf⟩ := rg_el hf
          refine va_iast hx hb hK hP (wD hA cI cJ cZ z_12) hS 42 0 (wc_42 A cI cJ cZ z_12) rfl n_18 dX9_keep_43 (fun H locs hP _ hS => ?_)
          rw [wa_42 A cI cJ cZ z_12 (((26 : Int32) * p0) + x2_13).toNatClampNeg a_17] at hP
          obtain ⟨z_19, hP, hf⟩ := lt_P (P := fun q => wIs dC dI A cI cJ cZ q H) hP hf
          obtain ⟨x2_20, ex2_20⟩ : ∃ q : Int32, q = x2_13 + (1 : Int32) := ⟨_, rfl⟩
          refine lv_iinc (v := x2_20) (lv' := [(2, .int x2_20), (0, .ref (A 25)), (1, .int p0)]) hx hb dX9_keep_44 hl (k := 2) rfl (by rw [ex2_20]; rfl) (by decide) rfl (fun ls hl => ?_)
          have hf := lt_at ex2_20 hf; clear ex2_20
          refine lv_goto (tgt := 21) hx hb dX9_keep_47 (by decide) ?_
          exact ihK_7 _ _ _ _ _ hf hP hS (lv_sub hl [1, 2, 0] rfl)
    exact hLK_7 FU _ _ _ _ _ hf hP hS (lv_sub hl [1, 2, 0] rfl)
  · have hf := it_t c_4 hf
    refine lv_iconst (v := -1) hx hb dX9_keep_10 (by decide) ?_
    exact retI hx hb hr hlocks hP hS hf dX9_keep_11
set_option maxHeartbeats 4000000 in
set_option maxRecDepth 100000 in
theorem tX5_holds {l : Launch} {dC : Nat → ClassId} {dI : Nat → Nat → Nat} {A : Nat → Nat} {t0 : Nat} {cI cJ cZ : ClassId} (hA : dst A) {p0 : Int32} {z : Mem} {r : Int32} {z' : Mem} (hf : fX5_holds p0 z = some (r, z')) : MI l dC dI A t0 cI cJ cZ yX5_holds wsX5_holds 1 [.ref (A 4), .int p0] z r z' := by
  refine Met.ofW (cc := cX5_holds) (maxL := 2) (ret := (some .boolean)) (by decide) rfl ?_
  intro p e s m args below meth c s₁ B hml hv
  obtain ⟨rfl, hP, hK, hZ⟩ := hv
  have hx := B.exec
  have hb := B.bytes
  have hr := B.returns
  have hts := atoms_spec (ws := wsX5_holds) B.pre
  have hown : s.vm.findClass RX5 = some m.cls := findClass_of_methodNamed B.named
  have hlocks := B.notSynchronized
  have hS : va_S (fr A) s.heap s.heap [] := va_S.rf
  have i5 : ∀ w ∈ wsX50, w ∈ wsX5_holds := fun _ h => List.mem_cons_of_mem _ (List.mem_append_right _ h)
  have hl := lv_entry ([.ref (A 4), .int p0]) (n := 2) (Nat.le_of_ble_eq_true rfl)
  rw [lg_entry_eq]
  generalize (lg_sl ([.ref (A 4), .int p0]) ++ List.replicate (2 - (lg_sl ([.ref (A 4), .int p0])).length) Slot.unset).toArray = ls at hl ⊢
  have hl : lv_has ls 2 [(0, .ref (A 4)), (1, .int p0)] := hl
  have hP : wIs dC dI A cI cJ cZ z s.heap := hP
  rw [fX5_holds] at hf
  refine lv_iload_n hx hb dX5_holds_0 rfl (lv_at hl 1 rfl) ?_
  obtain ⟨r_1, z_2, h_3, hf⟩ := cl_el hf
  refine callSI (As := [.int p0]) (rest := []) ⟨hx, hb, hml, hown, hts⟩ (tX5_isSlot (l := l) (dC := dC) (dI := dI) (t0 := t0) (cI := cI) (cJ := cJ) (cZ := cZ) hA h_3) (va_cwS 1 hts gX5_holds_X5_isSlot rfl rfl rfl (by decide +kernel) ⟨Nat.le_of_ble_eq_true rfl, Nat.le_of_ble_eq_true rfl⟩) hK hZ hP hS rfl rfl hl.1 (Nat.le_of_ble_eq_true rfl) ⟨Nat.zero_le _, Nat.zero_le _⟩ dX5_holds_1 (fun H locs hP hS => ?_)
  refine lv_if_eq (tgt := 23) hx hb dX5_holds_4 (by decide) (fun c_4 => ?_) (fun c_4 => ?_)
  · have hf := it_t c_4 hf
    refine lv_iconst (v := 0) hx hb dX5_holds_23 (by decide) ?_
    exact retZ hx hb hr hlocks rfl hP hS hf dX5_holds_24
  · have hf := it_f c_4 hf
    refine lv_aload_n hx hb dX5_holds_7 rfl (lv_at hl 0 rfl) ?_
    refine va_get (D := (dC, dI)) (ci := 5) (v := .int (z_2.1 4 1)) (C := RX5) (T := TX5) (N := 2) hx hb hts i5 hown hK hP 4 (wc_4 A cI cJ cZ z_2) rfl 1 (by decide) (hts (.fieldLink RX5 15 "LightestRules$Slots" "filledBits" "I") (by decide +kernel)) (fun _ h9 => h9) rfl dX5_holds_8 ?_
    refine lv_iload_n hx hb dX5_holds_11 rfl (lv_at hl 1 rfl) ?_
    refine lv_ishr hx hb dX5_holds_12 ?_
    refine lv_iconst (v := 1) hx hb dX5_holds_13 (by decide) ?_
    refine lv_iand hx hb dX5_holds_14 ?_
    refine lv_iconst (v := 1) hx hb dX5_holds_15 (by decide) ?_
    refine lv_icmp_ne (tgt := 23) hx hb dX5_holds_16 (by decide) (fun c_5 => ?_) (fun c_5 => ?_)
    · have hf := it_f c_5 hf
      refine lv_iconst (v := 0) hx hb dX5_holds_23 (by decide) ?_
      exact retZ hx hb hr hlocks rfl hP hS hf dX5_holds_24
    · have hf := it_t c_5 hf
      refine lv_iconst (v := 1) hx hb dX5_holds_19 (by decide) ?_
      refine lv_goto (tgt := 24) hx hb dX5_holds_20 (by decide) ?_
      exact retZ hx hb hr hlocks rfl hP hS hf dX5_holds_24
