set_option maxHeartbeats 16000000 in
set_option maxRecDepth 100000 in
theorem tL_law {p : Program} {l : Launch} {e : Env} {s : State} {m : MethodId} {below : List Frame} {meth : Method} {c : Code} {b L : Nat} {xs : Nat → Int32} {dC : Nat → ClassId} {dI : Nat → Nat → Nat} {A : Nat → Nat} {t0 : Nat} {cI cJ cZ : ClassId} (hA : dst A) (hnew : ∀ q, fr A q → s.heap.size ≤ q) (C0 : lw_At p s m meth c b L xs) (hK : va_K (dC, dI) vwCl (tys cI cJ cZ) s) (hZ : sZ A t0 s s.heap) {z : Mem} (hf : fL_law xs L z = some ()) {H : Heap} {locs : List Loc} {ls : Array Slot} (hP : wIs dC dI A cI cJ cZ z H) (hS : va_S (fr A) s.heap H locs) (hl : lv_has ls 4 [(0, .ref b), (1, .ref (A 0)), (2, .ref (A 25)), (3, .int (0 : Int32))]) : W p l e room_1 s m #[Value.ref b] below meth c H locs 50 8000 (lw_Z below #[Value.ref b] s) (F0 m 18 ls []) := by
  obtain ⟨hx, hb, hr, hml, hown, hts, hX, hbl, hlocks, hgv⟩ := C0
  have hbA : ¬ fr A b := fun q => absurd (hnew b q) (by omega)
  rw [fL_law] at hf
  obtain ⟨K_1, eK_1, hf⟩ := fL_law_L18_g hf
  have hEK_1 : ∀ (x3_3 : Int32) (z_2 : Mem) (H : Heap) (locs : List Loc) (ls : Array Slot), K_1 x3_3 z_2 = some () → wIs dC dI A cI cJ cZ z_2 H → va_S (fr A) s.heap H locs → lv_has ls 4 [(0, .ref b), (1, .ref (A 0)), (2, .ref (A 25)), (3, .int x3_3)] → W p l e room_1 s m #[Value.ref b] below meth c H locs 50 8000 (lw_Z below #[Value.ref b] s) (F0 m 1078 ls []) := by
    intro x3_3 z_2 H locs ls hf hP hS hl
    have hf := ap2 eK_1 hf
    refine lv_iconst (v := 1) hx hb dL_law_1078 (by decide) ?_
    refine va_forget (fun q hq => hnew _ (hS.2.2 q hq)) ?_
    refine W.widen (k := 600000) (n := 7302250) (by decide) (by decide) ?_
    exact lw_ret hx hb hr hlocks dL_law_1079
  have hLK_1 : ∀ (n_6 : Nat) (x3_5 : Int32) (z_4 : Mem) (H : Heap) (locs : List Loc) (ls : Array Slot), fL_law_L18 K_1 xs L n_6 x3_5 z_4 = some () → wIs dC dI A cI cJ cZ z_4 H → va_S (fr A) s.heap H locs → lv_has ls 4 [(0, .ref b), (1, .ref (A 0)), (2, .ref (A 25)), (3, .int x3_5)] → W p l e room_1 s m #[Value.ref b] below meth c H locs 50 8000 (lw_Z below #[Value.ref b] s) (F0 m 18 ls []) := by
    intro n_6
    induction n_6 with
    | zero => intro x3_5 z_4 H locs ls hf; rw [fL_law_L18_0] at hf; cases hf
    | succ n_6 ihK_1 =>
      intro x3_5 z_4 H locs ls hf hP hS hl
      rw [fL_law_L18_s] at hf
      refine lv_iload_n hx hb dL_law_18 rfl (lv_at hl 3 rfl) ?_
      refine lv_aload_n hx hb dL_law_19 rfl (lv_at hl 0 rfl) ?_
      refine va_slen hx hb hX hbl hbA hS dL_law_20 ?_
      refine lv_iconst (v := 5) hx hb dL_law_21 (by decide) ?_
      refine lv_isub hx hb dL_law_22 ?_
      refine lv_icmp_gt (tgt := 1078) hx hb dL_law_23 (by decide) (fun c_7 => ?_) (fun c_7 => ?_)
      · have hf := it_t c_7 hf
        exact hEK_1 _ _ _ _ _ hf hP hS (lv_sub hl [0, 1, 2, 3] rfl)
      · have hf := it_f c_7 hf
        refine lv_aload_n hx hb dL_law_26 rfl (lv_at hl 0 rfl) ?_
        refine lv_iload_n hx hb dL_law_27 rfl (lv_at hl 3 rfl) ?_
        obtain ⟨n_8, hf⟩ := rg_el hf
        refine va_sld hx hb hX hbl hbA hS n_8 dL_law_28 ?_
        refine lv_topi (fun a_9 ea_9 => ?_)
        have hf := lt_at ea_9 hf; clear ea_9
        refine lv_bipush (v := 31) hx hb dL_law_29 (by decide) ?_
        refine lv_iand hx hb dL_law_31 ?_
        refine lv_topi (fun y_10 ey_10 => ?_)
        have hf := lt_at ey_10 hf; clear ey_10
        by_cases c_11 : y_10.toInt = 0
        · have hf := it_t c_11 hf
          refine lv_tableIn (off := 144) (tgt := 176) hx hb dL_law_32 (by omega) (by omega) (by rw [c_11]; rfl) (by decide) ?_
          refine lv_aload_n hx hb dL_law_176 rfl (lv_at hl 1 rfl) ?_
          refine lv_aload_n hx hb dL_law_177 rfl (lv_at hl 0 rfl) ?_
          refine lv_iload_n hx hb dL_law_178 rfl (lv_at hl 3 rfl) ?_
          refine lv_iconst (v := 1) hx hb dL_law_179 (by decide) ?_
          refine lv_iadd hx hb dL_law_180 ?_
          refine lv_topi (fun y_12 ey_12 => ?_)
          have hf := lt_at ey_12 hf; clear ey_12
          obtain ⟨n_13, hf⟩ := rg_el hf
          refine va_sld hx hb hX hbl hbA hS n_13 dL_law_181 ?_
          refine lv_topi (fun a_14 ea_14 => ?_)
          have hf := lt_at ea_14 hf; clear ea_14
          refine lv_aload_n hx hb dL_law_182 rfl (lv_at hl 0 rfl) ?_
          refine lv_iload_n hx hb dL_law_183 rfl (lv_at hl 3 rfl) ?_
          refine lv_iconst (v := 2) hx hb dL_law_184 (by decide) ?_
          refine lv_iadd hx hb dL_law_185 ?_
          refine lv_topi (fun y_15 ey_15 => ?_)
          have hf := lt_at ey_15 hf; clear ey_15
          obtain ⟨n_16, hf⟩ := rg_el hf
          refine va_sld hx hb hX hbl hbA hS n_16 dL_law_186 ?_
          refine lv_topi (fun a_17 ea_17 => ?_)
          have hf := lt_at ea_17 hf; clear ea_17
          refine lv_i2l hx hb dL_law_187 rfl ?_
          refine lv_bipush (v := 32) hx hb dL_law_188 (by decide) ?_
          refine lv_lshl hx hb dL_law_190 rfl ?_
          refine lv_aload_n hx hb dL_law_191 rfl (lv_at hl 0 rfl) ?_
          refine lv_iload_n hx hb dL_law_192 rfl (lv_at hl 3 rfl) ?_
          refine lv_iconst (v := 3) hx hb dL_law_193 (by decide) ?_
          refine lv_iadd hx hb dL_law_194 ?_
          refine lv_topi (fun y_18 ey_18 => ?_)
          have hf := lt_at ey_18 hf; clear ey_18
          obtain ⟨n_19, hf⟩ := rg_el hf
          refine va_sld hx hb hX hbl hbA hS n_19 dL_law_195 ?_
          refine lv_topi (fun a_20 ea_20 => ?_)
          have hf := lt_at ea_20 hf; clear ea_20
          refine lv_i2l hx hb dL_law_196 rfl ?_
          refine lv_ldc2 hx hb hown (hts (.constantLong RL 13 (4294967295)) wd_825) dL_law_197 ?_
          refine lv_land hx hb dL_law_200 ?_
          refine lv_lor hx hb dL_law_201 ?_
          obtain ⟨r_21, z_22, h_23, hf⟩ := cl_el hf
          refine callVI (As := [.int a_14, .long (((a_17.toInt64) <<< ((32 : Int32).toInt64 &&& 63)) ||| ((a_20.toInt64) &&& (4294967295 : Int64)))]) (rest := []) (ci := 8) (q0 := 0) ⟨hx, hb, hml, hown, hts⟩ (tX8_write (l := l) (dC := dC) (dI := dI) (t0 := t0) (cI := cI) (cJ := cJ) (cZ := cZ) hA h_23) (cwV 2 hts hL_X8_write rfl rfl rfl (by decide +kernel) ⟨Nat.le_of_ble_eq_true rfl, Nat.le_of_ble_eq_true rfl⟩) hK hZ hP hS rfl (wc_0 A cI cJ cZ z_4) rfl rfl rfl hl.1 (Nat.le_of_ble_eq_true rfl) ⟨Nat.le_of_ble_eq_true rfl, Nat.le_of_ble_eq_true rfl⟩ dL_law_202 (fun H locs hP hS => ?_)
          refine lv_aload_n hx hb dL_law_205 rfl (lv_at hl 2 rfl) ?_
          refine lv_aload_n hx hb dL_law_206 rfl (lv_at hl 0 rfl) ?_
          refine lv_iload_n hx hb dL_law_207 rfl (lv_at hl 3 rfl) ?_
          refine lv_iconst (v := 1) hx hb dL_law_208 (by decide) ?_
          refine lv_iadd hx hb dL_law_209 ?_
          refine lv_topi (fun y_24 ey_24 => ?_)
          have hf := lt_at ey_24 hf; clear ey_24
          obtain ⟨n_25, hf⟩ := rg_el hf
          refine va_sld hx hb hX hbl hbA hS n_25 dL_law_210 ?_
          refine lv_topi (fun a_26 ea_26 => ?_)
          have hf := lt_at ea_26 hf; clear ea_26
          refine lv_aload_n hx hb dL_law_211 rfl (lv_at hl 0 rfl) ?_
          refine lv_iload_n hx hb dL_law_212 rfl (lv_at hl 3 rfl) ?_
          refine lv_iconst (v := 2) hx hb dL_law_213 (by decide) ?_
          refine lv_iadd hx hb dL_law_214 ?_
          refine lv_topi (fun y_27 ey_27 => ?_)
          have hf := lt_at ey_27 hf; clear ey_27
          obtain ⟨n_28, hf⟩ := rg_el hf
          refine va_sld hx hb hX hbl hbA hS n_28 dL_law_215 ?_
          refine lv_topi (fun a_29 ea_29 => ?_)
          have hf := lt_at ea_29 hf; clear ea_29
          refine lv_i2l hx hb dL_law_216 rfl ?_
          refine lv_bipush (v := 32) hx hb dL_law_217 (by decide) ?_
          refine lv_lshl hx hb dL_law_219 rfl ?_
          refine lv_aload_n hx hb dL_law_220 rfl (lv_at hl 0 rfl) ?_
          refine lv_iload_n hx hb dL_law_221 rfl (lv_at hl 3 rfl) ?_
          refine lv_iconst (v := 3) hx hb dL_law_222 (by decide) ?_
          refine lv_iadd hx hb dL_law_223 ?_
          refine lv_topi (fun y_30 ey_30 => ?_)
          have hf := lt_at ey_30 hf; clear ey_30
          obtain ⟨n_31, hf⟩ := rg_el hf
          refine va_sld hx hb hX hbl hbA hS n_31 dL_law_224 ?_
          refine lv_topi (fun a_32 ea_32 => ?_)
          have hf := lt_at ea_32 hf; clear ea_32
          refine lv_i2l hx hb dL_law_225 rfl ?_
          refine lv_ldc2 hx hb hown (hts (.constantLong RL 13 (4294967295)) wd_825) dL_law_226 ?_
          refine lv_land hx hb dL_law_229 ?_
          refine lv_lor hx hb dL_law_230 ?_
          obtain ⟨r_33, z_34, h_35, hf⟩ := cl_el hf
          refine callVI (As := [.int a_26, .long (((a_29.toInt64) <<< ((32 : Int32).toInt64 &&& 63)) ||| ((a_32.toInt64) &&& (4294967295 : Int64)))]) (rest := [.int r_21]) (ci := 9) (q0 := 25) ⟨hx, hb, hml, hown, hts⟩ (tX9_write (l := l) (dC := dC) (dI := dI) (t0 := t0) (cI := cI) (cJ := cJ) (cZ := cZ) hA h_35) (cwV 2 hts hL_X9_write rfl rfl rfl (by decide +kernel) ⟨Nat.le_of_ble_eq_true rfl, Nat.le_of_ble_eq_true rfl⟩) hK hZ hP hS rfl (wc_25 A cI cJ cZ z_22) rfl rfl rfl hl.1 (Nat.le_of_ble_eq_true rfl) ⟨Nat.le_of_ble_eq_true rfl, Nat.le_of_ble_eq_true rfl⟩ dL_law_231 (fun H locs hP hS => ?_)
          refine lv_icmp_eq (tgt := 1072) hx hb dL_law_234 (by decide) (fun c_36 => ?_) (fun c_36 => ?_)
          · have hf := it_t c_36 hf
            obtain ⟨x3_37, ex3_37⟩ : ∃ q : Int32, q = x3_5 + (5 : Int32) := ⟨_, rfl⟩
            refine lv_iinc (v := x3_37) (lv' := [(3, .int x3_37), (0, .ref b), (1, .ref (A 0)), (2, .ref (A 25))]) hx hb dL_law_1072 hl (k := 3) rfl (by rw [ex3_37]; rfl) (by decide) rfl (fun ls hl => ?_)
            have hf := lt_at ex3_37 hf; clear ex3_37
            refine lv_goto (tgt := 18) hx hb dL_law_1075 (by decide) ?_
            exact ihK_1 _ _ _ _ _ hf hP hS (lv_sub hl [1, 2, 3, 0] rfl)
          · have hf := it_f c_36 hf
            refine lv_iconst (v := 0) hx hb dL_law_237 (by decide) ?_
            cases hf
        · have hf := it_f c_11 hf
          by_cases c_38 : y_10.toInt = 1
          · have hf := it_t c_38 hf
            refine lv_tableIn (off := 207) (tgt := 239) hx hb dL_law_32 (by omega) (by omega) (by rw [c_38]; rfl) (by decide) ?_
            refine lv_aload_n hx hb dL_law_239 rfl (lv_at hl 1 rfl) ?_
            obtain ⟨r_39, z_40, h_41, hf⟩ := cl_el hf
            refine callVI (As := []) (rest := []) (ci := 8) (q0 := 0) ⟨hx, hb, hml, hown, hts⟩ (tX8_wipe (l := l) (dC := dC) (dI := dI) (t0 := t0) (cI := cI) (cJ := cJ) (cZ := cZ) hA h_41) (cwV 0 hts hL_X8_wipe rfl rfl rfl (by decide +kernel) ⟨Nat.le_of_ble_eq_true rfl, Nat.le_of_ble_eq_true rfl⟩) hK hZ hP hS rfl (wc_0 A cI cJ cZ z_4) rfl rfl rfl hl.1 (Nat.le_of_ble_eq_true rfl) ⟨Nat.le_of_ble_eq_true rfl, Nat.le_of_ble_eq_true rfl⟩ dL_law_240 (fun H locs hP hS => ?_)
            refine lv_aload_n hx hb dL_law_243 rfl (lv_at hl 2 rfl) ?_
            obtain ⟨r_42, z_43, h_44, hf⟩ := cl_el hf
            refine callVI (As := []) (rest := [.int r_39]) (ci := 9) (q0 := 25) ⟨hx, hb, hml, hown, hts⟩ (tX9_wipe (l := l) (dC := dC) (dI := dI) (t0 := t0) (cI := cI) (cJ := cJ) (cZ := cZ) hA h_44) (cwV 0 hts hL_X9_wipe rfl rfl rfl (by decide +kernel) ⟨Nat.le_of_ble_eq_true rfl, Nat.le_of_ble_eq_true rfl⟩) hK hZ hP hS rfl (wc_25 A cI cJ cZ z_40) rfl rfl rfl hl.1 (Nat.le_of_ble_eq_true rfl) ⟨Nat.le_of_ble_eq_true rfl, Nat.le_of_ble_eq_true rfl⟩ dL_law_244 (fun H locs hP hS => ?_)
            refine lv_icmp_eq (tgt := 1072) hx hb dL_law_247 (by decide) (fun c_45 => ?_) (fun c_45 => ?_)
            · have hf := it_t c_45 hf
              obtain ⟨x3_46, ex3_46⟩ : ∃ q : Int32, q = x3_5 + (5 : Int32) := ⟨_, rfl⟩
              refine lv_iinc (v := x3_46) (lv' := [(3, .int x3_46), (0, .ref b), (1, .ref (A 0)), (2, .ref (A 25))]) hx hb dL_law_1072 hl (k := 3) rfl (by rw [ex3_46]; rfl) (by decide) rfl (fun ls hl => ?_)
              have hf := lt_at ex3_46 hf; clear ex3_46
              refine lv_goto (tgt := 18) hx hb dL_law_1075 (by decide) ?_
              exact ihK_1 _ _ _ _ _ hf hP hS (lv_sub hl [1, 2, 3, 0] rfl)
            · have hf := it_f c_45 hf
              refine lv_iconst (v := 0) hx hb dL_law_250 (by decide) ?_
              cases hf
          · have hf := it_f c_38 hf
            by_cases c_47 : y_10.toInt = 2
            · have hf := it_t c_47 hf
              refine lv_tableIn (off := 220) (tgt := 252) hx hb dL_law_32 (by omega) (by omega) (by rw [c_47]; rfl) (by decide) ?_
              refine lv_aload_n hx hb dL_law_252 rfl (lv_at hl 1 rfl) ?_
              obtain ⟨r_48, z_49, h_50, hf⟩ := cl_el hf
              refine callVI (As := []) (rest := []) (ci := 8) (q0 := 0) ⟨hx, hb, hml, hown, hts⟩ (tX8_fault (l := l) (dC := dC) (dI := dI) (t0 := t0) (cI := cI) (cJ := cJ) (cZ := cZ) hA h_50) (cwV 0 hts hL_X8_fault rfl rfl rfl (by decide +kernel) ⟨Nat.le_of_ble_eq_true rfl, Nat.le_of_ble_eq_true rfl⟩) hK hZ hP hS rfl (wc_0 A cI cJ cZ z_4) rfl rfl rfl hl.1 (Nat.le_of_ble_eq_true rfl) ⟨Nat.le_of_ble_eq_true rfl, Nat.le_of_ble_eq_true rfl⟩ dL_law_253 (fun H locs hP hS => ?_)
              refine lv_aload_n hx hb dL_law_256 rfl (lv_at hl 2 rfl) ?_
              obtain ⟨r_51, z_52, h_53, hf⟩ := cl_el hf
              refine callVI (As := []) (rest := [.int r_48]) (ci := 9) (q0 := 25) ⟨hx, hb, hml, hown, hts⟩ (tX9_fault (l := l) (dC := dC) (dI := dI) (t0 := t0) (cI := cI) (cJ := cJ) (cZ := cZ) hA h_53) (cwV 0 hts hL_X9_fault rfl rfl rfl (by decide +kernel) ⟨Nat.le_of_ble_eq_true rfl, Nat.le_of_ble_eq_true rfl⟩) hK hZ hP hS rfl (wc_25 A cI cJ cZ z_49) rfl rfl rfl hl.1 (Nat.le_of_ble_eq_true rfl) ⟨Nat.le_of_ble_eq_true rfl, Nat.le_of_ble_eq_true rfl⟩ dL_law_257 (fun H locs hP hS => ?_)
              refine lv_icmp_eq (tgt := 1072) hx hb dL_law_260 (by decide) (fun c_54 => ?_) (fun c_54 => ?_)
              · have hf := it_t c_54 hf
                obtain ⟨x3_55, ex3_55⟩ : ∃ q : Int32, q = x3_5 + (5 : Int32) := ⟨_, rfl⟩
                refine lv_iinc (v := x3_55) (lv' := [(3, .int x3_55), (0, .ref b), (1, .ref (A 0)), (2, .ref (A 25))]) hx hb dL_law_1072 hl (k := 3) rfl (by rw [ex3_55]; rfl) (by decide) rfl (fun ls hl => ?_)
                have hf := lt_at ex3_55 hf; clear ex3_55
                refine lv_goto (tgt := 18) hx hb dL_law_1075 (by decide) ?_
                exact ihK_1 _ _ _ _ _ hf hP hS (lv_sub hl [1, 2, 3, 0] rfl)
              · have hf := it_f c_54 hf
                refine lv_iconst (v := 0) hx hb dL_law_263 (by decide) ?_
                cases hf
            · have hf := it_f c_47 hf
              by_cases c_56 : y_10.toInt = 3
              · have hf := it_t c_56 hf
                refine lv_tableIn (off := 233) (tgt := 265) hx hb dL_law_32 (by omega) (by omega) (by rw [c_56]; rfl) (by decide) ?_
                refine lv_aload_n hx hb dL_law_265 rfl (lv_at hl 1 rfl) ?_
                obtain ⟨r_57, z_58, h_59, hf⟩ := cl_el hf
                refine callVI (As := []) (rest := []) (ci := 8) (q0 := 0) ⟨hx, hb, hml, hown, hts⟩ (tX8_land (l := l) (dC := dC) (dI := dI) (t0 := t0) (cI := cI) (cJ := cJ) (cZ := cZ) hA h_59) (cwV 0 hts hL_X8_land rfl rfl rfl (by decide +kernel) ⟨Nat.le_of_ble_eq_true rfl, Nat.le_of_ble_eq_true rfl⟩) hK hZ hP hS rfl (wc_0 A cI cJ cZ z_4) rfl rfl rfl hl.1 (Nat.le_of_ble_eq_true rfl) ⟨Nat.le_of_ble_eq_true rfl, Nat.le_of_ble_eq_true rfl⟩ dL_law_266 (fun H locs hP hS => ?_)
                refine lv_aload_n hx hb dL_law_269 rfl (lv_at hl 2 rfl) ?_
                obtain ⟨r_60, z_61, h_62, hf⟩ := cl_el hf
                refine callVI (As := []) (rest := [.int r_57]) (ci := 9) (q0 := 25) ⟨hx, hb, hml, hown, hts⟩ (tX9_land (l := l) (dC := dC) (dI := dI) (t0 := t0) (cI := cI) (cJ := cJ) (cZ := cZ) hA h_62) (cwV 0 hts hL_X9_land rfl rfl rfl (by decide +kernel) ⟨Nat.le_of_ble_eq_true rfl, Nat.le_of_ble_eq_true rfl⟩) hK hZ hP hS rfl (wc_25 A cI cJ cZ z_58) rfl rfl rfl hl.1 (Nat.le_of_ble_eq_true rfl) ⟨Nat.le_of_ble_eq_true rfl, Nat.le_of_ble_eq_true rfl⟩ dL_law_270 (fun H locs hP hS => ?_)
                refine lv_icmp_eq (tgt := 1072) hx hb dL_law_273 (by decide) (fun c_63 => ?_) (fun c_63 => ?_)
                · have hf := it_t c_63 hf
                  obtain ⟨x3_64, ex3_64⟩ : ∃ q : Int32, q = x3_5 + (5 : Int32) := ⟨_, rfl⟩
                  refine lv_iinc (v := x3_64) (lv' := [(3, .int x3_64), (0, .ref b), (1, .ref (A 0)), (2, .ref (A 25))]) hx hb dL_law_1072 hl (k := 3) rfl (by rw [ex3_64]; rfl) (by decide) rfl (fun ls hl => ?_)
                  have hf := lt_at ex3_64 hf; clear ex3_64
                  refine lv_goto (tgt := 18) hx hb dL_law_1075 (by decide) ?_
                  exact ihK_1 _ _ _ _ _ hf hP hS (lv_sub hl [1, 2, 3, 0] rfl)
                · have hf := it_f c_63 hf
                  refine lv_iconst (v := 0) hx hb dL_law_276 (by decide) ?_
                  cases hf
              · have hf := it_f c_56 hf
                by_cases c_65 : y_10.toInt = 4
                · have hf := it_t c_65 hf
                  refine lv_tableIn (off := 246) (tgt := 278) hx hb dL_law_32 (by omega) (by omega) (by rw [c_65]; rfl) (by decide) ?_
                  refine lv_aload_n hx hb dL_law_278 rfl (lv_at hl 1 rfl) ?_
                  refine lv_aload_n hx hb dL_law_279 rfl (lv_at hl 0 rfl) ?_
                  refine lv_iload_n hx hb dL_law_280 rfl (lv_at hl 3 rfl) ?_
                  refine lv_iconst (v := 1) hx hb dL_law_281 (by decide) ?_
                  refine lv_iadd hx hb dL_law_282 ?_
                  refine lv_topi (fun y_66 ey_66 => ?_)
                  have hf := lt_at ey_66 hf; clear ey_66
                  obtain ⟨n_67, hf⟩ := rg_el hf
                  refine va_sld hx hb hX hbl hbA hS n_67 dL_law_283 ?_
                  refine lv_topi (fun a_68 ea_68 => ?_)
                  have hf := lt_at ea_68 hf; clear ea_68
                  refine lv_aload_n hx hb dL_law_284 rfl (lv_at hl 0 rfl) ?_
                  refine lv_iload_n hx hb dL_law_285 rfl (lv_at hl 3 rfl) ?_
                  refine lv_iconst (v := 2) hx hb dL_law_286 (by decide) ?_
                  refine lv_iadd hx hb dL_law_287 ?_
                  refine lv_topi (fun y_69 ey_69 => ?_)
                  have hf := lt_at ey_69 hf; clear ey_69
                  obtain ⟨n_70, hf⟩ := rg_el hf
                  refine va_sld hx hb hX hbl hbA hS n_70 dL_law_288 ?_
                  refine lv_topi (fun a_71 ea_71 => ?_)
                  have hf := lt_at ea_71 hf; clear ea_71
                  obtain ⟨r_72, z_73, h_74, hf⟩ := cl_el hf
                  refine callVI (As := [.int a_68, .int a_71]) (rest := []) (ci := 8) (q0 := 0) ⟨hx, hb, hml, hown, hts⟩ (tX8_person (l := l) (dC := dC) (dI := dI) (t0 := t0) (cI := cI) (cJ := cJ) (cZ := cZ) hA h_74) (cwV 2 hts hL_X8_person rfl rfl rfl (by decide +kernel) ⟨Nat.le_of_ble_eq_true rfl, Nat.le_of_ble_eq_true rfl⟩) hK hZ hP hS rfl (wc_0 A cI cJ cZ z_4) rfl rfl rfl hl.1 (Nat.le_of_ble_eq_true rfl) ⟨Nat.le_of_ble_eq_true rfl, Nat.le_of_ble_eq_true rfl⟩ dL_law_289 (fun H locs hP hS => ?_)
                  refine lv_aload_n hx hb dL_law_292 rfl (lv_at hl 2 rfl) ?_
                  refine lv_aload_n hx hb dL_law_293 rfl (lv_at hl 0 rfl) ?_
                  refine lv_iload_n hx hb dL_law_294 rfl (lv_at hl 3 rfl) ?_
                  refine lv_iconst (v := 1) hx hb dL_law_295 (by decide) ?_
                  refine lv_iadd hx hb dL_law_296 ?_
                  refine lv_topi (fun y_75 ey_75 => ?_)
                  have hf := lt_at ey_75 hf; clear ey_75
                  obtain ⟨n_76, hf⟩ := rg_el hf
                  refine va_sld hx hb hX hbl hbA hS n_76 dL_law_297 ?_
                  refine lv_topi (fun a_77 ea_77 => ?_)
                  have hf := lt_at ea_77 hf; clear ea_77
                  refine lv_aload_n hx hb dL_law_298 rfl (lv_at hl 0 rfl) ?_
                  refine lv_iload_n hx hb dL_law_299 rfl (lv_at hl 3 rfl) ?_
                  refine lv_iconst (v := 2) hx hb dL_law_300 (by decide) ?_
                  refine lv_iadd hx hb dL_law_301 ?_
                  refine lv_topi (fun y_78 ey_78 => ?_)
                  have hf := lt_at ey_78 hf; clear ey_78
                  obtain ⟨n_79, hf⟩ := rg_el hf
                  refine va_sld hx hb hX hbl hbA hS n_79 dL_law_302 ?_
                  refine lv_topi (fun a_80 ea_80 => ?_)
                  have hf := lt_at ea_80 hf; clear ea_80
                  obtain ⟨r_81, z_82, h_83, hf⟩ := cl_el hf
                  refine callVI (As := [.int a_77, .int a_80]) (rest := [.int r_72]) (ci := 9) (q0 := 25) ⟨hx, hb, hml, hown, hts⟩ (tX9_person (l := l) (dC := dC) (dI := dI) (t0 := t0) (cI := cI) (cJ := cJ) (cZ := cZ) hA h_83) (cwV 2 hts hL_X9_person rfl rfl rfl (by decide +kernel) ⟨Nat.le_of_ble_eq_true rfl, Nat.le_of_ble_eq_true rfl⟩) hK hZ hP hS rfl (wc_25 A cI cJ cZ z_73) rfl rfl rfl hl.1 (Nat.le_of_ble_eq_true rfl) ⟨Nat.le_of_ble_eq_true rfl, Nat.le_of_ble_eq_true rfl⟩ dL_law_303 (fun H locs hP hS => ?_)
                  refine lv_icmp_eq (tgt := 1072) hx hb dL_law_306 (by decide) (fun c_84 => ?_) (fun c_84 => ?_)
                  · have hf := it_t c_84 hf
                    obtain ⟨x3_85, ex3_85⟩ : ∃ q : Int32, q = x3_5 + (5 : Int32) := ⟨_, rfl⟩
                    refine lv_iinc (v := x3_85) (lv' := [(3, .int x3_85), (0, .ref b), (1, .ref (A 0)), (2, .ref (A 25))]) hx hb dL_law_1072 hl (k := 3) rfl (by rw [ex3_85]; rfl) (by decide) rfl (fun ls hl => ?_)
                    have hf := lt_at ex3_85 hf; clear ex3_85
                    refine lv_goto (tgt := 18) hx hb dL_law_1075 (by decide) ?_
                    exact ihK_1 _ _ _ _ _ hf hP hS (lv_sub hl [1, 2, 3, 0] rfl)
                  · have hf := it_f c_84 hf
                    refine lv_iconst (v := 0) hx hb dL_law_309 (by decide) ?_
                    cases hf
                · have hf := it_f c_65 hf
                  by_cases c_86 : y_10.toInt = 5
                  · have hf := it_t c_86 hf
                    refine lv_tableIn (off := 279) (tgt := 311) hx hb dL_law_32 (by omega) (by omega) (by rw [c_86]; rfl) (by decide) ?_
                    refine lv_aload_n hx hb dL_law_311 rfl (lv_at hl 1 rfl) ?_
                    refine lv_aload_n hx hb dL_law_312 rfl (lv_at hl 0 rfl) ?_
                    refine lv_iload_n hx hb dL_law_313 rfl (lv_at hl 3 rfl) ?_
                    refine lv_iconst (v := 1) hx hb dL_law_314 (by decide) ?_
                    refine lv_iadd hx hb dL_law_315 ?_
                    refine lv_topi (fun y_87 ey_87 => ?_)
                    have hf := lt_at ey_87 hf; clear ey_87
                    obtain ⟨n_88, hf⟩ := rg_el hf
                    refine va_sld hx hb hX hbl hbA hS n_88 dL_law_316 ?_
                    refine lv_topi (fun a_89 ea_89 => ?_)
                    have hf := lt_at ea_89 hf; clear ea_89
                    obtain ⟨r_90, z_91, h_92, hf⟩ := cl_el hf
                    refine callVI (As := [.int a_89]) (rest := []) (ci := 8) (q0 := 0) ⟨hx, hb, hml, hown, hts⟩ (tX8_law (l := l) (dC := dC) (dI := dI) (t0 := t0) (cI := cI) (cJ := cJ) (cZ := cZ) hA h_92) (cwV 1 hts hL_X8_law rfl rfl rfl (by decide +kernel) ⟨Nat.le_of_ble_eq_true rfl, Nat.le_of_ble_eq_true rfl⟩) hK hZ hP hS rfl (wc_0 A cI cJ cZ z_4) rfl rfl rfl hl.1 (Nat.le_of_ble_eq_true rfl) ⟨Nat.le_of_ble_eq_true rfl, Nat.le_of_ble_eq_true rfl⟩ dL_law_317 (fun H locs hP hS => ?_)
                    refine lv_aload_n hx hb dL_law_320 rfl (lv_at hl 2 rfl) ?_
                    refine lv_aload_n hx hb dL_law_321 rfl (lv_at hl 0 rfl) ?_
                    refine lv_iload_n hx hb dL_law_322 rfl (lv_at hl 3 rfl) ?_
                    refine lv_iconst (v := 1) hx hb dL_law_323 (by decide) ?_
                    refine lv_iadd hx hb dL_law_324 ?_
                    refine lv_topi (fun y_93 ey_93 => ?_)
                    have hf := lt_at ey_93 hf; clear ey_93
                    obtain ⟨n_94, hf⟩ := rg_el hf
                    refine va_sld hx hb hX hbl hbA hS n_94 dL_law_325 ?_
                    refine lv_topi (fun a_95 ea_95 => ?_)
                    have hf := lt_at ea_95 hf; clear ea_95
                    obtain ⟨r_96, z_97, h_98, hf⟩ := cl_el hf
                    refine callVI (As := [.int a_95]) (rest := [.int r_90]) (ci := 9) (q0 := 25) ⟨hx, hb, hml, hown, hts⟩ (tX9_law (l := l) (dC := dC) (dI := dI) (t0 := t0) (cI := cI) (cJ := cJ) (cZ := cZ) hA h_98) (cwV 1 hts hL_X9_law rfl rfl rfl (by decide +kernel) ⟨Nat.le_of_ble_eq_true rfl, Nat.le_of_ble_eq_true rfl⟩) hK hZ hP hS rfl (wc_25 A cI cJ cZ z_91) rfl rfl rfl hl.1 (Nat.le_of_ble_eq_true rfl) ⟨Nat.le_of_ble_eq_true rfl, Nat.le_of_ble_eq_true rfl⟩ dL_law_326 (fun H locs hP hS => ?_)
                    refine lv_icmp_eq (tgt := 1072) hx hb dL_law_329 (by decide) (fun c_99 => ?_) (fun c_99 => ?_)
                    · have hf := it_t c_99 hf
                      obtain ⟨x3_100, ex3_100⟩ : ∃ q : Int32, q = x3_5 + (5 : Int32) := ⟨_, rfl⟩
                      refine lv_iinc (v := x3_100) (lv' := [(3, .int x3_100), (0, .ref b), (1, .ref (A 0)), (2, .ref (A 25))]) hx hb dL_law_1072 hl (k := 3) rfl (by rw [ex3_100]; rfl) (by decide) rfl (fun ls hl => ?_)
                      have hf := lt_at ex3_100 hf; clear ex3_100
                      refine lv_goto (tgt := 18) hx hb dL_law_1075 (by decide) ?_
                      exact ihK_1 _ _ _ _ _ hf hP hS (lv_sub hl [1, 2, 3, 0] rfl)
                    · have hf := it_f c_99 hf
                      refine lv_iconst (v := 0) hx hb dL_law_332 (by decide) ?_
                      cases hf
                  · have hf := it_f c_86 hf
                    by_cases c_101 : y_10.toInt = 6
                    · have hf := it_t c_101 hf
                      refine lv_tableIn (off := 302) (tgt := 334) hx hb dL_law_32 (by omega) (by omega) (by rw [c_101]; rfl) (by decide) ?_
                      refine lv_aload_n hx hb dL_law_334 rfl (lv_at hl 1 rfl) ?_
                      refine lv_aload_n hx hb dL_law_335 rfl (lv_at hl 0 rfl) ?_
                      refine lv_iload_n hx hb dL_law_336 rfl (lv_at hl 3 rfl) ?_
                      refine lv_iconst (v := 1) hx hb dL_law_337 (by decide) ?_
                      refine lv_iadd hx hb dL_law_338 ?_
                      refine lv_topi (fun y_102 ey_102 => ?_)
                      have hf := lt_at ey_102 hf; clear ey_102
                      obtain ⟨n_103, hf⟩ := rg_el hf
                      refine va_sld hx hb hX hbl hbA hS n_103 dL_law_339 ?_
                      refine lv_topi (fun a_104 ea_104 => ?_)
                      have hf := lt_at ea_104 hf; clear ea_104
                      refine lv_aload_n hx hb dL_law_340 rfl (lv_at hl 0 rfl) ?_
                      refine lv_iload_n hx hb dL_law_341 rfl (lv_at hl 3 rfl) ?_
                      refine lv_iconst (v := 2) hx hb dL_law_342 (by decide) ?_
                      refine lv_iadd hx hb dL_law_343 ?_
                      refine lv_topi (fun y_105 ey_105 => ?_)
                      have hf := lt_at ey_105 hf; clear ey_105
                      obtain ⟨n_106, hf⟩ := rg_el hf
                      refine va_sld hx hb hX hbl hbA hS n_106 dL_law_344 ?_
                      refine lv_topi (fun a_107 ea_107 => ?_)
                      have hf := lt_at ea_107 hf; clear ea_107
                      obtain ⟨r_108, z_109, h_110, hf⟩ := cl_el hf
                      refine callVI (As := [.int a_104, .int a_107]) (rest := []) (ci := 8) (q0 := 0) ⟨hx, hb, hml, hown, hts⟩ (tX8_eat (l := l) (dC := dC) (dI := dI) (t0 := t0) (cI := cI) (cJ := cJ) (cZ := cZ) hA h_110) (cwV 2 hts hL_X8_eat rfl rfl rfl (by decide +kernel) ⟨Nat.le_of_ble_eq_true rfl, Nat.le_of_ble_eq_true rfl⟩) hK hZ hP hS rfl (wc_0 A cI cJ cZ z_4) rfl rfl rfl hl.1 (Nat.le_of_ble_eq_true rfl) ⟨Nat.le_of_ble_eq_true rfl, Nat.le_of_ble_eq_true rfl⟩ dL_law_345 (fun H locs hP hS => ?_)
                      refine lv_aload_n hx hb dL_law_348 rfl (lv_at hl 2 rfl) ?_
                      refine lv_aload_n hx hb dL_law_349 rfl (lv_at hl 0 rfl) ?_
                      refine lv_iload_n hx hb dL_law_350 rfl (lv_at hl 3 rfl) ?_
                      refine lv_iconst (v := 1) hx hb dL_law_351 (by decide) ?_
                      refine lv_iadd hx hb dL_law_352 ?_
                      refine lv_topi (fun y_111 ey_111 => ?_)
                      have hf := lt_at ey_111 hf; clear ey_111
                      obtain ⟨n_112, hf⟩ := rg_el hf
                      refine va_sld hx hb hX hbl hbA hS n_112 dL_law_353 ?_
                      refine lv_topi (fun a_113 ea_113 => ?_)
                      have hf := lt_at ea_113 hf; clear ea_113
                      refine lv_aload_n hx hb dL_law_354 rfl (lv_at hl 0 rfl) ?_
                      refine lv_iload_n hx hb dL_law_355 rfl (lv_at hl 3 rfl) ?_
                      refine lv_iconst (v := 2) hx hb dL_law_356 (by decide) ?_
                      refine lv_iadd hx hb dL_law_357 ?_
                      refine lv_topi (fun y_114 ey_114 => ?_)
                      have hf := lt_at ey_114 hf; clear ey_114
                      obtain ⟨n_115, hf⟩ := rg_el hf
                      refine va_sld hx hb hX hbl hbA hS n_115 dL_law_358 ?_
                      refine lv_topi (fun a_116 ea_116 => ?_)
                      have hf := lt_at ea_116 hf; clear ea_116
                      obtain ⟨r_117, z_118, h_119, hf⟩ := cl_el hf
                      refine callVI (As := [.int a_113, .int a_116]) (rest := [.int r_108]) (ci := 9) (q0 := 25) ⟨hx, hb, hml, hown, hts⟩ (tX9_eat (l := l) (dC := dC) (dI := dI) (t0 := t0) (cI := cI) (cJ := cJ) (cZ := cZ) hA h_119) (cwV 2 hts hL_X9_eat rfl rfl rfl (by decide +kernel) ⟨Nat.le_of_ble_eq_true rfl, Nat.le_of_ble_eq_true rfl⟩) hK hZ hP hS rfl (wc_25 A cI cJ cZ z_109) rfl rfl rfl hl.1 (Nat.le_of_ble_eq_true rfl) ⟨Nat.le_of_ble_eq_true rfl, Nat.le_of_ble_eq_true rfl⟩ dL_law_359 (fun H locs hP hS => ?_)
                      refine lv_icmp_eq (tgt := 1072) hx hb dL_law_362 (by decide) (fun c_120 => ?_) (fun c_120 => ?_)
                      · have hf := it_t c_120 hf
                        obtain ⟨x3_121, ex3_121⟩ : ∃ q : Int32, q = x3_5 + (5 : Int32) := ⟨_, rfl⟩
                        refine lv_iinc (v := x3_121) (lv' := [(3, .int x3_121), (0, .ref b), (1, .ref (A 0)), (2, .ref (A 25))]) hx hb dL_law_1072 hl (k := 3) rfl (by rw [ex3_121]; rfl) (by decide) rfl (fun ls hl => ?_)
                        have hf := lt_at ex3_121 hf; clear ex3_121
                        refine lv_goto (tgt := 18) hx hb dL_law_1075 (by decide) ?_
                        exact ihK_1 _ _ _ _ _ hf hP hS (lv_sub hl [1, 2, 3, 0] rfl)
                      · have hf := it_f c_120 hf
                        refine lv_iconst (v := 0) hx hb dL_law_365 (by decide) ?_
                        cases hf
                    · have hf := it_f c_101 hf
                      by_cases c_122 : y_10.toInt = 7
                      · have hf := it_t c_122 hf
                        refine lv_tableIn (off := 335) (tgt := 367) hx hb dL_law_32 (by omega) (by omega) (by rw [c_122]; rfl) (by decide) ?_
                        refine lv_aload_n hx hb dL_law_367 rfl (lv_at hl 1 rfl) ?_
                        refine lv_aload_n hx hb dL_law_368 rfl (lv_at hl 0 rfl) ?_
                        refine lv_iload_n hx hb dL_law_369 rfl (lv_at hl 3 rfl) ?_
                        refine lv_iconst (v := 1) hx hb dL_law_370 (by decide) ?_
                        refine lv_iadd hx hb dL_law_371 ?_
                        refine lv_topi (fun y_123 ey_123 => ?_)
                        have hf := lt_at ey_123 hf; clear ey_123
                        obtain ⟨n_124, hf⟩ := rg_el hf
                        refine va_sld hx hb hX hbl hbA hS n_124 dL_law_372 ?_
                        refine lv_topi (fun a_125 ea_125 => ?_)
                        have hf := lt_at ea_125 hf; clear ea_125
                        refine lv_aload_n hx hb dL_law_373 rfl (lv_at hl 0 rfl) ?_
                        refine lv_iload_n hx hb dL_law_374 rfl (lv_at hl 3 rfl) ?_
                        refine lv_iconst (v := 2) hx hb dL_law_375 (by decide) ?_
                        refine lv_iadd hx hb dL_law_376 ?_
                        refine lv_topi (fun y_126 ey_126 => ?_)
                        have hf := lt_at ey_126 hf; clear ey_126
                        obtain ⟨n_127, hf⟩ := rg_el hf
                        refine va_sld hx hb hX hbl hbA hS n_127 dL_law_377 ?_
                        refine lv_topi (fun a_128 ea_128 => ?_)
                        have hf := lt_at ea_128 hf; clear ea_128
                        obtain ⟨r_129, z_130, h_131, hf⟩ := cl_el hf
                        refine callVI (As := [.int a_125, .int a_128]) (rest := []) (ci := 8) (q0 := 0) ⟨hx, hb, hml, hown, hts⟩ (tX8_toil (l := l) (dC := dC) (dI := dI) (t0 := t0) (cI := cI) (cJ := cJ) (cZ := cZ) hA h_131) (cwV 2 hts hL_X8_toil rfl rfl rfl (by decide +kernel) ⟨Nat.le_of_ble_eq_true rfl, Nat.le_of_ble_eq_true rfl⟩) hK hZ hP hS rfl (wc_0 A cI cJ cZ z_4) rfl rfl rfl hl.1 (Nat.le_of_ble_eq_true rfl) ⟨Nat.le_of_ble_eq_true rfl, Nat.le_of_ble_eq_true rfl⟩ dL_law_378 (fun H locs hP hS => ?_)
                        refine lv_aload_n hx hb dL_law_381 rfl (lv_at hl 2 rfl) ?_
                        refine lv_aload_n hx hb dL_law_382 rfl (lv_at hl 0 rfl) ?_
                        refine lv_iload_n hx hb dL_law_383 rfl (lv_at hl 3 rfl) ?_
                        refine lv_iconst (v := 1) hx hb dL_law_384 (by decide) ?_
                        refine lv_iadd hx hb dL_law_385 ?_
                        refine lv_topi (fun y_132 ey_132 => ?_)
                        have hf := lt_at ey_132 hf; clear ey_132
                        obtain ⟨n_133, hf⟩ := rg_el hf
                        refine va_sld hx hb hX hbl hbA hS n_133 dL_law_386 ?_
                        refine lv_topi (fun a_134 ea_134 => ?_)
                        have hf := lt_at ea_134 hf; clear ea_134
                        refine lv_aload_n hx hb dL_law_387 rfl (lv_at hl 0 rfl) ?_
                        refine lv_iload_n hx hb dL_law_388 rfl (lv_at hl 3 rfl) ?_
                        refine lv_iconst (v := 2) hx hb dL_law_389 (by decide) ?_
                        refine lv_iadd hx hb dL_law_390 ?_
                        refine lv_topi (fun y_135 ey_135 => ?_)
                        have hf := lt_at ey_135 hf; clear ey_135
                        obtain ⟨n_136, hf⟩ := rg_el hf
                        refine va_sld hx hb hX hbl hbA hS n_136 dL_law_391 ?_
                        refine lv_topi (fun a_137 ea_137 => ?_)
                        have hf := lt_at ea_137 hf; clear ea_137
                        obtain ⟨r_138, z_139, h_140, hf⟩ := cl_el hf
                        refine callVI (As := [.int a_134, .int a_137]) (rest := [.int r_129]) (ci := 9) (q0 := 25) ⟨hx, hb, hml, hown, hts⟩ (tX9_toil (l := l) (dC := dC) (dI := dI) (t0 := t0) (cI := cI) (cJ := cJ) (cZ := cZ) hA h_140) (cwV 2 hts hL_X9_toil rfl rfl rfl (by decide +kernel) ⟨Nat.le_of_ble_eq_true rfl, Nat.le_of_ble_eq_true rfl⟩) hK hZ hP hS rfl (wc_25 A cI cJ cZ z_130) rfl rfl rfl hl.1 (Nat.le_of_ble_eq_true rfl) ⟨Nat.le_of_ble_eq_true rfl, Nat.le_of_ble_eq_true rfl⟩ dL_law_392 (fun H locs hP hS => ?_)
                        refine lv_icmp_eq (tgt := 1072) hx hb dL_law_395 (by decide) (fun c_141 => ?_) (fun c_141 => ?_)
                        · have hf := it_t c_141 hf
                          obtain ⟨x3_142, ex3_142⟩ : ∃ q : Int32, q = x3_5 + (5 : Int32) := ⟨_, rfl⟩
                          refine lv_iinc (v := x3_142) (lv' := [(3, .int x3_142), (0, .ref b), (1, .ref (A 0)), (2, .ref (A 25))]) hx hb dL_law_1072 hl (k := 3) rfl (by rw [ex3_142]; rfl) (by decide) rfl (fun ls hl => ?_)
                          have hf := lt_at ex3_142 hf; clear ex3_142
                          refine lv_goto (tgt := 18) hx hb dL_law_1075 (by decide) ?_
                          exact ihK_1 _ _ _ _ _ hf hP hS (lv_sub hl [1, 2, 3, 0] rfl)
                        · have hf := it_f c_141 hf
                          refine lv_iconst (v := 0) hx hb dL_law_398 (by decide) ?_
                          cases hf
                      · have hf := it_f c_122 hf
                        by_cases c_143 : y_10.toInt = 8
                        · have hf := it_t c_143 hf
                          refine lv_tableIn (off := 368) (tgt := 400) hx hb dL_law_32 (by omega) (by omega) (by rw [c_143]; rfl) (by decide) ?_
                          refine lv_aload_n hx hb dL_law_400 rfl (lv_at hl 1 rfl) ?_
                          refine lv_aload_n hx hb dL_law_401 rfl (lv_at hl 0 rfl) ?_
                          refine lv_iload_n hx hb dL_law_402 rfl (lv_at hl 3 rfl) ?_
                          refine lv_iconst (v := 1) hx hb dL_law_403 (by decide) ?_
                          refine lv_iadd hx hb dL_law_404 ?_
                          refine lv_topi (fun y_144 ey_144 => ?_)
                          have hf := lt_at ey_144 hf; clear ey_144
                          obtain ⟨n_145, hf⟩ := rg_el hf
                          refine va_sld hx hb hX hbl hbA hS n_145 dL_law_405 ?_
                          refine lv_topi (fun a_146 ea_146 => ?_)
                          have hf := lt_at ea_146 hf; clear ea_146
                          refine lv_aload_n hx hb dL_law_406 rfl (lv_at hl 0 rfl) ?_
                          refine lv_iload_n hx hb dL_law_407 rfl (lv_at hl 3 rfl) ?_
                          refine lv_iconst (v := 2) hx hb dL_law_408 (by decide) ?_
                          refine lv_iadd hx hb dL_law_409 ?_
                          refine lv_topi (fun y_147 ey_147 => ?_)
                          have hf := lt_at ey_147 hf; clear ey_147
                          obtain ⟨n_148, hf⟩ := rg_el hf
                          refine va_sld hx hb hX hbl hbA hS n_148 dL_law_410 ?_
                          refine lv_topi (fun a_149 ea_149 => ?_)
                          have hf := lt_at ea_149 hf; clear ea_149
                          obtain ⟨r_150, z_151, h_152, hf⟩ := cl_el hf
                          refine callVI (As := [.int a_146, .int a_149]) (rest := []) (ci := 8) (q0 := 0) ⟨hx, hb, hml, hown, hts⟩ (tX8_drink (l := l) (dC := dC) (dI := dI) (t0 := t0) (cI := cI) (cJ := cJ) (cZ := cZ) hA h_152) (cwV 2 hts hL_X8_drink rfl rfl rfl (by decide +kernel) ⟨Nat.le_of_ble_eq_true rfl, Nat.le_of_ble_eq_true rfl⟩) hK hZ hP hS rfl (wc_0 A cI cJ cZ z_4) rfl rfl rfl hl.1 (Nat.le_of_ble_eq_true rfl) ⟨Nat.le_of_ble_eq_true rfl, Nat.le_of_ble_eq_true rfl⟩ dL_law_411 (fun H locs hP hS => ?_)
                          refine lv_aload_n hx hb dL_law_414 rfl (lv_at hl 2 rfl) ?_
                          refine lv_aload_n hx hb dL_law_415 rfl (lv_at hl 0 rfl) ?_
                          refine lv_iload_n hx hb dL_law_416 rfl (lv_at hl 3 rfl) ?_
                          refine lv_iconst (v := 1) hx hb dL_law_417 (by decide) ?_
                          refine lv_iadd hx hb dL_law_418 ?_
                          refine lv_topi (fun y_153 ey_153 => ?_)
                          have hf := lt_at ey_153 hf; clear ey_153
                          obtain ⟨n_154, hf⟩ := rg_el hf
                          refine va_sld hx hb hX hbl hbA hS n_154 dL_law_419 ?_
                          refine lv_topi (fun a_155 ea_155 => ?_)
                          have hf := lt_at ea_155 hf; clear ea_155
                          refine lv_aload_n hx hb dL_law_420 rfl (lv_at hl 0 rfl) ?_
                          refine lv_iload_n hx hb dL_law_421 rfl (lv_at hl 3 rfl) ?_
                          refine lv_iconst (v := 2) hx hb dL_law_422 (by decide) ?_
                          refine lv_iadd hx hb dL_law_423 ?_
                          refine lv_topi (fun y_156 ey_156 => ?_)
                          have hf := lt_at ey_156 hf; clear ey_156
                          obtain ⟨n_157, hf⟩ := rg_el hf
                          refine va_sld hx hb hX hbl hbA hS n_157 dL_law_424 ?_
                          refine lv_topi (fun a_158 ea_158 => ?_)
                          have hf := lt_at ea_158 hf; clear ea_158
                          obtain ⟨r_159, z_160, h_161, hf⟩ := cl_el hf
                          refine callVI (As := [.int a_155, .int a_158]) (rest := [.int r_150]) (ci := 9) (q0 := 25) ⟨hx, hb, hml, hown, hts⟩ (tX9_drink (l := l) (dC := dC) (dI := dI) (t0 := t0) (cI := cI) (cJ := cJ) (cZ := cZ) hA h_161) (cwV 2 hts hL_X9_drink rfl rfl rfl (by decide +kernel) ⟨Nat.le_of_ble_eq_true rfl, Nat.le_of_ble_eq_true rfl⟩) hK hZ hP hS rfl (wc_25 A cI cJ cZ z_151) rfl rfl rfl hl.1 (Nat.le_of_ble_eq_true rfl) ⟨Nat.le_of_ble_eq_true rfl, Nat.le_of_ble_eq_true rfl⟩ dL_law_425 (fun H locs hP hS => ?_)
                          refine lv_icmp_eq (tgt := 1072) hx hb dL_law_428 (by decide) (fun c_162 => ?_) (fun c_162 => ?_)
                          · have hf := it_t c_162 hf
                            obtain ⟨x3_163, ex3_163⟩ : ∃ q : Int32, q = x3_5 + (5 : Int32) := ⟨_, rfl⟩
                            refine lv_iinc (v := x3_163) (lv' := [(3, .int x3_163), (0, .ref b), (1, .ref (A 0)), (2, .ref (A 25))]) hx hb dL_law_1072 hl (k := 3) rfl (by rw [ex3_163]; rfl) (by decide) rfl (fun ls hl => ?_)
                            have hf := lt_at ex3_163 hf; clear ex3_163
                            refine lv_goto (tgt := 18) hx hb dL_law_1075 (by decide) ?_
                            exact ihK_1 _ _ _ _ _ hf hP hS (lv_sub hl [1, 2, 3, 0] rfl)
                          · have hf := it_f c_162 hf
                            refine lv_iconst (v := 0) hx hb dL_law_431 (by decide) ?_
                            cases hf
                        · have hf := it_f c_143 hf
                          by_cases c_164 : y_10.toInt = 9
                          · have hf := it_t c_164 hf
                            refine lv_tableIn (off := 401) (tgt := 433) hx hb dL_law_32 (by omega) (by omega) (by rw [c_164]; rfl) (by decide) ?_
                            refine lv_aload_n hx hb dL_law_433 rfl (lv_at hl 1 rfl) ?_
                            refine lv_aload_n hx hb dL_law_434 rfl (lv_at hl 0 rfl) ?_
                            refine lv_iload_n hx hb dL_law_435 rfl (lv_at hl 3 rfl) ?_
                            refine lv_iconst (v := 1) hx hb dL_law_436 (by decide) ?_
                            refine lv_iadd hx hb dL_law_437 ?_
                            refine lv_topi (fun y_165 ey_165 => ?_)
                            have hf := lt_at ey_165 hf; clear ey_165
                            obtain ⟨n_166, hf⟩ := rg_el hf
                            refine va_sld hx hb hX hbl hbA hS n_166 dL_law_438 ?_
                            refine lv_topi (fun a_167 ea_167 => ?_)
                            have hf := lt_at ea_167 hf; clear ea_167
                            refine lv_aload_n hx hb dL_law_439 rfl (lv_at hl 0 rfl) ?_
                            refine lv_iload_n hx hb dL_law_440 rfl (lv_at hl 3 rfl) ?_
                            refine lv_iconst (v := 2) hx hb dL_law_441 (by decide) ?_
                            refine lv_iadd hx hb dL_law_442 ?_
                            refine lv_topi (fun y_168 ey_168 => ?_)
                            have hf := lt_at ey_168 hf; clear ey_168
                            obtain ⟨n_169, hf⟩ := rg_el hf
                            refine va_sld hx hb hX hbl hbA hS n_169 dL_law_443 ?_
                            refine lv_topi (fun a_170 ea_170 => ?_)
                            have hf := lt_at ea_170 hf; clear ea_170
                            refine lv_aload_n hx hb dL_law_444 rfl (lv_at hl 0 rfl) ?_
                            refine lv_iload_n hx hb dL_law_445 rfl (lv_at hl 3 rfl) ?_
                            refine lv_iconst (v := 3) hx hb dL_law_446 (by decide) ?_
                            refine lv_iadd hx hb dL_law_447 ?_
                            refine lv_topi (fun y_171 ey_171 => ?_)
                            have hf := lt_at ey_171 hf; clear ey_171
                            obtain ⟨n_172, hf⟩ := rg_el hf
                            refine va_sld hx hb hX hbl hbA hS n_172 dL_law_448 ?_
                            refine lv_topi (fun a_173 ea_173 => ?_)
                            have hf := lt_at ea_173 hf; clear ea_173
                            obtain ⟨K_174, eK_174, hf⟩ := jn_el hf
                            have hK_174 : ∀ (v_175 : Int32) (z_176 : Mem) (H : Heap) (locs : List Loc) (ls : Array Slot), K_174 v_175 z_176 = some () → wIs dC dI A cI cJ cZ z_176 H → va_S (fr A) s.heap H locs → lv_has ls 4 [(0, .ref b), (1, .ref (A 0)), (2, .ref (A 25)), (3, .int x3_5)] → W p l e room_1 s m #[Value.ref b] below meth c H locs 50 8000 (lw_Z below #[Value.ref b] s) (F0 m 457 ls [.int v_175, .int a_170, .int a_167, .ref (A 0)]) := by
                              intro v_175 z_176 H locs ls hf hP hS hl
                              have hf := ap2 eK_174 hf
                              obtain ⟨r_177, z_178, h_179, hf⟩ := cl_el hf
                              refine callVI (As := [.int a_167, .int a_170, .int v_175]) (rest := []) (ci := 8) (q0 := 0) ⟨hx, hb, hml, hown, hts⟩ (tX8_hand (l := l) (dC := dC) (dI := dI) (t0 := t0) (cI := cI) (cJ := cJ) (cZ := cZ) hA h_179) (cwV 3 hts hL_X8_hand rfl rfl rfl (by decide +kernel) ⟨Nat.le_of_ble_eq_true rfl, Nat.le_of_ble_eq_true rfl⟩) hK hZ hP hS rfl (wc_0 A cI cJ cZ z_176) rfl rfl rfl hl.1 (Nat.le_of_ble_eq_true rfl) ⟨Nat.le_of_ble_eq_true rfl, Nat.le_of_ble_eq_true rfl⟩ dL_law_457 (fun H locs hP hS => ?_)
                              refine lv_aload_n hx hb dL_law_460 rfl (lv_at hl 2 rfl) ?_
                              refine lv_aload_n hx hb dL_law_461 rfl (lv_at hl 0 rfl) ?_
                              refine lv_iload_n hx hb dL_law_462 rfl (lv_at hl 3 rfl) ?_
                              refine lv_iconst (v := 1) hx hb dL_law_463 (by decide) ?_
                              refine lv_iadd hx hb dL_law_464 ?_
                              refine lv_topi (fun y_180 ey_180 => ?_)
                              have hf := lt_at ey_180 hf; clear ey_180
                              obtain ⟨n_181, hf⟩ := rg_el hf
                              refine va_sld hx hb hX hbl hbA hS n_181 dL_law_465 ?_
                              refine lv_topi (fun a_182 ea_182 => ?_)
                              have hf := lt_at ea_182 hf; clear ea_182
                              refine lv_aload_n hx hb dL_law_466 rfl (lv_at hl 0 rfl) ?_
                              refine lv_iload_n hx hb dL_law_467 rfl (lv_at hl 3 rfl) ?_
                              refine lv_iconst (v := 2) hx hb dL_law_468 (by decide) ?_
                              refine lv_iadd hx hb dL_law_469 ?_
                              refine lv_topi (fun y_183 ey_183 => ?_)
                              have hf := lt_at ey_183 hf; clear ey_183
                              obtain ⟨n_184, hf⟩ := rg_el hf
                              refine va_sld hx hb hX hbl hbA hS n_184 dL_law_470 ?_
                              refine lv_topi (fun a_185 ea_185 => ?_)
                              have hf := lt_at ea_185 hf; clear ea_185
                              refine lv_aload_n hx hb dL_law_471 rfl (lv_at hl 0 rfl) ?_
                              refine lv_iload_n hx hb dL_law_472 rfl (lv_at hl 3 rfl) ?_
                              refine lv_iconst (v := 3) hx hb dL_law_473 (by decide) ?_
                              refine lv_iadd hx hb dL_law_474 ?_
                              refine lv_topi (fun y_186 ey_186 => ?_)
                              have hf := lt_at ey_186 hf; clear ey_186
                              obtain ⟨n_187, hf⟩ := rg_el hf
                              refine va_sld hx hb hX hbl hbA hS n_187 dL_law_475 ?_
                              refine lv_topi (fun a_188 ea_188 => ?_)
                              have hf := lt_at ea_188 hf; clear ea_188
                              obtain ⟨K_189, eK_189, hf⟩ := jn_el hf
                              have hK_189 : ∀ (v_190 : Int32) (z_191 : Mem) (H : Heap) (locs : List Loc) (ls : Array Slot), K_189 v_190 z_191 = some () → wIs dC dI A cI cJ cZ z_191 H → va_S (fr A) s.heap H locs → lv_has ls 4 [(0, .ref b), (1, .ref (A 0)), (2, .ref (A 25)), (3, .int x3_5)] → W p l e room_1 s m #[Value.ref b] below meth c H locs 50 8000 (lw_Z below #[Value.ref b] s) (F0 m 484 ls [.int v_190, .int a_185, .int a_182, .ref (A 25), .int r_177]) := by
                                intro v_190 z_191 H locs ls hf hP hS hl
                                have hf := ap2 eK_189 hf
                                obtain ⟨r_192, z_193, h_194, hf⟩ := cl_el hf
                                refine callVI (As := [.int a_182, .int a_185, .int v_190]) (rest := [.int r_177]) (ci := 9) (q0 := 25) ⟨hx, hb, hml, hown, hts⟩ (tX9_hand (l := l) (dC := dC) (dI := dI) (t0 := t0) (cI := cI) (cJ := cJ) (cZ := cZ) hA h_194) (cwV 3 hts hL_X9_hand rfl rfl rfl (by decide +kernel) ⟨Nat.le_of_ble_eq_true rfl, Nat.le_of_ble_eq_true rfl⟩) hK hZ hP hS rfl (wc_25 A cI cJ cZ z_191) rfl rfl rfl hl.1 (Nat.le_of_ble_eq_true rfl) ⟨Nat.le_of_ble_eq_true rfl, Nat.le_of_ble_eq_true rfl⟩ dL_law_484 (fun H locs hP hS => ?_)
                                refine lv_icmp_eq (tgt := 1072) hx hb dL_law_487 (by decide) (fun c_195 => ?_) (fun c_195 => ?_)
                                · have hf := it_t c_195 hf
                                  obtain ⟨x3_196, ex3_196⟩ : ∃ q : Int32, q = x3_5 + (5 : Int32) := ⟨_, rfl⟩
                                  refine lv_iinc (v := x3_196) (lv' := [(3, .int x3_196), (0, .ref b), (1, .ref (A 0)), (2, .ref (A 25))]) hx hb dL_law_1072 hl (k := 3) rfl (by rw [ex3_196]; rfl) (by decide) rfl (fun ls hl => ?_)
                                  have hf := lt_at ex3_196 hf; clear ex3_196
                                  refine lv_goto (tgt := 18) hx hb dL_law_1075 (by decide) ?_
                                  exact ihK_1 _ _ _ _ _ hf hP hS (lv_sub hl [1, 2, 3, 0] rfl)
                                · have hf := it_f c_195 hf
                                  refine lv_iconst (v := 0) hx hb dL_law_490 (by decide) ?_
                                  cases hf
                              refine lv_if_eq (tgt := 483) hx hb dL_law_476 (by decide) (fun c_197 => ?_) (fun c_197 => ?_)
                              · have hf := it_t c_197 hf
                                refine lv_iconst (v := 0) hx hb dL_law_483 (by decide) ?_
                                exact hK_189 _ _ _ _ _ hf hP hS (lv_sub hl [0, 1, 2, 3] rfl)
                              · have hf := it_f c_197 hf
                                refine lv_iconst (v := 1) hx hb dL_law_479 (by decide) ?_
                                refine lv_goto (tgt := 484) hx hb dL_law_480 (by decide) ?_
                                exact hK_189 _ _ _ _ _ hf hP hS (lv_sub hl [0, 1, 2, 3] rfl)
                            refine lv_if_eq (tgt := 456) hx hb dL_law_449 (by decide) (fun c_198 => ?_) (fun c_198 => ?_)
                            · have hf := it_t c_198 hf
                              refine lv_iconst (v := 0) hx hb dL_law_456 (by decide) ?_
                              exact hK_174 _ _ _ _ _ hf hP hS (lv_sub hl [0, 1, 2, 3] rfl)
                            · have hf := it_f c_198 hf
                              refine lv_iconst (v := 1) hx hb dL_law_452 (by decide) ?_
                              refine lv_goto (tgt := 457) hx hb dL_law_453 (by decide) ?_
                              exact hK_174 _ _ _ _ _ hf hP hS (lv_sub hl [0, 1, 2, 3] rfl)
                          · have hf := it_f c_164 hf
                            by_cases c_199 : y_10.toInt = 10
                            · have hf := it_t c_199 hf
                              refine lv_tableIn (off := 460) (tgt := 492) hx hb dL_law_32 (by omega) (by omega) (by rw [c_199]; rfl) (by decide) ?_
                              refine lv_aload_n hx hb dL_law_492 rfl (lv_at hl 1 rfl) ?_
                              obtain ⟨r_200, z_201, h_202, hf⟩ := cl_el hf
                              refine callVI (As := []) (rest := []) (ci := 8) (q0 := 0) ⟨hx, hb, hml, hown, hts⟩ (tX8_day (l := l) (dC := dC) (dI := dI) (t0 := t0) (cI := cI) (cJ := cJ) (cZ := cZ) hA h_202) (cwV 0 hts hL_X8_day rfl rfl rfl (by decide +kernel) ⟨Nat.le_of_ble_eq_true rfl, Nat.le_of_ble_eq_true rfl⟩) hK hZ hP hS rfl (wc_0 A cI cJ cZ z_4) rfl rfl rfl hl.1 (Nat.le_of_ble_eq_true rfl) ⟨Nat.le_of_ble_eq_true rfl, Nat.le_of_ble_eq_true rfl⟩ dL_law_493 (fun H locs hP hS => ?_)
                              refine lv_aload_n hx hb dL_law_496 rfl (lv_at hl 2 rfl) ?_
                              obtain ⟨r_203, z_204, h_205, hf⟩ := cl_el hf
                              refine callVI (As := []) (rest := [.int r_200]) (ci := 9) (q0 := 25) ⟨hx, hb, hml, hown, hts⟩ (tX9_day (l := l) (dC := dC) (dI := dI) (t0 := t0) (cI := cI) (cJ := cJ) (cZ := cZ) hA h_205) (cwV 0 hts hL_X9_day rfl rfl rfl (by decide +kernel) ⟨Nat.le_of_ble_eq_true rfl, Nat.le_of_ble_eq_true rfl⟩) hK hZ hP hS rfl (wc_25 A cI cJ cZ z_201) rfl rfl rfl hl.1 (Nat.le_of_ble_eq_true rfl) ⟨Nat.le_of_ble_eq_true rfl, Nat.le_of_ble_eq_true rfl⟩ dL_law_497 (fun H locs hP hS => ?_)
                              refine lv_icmp_eq (tgt := 1072) hx hb dL_law_500 (by decide) (fun c_206 => ?_) (fun c_206 => ?_)
                              · have hf := it_t c_206 hf
                                obtain ⟨x3_207, ex3_207⟩ : ∃ q : Int32, q = x3_5 + (5 : Int32) := ⟨_, rfl⟩
                                refine lv_iinc (v := x3_207) (lv' := [(3, .int x3_207), (0, .ref b), (1, .ref (A 0)), (2, .ref (A 25))]) hx hb dL_law_1072 hl (k := 3) rfl (by rw [ex3_207]; rfl) (by decide) rfl (fun ls hl => ?_)
                                have hf := lt_at ex3_207 hf; clear ex3_207
                                refine lv_goto (tgt := 18) hx hb dL_law_1075 (by decide) ?_
                                exact ihK_1 _ _ _ _ _ hf hP hS (lv_sub hl [1, 2, 3, 0] rfl)
                              · have hf := it_f c_206 hf
                                refine lv_iconst (v := 0) hx hb dL_law_503 (by decide) ?_
                                cases hf
                            · have hf := it_f c_199 hf
                              by_cases c_208 : y_10.toInt = 11
                              · have hf := it_t c_208 hf
                                refine lv_tableIn (off := 473) (tgt := 505) hx hb dL_law_32 (by omega) (by omega) (by rw [c_208]; rfl) (by decide) ?_
                                refine lv_aload_n hx hb dL_law_505 rfl (lv_at hl 1 rfl) ?_
                                obtain ⟨r_209, z_210, h_211, hf⟩ := cl_el hf
                                refine callVI (As := []) (rest := []) (ci := 8) (q0 := 0) ⟨hx, hb, hml, hown, hts⟩ (tX8_crown (l := l) (dC := dC) (dI := dI) (t0 := t0) (cI := cI) (cJ := cJ) (cZ := cZ) hA h_211) (cwV 0 hts hL_X8_crown rfl rfl rfl (by decide +kernel) ⟨Nat.le_of_ble_eq_true rfl, Nat.le_of_ble_eq_true rfl⟩) hK hZ hP hS rfl (wc_0 A cI cJ cZ z_4) rfl rfl rfl hl.1 (Nat.le_of_ble_eq_true rfl) ⟨Nat.le_of_ble_eq_true rfl, Nat.le_of_ble_eq_true rfl⟩ dL_law_506 (fun H locs hP hS => ?_)
                                refine lv_aload_n hx hb dL_law_509 rfl (lv_at hl 2 rfl) ?_
                                obtain ⟨r_212, z_213, h_214, hf⟩ := cl_el hf
                                refine callVI (As := []) (rest := [.int r_209]) (ci := 9) (q0 := 25) ⟨hx, hb, hml, hown, hts⟩ (tX9_crown (l := l) (dC := dC) (dI := dI) (t0 := t0) (cI := cI) (cJ := cJ) (cZ := cZ) hA h_214) (cwV 0 hts hL_X9_crown rfl rfl rfl (by decide +kernel) ⟨Nat.le_of_ble_eq_true rfl, Nat.le_of_ble_eq_true rfl⟩) hK hZ hP hS rfl (wc_25 A cI cJ cZ z_210) rfl rfl rfl hl.1 (Nat.le_of_ble_eq_true rfl) ⟨Nat.le_of_ble_eq_true rfl, Nat.le_of_ble_eq_true rfl⟩ dL_law_510 (fun H locs hP hS => ?_)
                                refine lv_icmp_eq (tgt := 1072) hx hb dL_law_513 (by decide) (fun c_215 => ?_) (fun c_215 => ?_)
                                · have hf := it_t c_215 hf
                                  obtain ⟨x3_216, ex3_216⟩ : ∃ q : Int32, q = x3_5 + (5 : Int32) := ⟨_, rfl⟩
                                  refine lv_iinc (v := x3_216) (lv' := [(3, .int x3_216), (0, .ref b), (1, .ref (A 0)), (2, .ref (A 25))]) hx hb dL_law_1072 hl (k := 3) rfl (by rw [ex3_216]; rfl) (by decide) rfl (fun ls hl => ?_)
                                  have hf := lt_at ex3_216 hf; clear ex3_216
                                  refine lv_goto (tgt := 18) hx hb dL_law_1075 (by decide) ?_
                                  exact ihK_1 _ _ _ _ _ hf hP hS (lv_sub hl [1, 2, 3, 0] rfl)
                                · have hf := it_f c_215 hf
                                  refine lv_iconst (v := 0) hx hb dL_law_516 (by decide) ?_
                                  cases hf
                              · have hf := it_f c_208 hf
                                by_cases c_217 : y_10.toInt = 12
                                · have hf := it_t c_217 hf
                                  refine lv_tableIn (off := 486) (tgt := 518) hx hb dL_law_32 (by omega) (by omega) (by rw [c_217]; rfl) (by decide) ?_
                                  refine lv_aload_n hx hb dL_law_518 rfl (lv_at hl 1 rfl) ?_
                                  obtain ⟨r_218, z_219, h_220, hf⟩ := cl_el hf
                                  refine callVI (As := []) (rest := []) (ci := 8) (q0 := 0) ⟨hx, hb, hml, hown, hts⟩ (tX8_noon (l := l) (dC := dC) (dI := dI) (t0 := t0) (cI := cI) (cJ := cJ) (cZ := cZ) hA h_220) (cwV 0 hts hL_X8_noon rfl rfl rfl (by decide +kernel) ⟨Nat.le_of_ble_eq_true rfl, Nat.le_of_ble_eq_true rfl⟩) hK hZ hP hS rfl (wc_0 A cI cJ cZ z_4) rfl rfl rfl hl.1 (Nat.le_of_ble_eq_true rfl) ⟨Nat.le_of_ble_eq_true rfl, Nat.le_of_ble_eq_true rfl⟩ dL_law_519 (fun H locs hP hS => ?_)
                                  refine lv_aload_n hx hb dL_law_522 rfl (lv_at hl 2 rfl) ?_
                                  obtain ⟨r_221, z_222, h_223, hf⟩ := cl_el hf
                                  refine callVI (As := []) (rest := [.int r_218]) (ci := 9) (q0 := 25) ⟨hx, hb, hml, hown, hts⟩ (tX9_noon (l := l) (dC := dC) (dI := dI) (t0 := t0) (cI := cI) (cJ := cJ) (cZ := cZ) hA h_223) (cwV 0 hts hL_X9_noon rfl rfl rfl (by decide +kernel) ⟨Nat.le_of_ble_eq_true rfl, Nat.le_of_ble_eq_true rfl⟩) hK hZ hP hS rfl (wc_25 A cI cJ cZ z_219) rfl rfl rfl hl.1 (Nat.le_of_ble_eq_true rfl) ⟨Nat.le_of_ble_eq_true rfl, Nat.le_of_ble_eq_true rfl⟩ dL_law_523 (fun H locs hP hS => ?_)
                                  refine lv_icmp_eq (tgt := 1072) hx hb dL_law_526 (by decide) (fun c_224 => ?_) (fun c_224 => ?_)
                                  · have hf := it_t c_224 hf
                                    obtain ⟨x3_225, ex3_225⟩ : ∃ q : Int32, q = x3_5 + (5 : Int32) := ⟨_, rfl⟩
                                    refine lv_iinc (v := x3_225) (lv' := [(3, .int x3_225), (0, .ref b), (1, .ref (A 0)), (2, .ref (A 25))]) hx hb dL_law_1072 hl (k := 3) rfl (by rw [ex3_225]; rfl) (by decide) rfl (fun ls hl => ?_)
                                    have hf := lt_at ex3_225 hf; clear ex3_225
                                    refine lv_goto (tgt := 18) hx hb dL_law_1075 (by decide) ?_
                                    exact ihK_1 _ _ _ _ _ hf hP hS (lv_sub hl [1, 2, 3, 0] rfl)
                                  · have hf := it_f c_224 hf
                                    refine lv_iconst (v := 0) hx hb dL_law_529 (by decide) ?_
                                    cases hf
                                · have hf := it_f c_217 hf
                                  by_cases c_226 : y_10.toInt = 13
                                  · have hf := it_t c_226 hf
                                    refine lv_tableIn (off := 499) (tgt := 531) hx hb dL_law_32 (by omega) (by omega) (by rw [c_226]; rfl) (by decide) ?_
                                    refine lv_aload_n hx hb dL_law_531 rfl (lv_at hl 1 rfl) ?_
                                    obtain ⟨r_227, z_228, h_229, hf⟩ := cl_el hf
                                    refine callVI (As := []) (rest := []) (ci := 8) (q0 := 0) ⟨hx, hb, hml, hown, hts⟩ (tX8_undo (l := l) (dC := dC) (dI := dI) (t0 := t0) (cI := cI) (cJ := cJ) (cZ := cZ) hA h_229) (cwV 0 hts hL_X8_undo rfl rfl rfl (by decide +kernel) ⟨Nat.le_of_ble_eq_true rfl, Nat.le_of_ble_eq_true rfl⟩) hK hZ hP hS rfl (wc_0 A cI cJ cZ z_4) rfl rfl rfl hl.1 (Nat.le_of_ble_eq_true rfl) ⟨Nat.le_of_ble_eq_true rfl, Nat.le_of_ble_eq_true rfl⟩ dL_law_532 (fun H locs hP hS => ?_)
                                    refine lv_aload_n hx hb dL_law_535 rfl (lv_at hl 2 rfl) ?_
                                    obtain ⟨r_230, z_231, h_232, hf⟩ := cl_el hf
                                    refine callVI (As := []) (rest := [.int r_227]) (ci := 9) (q0 := 25) ⟨hx, hb, hml, hown, hts⟩ (tX9_undo (l := l) (dC := dC) (dI := dI) (t0 := t0) (cI := cI) (cJ := cJ) (cZ := cZ) hA h_232) (cwV 0 hts hL_X9_undo rfl rfl rfl (by decide +kernel) ⟨Nat.le_of_ble_eq_true rfl, Nat.le_of_ble_eq_true rfl⟩) hK hZ hP hS rfl (wc_25 A cI cJ cZ z_228) rfl rfl rfl hl.1 (Nat.le_of_ble_eq_true rfl) ⟨Nat.le_of_ble_eq_true rfl, Nat.le_of_ble_eq_true rfl⟩ dL_law_536 (fun H locs hP hS => ?_)
                                    refine lv_icmp_eq (tgt := 1072) hx hb dL_law_539 (by decide) (fun c_233 => ?_) (fun c_233 => ?_)
                                    · have hf := it_t c_233 hf
                                      obtain ⟨x3_234, ex3_234⟩ : ∃ q : Int32, q = x3_5 + (5 : Int32) := ⟨_, rfl⟩
                                      refine lv_iinc (v := x3_234) (lv' := [(3, .int x3_234), (0, .ref b), (1, .ref (A 0)), (2, .ref (A 25))]) hx hb dL_law_1072 hl (k := 3) rfl (by rw [ex3_234]; rfl) (by decide) rfl (fun ls hl => ?_)
                                      have hf := lt_at ex3_234 hf; clear ex3_234
                                      refine lv_goto (tgt := 18) hx hb dL_law_1075 (by decide) ?_
                                      exact ihK_1 _ _ _ _ _ hf hP hS (lv_sub hl [1, 2, 3, 0] rfl)
                                    · have hf := it_f c_233 hf
                                      refine lv_iconst (v := 0) hx hb dL_law_542 (by decide) ?_
                                      cases hf
                                  · have hf := it_f c_226 hf
                                    by_cases c_235 : y_10.toInt = 14
                                    · have hf := it_t c_235 hf
                                      refine lv_tableIn (off := 512) (tgt := 544) hx hb dL_law_32 (by omega) (by omega) (by rw [c_235]; rfl) (by decide) ?_
                                      refine lv_aload_n hx hb dL_law_544 rfl (lv_at hl 1 rfl) ?_
                                      refine lv_aload_n hx hb dL_law_545 rfl (lv_at hl 0 rfl) ?_
                                      refine lv_iload_n hx hb dL_law_546 rfl (lv_at hl 3 rfl) ?_
                                      refine lv_iconst (v := 1) hx hb dL_law_547 (by decide) ?_
                                      refine lv_iadd hx hb dL_law_548 ?_
                                      refine lv_topi (fun y_236 ey_236 => ?_)
                                      have hf := lt_at ey_236 hf; clear ey_236
                                      obtain ⟨n_237, hf⟩ := rg_el hf
                                      refine va_sld hx hb hX hbl hbA hS n_237 dL_law_549 ?_
                                      refine lv_topi (fun a_238 ea_238 => ?_)
                                      have hf := lt_at ea_238 hf; clear ea_238
                                      refine lv_aload_n hx hb dL_law_550 rfl (lv_at hl 0 rfl) ?_
                                      refine lv_iload_n hx hb dL_law_551 rfl (lv_at hl 3 rfl) ?_
                                      refine lv_iconst (v := 2) hx hb dL_law_552 (by decide) ?_
                                      refine lv_iadd hx hb dL_law_553 ?_
                                      refine lv_topi (fun y_239 ey_239 => ?_)
                                      have hf := lt_at ey_239 hf; clear ey_239
                                      obtain ⟨n_240, hf⟩ := rg_el hf
                                      refine va_sld hx hb hX hbl hbA hS n_240 dL_law_554 ?_
                                      refine lv_topi (fun a_241 ea_241 => ?_)
                                      have hf := lt_at ea_241 hf; clear ea_241
                                      refine lv_aload_n hx hb dL_law_555 rfl (lv_at hl 0 rfl) ?_
                                      refine lv_iload_n hx hb dL_law_556 rfl (lv_at hl 3 rfl) ?_
                                      refine lv_iconst (v := 3) hx hb dL_law_557 (by decide) ?_
                                      refine lv_iadd hx hb dL_law_558 ?_
                                      refine lv_topi (fun y_242 ey_242 => ?_)
                                      have hf := lt_at ey_242 hf; clear ey_242
                                      obtain ⟨n_243, hf⟩ := rg_el hf
                                      refine va_sld hx hb hX hbl hbA hS n_243 dL_law_559 ?_
                                      refine lv_topi (fun a_244 ea_244 => ?_)
                                      have hf := lt_at ea_244 hf; clear ea_244
                                      obtain ⟨r_245, z_246, h_247, hf⟩ := cl_el hf
                                      refine callVI (As := [.int a_238, .int a_241, .int a_244]) (rest := []) (ci := 8) (q0 := 0) ⟨hx, hb, hml, hown, hts⟩ (tX8_sure (l := l) (dC := dC) (dI := dI) (t0 := t0) (cI := cI) (cJ := cJ) (cZ := cZ) hA h_247) (cwV 3 hts hL_X8_sure rfl rfl rfl (by decide +kernel) ⟨Nat.le_of_ble_eq_true rfl, Nat.le_of_ble_eq_true rfl⟩) hK hZ hP hS rfl (wc_0 A cI cJ cZ z_4) rfl rfl rfl hl.1 (Nat.le_of_ble_eq_true rfl) ⟨Nat.le_of_ble_eq_true rfl, Nat.le_of_ble_eq_true rfl⟩ dL_law_560 (fun H locs hP hS => ?_)
                                      refine lv_aload_n hx hb dL_law_563 rfl (lv_at hl 2 rfl) ?_
                                      refine lv_aload_n hx hb dL_law_564 rfl (lv_at hl 0 rfl) ?_
                                      refine lv_iload_n hx hb dL_law_565 rfl (lv_at hl 3 rfl) ?_
                                      refine lv_iconst (v := 1) hx hb dL_law_566 (by decide) ?_
                                      refine lv_iadd hx hb dL_law_567 ?_
                                      refine lv_topi (fun y_248 ey_248 => ?_)
                                      have hf := lt_at ey_248 hf; clear ey_248
                                      obtain ⟨n_249, hf⟩ := rg_el hf
                                      refine va_sld hx hb hX hbl hbA hS n_249 dL_law_568 ?_
                                      refine lv_topi (fun a_250 ea_250 => ?_)
                                      have hf := lt_at ea_250 hf; clear ea_250
                                      refine lv_aload_n hx hb dL_law_569 rfl (lv_at hl 0 rfl) ?_
                                      refine lv_iload_n hx hb dL_law_570 rfl (lv_at hl 3 rfl) ?_
                                      refine lv_iconst (v := 2) hx hb dL_law_571 (by decide) ?_
                                      refine lv_iadd hx hb dL_law_572 ?_
                                      refine lv_topi (fun y_251 ey_251 => ?_)
                                      have hf := lt_at ey_251 hf; clear ey_251
                                      obtain ⟨n_252, hf⟩ := rg_el hf
                                      refine va_sld hx hb hX hbl hbA hS n_252 dL_law_573 ?_
                                      refine lv_topi (fun a_253 ea_253 => ?_)
                                      have hf := lt_at ea_253 hf; clear ea_253
                                      refine lv_aload_n hx hb dL_law_574 rfl (lv_at hl 0 rfl) ?_
                                      refine lv_iload_n hx hb dL_law_575 rfl (lv_at hl 3 rfl) ?_
                                      refine lv_iconst (v := 3) hx hb dL_law_576 (by decide) ?_
                                      refine lv_iadd hx hb dL_law_577 ?_
                                      refine lv_topi (fun y_254 ey_254 => ?_)
                                      have hf := lt_at ey_254 hf; clear ey_254
                                      obtain ⟨n_255, hf⟩ := rg_el hf
                                      refine va_sld hx hb hX hbl hbA hS n_255 dL_law_578 ?_
                                      refine lv_topi (fun a_256 ea_256 => ?_)
                                      have hf := lt_at ea_256 hf; clear ea_256
                                      obtain ⟨r_257, z_258, h_259, hf⟩ := cl_el hf
                                      refine callVI (As := [.int a_250, .int a_253, .int a_256]) (rest := [.int r_245]) (ci := 9) (q0 := 25) ⟨hx, hb, hml, hown, hts⟩ (tX9_sure (l := l) (dC := dC) (dI := dI) (t0 := t0) (cI := cI) (cJ := cJ) (cZ := cZ) hA h_259) (cwV 3 hts hL_X9_sure rfl rfl rfl (by decide +kernel) ⟨Nat.le_of_ble_eq_true rfl, Nat.le_of_ble_eq_true rfl⟩) hK hZ hP hS rfl (wc_25 A cI cJ cZ z_246) rfl rfl rfl hl.1 (Nat.le_of_ble_eq_true rfl) ⟨Nat.le_of_ble_eq_true rfl, Nat.le_of_ble_eq_true rfl⟩ dL_law_579 (fun H locs hP hS => ?_)
                                      refine lv_icmp_eq (tgt := 1072) hx hb dL_law_582 (by decide) (fun c_260 => ?_) (fun c_260 => ?_)
                                      · have hf := it_t c_260 hf
                                        obtain ⟨x3_261, ex3_261⟩ : ∃ q : Int32, q = x3_5 + (5 : Int32) := ⟨_, rfl⟩
                                        refine lv_iinc (v := x3_261) (lv' := [(3, .int x3_261), (0, .ref b), (1, .ref (A 0)), (2, .ref (A 25))]) hx hb dL_law_1072 hl (k := 3) rfl (by rw [ex3_261]; rfl) (by decide) rfl (fun ls hl => ?_)
                                        have hf := lt_at ex3_261 hf; clear ex3_261
                                        refine lv_goto (tgt := 18) hx hb dL_law_1075 (by decide) ?_
                                        exact ihK_1 _ _ _ _ _ hf hP hS (lv_sub hl [1, 2, 3, 0] rfl)
                                      · have hf := it_f c_260 hf
                                        refine lv_iconst (v := 0) hx hb dL_law_585 (by decide) ?_
                                        cases hf
                                    · have hf := it_f c_235 hf
                                      by_cases c_262 : y_10.toInt = 15
                                      · have hf := it_t c_262 hf
                                        refine lv_tableIn (off := 555) (tgt := 587) hx hb dL_law_32 (by omega) (by omega) (by rw [c_262]; rfl) (by decide) ?_
                                        refine lv_aload_n hx hb dL_law_587 rfl (lv_at hl 1 rfl) ?_
                                        refine lv_aload_n hx hb dL_law_588 rfl (lv_at hl 0 rfl) ?_
                                        refine lv_iload_n hx hb dL_law_589 rfl (lv_at hl 3 rfl) ?_
                                        refine lv_iconst (v := 1) hx hb dL_law_590 (by decide) ?_
                                        refine lv_iadd hx hb dL_law_591 ?_
                                        refine lv_topi (fun y_263 ey_263 => ?_)
                                        have hf := lt_at ey_263 hf; clear ey_263
                                        obtain ⟨n_264, hf⟩ := rg_el hf
                                        refine va_sld hx hb hX hbl hbA hS n_264 dL_law_592 ?_
                                        refine lv_topi (fun a_265 ea_265 => ?_)
                                        have hf := lt_at ea_265 hf; clear ea_265
                                        refine lv_aload_n hx hb dL_law_593 rfl (lv_at hl 0 rfl) ?_
                                        refine lv_iload_n hx hb dL_law_594 rfl (lv_at hl 3 rfl) ?_
                                        refine lv_iconst (v := 2) hx hb dL_law_595 (by decide) ?_
                                        refine lv_iadd hx hb dL_law_596 ?_
                                        refine lv_topi (fun y_266 ey_266 => ?_)
                                        have hf := lt_at ey_266 hf; clear ey_266
                                        obtain ⟨n_267, hf⟩ := rg_el hf
                                        refine va_sld hx hb hX hbl hbA hS n_267 dL_law_597 ?_
                                        refine lv_topi (fun a_268 ea_268 => ?_)
                                        have hf := lt_at ea_268 hf; clear ea_268
                                        refine lv_aload_n hx hb dL_law_598 rfl (lv_at hl 0 rfl) ?_
                                        refine lv_iload_n hx hb dL_law_599 rfl (lv_at hl 3 rfl) ?_
                                        refine lv_iconst (v := 3) hx hb dL_law_600 (by decide) ?_
                                        refine lv_iadd hx hb dL_law_601 ?_
                                        refine lv_topi (fun y_269 ey_269 => ?_)
                                        have hf := lt_at ey_269 hf; clear ey_269
                                        obtain ⟨n_270, hf⟩ := rg_el hf
                                        refine va_sld hx hb hX hbl hbA hS n_270 dL_law_602 ?_
                                        refine lv_topi (fun a_271 ea_271 => ?_)
                                        have hf := lt_at ea_271 hf; clear ea_271
                                        refine lv_aload_n hx hb dL_law_603 rfl (lv_at hl 0 rfl) ?_
                                        refine lv_iload_n hx hb dL_law_604 rfl (lv_at hl 3 rfl) ?_
                                        refine lv_iconst (v := 4) hx hb dL_law_605 (by decide) ?_
                                        refine lv_iadd hx hb dL_law_606 ?_
                                        refine lv_topi (fun y_272 ey_272 => ?_)
                                        have hf := lt_at ey_272 hf; clear ey_272
                                        obtain ⟨n_273, hf⟩ := rg_el hf
                                        refine va_sld hx hb hX hbl hbA hS n_273 dL_law_607 ?_
                                        refine lv_topi (fun a_274 ea_274 => ?_)
                                        have hf := lt_at ea_274 hf; clear ea_274
                                        obtain ⟨r_275, z_276, h_277, hf⟩ := cl_el hf
                                        refine callVI (As := [.int a_265, .int a_268, .int a_271, .int a_274]) (rest := []) (ci := 8) (q0 := 0) ⟨hx, hb, hml, hown, hts⟩ (tX8_sureAt (l := l) (dC := dC) (dI := dI) (t0 := t0) (cI := cI) (cJ := cJ) (cZ := cZ) hA h_277) (cwV 4 hts hL_X8_sureAt rfl rfl rfl (by decide +kernel) ⟨Nat.le_of_ble_eq_true rfl, Nat.le_of_ble_eq_true rfl⟩) hK hZ hP hS rfl (wc_0 A cI cJ cZ z_4) rfl rfl rfl hl.1 (Nat.le_of_ble_eq_true rfl) ⟨Nat.le_of_ble_eq_true rfl, Nat.le_of_ble_eq_true rfl⟩ dL_law_608 (fun H locs hP hS => ?_)
                                        refine lv_aload_n hx hb dL_law_611 rfl (lv_at hl 2 rfl) ?_
                                        refine lv_aload_n hx hb dL_law_612 rfl (lv_at hl 0 rfl) ?_
                                        refine lv_iload_n hx hb dL_law_613 rfl (lv_at hl 3 rfl) ?_
                                        refine lv_iconst (v := 1) hx hb dL_law_614 (by decide) ?_
                                        refine lv_iadd hx hb dL_law_615 ?_
                                        refine lv_topi (fun y_278 ey_278 => ?_)
                                        have hf := lt_at ey_278 hf; clear ey_278
                                        obtain ⟨n_279, hf⟩ := rg_el hf
                                        refine va_sld hx hb hX hbl hbA hS n_279 dL_law_616 ?_
                                        refine lv_topi (fun a_280 ea_280 => ?_)
                                        have hf := lt_at ea_280 hf; clear ea_280
                                        refine lv_aload_n hx hb dL_law_617 rfl (lv_at hl 0 rfl) ?_
                                        refine lv_iload_n hx hb dL_law_618 rfl (lv_at hl 3 rfl) ?_
                                        refine lv_iconst (v := 2) hx hb dL_law_619 (by decide) ?_
                                        refine lv_iadd hx hb dL_law_620 ?_
                                        refine lv_topi (fun y_281 ey_281 => ?_)
                                        have hf := lt_at ey_281 hf; clear ey_281
                                        obtain ⟨n_282, hf⟩ := rg_el hf
                                        refine va_sld hx hb hX hbl hbA hS n_282 dL_law_621 ?_
                                        refine lv_topi (fun a_283 ea_283 => ?_)
                                        have hf := lt_at ea_283 hf; clear ea_283
                                        refine lv_aload_n hx hb dL_law_622 rfl (lv_at hl 0 rfl) ?_
                                        refine lv_iload_n hx hb dL_law_623 rfl (lv_at hl 3 rfl) ?_
                                        refine lv_iconst (v := 3) hx hb dL_law_624 (by decide) ?_
                                        refine lv_iadd hx hb dL_law_625 ?_
                                        refine lv_topi (fun y_284 ey_284 => ?_)
                                        have hf := lt_at ey_284 hf; clear ey_284
                                        obtain ⟨n_285, hf⟩ := rg_el hf
                                        refine va_sld hx hb hX hbl hbA hS n_285 dL_law_626 ?_
                                        refine lv_topi (fun a_286 ea_286 => ?_)
                                        have hf := lt_at ea_286 hf; clear ea_286
                                        refine lv_aload_n hx hb dL_law_627 rfl (lv_at hl 0 rfl) ?_
                                        refine lv_iload_n hx hb dL_law_628 rfl (lv_at hl 3 rfl) ?_
                                        refine lv_iconst (v := 4) hx hb dL_law_629 (by decide) ?_
                                        refine lv_iadd hx hb dL_law_630 ?_
                                        refine lv_topi (fun y_287 ey_287 => ?_)
                                        have hf := lt_at ey_287 hf; clear ey_287
                                        obtain ⟨n_288, hf⟩ := rg_el hf
                                        refine va_sld hx hb hX hbl hbA hS n_288 dL_law_631 ?_
                                        refine lv_topi (fun a_289 ea_289 => ?_)
                                        have hf := lt_at ea_289 hf; clear ea_289
                                        obtain ⟨r_290, z_291, h_292, hf⟩ := cl_el hf
                                        refine callVI (As := [.int a_280, .int a_283, .int a_286, .int a_289]) (rest := [.int r_275]) (ci := 9) (q0 := 25) ⟨hx, hb, hml, hown, hts⟩ (tX9_sureAt (l := l) (dC := dC) (dI := dI) (t0 := t0) (cI := cI) (cJ := cJ) (cZ := cZ) hA h_292) (cwV 4 hts hL_X9_sureAt rfl rfl rfl (by decide +kernel) ⟨Nat.le_of_ble_eq_true rfl, Nat.le_of_ble_eq_true rfl⟩) hK hZ hP hS rfl (wc_25 A cI cJ cZ z_276) rfl rfl rfl hl.1 (Nat.le_of_ble_eq_true rfl) ⟨Nat.le_of_ble_eq_true rfl, Nat.le_of_ble_eq_true rfl⟩ dL_law_632 (fun H locs hP hS => ?_)
                                        refine lv_icmp_eq (tgt := 1072) hx hb dL_law_635 (by decide) (fun c_293 => ?_) (fun c_293 => ?_)
                                        · have hf := it_t c_293 hf
                                          obtain ⟨x3_294, ex3_294⟩ : ∃ q : Int32, q = x3_5 + (5 : Int32) := ⟨_, rfl⟩
                                          refine lv_iinc (v := x3_294) (lv' := [(3, .int x3_294), (0, .ref b), (1, .ref (A 0)), (2, .ref (A 25))]) hx hb dL_law_1072 hl (k := 3) rfl (by rw [ex3_294]; rfl) (by decide) rfl (fun ls hl => ?_)
                                          have hf := lt_at ex3_294 hf; clear ex3_294
                                          refine lv_goto (tgt := 18) hx hb dL_law_1075 (by decide) ?_
                                          exact ihK_1 _ _ _ _ _ hf hP hS (lv_sub hl [1, 2, 3, 0] rfl)
                                        · have hf := it_f c_293 hf
                                          refine lv_iconst (v := 0) hx hb dL_law_638 (by decide) ?_
                                          cases hf
                                      · have hf := it_f c_262 hf
                                        by_cases c_295 : y_10.toInt = 16
                                        · have hf := it_t c_295 hf
                                          refine lv_tableIn (off := 608) (tgt := 640) hx hb dL_law_32 (by omega) (by omega) (by rw [c_295]; rfl) (by decide) ?_
                                          refine lv_aload_n hx hb dL_law_640 rfl (lv_at hl 1 rfl) ?_
                                          refine lv_aload_n hx hb dL_law_641 rfl (lv_at hl 0 rfl) ?_
                                          refine lv_iload_n hx hb dL_law_642 rfl (lv_at hl 3 rfl) ?_
                                          refine lv_iconst (v := 1) hx hb dL_law_643 (by decide) ?_
                                          refine lv_iadd hx hb dL_law_644 ?_
                                          refine lv_topi (fun y_296 ey_296 => ?_)
                                          have hf := lt_at ey_296 hf; clear ey_296
                                          obtain ⟨n_297, hf⟩ := rg_el hf
                                          refine va_sld hx hb hX hbl hbA hS n_297 dL_law_645 ?_
                                          refine lv_topi (fun a_298 ea_298 => ?_)
                                          have hf := lt_at ea_298 hf; clear ea_298
                                          obtain ⟨r_299, z_300, h_301, hf⟩ := cl_el hf
                                          refine callVI (As := [.int a_298]) (rest := []) (ci := 8) (q0 := 0) ⟨hx, hb, hml, hown, hts⟩ (tX8_feed (l := l) (dC := dC) (dI := dI) (t0 := t0) (cI := cI) (cJ := cJ) (cZ := cZ) hA h_301) (cwV 1 hts hL_X8_feed rfl rfl rfl (by decide +kernel) ⟨Nat.le_of_ble_eq_true rfl, Nat.le_of_ble_eq_true rfl⟩) hK hZ hP hS rfl (wc_0 A cI cJ cZ z_4) rfl rfl rfl hl.1 (Nat.le_of_ble_eq_true rfl) ⟨Nat.le_of_ble_eq_true rfl, Nat.le_of_ble_eq_true rfl⟩ dL_law_646 (fun H locs hP hS => ?_)
                                          refine lv_aload_n hx hb dL_law_649 rfl (lv_at hl 2 rfl) ?_
                                          refine lv_aload_n hx hb dL_law_650 rfl (lv_at hl 0 rfl) ?_
                                          refine lv_iload_n hx hb dL_law_651 rfl (lv_at hl 3 rfl) ?_
                                          refine lv_iconst (v := 1) hx hb dL_law_652 (by decide) ?_
                                          refine lv_iadd hx hb dL_law_653 ?_
                                          refine lv_topi (fun y_302 ey_302 => ?_)
                                          have hf := lt_at ey_302 hf; clear ey_302
                                          obtain ⟨n_303, hf⟩ := rg_el hf
                                          refine va_sld hx hb hX hbl hbA hS n_303 dL_law_654 ?_
                                          refine lv_topi (fun a_304 ea_304 => ?_)
                                          have hf := lt_at ea_304 hf; clear ea_304
                                          obtain ⟨r_305, z_306, h_307, hf⟩ := cl_el hf
                                          refine callVI (As := [.int a_304]) (rest := [.int r_299]) (ci := 9) (q0 := 25) ⟨hx, hb, hml, hown, hts⟩ (tX9_feed (l := l) (dC := dC) (dI := dI) (t0 := t0) (cI := cI) (cJ := cJ) (cZ := cZ) hA h_307) (cwV 1 hts hL_X9_feed rfl rfl rfl (by decide +kernel) ⟨Nat.le_of_ble_eq_true rfl, Nat.le_of_ble_eq_true rfl⟩) hK hZ hP hS rfl (wc_25 A cI cJ cZ z_300) rfl rfl rfl hl.1 (Nat.le_of_ble_eq_true rfl) ⟨Nat.le_of_ble_eq_true rfl, Nat.le_of_ble_eq_true rfl⟩ dL_law_655 (fun H locs hP hS => ?_)
                                          refine lv_icmp_eq (tgt := 1072) hx hb dL_law_658 (by decide) (fun c_308 => ?_) (fun c_308 => ?_)
                                          · have hf := it_t c_308 hf
                                            obtain ⟨x3_309, ex3_309⟩ : ∃ q : Int32, q = x3_5 + (5 : Int32) := ⟨_, rfl⟩
                                            refine lv_iinc (v := x3_309) (lv' := [(3, .int x3_309), (0, .ref b), (1, .ref (A 0)), (2, .ref (A 25))]) hx hb dL_law_1072 hl (k := 3) rfl (by rw [ex3_309]; rfl) (by decide) rfl (fun ls hl => ?_)
                                            have hf := lt_at ex3_309 hf; clear ex3_309
                                            refine lv_goto (tgt := 18) hx hb dL_law_1075 (by decide) ?_
                                            exact ihK_1 _ _ _ _ _ hf hP hS (lv_sub hl [1, 2, 3, 0] rfl)
                                          · have hf := it_f c_308 hf
                                            refine lv_iconst (v := 0) hx hb dL_law_661 (by decide) ?_
                                            cases hf
                                        · have hf := it_f c_295 hf
                                          by_cases c_310 : y_10.toInt = 17
                                          · have hf := it_t c_310 hf
                                            refine lv_tableIn (off := 631) (tgt := 663) hx hb dL_law_32 (by omega) (by omega) (by rw [c_310]; rfl) (by decide) ?_
                                            refine lv_aload_n hx hb dL_law_663 rfl (lv_at hl 1 rfl) ?_
                                            refine lv_aload_n hx hb dL_law_664 rfl (lv_at hl 0 rfl) ?_
                                            refine lv_iload_n hx hb dL_law_665 rfl (lv_at hl 3 rfl) ?_
                                            refine lv_iconst (v := 1) hx hb dL_law_666 (by decide) ?_
                                            refine lv_iadd hx hb dL_law_667 ?_
                                            refine lv_topi (fun y_311 ey_311 => ?_)
                                            have hf := lt_at ey_311 hf; clear ey_311
                                            obtain ⟨n_312, hf⟩ := rg_el hf
                                            refine va_sld hx hb hX hbl hbA hS n_312 dL_law_668 ?_
                                            refine lv_topi (fun a_313 ea_313 => ?_)
                                            have hf := lt_at ea_313 hf; clear ea_313
                                            refine lv_aload_n hx hb dL_law_669 rfl (lv_at hl 0 rfl) ?_
                                            refine lv_iload_n hx hb dL_law_670 rfl (lv_at hl 3 rfl) ?_
                                            refine lv_iconst (v := 2) hx hb dL_law_671 (by decide) ?_
                                            refine lv_iadd hx hb dL_law_672 ?_
                                            refine lv_topi (fun y_314 ey_314 => ?_)
                                            have hf := lt_at ey_314 hf; clear ey_314
                                            obtain ⟨n_315, hf⟩ := rg_el hf
                                            refine va_sld hx hb hX hbl hbA hS n_315 dL_law_673 ?_
                                            refine lv_topi (fun a_316 ea_316 => ?_)
                                            have hf := lt_at ea_316 hf; clear ea_316
                                            refine lv_aload_n hx hb dL_law_674 rfl (lv_at hl 0 rfl) ?_
                                            refine lv_iload_n hx hb dL_law_675 rfl (lv_at hl 3 rfl) ?_
                                            refine lv_iconst (v := 3) hx hb dL_law_676 (by decide) ?_
                                            refine lv_iadd hx hb dL_law_677 ?_
                                            refine lv_topi (fun y_317 ey_317 => ?_)
                                            have hf := lt_at ey_317 hf; clear ey_317
                                            obtain ⟨n_318, hf⟩ := rg_el hf
                                            refine va_sld hx hb hX hbl hbA hS n_318 dL_law_678 ?_
                                            refine lv_topi (fun a_319 ea_319 => ?_)
                                            have hf := lt_at ea_319 hf; clear ea_319
                                            obtain ⟨r_320, z_321, h_322, hf⟩ := cl_el hf
                                            refine callVI (As := [.int a_313, .int a_316, .int a_319]) (rest := []) (ci := 8) (q0 := 0) ⟨hx, hb, hml, hown, hts⟩ (tX8_weigh (l := l) (dC := dC) (dI := dI) (t0 := t0) (cI := cI) (cJ := cJ) (cZ := cZ) hA h_322) (cwV 3 hts hL_X8_weigh rfl rfl rfl (by decide +kernel) ⟨Nat.le_of_ble_eq_true rfl, Nat.le_of_ble_eq_true rfl⟩) hK hZ hP hS rfl (wc_0 A cI cJ cZ z_4) rfl rfl rfl hl.1 (Nat.le_of_ble_eq_true rfl) ⟨Nat.le_of_ble_eq_true rfl, Nat.le_of_ble_eq_true rfl⟩ dL_law_679 (fun H locs hP hS => ?_)
                                            refine lv_aload_n hx hb dL_law_682 rfl (lv_at hl 2 rfl) ?_
                                            refine lv_aload_n hx hb dL_law_683 rfl (lv_at hl 0 rfl) ?_
                                            refine lv_iload_n hx hb dL_law_684 rfl (lv_at hl 3 rfl) ?_
                                            refine lv_iconst (v := 1) hx hb dL_law_685 (by decide) ?_
                                            refine lv_iadd hx hb dL_law_686 ?_
                                            refine lv_topi (fun y_323 ey_323 => ?_)
                                            have hf := lt_at ey_323 hf; clear ey_323
                                            obtain ⟨n_324, hf⟩ := rg_el hf
                                            refine va_sld hx hb hX hbl hbA hS n_324 dL_law_687 ?_
                                            refine lv_topi (fun a_325 ea_325 => ?_)
                                            have hf := lt_at ea_325 hf; clear ea_325
                                            refine lv_aload_n hx hb dL_law_688 rfl (lv_at hl 0 rfl) ?_
                                            refine lv_iload_n hx hb dL_law_689 rfl (lv_at hl 3 rfl) ?_
                                            refine lv_iconst (v := 2) hx hb dL_law_690 (by decide) ?_
                                            refine lv_iadd hx hb dL_law_691 ?_
                                            refine lv_topi (fun y_326 ey_326 => ?_)
                                            have hf := lt_at ey_326 hf; clear ey_326
                                            obtain ⟨n_327, hf⟩ := rg_el hf
                                            refine va_sld hx hb hX hbl hbA hS n_327 dL_law_692 ?_
                                            refine lv_topi (fun a_328 ea_328 => ?_)
                                            have hf := lt_at ea_328 hf; clear ea_328
                                            refine lv_aload_n hx hb dL_law_693 rfl (lv_at hl 0 rfl) ?_
                                            refine lv_iload_n hx hb dL_law_694 rfl (lv_at hl 3 rfl) ?_
                                            refine lv_iconst (v := 3) hx hb dL_law_695 (by decide) ?_
                                            refine lv_iadd hx hb dL_law_696 ?_
                                            refine lv_topi (fun y_329 ey_329 => ?_)
                                            have hf := lt_at ey_329 hf; clear ey_329
                                            obtain ⟨n_330, hf⟩ := rg_el hf
                                            refine va_sld hx hb hX hbl hbA hS n_330 dL_law_697 ?_
                                            refine lv_topi (fun a_331 ea_331 => ?_)
                                            have hf := lt_at ea_331 hf; clear ea_331
                                            obtain ⟨r_332, z_333, h_334, hf⟩ := cl_el hf
                                            refine callVI (As := [.int a_325, .int a_328, .int a_331]) (rest := [.int r_320]) (ci := 9) (q0 := 25) ⟨hx, hb, hml, hown, hts⟩ (tX9_weigh (l := l) (dC := dC) (dI := dI) (t0 := t0) (cI := cI) (cJ := cJ) (cZ := cZ) hA h_334) (cwV 3 hts hL_X9_weigh rfl rfl rfl (by decide +kernel) ⟨Nat.le_of_ble_eq_true rfl, Nat.le_of_ble_eq_true rfl⟩) hK hZ hP hS rfl (wc_25 A cI cJ cZ z_321) rfl rfl rfl hl.1 (Nat.le_of_ble_eq_true rfl) ⟨Nat.le_of_ble_eq_true rfl, Nat.le_of_ble_eq_true rfl⟩ dL_law_698 (fun H locs hP hS => ?_)
                                            refine lv_icmp_eq (tgt := 1072) hx hb dL_law_701 (by decide) (fun c_335 => ?_) (fun c_335 => ?_)
                                            · have hf := it_t c_335 hf
                                              obtain ⟨x3_336, ex3_336⟩ : ∃ q : Int32, q = x3_5 + (5 : Int32) := ⟨_, rfl⟩
                                              refine lv_iinc (v := x3_336) (lv' := [(3, .int x3_336), (0, .ref b), (1, .ref (A 0)), (2, .ref (A 25))]) hx hb dL_law_1072 hl (k := 3) rfl (by rw [ex3_336]; rfl) (by decide) rfl (fun ls hl => ?_)
                                              have hf := lt_at ex3_336 hf; clear ex3_336
                                              refine lv_goto (tgt := 18) hx hb dL_law_1075 (by decide) ?_
                                              exact ihK_1 _ _ _ _ _ hf hP hS (lv_sub hl [1, 2, 3, 0] rfl)
                                            · have hf := it_f c_335 hf
                                              refine lv_iconst (v := 0) hx hb dL_law_704 (by decide) ?_
                                              cases hf
                                          · have hf := it_f c_310 hf
                                            by_cases c_337 : y_10.toInt = 18
                                            · have hf := it_t c_337 hf
                                              refine lv_tableIn (off := 674) (tgt := 706) hx hb dL_law_32 (by omega) (by omega) (by rw [c_337]; rfl) (by decide) ?_
                                              refine lv_aload_n hx hb dL_law_706 rfl (lv_at hl 1 rfl) ?_
                                              obtain ⟨r_338, z_339, h_340, hf⟩ := cl_el hf
                                              refine callVI (As := []) (rest := []) (ci := 8) (q0 := 0) ⟨hx, hb, hml, hown, hts⟩ (tX8_unweigh (l := l) (dC := dC) (dI := dI) (t0 := t0) (cI := cI) (cJ := cJ) (cZ := cZ) hA h_340) (cwV 0 hts hL_X8_unweigh rfl rfl rfl (by decide +kernel) ⟨Nat.le_of_ble_eq_true rfl, Nat.le_of_ble_eq_true rfl⟩) hK hZ hP hS rfl (wc_0 A cI cJ cZ z_4) rfl rfl rfl hl.1 (Nat.le_of_ble_eq_true rfl) ⟨Nat.le_of_ble_eq_true rfl, Nat.le_of_ble_eq_true rfl⟩ dL_law_707 (fun H locs hP hS => ?_)
                                              refine lv_aload_n hx hb dL_law_710 rfl (lv_at hl 2 rfl) ?_
                                              obtain ⟨r_341, z_342, h_343, hf⟩ := cl_el hf
                                              refine callVI (As := []) (rest := [.int r_338]) (ci := 9) (q0 := 25) ⟨hx, hb, hml, hown, hts⟩ (tX9_unweigh (l := l) (dC := dC) (dI := dI) (t0 := t0) (cI := cI) (cJ := cJ) (cZ := cZ) hA h_343) (cwV 0 hts hL_X9_unweigh rfl rfl rfl (by decide +kernel) ⟨Nat.le_of_ble_eq_true rfl, Nat.le_of_ble_eq_true rfl⟩) hK hZ hP hS rfl (wc_25 A cI cJ cZ z_339) rfl rfl rfl hl.1 (Nat.le_of_ble_eq_true rfl) ⟨Nat.le_of_ble_eq_true rfl, Nat.le_of_ble_eq_true rfl⟩ dL_law_711 (fun H locs hP hS => ?_)
                                              refine lv_icmp_eq (tgt := 1072) hx hb dL_law_714 (by decide) (fun c_344 => ?_) (fun c_344 => ?_)
                                              · have hf := it_t c_344 hf
                                                obtain ⟨x3_345, ex3_345⟩ : ∃ q : Int32, q = x3_5 + (5 : Int32) := ⟨_, rfl⟩
                                                refine lv_iinc (v := x3_345) (lv' := [(3, .int x3_345), (0, .ref b), (1, .ref (A 0)), (2, .ref (A 25))]) hx hb dL_law_1072 hl (k := 3) rfl (by rw [ex3_345]; rfl) (by decide) rfl (fun ls hl => ?_)
                                                have hf := lt_at ex3_345 hf; clear ex3_345
                                                refine lv_goto (tgt := 18) hx hb dL_law_1075 (by decide) ?_
                                                exact ihK_1 _ _ _ _ _ hf hP hS (lv_sub hl [1, 2, 3, 0] rfl)
                                              · have hf := it_f c_344 hf
                                                refine lv_iconst (v := 0) hx hb dL_law_717 (by decide) ?_
                                                cases hf
                                            · have hf := it_f c_337 hf
                                              by_cases c_346 : y_10.toInt = 19
                                              · have hf := it_t c_346 hf
                                                refine lv_tableIn (off := 687) (tgt := 719) hx hb dL_law_32 (by omega) (by omega) (by rw [c_346]; rfl) (by decide) ?_
                                                refine lv_aload_n hx hb dL_law_719 rfl (lv_at hl 1 rfl) ?_
                                                refine lv_aload_n hx hb dL_law_720 rfl (lv_at hl 0 rfl) ?_
                                                refine lv_iload_n hx hb dL_law_721 rfl (lv_at hl 3 rfl) ?_
                                                refine lv_iconst (v := 1) hx hb dL_law_722 (by decide) ?_
                                                refine lv_iadd hx hb dL_law_723 ?_
                                                refine lv_topi (fun y_347 ey_347 => ?_)
                                                have hf := lt_at ey_347 hf; clear ey_347
                                                obtain ⟨n_348, hf⟩ := rg_el hf
                                                refine va_sld hx hb hX hbl hbA hS n_348 dL_law_724 ?_
                                                refine lv_topi (fun a_349 ea_349 => ?_)
                                                have hf := lt_at ea_349 hf; clear ea_349
                                                obtain ⟨K_350, eK_350, hf⟩ := jn_el hf
                                                have hK_350 : ∀ (v_351 : Int32) (z_352 : Mem) (H : Heap) (locs : List Loc) (ls : Array Slot), K_350 v_351 z_352 = some () → wIs dC dI A cI cJ cZ z_352 H → va_S (fr A) s.heap H locs → lv_has ls 4 [(0, .ref b), (1, .ref (A 0)), (2, .ref (A 25)), (3, .int x3_5)] → W p l e room_1 s m #[Value.ref b] below meth c H locs 50 8000 (lw_Z below #[Value.ref b] s) (F0 m 733 ls [.int v_351, .ref (A 0)]) := by
                                                  intro v_351 z_352 H locs ls hf hP hS hl
                                                  have hf := ap2 eK_350 hf
                                                  obtain ⟨r_353, z_354, h_355, hf⟩ := cl_el hf
                                                  refine callVI (As := [.int v_351]) (rest := []) (ci := 8) (q0 := 0) ⟨hx, hb, hml, hown, hts⟩ (tX8_mayBe (l := l) (dC := dC) (dI := dI) (t0 := t0) (cI := cI) (cJ := cJ) (cZ := cZ) hA h_355) (cwV 1 hts hL_X8_mayBe rfl rfl rfl (by decide +kernel) ⟨Nat.le_of_ble_eq_true rfl, Nat.le_of_ble_eq_true rfl⟩) hK hZ hP hS rfl (wc_0 A cI cJ cZ z_352) rfl rfl rfl hl.1 (Nat.le_of_ble_eq_true rfl) ⟨Nat.le_of_ble_eq_true rfl, Nat.le_of_ble_eq_true rfl⟩ dL_law_733 (fun H locs hP hS => ?_)
                                                  refine lv_aload_n hx hb dL_law_736 rfl (lv_at hl 2 rfl) ?_
                                                  refine lv_aload_n hx hb dL_law_737 rfl (lv_at hl 0 rfl) ?_
                                                  refine lv_iload_n hx hb dL_law_738 rfl (lv_at hl 3 rfl) ?_
                                                  refine lv_iconst (v := 1) hx hb dL_law_739 (by decide) ?_
                                                  refine lv_iadd hx hb dL_law_740 ?_
                                                  refine lv_topi (fun y_356 ey_356 => ?_)
                                                  have hf := lt_at ey_356 hf; clear ey_356
                                                  obtain ⟨n_357, hf⟩ := rg_el hf
                                                  refine va_sld hx hb hX hbl hbA hS n_357 dL_law_741 ?_
                                                  refine lv_topi (fun a_358 ea_358 => ?_)
                                                  have hf := lt_at ea_358 hf; clear ea_358
                                                  obtain ⟨K_359, eK_359, hf⟩ := jn_el hf
                                                  have hK_359 : ∀ (v_360 : Int32) (z_361 : Mem) (H : Heap) (locs : List Loc) (ls : Array Slot), K_359 v_360 z_361 = some () → wIs dC dI A cI cJ cZ z_361 H → va_S (fr A) s.heap H locs → lv_has ls 4 [(0, .ref b), (1, .ref (A 0)), (2, .ref (A 25)), (3, .int x3_5)] → W p l e room_1 s m #[Value.ref b] below meth c H locs 50 8000 (lw_Z below #[Value.ref b] s) (F0 m 750 ls [.int v_360, .ref (A 25), .int r_353]) := by
                                                    intro v_360 z_361 H locs ls hf hP hS hl
                                                    have hf := ap2 eK_359 hf
                                                    obtain ⟨r_362, z_363, h_364, hf⟩ := cl_el hf
                                                    refine callVI (As := [.int v_360]) (rest := [.int r_353]) (ci := 9) (q0 := 25) ⟨hx, hb, hml, hown, hts⟩ (tX9_mayBe (l := l) (dC := dC) (dI := dI) (t0 := t0) (cI := cI) (cJ := cJ) (cZ := cZ) hA h_364) (cwV 1 hts hL_X9_mayBe rfl rfl rfl (by decide +kernel) ⟨Nat.le_of_ble_eq_true rfl, Nat.le_of_ble_eq_true rfl⟩) hK hZ hP hS rfl (wc_25 A cI cJ cZ z_361) rfl rfl rfl hl.1 (Nat.le_of_ble_eq_true rfl) ⟨Nat.le_of_ble_eq_true rfl, Nat.le_of_ble_eq_true rfl⟩ dL_law_750 (fun H locs hP hS => ?_)
                                                    refine lv_icmp_eq (tgt := 1072) hx hb dL_law_753 (by decide) (fun c_365 => ?_) (fun c_365 => ?_)
                                                    · have hf := it_t c_365 hf
                                                      obtain ⟨x3_366, ex3_366⟩ : ∃ q : Int32, q = x3_5 + (5 : Int32) := ⟨_, rfl⟩
                                                      refine lv_iinc (v := x3_366) (lv' := [(3, .int x3_366), (0, .ref b), (1, .ref (A 0)), (2, .ref (A 25))]) hx hb dL_law_1072 hl (k := 3) rfl (by rw [ex3_366]; rfl) (by decide) rfl (fun ls hl => ?_)
                                                      have hf := lt_at ex3_366 hf; clear ex3_366
                                                      refine lv_goto (tgt := 18) hx hb dL_law_1075 (by decide) ?_
                                                      exact ihK_1 _ _ _ _ _ hf hP hS (lv_sub hl [1, 2, 3, 0] rfl)
                                                    · have hf := it_f c_365 hf
                                                      refine lv_iconst (v := 0) hx hb dL_law_756 (by decide) ?_
                                                      cases hf
                                                  refine lv_if_eq (tgt := 749) hx hb dL_law_742 (by decide) (fun c_367 => ?_) (fun c_367 => ?_)
                                                  · have hf := it_t c_367 hf
                                                    refine lv_iconst (v := 0) hx hb dL_law_749 (by decide) ?_
                                                    exact hK_359 _ _ _ _ _ hf hP hS (lv_sub hl [0, 1, 2, 3] rfl)
                                                  · have hf := it_f c_367 hf
                                                    refine lv_iconst (v := 1) hx hb dL_law_745 (by decide) ?_
                                                    refine lv_goto (tgt := 750) hx hb dL_law_746 (by decide) ?_
                                                    exact hK_359 _ _ _ _ _ hf hP hS (lv_sub hl [0, 1, 2, 3] rfl)
                                                refine lv_if_eq (tgt := 732) hx hb dL_law_725 (by decide) (fun c_368 => ?_) (fun c_368 => ?_)
                                                · have hf := it_t c_368 hf
                                                  refine lv_iconst (v := 0) hx hb dL_law_732 (by decide) ?_
                                                  exact hK_350 _ _ _ _ _ hf hP hS (lv_sub hl [0, 1, 2, 3] rfl)
                                                · have hf := it_f c_368 hf
                                                  refine lv_iconst (v := 1) hx hb dL_law_728 (by decide) ?_
                                                  refine lv_goto (tgt := 733) hx hb dL_law_729 (by decide) ?_
                                                  exact hK_350 _ _ _ _ _ hf hP hS (lv_sub hl [0, 1, 2, 3] rfl)
                                              · have hf := it_f c_346 hf
                                                by_cases c_369 : y_10.toInt = 20
                                                · have hf := it_t c_369 hf
                                                  refine lv_tableIn (off := 726) (tgt := 758) hx hb dL_law_32 (by omega) (by omega) (by rw [c_369]; rfl) (by decide) ?_
                                                  refine lv_aload_n hx hb dL_law_758 rfl (lv_at hl 1 rfl) ?_
                                                  refine lv_aload_n hx hb dL_law_759 rfl (lv_at hl 0 rfl) ?_
                                                  refine lv_iload_n hx hb dL_law_760 rfl (lv_at hl 3 rfl) ?_
                                                  refine lv_iconst (v := 1) hx hb dL_law_761 (by decide) ?_
                                                  refine lv_iadd hx hb dL_law_762 ?_
                                                  refine lv_topi (fun y_370 ey_370 => ?_)
                                                  have hf := lt_at ey_370 hf; clear ey_370
                                                  obtain ⟨n_371, hf⟩ := rg_el hf
                                                  refine va_sld hx hb hX hbl hbA hS n_371 dL_law_763 ?_
                                                  refine lv_topi (fun a_372 ea_372 => ?_)
                                                  have hf := lt_at ea_372 hf; clear ea_372
                                                  refine lv_aload_n hx hb dL_law_764 rfl (lv_at hl 0 rfl) ?_
                                                  refine lv_iload_n hx hb dL_law_765 rfl (lv_at hl 3 rfl) ?_
                                                  refine lv_iconst (v := 2) hx hb dL_law_766 (by decide) ?_
                                                  refine lv_iadd hx hb dL_law_767 ?_
                                                  refine lv_topi (fun y_373 ey_373 => ?_)
                                                  have hf := lt_at ey_373 hf; clear ey_373
                                                  obtain ⟨n_374, hf⟩ := rg_el hf
                                                  refine va_sld hx hb hX hbl hbA hS n_374 dL_law_768 ?_
                                                  refine lv_topi (fun a_375 ea_375 => ?_)
                                                  have hf := lt_at ea_375 hf; clear ea_375
                                                  obtain ⟨r_376, z_377, h_378, hf⟩ := cl_el hf
                                                  refine callVI (As := [.int a_372, .int a_375]) (rest := []) (ci := 8) (q0 := 0) ⟨hx, hb, hml, hown, hts⟩ (tX8_search (l := l) (dC := dC) (dI := dI) (t0 := t0) (cI := cI) (cJ := cJ) (cZ := cZ) hA h_378) (cwV 2 hts hL_X8_search rfl rfl rfl (by decide +kernel) ⟨Nat.le_of_ble_eq_true rfl, Nat.le_of_ble_eq_true rfl⟩) hK hZ hP hS rfl (wc_0 A cI cJ cZ z_4) rfl rfl rfl hl.1 (Nat.le_of_ble_eq_true rfl) ⟨Nat.le_of_ble_eq_true rfl, Nat.le_of_ble_eq_true rfl⟩ dL_law_769 (fun H locs hP hS => ?_)
                                                  refine lv_aload_n hx hb dL_law_772 rfl (lv_at hl 2 rfl) ?_
                                                  refine lv_aload_n hx hb dL_law_773 rfl (lv_at hl 0 rfl) ?_
                                                  refine lv_iload_n hx hb dL_law_774 rfl (lv_at hl 3 rfl) ?_
                                                  refine lv_iconst (v := 1) hx hb dL_law_775 (by decide) ?_
                                                  refine lv_iadd hx hb dL_law_776 ?_
                                                  refine lv_topi (fun y_379 ey_379 => ?_)
                                                  have hf := lt_at ey_379 hf; clear ey_379
                                                  obtain ⟨n_380, hf⟩ := rg_el hf
                                                  refine va_sld hx hb hX hbl hbA hS n_380 dL_law_777 ?_
                                                  refine lv_topi (fun a_381 ea_381 => ?_)
                                                  have hf := lt_at ea_381 hf; clear ea_381
                                                  refine lv_aload_n hx hb dL_law_778 rfl (lv_at hl 0 rfl) ?_
                                                  refine lv_iload_n hx hb dL_law_779 rfl (lv_at hl 3 rfl) ?_
                                                  refine lv_iconst (v := 2) hx hb dL_law_780 (by decide) ?_
                                                  refine lv_iadd hx hb dL_law_781 ?_
                                                  refine lv_topi (fun y_382 ey_382 => ?_)
                                                  have hf := lt_at ey_382 hf; clear ey_382
                                                  obtain ⟨n_383, hf⟩ := rg_el hf
                                                  refine va_sld hx hb hX hbl hbA hS n_383 dL_law_782 ?_
                                                  refine lv_topi (fun a_384 ea_384 => ?_)
                                                  have hf := lt_at ea_384 hf; clear ea_384
                                                  obtain ⟨r_385, z_386, h_387, hf⟩ := cl_el hf
                                                  refine callVI (As := [.int a_381, .int a_384]) (rest := [.int r_376]) (ci := 9) (q0 := 25) ⟨hx, hb, hml, hown, hts⟩ (tX9_search (l := l) (dC := dC) (dI := dI) (t0 := t0) (cI := cI) (cJ := cJ) (cZ := cZ) hA h_387) (cwV 2 hts hL_X9_search rfl rfl rfl (by decide +kernel) ⟨Nat.le_of_ble_eq_true rfl, Nat.le_of_ble_eq_true rfl⟩) hK hZ hP hS rfl (wc_25 A cI cJ cZ z_377) rfl rfl rfl hl.1 (Nat.le_of_ble_eq_true rfl) ⟨Nat.le_of_ble_eq_true rfl, Nat.le_of_ble_eq_true rfl⟩ dL_law_783 (fun H locs hP hS => ?_)
                                                  refine lv_icmp_eq (tgt := 1072) hx hb dL_law_786 (by decide) (fun c_388 => ?_) (fun c_388 => ?_)
                                                  · have hf := it_t c_388 hf
                                                    obtain ⟨x3_389, ex3_389⟩ : ∃ q : Int32, q = x3_5 + (5 : Int32) := ⟨_, rfl⟩
                                                    refine lv_iinc (v := x3_389) (lv' := [(3, .int x3_389), (0, .ref b), (1, .ref (A 0)), (2, .ref (A 25))]) hx hb dL_law_1072 hl (k := 3) rfl (by rw [ex3_389]; rfl) (by decide) rfl (fun ls hl => ?_)
                                                    have hf := lt_at ex3_389 hf; clear ex3_389
                                                    refine lv_goto (tgt := 18) hx hb dL_law_1075 (by decide) ?_
                                                    exact ihK_1 _ _ _ _ _ hf hP hS (lv_sub hl [1, 2, 3, 0] rfl)
                                                  · have hf := it_f c_388 hf
                                                    refine lv_iconst (v := 0) hx hb dL_law_789 (by decide) ?_
                                                    cases hf
                                                · have hf := it_f c_369 hf
                                                  by_cases c_390 : y_10.toInt = 21
                                                  · have hf := it_t c_390 hf
                                                    refine lv_tableIn (off := 759) (tgt := 791) hx hb dL_law_32 (by omega) (by omega) (by rw [c_390]; rfl) (by decide) ?_
                                                    refine lv_aload_n hx hb dL_law_791 rfl (lv_at hl 1 rfl) ?_
                                                    obtain ⟨r_391, z_392, h_393, hf⟩ := cl_el hf
                                                    refine callVI (As := []) (rest := []) (ci := 8) (q0 := 0) ⟨hx, hb, hml, hown, hts⟩ (tX8_unsearch (l := l) (dC := dC) (dI := dI) (t0 := t0) (cI := cI) (cJ := cJ) (cZ := cZ) hA h_393) (cwV 0 hts hL_X8_unsearch rfl rfl rfl (by decide +kernel) ⟨Nat.le_of_ble_eq_true rfl, Nat.le_of_ble_eq_true rfl⟩) hK hZ hP hS rfl (wc_0 A cI cJ cZ z_4) rfl rfl rfl hl.1 (Nat.le_of_ble_eq_true rfl) ⟨Nat.le_of_ble_eq_true rfl, Nat.le_of_ble_eq_true rfl⟩ dL_law_792 (fun H locs hP hS => ?_)
                                                    refine lv_aload_n hx hb dL_law_795 rfl (lv_at hl 2 rfl) ?_
                                                    obtain ⟨r_394, z_395, h_396, hf⟩ := cl_el hf
                                                    refine callVI (As := []) (rest := [.int r_391]) (ci := 9) (q0 := 25) ⟨hx, hb, hml, hown, hts⟩ (tX9_unsearch (l := l) (dC := dC) (dI := dI) (t0 := t0) (cI := cI) (cJ := cJ) (cZ := cZ) hA h_396) (cwV 0 hts hL_X9_unsearch rfl rfl rfl (by decide +kernel) ⟨Nat.le_of_ble_eq_true rfl, Nat.le_of_ble_eq_true rfl⟩) hK hZ hP hS rfl (wc_25 A cI cJ cZ z_392) rfl rfl rfl hl.1 (Nat.le_of_ble_eq_true rfl) ⟨Nat.le_of_ble_eq_true rfl, Nat.le_of_ble_eq_true rfl⟩ dL_law_796 (fun H locs hP hS => ?_)
                                                    refine lv_icmp_eq (tgt := 1072) hx hb dL_law_799 (by decide) (fun c_397 => ?_) (fun c_397 => ?_)
                                                    · have hf := it_t c_397 hf
                                                      obtain ⟨x3_398, ex3_398⟩ : ∃ q : Int32, q = x3_5 + (5 : Int32) := ⟨_, rfl⟩
                                                      refine lv_iinc (v := x3_398) (lv' := [(3, .int x3_398), (0, .ref b), (1, .ref (A 0)), (2, .ref (A 25))]) hx hb dL_law_1072 hl (k := 3) rfl (by rw [ex3_398]; rfl) (by decide) rfl (fun ls hl => ?_)
                                                      have hf := lt_at ex3_398 hf; clear ex3_398
                                                      refine lv_goto (tgt := 18) hx hb dL_law_1075 (by decide) ?_
                                                      exact ihK_1 _ _ _ _ _ hf hP hS (lv_sub hl [1, 2, 3, 0] rfl)
                                                    · have hf := it_f c_397 hf
                                                      refine lv_iconst (v := 0) hx hb dL_law_802 (by decide) ?_
                                                      cases hf
                                                  · have hf := it_f c_390 hf
                                                    by_cases c_399 : y_10.toInt = 22
                                                    · have hf := it_t c_399 hf
                                                      refine lv_tableIn (off := 772) (tgt := 804) hx hb dL_law_32 (by omega) (by omega) (by rw [c_399]; rfl) (by decide) ?_
                                                      refine lv_aload_n hx hb dL_law_804 rfl (lv_at hl 1 rfl) ?_
                                                      obtain ⟨r_400, z_401, h_402, hf⟩ := cl_el hf
                                                      refine callVI (As := []) (rest := []) (ci := 8) (q0 := 0) ⟨hx, hb, hml, hown, hts⟩ (tX8_rows (l := l) (dC := dC) (dI := dI) (t0 := t0) (cI := cI) (cJ := cJ) (cZ := cZ) hA h_402) (cwV 0 hts hL_X8_rows rfl rfl rfl (by decide +kernel) ⟨Nat.le_of_ble_eq_true rfl, Nat.le_of_ble_eq_true rfl⟩) hK hZ hP hS rfl (wc_0 A cI cJ cZ z_4) rfl rfl rfl hl.1 (Nat.le_of_ble_eq_true rfl) ⟨Nat.le_of_ble_eq_true rfl, Nat.le_of_ble_eq_true rfl⟩ dL_law_805 (fun H locs hP hS => ?_)
                                                      refine lv_aload_n hx hb dL_law_808 rfl (lv_at hl 2 rfl) ?_
                                                      obtain ⟨r_403, z_404, h_405, hf⟩ := cl_el hf
                                                      refine callVI (As := []) (rest := [.int r_400]) (ci := 9) (q0 := 25) ⟨hx, hb, hml, hown, hts⟩ (tX9_rows (l := l) (dC := dC) (dI := dI) (t0 := t0) (cI := cI) (cJ := cJ) (cZ := cZ) hA h_405) (cwV 0 hts hL_X9_rows rfl rfl rfl (by decide +kernel) ⟨Nat.le_of_ble_eq_true rfl, Nat.le_of_ble_eq_true rfl⟩) hK hZ hP hS rfl (wc_25 A cI cJ cZ z_401) rfl rfl rfl hl.1 (Nat.le_of_ble_eq_true rfl) ⟨Nat.le_of_ble_eq_true rfl, Nat.le_of_ble_eq_true rfl⟩ dL_law_809 (fun H locs hP hS => ?_)
                                                      refine lv_icmp_eq (tgt := 1072) hx hb dL_law_812 (by decide) (fun c_406 => ?_) (fun c_406 => ?_)
                                                      · have hf := it_t c_406 hf
                                                        obtain ⟨x3_407, ex3_407⟩ : ∃ q : Int32, q = x3_5 + (5 : Int32) := ⟨_, rfl⟩
                                                        refine lv_iinc (v := x3_407) (lv' := [(3, .int x3_407), (0, .ref b), (1, .ref (A 0)), (2, .ref (A 25))]) hx hb dL_law_1072 hl (k := 3) rfl (by rw [ex3_407]; rfl) (by decide) rfl (fun ls hl => ?_)
                                                        have hf := lt_at ex3_407 hf; clear ex3_407
                                                        refine lv_goto (tgt := 18) hx hb dL_law_1075 (by decide) ?_
                                                        exact ihK_1 _ _ _ _ _ hf hP hS (lv_sub hl [1, 2, 3, 0] rfl)
                                                      · have hf := it_f c_406 hf
                                                        refine lv_iconst (v := 0) hx hb dL_law_815 (by decide) ?_
                                                        cases hf
                                                    · have hf := it_f c_399 hf
                                                      by_cases c_408 : y_10.toInt = 23
                                                      · have hf := it_t c_408 hf
                                                        refine lv_tableIn (off := 785) (tgt := 817) hx hb dL_law_32 (by omega) (by omega) (by rw [c_408]; rfl) (by decide) ?_
                                                        refine lv_aload_n hx hb dL_law_817 rfl (lv_at hl 1 rfl) ?_
                                                        refine lv_aload_n hx hb dL_law_818 rfl (lv_at hl 0 rfl) ?_
                                                        refine lv_iload_n hx hb dL_law_819 rfl (lv_at hl 3 rfl) ?_
                                                        refine lv_iconst (v := 1) hx hb dL_law_820 (by decide) ?_
                                                        refine lv_iadd hx hb dL_law_821 ?_
                                                        refine lv_topi (fun y_409 ey_409 => ?_)
                                                        have hf := lt_at ey_409 hf; clear ey_409
                                                        obtain ⟨n_410, hf⟩ := rg_el hf
                                                        refine va_sld hx hb hX hbl hbA hS n_410 dL_law_822 ?_
                                                        refine lv_topi (fun a_411 ea_411 => ?_)
                                                        have hf := lt_at ea_411 hf; clear ea_411
                                                        refine lv_aload_n hx hb dL_law_823 rfl (lv_at hl 0 rfl) ?_
                                                        refine lv_iload_n hx hb dL_law_824 rfl (lv_at hl 3 rfl) ?_
                                                        refine lv_iconst (v := 2) hx hb dL_law_825 (by decide) ?_
                                                        refine lv_iadd hx hb dL_law_826 ?_
                                                        refine lv_topi (fun y_412 ey_412 => ?_)
                                                        have hf := lt_at ey_412 hf; clear ey_412
                                                        obtain ⟨n_413, hf⟩ := rg_el hf
                                                        refine va_sld hx hb hX hbl hbA hS n_413 dL_law_827 ?_
                                                        refine lv_topi (fun a_414 ea_414 => ?_)
                                                        have hf := lt_at ea_414 hf; clear ea_414
                                                        obtain ⟨K_415, eK_415, hf⟩ := jn_el hf
                                                        have hK_415 : ∀ (v_416 : Int32) (z_417 : Mem) (H : Heap) (locs : List Loc) (ls : Array Slot), K_415 v_416 z_417 = some () → wIs dC dI A cI cJ cZ z_417 H → va_S (fr A) s.heap H locs → lv_has ls 4 [(0, .ref b), (1, .ref (A 0)), (2, .ref (A 25)), (3, .int x3_5)] → W p l e room_1 s m #[Value.ref b] below meth c H locs 50 8000 (lw_Z below #[Value.ref b] s) (F0 m 836 ls [.int v_416, .int a_411, .ref (A 0)]) := by
                                                          intro v_416 z_417 H locs ls hf hP hS hl
                                                          have hf := ap2 eK_415 hf
                                                          obtain ⟨r_418, z_419, h_420, hf⟩ := cl_el hf
                                                          refine callVI (As := [.int a_411, .int v_416]) (rest := []) (ci := 8) (q0 := 0) ⟨hx, hb, hml, hown, hts⟩ (tX8_stones (l := l) (dC := dC) (dI := dI) (t0 := t0) (cI := cI) (cJ := cJ) (cZ := cZ) hA h_420) (cwV 2 hts hL_X8_stones rfl rfl rfl (by decide +kernel) ⟨Nat.le_of_ble_eq_true rfl, Nat.le_of_ble_eq_true rfl⟩) hK hZ hP hS rfl (wc_0 A cI cJ cZ z_417) rfl rfl rfl hl.1 (Nat.le_of_ble_eq_true rfl) ⟨Nat.le_of_ble_eq_true rfl, Nat.le_of_ble_eq_true rfl⟩ dL_law_836 (fun H locs hP hS => ?_)
                                                          refine lv_aload_n hx hb dL_law_839 rfl (lv_at hl 2 rfl) ?_
                                                          refine lv_aload_n hx hb dL_law_840 rfl (lv_at hl 0 rfl) ?_
                                                          refine lv_iload_n hx hb dL_law_841 rfl (lv_at hl 3 rfl) ?_
                                                          refine lv_iconst (v := 1) hx hb dL_law_842 (by decide) ?_
                                                          refine lv_iadd hx hb dL_law_843 ?_
                                                          refine lv_topi (fun y_421 ey_421 => ?_)
                                                          have hf := lt_at ey_421 hf; clear ey_421
                                                          obtain ⟨n_422, hf⟩ := rg_el hf
                                                          refine va_sld hx hb hX hbl hbA hS n_422 dL_law_844 ?_
                                                          refine lv_topi (fun a_423 ea_423 => ?_)
                                                          have hf := lt_at ea_423 hf; clear ea_423
                                                          refine lv_aload_n hx hb dL_law_845 rfl (lv_at hl 0 rfl) ?_
                                                          refine lv_iload_n hx hb dL_law_846 rfl (lv_at hl 3 rfl) ?_
                                                          refine lv_iconst (v := 2) hx hb dL_law_847 (by decide) ?_
                                                          refine lv_iadd hx hb dL_law_848 ?_
                                                          refine lv_topi (fun y_424 ey_424 => ?_)
                                                          have hf := lt_at ey_424 hf; clear ey_424
                                                          obtain ⟨n_425, hf⟩ := rg_el hf
                                                          refine va_sld hx hb hX hbl hbA hS n_425 dL_law_849 ?_
                                                          refine lv_topi (fun a_426 ea_426 => ?_)
                                                          have hf := lt_at ea_426 hf; clear ea_426
                                                          obtain ⟨K_427, eK_427, hf⟩ := jn_el hf
                                                          have hK_427 : ∀ (v_428 : Int32) (z_429 : Mem) (H : Heap) (locs : List Loc) (ls : Array Slot), K_427 v_428 z_429 = some () → wIs dC dI A cI cJ cZ z_429 H → va_S (fr A) s.heap H locs → lv_has ls 4 [(0, .ref b), (1, .ref (A 0)), (2, .ref (A 25)), (3, .int x3_5)] → W p l e room_1 s m #[Value.ref b] below meth c H locs 50 8000 (lw_Z below #[Value.ref b] s) (F0 m 858 ls [.int v_428, .int a_423, .ref (A 25), .int r_418]) := by
                                                            intro v_428 z_429 H locs ls hf hP hS hl
                                                            have hf := ap2 eK_427 hf
                                                            obtain ⟨r_430, z_431, h_432, hf⟩ := cl_el hf
                                                            refine callVI (As := [.int a_423, .int v_428]) (rest := [.int r_418]) (ci := 9) (q0 := 25) ⟨hx, hb, hml, hown, hts⟩ (tX9_stones (l := l) (dC := dC) (dI := dI) (t0 := t0) (cI := cI) (cJ := cJ) (cZ := cZ) hA h_432) (cwV 2 hts hL_X9_stones rfl rfl rfl (by decide +kernel) ⟨Nat.le_of_ble_eq_true rfl, Nat.le_of_ble_eq_true rfl⟩) hK hZ hP hS rfl (wc_25 A cI cJ cZ z_429) rfl rfl rfl hl.1 (Nat.le_of_ble_eq_true rfl) ⟨Nat.le_of_ble_eq_true rfl, Nat.le_of_ble_eq_true rfl⟩ dL_law_858 (fun H locs hP hS => ?_)
                                                            refine lv_icmp_eq (tgt := 1072) hx hb dL_law_861 (by decide) (fun c_433 => ?_) (fun c_433 => ?_)
                                                            · have hf := it_t c_433 hf
                                                              obtain ⟨x3_434, ex3_434⟩ : ∃ q : Int32, q = x3_5 + (5 : Int32) := ⟨_, rfl⟩
                                                              refine lv_iinc (v := x3_434) (lv' := [(3, .int x3_434), (0, .ref b), (1, .ref (A 0)), (2, .ref (A 25))]) hx hb dL_law_1072 hl (k := 3) rfl (by rw [ex3_434]; rfl) (by decide) rfl (fun ls hl => ?_)
                                                              have hf := lt_at ex3_434 hf; clear ex3_434
                                                              refine lv_goto (tgt := 18) hx hb dL_law_1075 (by decide) ?_
                                                              exact ihK_1 _ _ _ _ _ hf hP hS (lv_sub hl [1, 2, 3, 0] rfl)
                                                            · have hf := it_f c_433 hf
                                                              refine lv_iconst (v := 0) hx hb dL_law_864 (by decide) ?_
                                                              cases hf
                                                          refine lv_if_eq (tgt := 857) hx hb dL_law_850 (by decide) (fun c_435 => ?_) (fun c_435 => ?_)
                                                          · have hf := it_t c_435 hf
                                                            refine lv_iconst (v := 0) hx hb dL_law_857 (by decide) ?_
                                                            exact hK_427 _ _ _ _ _ hf hP hS (lv_sub hl [0, 1, 2, 3] rfl)
                                                          · have hf := it_f c_435 hf
                                                            refine lv_iconst (v := 1) hx hb dL_law_853 (by decide) ?_
                                                            refine lv_goto (tgt := 858) hx hb dL_law_854 (by decide) ?_
                                                            exact hK_427 _ _ _ _ _ hf hP hS (lv_sub hl [0, 1, 2, 3] rfl)
                                                        refine lv_if_eq (tgt := 835) hx hb dL_law_828 (by decide) (fun c_436 => ?_) (fun c_436 => ?_)
                                                        · have hf := it_t c_436 hf
                                                          refine lv_iconst (v := 0) hx hb dL_law_835 (by decide) ?_
                                                          exact hK_415 _ _ _ _ _ hf hP hS (lv_sub hl [0, 1, 2, 3] rfl)
                                                        · have hf := it_f c_436 hf
                                                          refine lv_iconst (v := 1) hx hb dL_law_831 (by decide) ?_
                                                          refine lv_goto (tgt := 836) hx hb dL_law_832 (by decide) ?_
                                                          exact hK_415 _ _ _ _ _ hf hP hS (lv_sub hl [0, 1, 2, 3] rfl)
                                                      · have hf := it_f c_408 hf
                                                        by_cases c_437 : y_10.toInt = 24
                                                        · have hf := it_t c_437 hf
                                                          refine lv_tableIn (off := 834) (tgt := 866) hx hb dL_law_32 (by omega) (by omega) (by rw [c_437]; rfl) (by decide) ?_
                                                          refine lv_aload_n hx hb dL_law_866 rfl (lv_at hl 1 rfl) ?_
                                                          refine lv_aload_n hx hb dL_law_867 rfl (lv_at hl 0 rfl) ?_
                                                          refine lv_iload_n hx hb dL_law_868 rfl (lv_at hl 3 rfl) ?_
                                                          refine lv_iconst (v := 1) hx hb dL_law_869 (by decide) ?_
                                                          refine lv_iadd hx hb dL_law_870 ?_
                                                          refine lv_topi (fun y_438 ey_438 => ?_)
                                                          have hf := lt_at ey_438 hf; clear ey_438
                                                          obtain ⟨n_439, hf⟩ := rg_el hf
                                                          refine va_sld hx hb hX hbl hbA hS n_439 dL_law_871 ?_
                                                          refine lv_topi (fun a_440 ea_440 => ?_)
                                                          have hf := lt_at ea_440 hf; clear ea_440
                                                          obtain ⟨r_441, z_442, h_443, hf⟩ := cl_el hf
                                                          refine callVI (As := [.int a_440]) (rest := []) (ci := 8) (q0 := 0) ⟨hx, hb, hml, hown, hts⟩ (tX8_ruled (l := l) (dC := dC) (dI := dI) (t0 := t0) (cI := cI) (cJ := cJ) (cZ := cZ) hA h_443) (cwV 1 hts hL_X8_ruled rfl rfl rfl (by decide +kernel) ⟨Nat.le_of_ble_eq_true rfl, Nat.le_of_ble_eq_true rfl⟩) hK hZ hP hS rfl (wc_0 A cI cJ cZ z_4) rfl rfl rfl hl.1 (Nat.le_of_ble_eq_true rfl) ⟨Nat.le_of_ble_eq_true rfl, Nat.le_of_ble_eq_true rfl⟩ dL_law_872 (fun H locs hP hS => ?_)
                                                          refine lv_aload_n hx hb dL_law_875 rfl (lv_at hl 2 rfl) ?_
                                                          refine lv_aload_n hx hb dL_law_876 rfl (lv_at hl 0 rfl) ?_
                                                          refine lv_iload_n hx hb dL_law_877 rfl (lv_at hl 3 rfl) ?_
                                                          refine lv_iconst (v := 1) hx hb dL_law_878 (by decide) ?_
                                                          refine lv_iadd hx hb dL_law_879 ?_
                                                          refine lv_topi (fun y_444 ey_444 => ?_)
                                                          have hf := lt_at ey_444 hf; clear ey_444
                                                          obtain ⟨n_445, hf⟩ := rg_el hf
                                                          refine va_sld hx hb hX hbl hbA hS n_445 dL_law_880 ?_
                                                          refine lv_topi (fun a_446 ea_446 => ?_)
                                                          have hf := lt_at ea_446 hf; clear ea_446
                                                          obtain ⟨r_447, z_448, h_449, hf⟩ := cl_el hf
                                                          refine callVI (As := [.int a_446]) (rest := [.int r_441]) (ci := 9) (q0 := 25) ⟨hx, hb, hml, hown, hts⟩ (tX9_ruled (l := l) (dC := dC) (dI := dI) (t0 := t0) (cI := cI) (cJ := cJ) (cZ := cZ) hA h_449) (cwV 1 hts hL_X9_ruled rfl rfl rfl (by decide +kernel) ⟨Nat.le_of_ble_eq_true rfl, Nat.le_of_ble_eq_true rfl⟩) hK hZ hP hS rfl (wc_25 A cI cJ cZ z_442) rfl rfl rfl hl.1 (Nat.le_of_ble_eq_true rfl) ⟨Nat.le_of_ble_eq_true rfl, Nat.le_of_ble_eq_true rfl⟩ dL_law_881 (fun H locs hP hS => ?_)
                                                          refine lv_icmp_eq (tgt := 1072) hx hb dL_law_884 (by decide) (fun c_450 => ?_) (fun c_450 => ?_)
                                                          · have hf := it_t c_450 hf
                                                            obtain ⟨x3_451, ex3_451⟩ : ∃ q : Int32, q = x3_5 + (5 : Int32) := ⟨_, rfl⟩
                                                            refine lv_iinc (v := x3_451) (lv' := [(3, .int x3_451), (0, .ref b), (1, .ref (A 0)), (2, .ref (A 25))]) hx hb dL_law_1072 hl (k := 3) rfl (by rw [ex3_451]; rfl) (by decide) rfl (fun ls hl => ?_)
                                                            have hf := lt_at ex3_451 hf; clear ex3_451
                                                            refine lv_goto (tgt := 18) hx hb dL_law_1075 (by decide) ?_
                                                            exact ihK_1 _ _ _ _ _ hf hP hS (lv_sub hl [1, 2, 3, 0] rfl)
                                                          · have hf := it_f c_450 hf
                                                            refine lv_iconst (v := 0) hx hb dL_law_887 (by decide) ?_
                                                            cases hf
                                                        · have hf := it_f c_437 hf
                                                          by_cases c_452 : y_10.toInt = 25
                                                          · have hf := it_t c_452 hf
                                                            refine lv_tableIn (off := 857) (tgt := 889) hx hb dL_law_32 (by omega) (by omega) (by rw [c_452]; rfl) (by decide) ?_
                                                            refine lv_aload_n hx hb dL_law_889 rfl (lv_at hl 1 rfl) ?_
                                                            obtain ⟨r_453, z_454, h_455, hf⟩ := cl_el hf
                                                            refine callVI (As := []) (rest := []) (ci := 8) (q0 := 0) ⟨hx, hb, hml, hown, hts⟩ (tX8_unrule (l := l) (dC := dC) (dI := dI) (t0 := t0) (cI := cI) (cJ := cJ) (cZ := cZ) hA h_455) (cwV 0 hts hL_X8_unrule rfl rfl rfl (by decide +kernel) ⟨Nat.le_of_ble_eq_true rfl, Nat.le_of_ble_eq_true rfl⟩) hK hZ hP hS rfl (wc_0 A cI cJ cZ z_4) rfl rfl rfl hl.1 (Nat.le_of_ble_eq_true rfl) ⟨Nat.le_of_ble_eq_true rfl, Nat.le_of_ble_eq_true rfl⟩ dL_law_890 (fun H locs hP hS => ?_)
                                                            refine lv_aload_n hx hb dL_law_893 rfl (lv_at hl 2 rfl) ?_
                                                            obtain ⟨r_456, z_457, h_458, hf⟩ := cl_el hf
                                                            refine callVI (As := []) (rest := [.int r_453]) (ci := 9) (q0 := 25) ⟨hx, hb, hml, hown, hts⟩ (tX9_unrule (l := l) (dC := dC) (dI := dI) (t0 := t0) (cI := cI) (cJ := cJ) (cZ := cZ) hA h_458) (cwV 0 hts hL_X9_unrule rfl rfl rfl (by decide +kernel) ⟨Nat.le_of_ble_eq_true rfl, Nat.le_of_ble_eq_true rfl⟩) hK hZ hP hS rfl (wc_25 A cI cJ cZ z_454) rfl rfl rfl hl.1 (Nat.le_of_ble_eq_true rfl) ⟨Nat.le_of_ble_eq_true rfl, Nat.le_of_ble_eq_true rfl⟩ dL_law_894 (fun H locs hP hS => ?_)
                                                            refine lv_icmp_eq (tgt := 1072) hx hb dL_law_897 (by decide) (fun c_459 => ?_) (fun c_459 => ?_)
                                                            · have hf := it_t c_459 hf
                                                              obtain ⟨x3_460, ex3_460⟩ : ∃ q : Int32, q = x3_5 + (5 : Int32) := ⟨_, rfl⟩
                                                              refine lv_iinc (v := x3_460) (lv' := [(3, .int x3_460), (0, .ref b), (1, .ref (A 0)), (2, .ref (A 25))]) hx hb dL_law_1072 hl (k := 3) rfl (by rw [ex3_460]; rfl) (by decide) rfl (fun ls hl => ?_)
                                                              have hf := lt_at ex3_460 hf; clear ex3_460
                                                              refine lv_goto (tgt := 18) hx hb dL_law_1075 (by decide) ?_
                                                              exact ihK_1 _ _ _ _ _ hf hP hS (lv_sub hl [1, 2, 3, 0] rfl)
                                                            · have hf := it_f c_459 hf
                                                              refine lv_iconst (v := 0) hx hb dL_law_900 (by decide) ?_
                                                              cases hf
                                                          · have hf := it_f c_452 hf
                                                            by_cases c_461 : y_10.toInt = 26
                                                            · have hf := it_t c_461 hf
                                                              refine lv_tableIn (off := 870) (tgt := 902) hx hb dL_law_32 (by omega) (by omega) (by rw [c_461]; rfl) (by decide) ?_
                                                              refine lv_aload_n hx hb dL_law_902 rfl (lv_at hl 1 rfl) ?_
                                                              obtain ⟨r_462, z_463, h_464, hf⟩ := cl_el hf
                                                              refine callVL (As := []) (rest := []) (ci := 8) (q0 := 0) ⟨hx, hb, hml, hown, hts⟩ (tX8_line (l := l) (dC := dC) (dI := dI) (t0 := t0) (cI := cI) (cJ := cJ) (cZ := cZ) hA h_464) (cwV 0 hts hL_X8_line rfl rfl rfl (by decide +kernel) ⟨Nat.le_of_ble_eq_true rfl, Nat.le_of_ble_eq_true rfl⟩) hK hZ hP hS rfl (wc_0 A cI cJ cZ z_4) rfl rfl rfl hl.1 (Nat.le_of_ble_eq_true rfl) ⟨Nat.le_of_ble_eq_true rfl, Nat.le_of_ble_eq_true rfl⟩ dL_law_903 (fun H locs hP hS => ?_)
                                                              refine lv_aload_n hx hb dL_law_906 rfl (lv_at hl 2 rfl) ?_
                                                              obtain ⟨r_465, z_466, h_467, hf⟩ := cl_el hf
                                                              refine callVL (As := []) (rest := [.long r_462]) (ci := 9) (q0 := 25) ⟨hx, hb, hml, hown, hts⟩ (tX9_line (l := l) (dC := dC) (dI := dI) (t0 := t0) (cI := cI) (cJ := cJ) (cZ := cZ) hA h_467) (cwV 0 hts hL_X9_line rfl rfl rfl (by decide +kernel) ⟨Nat.le_of_ble_eq_true rfl, Nat.le_of_ble_eq_true rfl⟩) hK hZ hP hS rfl (wc_25 A cI cJ cZ z_463) rfl rfl rfl hl.1 (Nat.le_of_ble_eq_true rfl) ⟨Nat.le_of_ble_eq_true rfl, Nat.le_of_ble_eq_true rfl⟩ dL_law_907 (fun H locs hP hS => ?_)
                                                              refine W.lcmp hx hb dL_law_910 ?_
                                                              refine lv_if_eq (tgt := 1072) hx hb dL_law_911 (by decide) (fun c_468 => ?_) (fun c_468 => ?_)
                                                              · have hf := it_t c_468 hf
                                                                obtain ⟨x3_469, ex3_469⟩ : ∃ q : Int32, q = x3_5 + (5 : Int32) := ⟨_, rfl⟩
                                                                refine lv_iinc (v := x3_469) (lv' := [(3, .int x3_469), (0, .ref b), (1, .ref (A 0)), (2, .ref (A 25))]) hx hb dL_law_1072 hl (k := 3) rfl (by rw [ex3_469]; rfl) (by decide) rfl (fun ls hl => ?_)
                                                                have hf := lt_at ex3_469 hf; clear ex3_469
                                                                refine lv_goto (tgt := 18) hx hb dL_law_1075 (by decide) ?_
                                                                exact ihK_1 _ _ _ _ _ hf hP hS (lv_sub hl [1, 2, 3, 0] rfl)
                                                              · have hf := it_f c_468 hf
                                                                refine lv_iconst (v := 0) hx hb dL_law_914 (by decide) ?_
                                                                cases hf
                                                            · have hf := it_f c_461 hf
                                                              by_cases c_470 : y_10.toInt = 27
                                                              · have hf := it_t c_470 hf
                                                                refine lv_tableIn (off := 884) (tgt := 916) hx hb dL_law_32 (by omega) (by omega) (by rw [c_470]; rfl) (by decide) ?_
                                                                refine lv_aload_n hx hb dL_law_916 rfl (lv_at hl 1 rfl) ?_
                                                                refine lv_aload_n hx hb dL_law_917 rfl (lv_at hl 0 rfl) ?_
                                                                refine lv_iload_n hx hb dL_law_918 rfl (lv_at hl 3 rfl) ?_
                                                                refine lv_iconst (v := 1) hx hb dL_law_919 (by decide) ?_
                                                                refine lv_iadd hx hb dL_law_920 ?_
                                                                refine lv_topi (fun y_471 ey_471 => ?_)
                                                                have hf := lt_at ey_471 hf; clear ey_471
                                                                obtain ⟨n_472, hf⟩ := rg_el hf
                                                                refine va_sld hx hb hX hbl hbA hS n_472 dL_law_921 ?_
                                                                refine lv_topi (fun a_473 ea_473 => ?_)
                                                                have hf := lt_at ea_473 hf; clear ea_473
                                                                refine lv_i2l hx hb dL_law_922 rfl ?_
                                                                refine lv_bipush (v := 32) hx hb dL_law_923 (by decide) ?_
                                                                refine lv_lshl hx hb dL_law_925 rfl ?_
                                                                refine lv_aload_n hx hb dL_law_926 rfl (lv_at hl 0 rfl) ?_
                                                                refine lv_iload_n hx hb dL_law_927 rfl (lv_at hl 3 rfl) ?_
                                                                refine lv_iconst (v := 2) hx hb dL_law_928 (by decide) ?_
                                                                refine lv_iadd hx hb dL_law_929 ?_
                                                                refine lv_topi (fun y_474 ey_474 => ?_)
                                                                have hf := lt_at ey_474 hf; clear ey_474
                                                                obtain ⟨n_475, hf⟩ := rg_el hf
                                                                refine va_sld hx hb hX hbl hbA hS n_475 dL_law_930 ?_
                                                                refine lv_topi (fun a_476 ea_476 => ?_)
                                                                have hf := lt_at ea_476 hf; clear ea_476
                                                                refine lv_i2l hx hb dL_law_931 rfl ?_
                                                                refine lv_ldc2 hx hb hown (hts (.constantLong RL 13 (4294967295)) wd_825) dL_law_932 ?_
                                                                refine lv_land hx hb dL_law_935 ?_
                                                                refine lv_lor hx hb dL_law_936 ?_
                                                                obtain ⟨r_477, z_478, h_479, hf⟩ := cl_el hf
                                                                refine callVL (As := [.long (((a_473.toInt64) <<< ((32 : Int32).toInt64 &&& 63)) ||| ((a_476.toInt64) &&& (4294967295 : Int64)))]) (rest := []) (ci := 8) (q0 := 0) ⟨hx, hb, hml, hown, hts⟩ (tX8_seed (l := l) (dC := dC) (dI := dI) (t0 := t0) (cI := cI) (cJ := cJ) (cZ := cZ) hA h_479) (cwV 1 hts hL_X8_seed rfl rfl rfl (by decide +kernel) ⟨Nat.le_of_ble_eq_true rfl, Nat.le_of_ble_eq_true rfl⟩) hK hZ hP hS rfl (wc_0 A cI cJ cZ z_4) rfl rfl rfl hl.1 (Nat.le_of_ble_eq_true rfl) ⟨Nat.le_of_ble_eq_true rfl, Nat.le_of_ble_eq_true rfl⟩ dL_law_937 (fun H locs hP hS => ?_)
                                                                refine lv_aload_n hx hb dL_law_940 rfl (lv_at hl 2 rfl) ?_
                                                                refine lv_aload_n hx hb dL_law_941 rfl (lv_at hl 0 rfl) ?_
                                                                refine lv_iload_n hx hb dL_law_942 rfl (lv_at hl 3 rfl) ?_
                                                                refine lv_iconst (v := 1) hx hb dL_law_943 (by decide) ?_
                                                                refine lv_iadd hx hb dL_law_944 ?_
                                                                refine lv_topi (fun y_480 ey_480 => ?_)
                                                                have hf := lt_at ey_480 hf; clear ey_480
                                                                obtain ⟨n_481, hf⟩ := rg_el hf
                                                                refine va_sld hx hb hX hbl hbA hS n_481 dL_law_945 ?_
                                                                refine lv_topi (fun a_482 ea_482 => ?_)
                                                                have hf := lt_at ea_482 hf; clear ea_482
                                                                refine lv_i2l hx hb dL_law_946 rfl ?_
                                                                refine lv_bipush (v := 32) hx hb dL_law_947 (by decide) ?_
                                                                refine lv_lshl hx hb dL_law_949 rfl ?_
                                                                refine lv_aload_n hx hb dL_law_950 rfl (lv_at hl 0 rfl) ?_
                                                                refine lv_iload_n hx hb dL_law_951 rfl (lv_at hl 3 rfl) ?_
                                                                refine lv_iconst (v := 2) hx hb dL_law_952 (by decide) ?_
                                                                refine lv_iadd hx hb dL_law_953 ?_
                                                                refine lv_topi (fun y_483 ey_483 => ?_)
                                                                have hf := lt_at ey_483 hf; clear ey_483
                                                                obtain ⟨n_484, hf⟩ := rg_el hf
                                                                refine va_sld hx hb hX hbl hbA hS n_484 dL_law_954 ?_
                                                                refine lv_topi (fun a_485 ea_485 => ?_)
                                                                have hf := lt_at ea_485 hf; clear ea_485
                                                                refine lv_i2l hx hb dL_law_955 rfl ?_
                                                                refine lv_ldc2 hx hb hown (hts (.constantLong RL 13 (4294967295)) wd_825) dL_law_956 ?_
                                                                refine lv_land hx hb dL_law_959 ?_
                                                                refine lv_lor hx hb dL_law_960 ?_
                                                                obtain ⟨r_486, z_487, h_488, hf⟩ := cl_el hf
                                                                refine callVL (As := [.long (((a_482.toInt64) <<< ((32 : Int32).toInt64 &&& 63)) ||| ((a_485.toInt64) &&& (4294967295 : Int64)))]) (rest := [.long r_477]) (ci := 9) (q0 := 25) ⟨hx, hb, hml, hown, hts⟩ (tX9_seed (l := l) (dC := dC) (dI := dI) (t0 := t0) (cI := cI) (cJ := cJ) (cZ := cZ) hA h_488) (cwV 1 hts hL_X9_seed rfl rfl rfl (by decide +kernel) ⟨Nat.le_of_ble_eq_true rfl, Nat.le_of_ble_eq_true rfl⟩) hK hZ hP hS rfl (wc_25 A cI cJ cZ z_478) rfl rfl rfl hl.1 (Nat.le_of_ble_eq_true rfl) ⟨Nat.le_of_ble_eq_true rfl, Nat.le_of_ble_eq_true rfl⟩ dL_law_961 (fun H locs hP hS => ?_)
                                                                refine W.lcmp hx hb dL_law_964 ?_
                                                                refine lv_if_eq (tgt := 1072) hx hb dL_law_965 (by decide) (fun c_489 => ?_) (fun c_489 => ?_)
                                                                · have hf := it_t c_489 hf
                                                                  obtain ⟨x3_490, ex3_490⟩ : ∃ q : Int32, q = x3_5 + (5 : Int32) := ⟨_, rfl⟩
                                                                  refine lv_iinc (v := x3_490) (lv' := [(3, .int x3_490), (0, .ref b), (1, .ref (A 0)), (2, .ref (A 25))]) hx hb dL_law_1072 hl (k := 3) rfl (by rw [ex3_490]; rfl) (by decide) rfl (fun ls hl => ?_)
                                                                  have hf := lt_at ex3_490 hf; clear ex3_490
                                                                  refine lv_goto (tgt := 18) hx hb dL_law_1075 (by decide) ?_
                                                                  exact ihK_1 _ _ _ _ _ hf hP hS (lv_sub hl [1, 2, 3, 0] rfl)
                                                                · have hf := it_f c_489 hf
                                                                  refine lv_iconst (v := 0) hx hb dL_law_968 (by decide) ?_
                                                                  cases hf
                                                              · have hf := it_f c_470 hf
                                                                by_cases c_491 : y_10.toInt = 28
                                                                · have hf := it_t c_491 hf
                                                                  refine lv_tableIn (off := 938) (tgt := 970) hx hb dL_law_32 (by omega) (by omega) (by rw [c_491]; rfl) (by decide) ?_
                                                                  refine lv_aload_n hx hb dL_law_970 rfl (lv_at hl 1 rfl) ?_
                                                                  refine lv_aload_n hx hb dL_law_971 rfl (lv_at hl 0 rfl) ?_
                                                                  refine lv_iload_n hx hb dL_law_972 rfl (lv_at hl 3 rfl) ?_
                                                                  refine lv_iconst (v := 1) hx hb dL_law_973 (by decide) ?_
                                                                  refine lv_iadd hx hb dL_law_974 ?_
                                                                  refine lv_topi (fun y_492 ey_492 => ?_)
                                                                  have hf := lt_at ey_492 hf; clear ey_492
                                                                  obtain ⟨n_493, hf⟩ := rg_el hf
                                                                  refine va_sld hx hb hX hbl hbA hS n_493 dL_law_975 ?_
                                                                  refine lv_topi (fun a_494 ea_494 => ?_)
                                                                  have hf := lt_at ea_494 hf; clear ea_494
                                                                  refine lv_aload_n hx hb dL_law_976 rfl (lv_at hl 0 rfl) ?_
                                                                  refine lv_iload_n hx hb dL_law_977 rfl (lv_at hl 3 rfl) ?_
                                                                  refine lv_iconst (v := 2) hx hb dL_law_978 (by decide) ?_
                                                                  refine lv_iadd hx hb dL_law_979 ?_
                                                                  refine lv_topi (fun y_495 ey_495 => ?_)
                                                                  have hf := lt_at ey_495 hf; clear ey_495
                                                                  obtain ⟨n_496, hf⟩ := rg_el hf
                                                                  refine va_sld hx hb hX hbl hbA hS n_496 dL_law_980 ?_
                                                                  refine lv_topi (fun a_497 ea_497 => ?_)
                                                                  have hf := lt_at ea_497 hf; clear ea_497
                                                                  obtain ⟨r_498, z_499, h_500, hf⟩ := cl_el hf
                                                                  refine callVI (As := [.int a_494, .int a_497]) (rest := []) (ci := 8) (q0 := 0) ⟨hx, hb, hml, hown, hts⟩ (tX8_reign (l := l) (dC := dC) (dI := dI) (t0 := t0) (cI := cI) (cJ := cJ) (cZ := cZ) hA h_500) (cwV 2 hts hL_X8_reign rfl rfl rfl (by decide +kernel) ⟨Nat.le_of_ble_eq_true rfl, Nat.le_of_ble_eq_true rfl⟩) hK hZ hP hS rfl (wc_0 A cI cJ cZ z_4) rfl rfl rfl hl.1 (Nat.le_of_ble_eq_true rfl) ⟨Nat.le_of_ble_eq_true rfl, Nat.le_of_ble_eq_true rfl⟩ dL_law_981 (fun H locs hP hS => ?_)
                                                                  refine lv_aload_n hx hb dL_law_984 rfl (lv_at hl 2 rfl) ?_
                                                                  refine lv_aload_n hx hb dL_law_985 rfl (lv_at hl 0 rfl) ?_
                                                                  refine lv_iload_n hx hb dL_law_986 rfl (lv_at hl 3 rfl) ?_
                                                                  refine lv_iconst (v := 1) hx hb dL_law_987 (by decide) ?_
                                                                  refine lv_iadd hx hb dL_law_988 ?_
                                                                  refine lv_topi (fun y_501 ey_501 => ?_)
                                                                  have hf := lt_at ey_501 hf; clear ey_501
                                                                  obtain ⟨n_502, hf⟩ := rg_el hf
                                                                  refine va_sld hx hb hX hbl hbA hS n_502 dL_law_989 ?_
                                                                  refine lv_topi (fun a_503 ea_503 => ?_)
                                                                  have hf := lt_at ea_503 hf; clear ea_503
                                                                  refine lv_aload_n hx hb dL_law_990 rfl (lv_at hl 0 rfl) ?_
                                                                  refine lv_iload_n hx hb dL_law_991 rfl (lv_at hl 3 rfl) ?_
                                                                  refine lv_iconst (v := 2) hx hb dL_law_992 (by decide) ?_
                                                                  refine lv_iadd hx hb dL_law_993 ?_
                                                                  refine lv_topi (fun y_504 ey_504 => ?_)
                                                                  have hf := lt_at ey_504 hf; clear ey_504
                                                                  obtain ⟨n_505, hf⟩ := rg_el hf
                                                                  refine va_sld hx hb hX hbl hbA hS n_505 dL_law_994 ?_
                                                                  refine lv_topi (fun a_506 ea_506 => ?_)
                                                                  have hf := lt_at ea_506 hf; clear ea_506
                                                                  obtain ⟨r_507, z_508, h_509, hf⟩ := cl_el hf
                                                                  refine callVI (As := [.int a_503, .int a_506]) (rest := [.int r_498]) (ci := 9) (q0 := 25) ⟨hx, hb, hml, hown, hts⟩ (tX9_reign (l := l) (dC := dC) (dI := dI) (t0 := t0) (cI := cI) (cJ := cJ) (cZ := cZ) hA h_509) (cwV 2 hts hL_X9_reign rfl rfl rfl (by decide +kernel) ⟨Nat.le_of_ble_eq_true rfl, Nat.le_of_ble_eq_true rfl⟩) hK hZ hP hS rfl (wc_25 A cI cJ cZ z_499) rfl rfl rfl hl.1 (Nat.le_of_ble_eq_true rfl) ⟨Nat.le_of_ble_eq_true rfl, Nat.le_of_ble_eq_true rfl⟩ dL_law_995 (fun H locs hP hS => ?_)
                                                                  refine lv_icmp_eq (tgt := 1072) hx hb dL_law_998 (by decide) (fun c_510 => ?_) (fun c_510 => ?_)
                                                                  · have hf := it_t c_510 hf
                                                                    obtain ⟨x3_511, ex3_511⟩ : ∃ q : Int32, q = x3_5 + (5 : Int32) := ⟨_, rfl⟩
                                                                    refine lv_iinc (v := x3_511) (lv' := [(3, .int x3_511), (0, .ref b), (1, .ref (A 0)), (2, .ref (A 25))]) hx hb dL_law_1072 hl (k := 3) rfl (by rw [ex3_511]; rfl) (by decide) rfl (fun ls hl => ?_)
                                                                    have hf := lt_at ex3_511 hf; clear ex3_511
                                                                    refine lv_goto (tgt := 18) hx hb dL_law_1075 (by decide) ?_
                                                                    exact ihK_1 _ _ _ _ _ hf hP hS (lv_sub hl [1, 2, 3, 0] rfl)
                                                                  · have hf := it_f c_510 hf
                                                                    refine lv_iconst (v := 0) hx hb dL_law_1001 (by decide) ?_
                                                                    cases hf
                                                                · have hf := it_f c_491 hf
                                                                  by_cases c_512 : y_10.toInt = 29
                                                                  · have hf := it_t c_512 hf
                                                                    refine lv_tableIn (off := 971) (tgt := 1003) hx hb dL_law_32 (by omega) (by omega) (by rw [c_512]; rfl) (by decide) ?_
                                                                    refine lv_aload_n hx hb dL_law_1003 rfl (lv_at hl 1 rfl) ?_
                                                                    refine lv_aload_n hx hb dL_law_1004 rfl (lv_at hl 0 rfl) ?_
                                                                    refine lv_iload_n hx hb dL_law_1005 rfl (lv_at hl 3 rfl) ?_
                                                                    refine lv_iconst (v := 1) hx hb dL_law_1006 (by decide) ?_
                                                                    refine lv_iadd hx hb dL_law_1007 ?_
                                                                    refine lv_topi (fun y_513 ey_513 => ?_)
                                                                    have hf := lt_at ey_513 hf; clear ey_513
                                                                    obtain ⟨n_514, hf⟩ := rg_el hf
                                                                    refine va_sld hx hb hX hbl hbA hS n_514 dL_law_1008 ?_
                                                                    refine lv_topi (fun a_515 ea_515 => ?_)
                                                                    have hf := lt_at ea_515 hf; clear ea_515
                                                                    obtain ⟨r_516, z_517, h_518, hf⟩ := cl_el hf
                                                                    refine callVI (As := [.int a_515]) (rest := []) (ci := 8) (q0 := 0) ⟨hx, hb, hml, hown, hts⟩ (tX8_keep (l := l) (dC := dC) (dI := dI) (t0 := t0) (cI := cI) (cJ := cJ) (cZ := cZ) hA h_518) (cwV 1 hts hL_X8_keep rfl rfl rfl (by decide +kernel) ⟨Nat.le_of_ble_eq_true rfl, Nat.le_of_ble_eq_true rfl⟩) hK hZ hP hS rfl (wc_0 A cI cJ cZ z_4) rfl rfl rfl hl.1 (Nat.le_of_ble_eq_true rfl) ⟨Nat.le_of_ble_eq_true rfl, Nat.le_of_ble_eq_true rfl⟩ dL_law_1009 (fun H locs hP hS => ?_)
                                                                    refine lv_aload_n hx hb dL_law_1012 rfl (lv_at hl 2 rfl) ?_
                                                                    refine lv_aload_n hx hb dL_law_1013 rfl (lv_at hl 0 rfl) ?_
                                                                    refine lv_iload_n hx hb dL_law_1014 rfl (lv_at hl 3 rfl) ?_
                                                                    refine lv_iconst (v := 1) hx hb dL_law_1015 (by decide) ?_
                                                                    refine lv_iadd hx hb dL_law_1016 ?_
                                                                    refine lv_topi (fun y_519 ey_519 => ?_)
                                                                    have hf := lt_at ey_519 hf; clear ey_519
                                                                    obtain ⟨n_520, hf⟩ := rg_el hf
                                                                    refine va_sld hx hb hX hbl hbA hS n_520 dL_law_1017 ?_
                                                                    refine lv_topi (fun a_521 ea_521 => ?_)
                                                                    have hf := lt_at ea_521 hf; clear ea_521
                                                                    obtain ⟨r_522, z_523, h_524, hf⟩ := cl_el hf
                                                                    refine callVI (As := [.int a_521]) (rest := [.int r_516]) (ci := 9) (q0 := 25) ⟨hx, hb, hml, hown, hts⟩ (tX9_keep (l := l) (dC := dC) (dI := dI) (t0 := t0) (cI := cI) (cJ := cJ) (cZ := cZ) hA h_524) (cwV 1 hts hL_X9_keep rfl rfl rfl (by decide +kernel) ⟨Nat.le_of_ble_eq_true rfl, Nat.le_of_ble_eq_true rfl⟩) hK hZ hP hS rfl (wc_25 A cI cJ cZ z_517) rfl rfl rfl hl.1 (Nat.le_of_ble_eq_true rfl) ⟨Nat.le_of_ble_eq_true rfl, Nat.le_of_ble_eq_true rfl⟩ dL_law_1018 (fun H locs hP hS => ?_)
                                                                    refine lv_icmp_eq (tgt := 1072) hx hb dL_law_1021 (by decide) (fun c_525 => ?_) (fun c_525 => ?_)
                                                                    · have hf := it_t c_525 hf
                                                                      obtain ⟨x3_526, ex3_526⟩ : ∃ q : Int32, q = x3_5 + (5 : Int32) := ⟨_, rfl⟩
                                                                      refine lv_iinc (v := x3_526) (lv' := [(3, .int x3_526), (0, .ref b), (1, .ref (A 0)), (2, .ref (A 25))]) hx hb dL_law_1072 hl (k := 3) rfl (by rw [ex3_526]; rfl) (by decide) rfl (fun ls hl => ?_)
                                                                      have hf := lt_at ex3_526 hf; clear ex3_526
                                                                      refine lv_goto (tgt := 18) hx hb dL_law_1075 (by decide) ?_
                                                                      exact ihK_1 _ _ _ _ _ hf hP hS (lv_sub hl [1, 2, 3, 0] rfl)
                                                                    · have hf := it_f c_525 hf
                                                                      refine lv_iconst (v := 0) hx hb dL_law_1024 (by decide) ?_
                                                                      cases hf
                                                                  · have hf := it_f c_512 hf
                                                                    by_cases c_527 : y_10.toInt = 30
                                                                    · have hf := it_t c_527 hf
                                                                      refine lv_tableIn (off := 994) (tgt := 1026) hx hb dL_law_32 (by omega) (by omega) (by rw [c_527]; rfl) (by decide) ?_
                                                                      refine lv_aload_n hx hb dL_law_1026 rfl (lv_at hl 1 rfl) ?_
                                                                      refine lv_aload_n hx hb dL_law_1027 rfl (lv_at hl 0 rfl) ?_
                                                                      refine lv_iload_n hx hb dL_law_1028 rfl (lv_at hl 3 rfl) ?_
                                                                      refine lv_iconst (v := 1) hx hb dL_law_1029 (by decide) ?_
                                                                      refine lv_iadd hx hb dL_law_1030 ?_
                                                                      refine lv_topi (fun y_528 ey_528 => ?_)
                                                                      have hf := lt_at ey_528 hf; clear ey_528
                                                                      obtain ⟨n_529, hf⟩ := rg_el hf
                                                                      refine va_sld hx hb hX hbl hbA hS n_529 dL_law_1031 ?_
                                                                      refine lv_topi (fun a_530 ea_530 => ?_)
                                                                      have hf := lt_at ea_530 hf; clear ea_530
                                                                      obtain ⟨r_531, z_532, h_533, hf⟩ := cl_el hf
                                                                      refine callVI (As := [.int a_530]) (rest := []) (ci := 8) (q0 := 0) ⟨hx, hb, hml, hown, hts⟩ (tX8_again (l := l) (dC := dC) (dI := dI) (t0 := t0) (cI := cI) (cJ := cJ) (cZ := cZ) hA h_533) (cwV 1 hts hL_X8_again rfl rfl rfl (by decide +kernel) ⟨Nat.le_of_ble_eq_true rfl, Nat.le_of_ble_eq_true rfl⟩) hK hZ hP hS rfl (wc_0 A cI cJ cZ z_4) rfl rfl rfl hl.1 (Nat.le_of_ble_eq_true rfl) ⟨Nat.le_of_ble_eq_true rfl, Nat.le_of_ble_eq_true rfl⟩ dL_law_1032 (fun H locs hP hS => ?_)
                                                                      refine lv_aload_n hx hb dL_law_1035 rfl (lv_at hl 2 rfl) ?_
                                                                      refine lv_aload_n hx hb dL_law_1036 rfl (lv_at hl 0 rfl) ?_
                                                                      refine lv_iload_n hx hb dL_law_1037 rfl (lv_at hl 3 rfl) ?_
                                                                      refine lv_iconst (v := 1) hx hb dL_law_1038 (by decide) ?_
                                                                      refine lv_iadd hx hb dL_law_1039 ?_
                                                                      refine lv_topi (fun y_534 ey_534 => ?_)
                                                                      have hf := lt_at ey_534 hf; clear ey_534
                                                                      obtain ⟨n_535, hf⟩ := rg_el hf
                                                                      refine va_sld hx hb hX hbl hbA hS n_535 dL_law_1040 ?_
                                                                      refine lv_topi (fun a_536 ea_536 => ?_)
                                                                      have hf := lt_at ea_536 hf; clear ea_536
                                                                      obtain ⟨r_537, z_538, h_539, hf⟩ := cl_el hf
                                                                      refine callVI (As := [.int a_536]) (rest := [.int r_531]) (ci := 9) (q0 := 25) ⟨hx, hb, hml, hown, hts⟩ (tX9_again (l := l) (dC := dC) (dI := dI) (t0 := t0) (cI := cI) (cJ := cJ) (cZ := cZ) hA h_539) (cwV 1 hts hL_X9_again rfl rfl rfl (by decide +kernel) ⟨Nat.le_of_ble_eq_true rfl, Nat.le_of_ble_eq_true rfl⟩) hK hZ hP hS rfl (wc_25 A cI cJ cZ z_532) rfl rfl rfl hl.1 (Nat.le_of_ble_eq_true rfl) ⟨Nat.le_of_ble_eq_true rfl, Nat.le_of_ble_eq_true rfl⟩ dL_law_1041 (fun H locs hP hS => ?_)
                                                                      refine lv_icmp_eq (tgt := 1072) hx hb dL_law_1044 (by decide) (fun c_540 => ?_) (fun c_540 => ?_)
                                                                      · have hf := it_t c_540 hf
                                                                        obtain ⟨x3_541, ex3_541⟩ : ∃ q : Int32, q = x3_5 + (5 : Int32) := ⟨_, rfl⟩
                                                                        refine lv_iinc (v := x3_541) (lv' := [(3, .int x3_541), (0, .ref b), (1, .ref (A 0)), (2, .ref (A 25))]) hx hb dL_law_1072 hl (k := 3) rfl (by rw [ex3_541]; rfl) (by decide) rfl (fun ls hl => ?_)
                                                                        have hf := lt_at ex3_541 hf; clear ex3_541
                                                                        refine lv_goto (tgt := 18) hx hb dL_law_1075 (by decide) ?_
                                                                        exact ihK_1 _ _ _ _ _ hf hP hS (lv_sub hl [1, 2, 3, 0] rfl)
                                                                      · have hf := it_f c_540 hf
                                                                        refine lv_iconst (v := 0) hx hb dL_law_1047 (by decide) ?_
                                                                        cases hf
                                                                    · have hf := it_f c_527 hf
                                                                      by_cases c_542 : y_10.toInt = 31
                                                                      · have hf := it_t c_542 hf
                                                                        refine lv_tableIn (off := 1017) (tgt := 1049) hx hb dL_law_32 (by omega) (by omega) (by rw [c_542]; rfl) (by decide) ?_
                                                                        refine lv_aload_n hx hb dL_law_1049 rfl (lv_at hl 1 rfl) ?_
                                                                        refine lv_aload_n hx hb dL_law_1050 rfl (lv_at hl 0 rfl) ?_
                                                                        refine lv_iload_n hx hb dL_law_1051 rfl (lv_at hl 3 rfl) ?_
                                                                        refine lv_iconst (v := 1) hx hb dL_law_1052 (by decide) ?_
                                                                        refine lv_iadd hx hb dL_law_1053 ?_
                                                                        refine lv_topi (fun y_543 ey_543 => ?_)
                                                                        have hf := lt_at ey_543 hf; clear ey_543
                                                                        obtain ⟨n_544, hf⟩ := rg_el hf
                                                                        refine va_sld hx hb hX hbl hbA hS n_544 dL_law_1054 ?_
                                                                        refine lv_topi (fun a_545 ea_545 => ?_)
                                                                        have hf := lt_at ea_545 hf; clear ea_545
                                                                        obtain ⟨r_546, z_547, h_548, hf⟩ := cl_el hf
                                                                        refine callVI (As := [.int a_545]) (rest := []) (ci := 8) (q0 := 0) ⟨hx, hb, hml, hown, hts⟩ (tX8_count (l := l) (dC := dC) (dI := dI) (t0 := t0) (cI := cI) (cJ := cJ) (cZ := cZ) hA h_548) (cwV 1 hts hL_X8_count rfl rfl rfl (by decide +kernel) ⟨Nat.le_of_ble_eq_true rfl, Nat.le_of_ble_eq_true rfl⟩) hK hZ hP hS rfl (wc_0 A cI cJ cZ z_4) rfl rfl rfl hl.1 (Nat.le_of_ble_eq_true rfl) ⟨Nat.le_of_ble_eq_true rfl, Nat.le_of_ble_eq_true rfl⟩ dL_law_1055 (fun H locs hP hS => ?_)
                                                                        refine lv_aload_n hx hb dL_law_1058 rfl (lv_at hl 2 rfl) ?_
                                                                        refine lv_aload_n hx hb dL_law_1059 rfl (lv_at hl 0 rfl) ?_
                                                                        refine lv_iload_n hx hb dL_law_1060 rfl (lv_at hl 3 rfl) ?_
                                                                        refine lv_iconst (v := 1) hx hb dL_law_1061 (by decide) ?_
                                                                        refine lv_iadd hx hb dL_law_1062 ?_
                                                                        refine lv_topi (fun y_549 ey_549 => ?_)
                                                                        have hf := lt_at ey_549 hf; clear ey_549
                                                                        obtain ⟨n_550, hf⟩ := rg_el hf
                                                                        refine va_sld hx hb hX hbl hbA hS n_550 dL_law_1063 ?_
                                                                        refine lv_topi (fun a_551 ea_551 => ?_)
                                                                        have hf := lt_at ea_551 hf; clear ea_551
                                                                        obtain ⟨r_552, z_553, h_554, hf⟩ := cl_el hf
                                                                        refine callVI (As := [.int a_551]) (rest := [.int r_546]) (ci := 9) (q0 := 25) ⟨hx, hb, hml, hown, hts⟩ (tX9_count (l := l) (dC := dC) (dI := dI) (t0 := t0) (cI := cI) (cJ := cJ) (cZ := cZ) hA h_554) (cwV 1 hts hL_X9_count rfl rfl rfl (by decide +kernel) ⟨Nat.le_of_ble_eq_true rfl, Nat.le_of_ble_eq_true rfl⟩) hK hZ hP hS rfl (wc_25 A cI cJ cZ z_547) rfl rfl rfl hl.1 (Nat.le_of_ble_eq_true rfl) ⟨Nat.le_of_ble_eq_true rfl, Nat.le_of_ble_eq_true rfl⟩ dL_law_1064 (fun H locs hP hS => ?_)
                                                                        refine lv_icmp_eq (tgt := 1072) hx hb dL_law_1067 (by decide) (fun c_555 => ?_) (fun c_555 => ?_)
                                                                        · have hf := it_t c_555 hf
                                                                          obtain ⟨x3_556, ex3_556⟩ : ∃ q : Int32, q = x3_5 + (5 : Int32) := ⟨_, rfl⟩
                                                                          refine lv_iinc (v := x3_556) (lv' := [(3, .int x3_556), (0, .ref b), (1, .ref (A 0)), (2, .ref (A 25))]) hx hb dL_law_1072 hl (k := 3) rfl (by rw [ex3_556]; rfl) (by decide) rfl (fun ls hl => ?_)
                                                                          have hf := lt_at ex3_556 hf; clear ex3_556
                                                                          refine lv_goto (tgt := 18) hx hb dL_law_1075 (by decide) ?_
                                                                          exact ihK_1 _ _ _ _ _ hf hP hS (lv_sub hl [1, 2, 3, 0] rfl)
                                                                        · have hf := it_f c_555 hf
                                                                          refine lv_iconst (v := 0) hx hb dL_law_1070 (by decide) ?_
                                                                          cases hf
                                                                      · have hf := it_f c_542 hf
                                                                        refine lv_tableOut (tgt := 1072) hx hb dL_law_32 (by omega) (by decide) ?_
                                                                        obtain ⟨x3_557, ex3_557⟩ : ∃ q : Int32, q = x3_5 + (5 : Int32) := ⟨_, rfl⟩
                                                                        refine lv_iinc (v := x3_557) (lv' := [(3, .int x3_557), (0, .ref b), (1, .ref (A 0)), (2, .ref (A 25))]) hx hb dL_law_1072 hl (k := 3) rfl (by rw [ex3_557]; rfl) (by decide) rfl (fun ls hl => ?_)
                                                                        have hf := lt_at ex3_557 hf; clear ex3_557
                                                                        refine lv_goto (tgt := 18) hx hb dL_law_1075 (by decide) ?_
                                                                        exact ihK_1 _ _ _ _ _ hf hP hS (lv_sub hl [1, 2, 3, 0] rfl)
  exact hLK_1 FU _ _ _ _ _ hf hP hS (lv_sub hl [0, 1, 2, 3] rfl)
