theorem ite_el {c : Prop} [Decidable c] {β : Type} {a b o : Option β} (h1 : c → a = o) (h2 : ¬ c → b = o) : (if c then a else b) = o := by by_cases h : c <;> simp [h, h1, h2]
theorem cmp_self (x : Int64) : lg_cmp x x = 0 := by unfold lg_cmp; simp
set_option maxRecDepth 10000 in
theorem lb_write {xs : Nat → Int32} {L i k n : Nat} {z : Mem} {K : Int32 → Mem → Option Unit} (hL : L ≤ 2560) (hx : i + 5 ≤ L) (hk : k < 512) (hI : Inv k z) (go : ∀ z2, Inv (k + 1) z2 → fL_law_L18 K xs L n (nI (i + 5)) z2 = some ()) (h : ∀ (a0 : Int32) (a1 : Int64), Ok (fX8_write a0 a1) (fX9_write a0 a1)) : lt (((nI i) + (1 : Int32)) : Int32) (fun y_12 => rg y_12 L (lt ((xs y_12.toNatClampNeg) : Int32) (fun a_14 => lt (((nI i) + (2 : Int32)) : Int32) (fun y_15 => rg y_15 L (lt ((xs y_15.toNatClampNeg) : Int32) (fun a_17 => lt (((nI i) + (3 : Int32)) : Int32) (fun y_18 => rg y_18 L (lt ((xs y_18.toNatClampNeg) : Int32) (fun a_20 => cl (fX8_write a_14 (((a_17.toInt64) <<< ((32 : Int32).toInt64 &&& 63)) ||| ((a_20.toInt64) &&& (4294967295 : Int64))) z) (fun r_21 z_22 => lt (((nI i) + (1 : Int32)) : Int32) (fun y_24 => rg y_24 L (lt ((xs y_24.toNatClampNeg) : Int32) (fun a_26 => lt (((nI i) + (2 : Int32)) : Int32) (fun y_27 => rg y_27 L (lt ((xs y_27.toNatClampNeg) : Int32) (fun a_29 => lt (((nI i) + (3 : Int32)) : Int32) (fun y_30 => rg y_30 L (lt ((xs y_30.toNatClampNeg) : Int32) (fun a_32 => cl (fX9_write a_26 (((a_29.toInt64) <<< ((32 : Int32).toInt64 &&& 63)) ||| ((a_32.toInt64) &&& (4294967295 : Int64))) z_22) (fun r_33 z_34 => (if r_21 = r_33 then lt ((nI i) + (5 : Int32)) (fun x3_37 => (fL_law_L18 K xs L n x3_37 z_34)) else none))))))))))))))))))))) = some () := by
  have e1 : nI i + (1 : Int32) = nI (i + 1) := nI_add i 1
  have R1 : ∀ o : Option Unit, rg (nI (i + 1)) L o = o := fun o => rgs (by omega) (by omega) o
  have q1 : (nI (i + 1)).toNatClampNeg = i + 1 := clamp (by omega)
  have e2 : nI i + (2 : Int32) = nI (i + 2) := nI_add i 2
  have R2 : ∀ o : Option Unit, rg (nI (i + 2)) L o = o := fun o => rgs (by omega) (by omega) o
  have q2 : (nI (i + 2)).toNatClampNeg = i + 2 := clamp (by omega)
  have e3 : nI i + (3 : Int32) = nI (i + 3) := nI_add i 3
  have R3 : ∀ o : Option Unit, rg (nI (i + 3)) L o = o := fun o => rgs (by omega) (by omega) o
  have q3 : (nI (i + 3)).toNatClampNeg = i + 3 := clamp (by omega)
  have e5 : nI i + (5 : Int32) = nI (i + 5) := nI_add i 5
  rw [lts, e1, R1, lts, q1, lts, e2, R2, lts, q2, lts, e3, R3, lts, q3]
  obtain ⟨r, z1, z2, h1, h2, h3⟩ := h (xs (i + 1)) (((xs (i + 2)).toInt64 <<< ((32 : Int32).toInt64 &&& 63)) ||| ((xs (i + 3)).toInt64 &&& (4294967295 : Int64))) k z hk hI
  rw [h1, cls, lts, R1, lts, q1, lts, R2, lts, q2, lts, R3, lts, q3, h2, cls, if_pos rfl, lts, e5]
  exact go z2 h3
set_option maxRecDepth 10000 in
theorem lb_wipe {xs : Nat → Int32} {L i k n : Nat} {z : Mem} {K : Int32 → Mem → Option Unit} (hL : L ≤ 2560) (hx : i + 5 ≤ L) (hk : k < 512) (hI : Inv k z) (go : ∀ z2, Inv (k + 1) z2 → fL_law_L18 K xs L n (nI (i + 5)) z2 = some ()) (h : Ok (fX8_wipe) (fX9_wipe)) : cl (fX8_wipe z) (fun r_39 z_40 => cl (fX9_wipe z_40) (fun r_42 z_43 => (if r_39 = r_42 then lt ((nI i) + (5 : Int32)) (fun x3_46 => (fL_law_L18 K xs L n x3_46 z_43)) else none))) = some () := by
  have e5 : nI i + (5 : Int32) = nI (i + 5) := nI_add i 5
  obtain ⟨r, z1, z2, h1, h2, h3⟩ := h k z hk hI
  simp only [lts, h1, cls, h2, if_true, e5]
  exact go z2 h3
set_option maxRecDepth 10000 in
theorem lb_fault {xs : Nat → Int32} {L i k n : Nat} {z : Mem} {K : Int32 → Mem → Option Unit} (hL : L ≤ 2560) (hx : i + 5 ≤ L) (hk : k < 512) (hI : Inv k z) (go : ∀ z2, Inv (k + 1) z2 → fL_law_L18 K xs L n (nI (i + 5)) z2 = some ()) (h : Ok (fX8_fault) (fX9_fault)) : cl (fX8_fault z) (fun r_48 z_49 => cl (fX9_fault z_49) (fun r_51 z_52 => (if r_48 = r_51 then lt ((nI i) + (5 : Int32)) (fun x3_55 => (fL_law_L18 K xs L n x3_55 z_52)) else none))) = some () := by
  have e5 : nI i + (5 : Int32) = nI (i + 5) := nI_add i 5
  obtain ⟨r, z1, z2, h1, h2, h3⟩ := h k z hk hI
  simp only [lts, h1, cls, h2, if_true, e5]
  exact go z2 h3
set_option maxRecDepth 10000 in
theorem lb_land {xs : Nat → Int32} {L i k n : Nat} {z : Mem} {K : Int32 → Mem → Option Unit} (hL : L ≤ 2560) (hx : i + 5 ≤ L) (hk : k < 512) (hI : Inv k z) (go : ∀ z2, Inv (k + 1) z2 → fL_law_L18 K xs L n (nI (i + 5)) z2 = some ()) (h : Ok (fX8_land) (fX9_land)) : cl (fX8_land z) (fun r_57 z_58 => cl (fX9_land z_58) (fun r_60 z_61 => (if r_57 = r_60 then lt ((nI i) + (5 : Int32)) (fun x3_64 => (fL_law_L18 K xs L n x3_64 z_61)) else none))) = some () := by
  have e5 : nI i + (5 : Int32) = nI (i + 5) := nI_add i 5
  obtain ⟨r, z1, z2, h1, h2, h3⟩ := h k z hk hI
  simp only [lts, h1, cls, h2, if_true, e5]
  exact go z2 h3
set_option maxRecDepth 10000 in
theorem lb_person {xs : Nat → Int32} {L i k n : Nat} {z : Mem} {K : Int32 → Mem → Option Unit} (hL : L ≤ 2560) (hx : i + 5 ≤ L) (hk : k < 512) (hI : Inv k z) (go : ∀ z2, Inv (k + 1) z2 → fL_law_L18 K xs L n (nI (i + 5)) z2 = some ()) (h : ∀ (a0 : Int32) (a1 : Int32), Ok (fX8_person a0 a1) (fX9_person a0 a1)) : lt (((nI i) + (1 : Int32)) : Int32) (fun y_66 => rg y_66 L (lt ((xs y_66.toNatClampNeg) : Int32) (fun a_68 => lt (((nI i) + (2 : Int32)) : Int32) (fun y_69 => rg y_69 L (lt ((xs y_69.toNatClampNeg) : Int32) (fun a_71 => cl (fX8_person a_68 a_71 z) (fun r_72 z_73 => lt (((nI i) + (1 : Int32)) : Int32) (fun y_75 => rg y_75 L (lt ((xs y_75.toNatClampNeg) : Int32) (fun a_77 => lt (((nI i) + (2 : Int32)) : Int32) (fun y_78 => rg y_78 L (lt ((xs y_78.toNatClampNeg) : Int32) (fun a_80 => cl (fX9_person a_77 a_80 z_73) (fun r_81 z_82 => (if r_72 = r_81 then lt ((nI i) + (5 : Int32)) (fun x3_85 => (fL_law_L18 K xs L n x3_85 z_82)) else none))))))))))))))) = some () := by
  have e1 : nI i + (1 : Int32) = nI (i + 1) := nI_add i 1
  have R1 : ∀ o : Option Unit, rg (nI (i + 1)) L o = o := fun o => rgs (by omega) (by omega) o
  have q1 : (nI (i + 1)).toNatClampNeg = i + 1 := clamp (by omega)
  have e2 : nI i + (2 : Int32) = nI (i + 2) := nI_add i 2
  have R2 : ∀ o : Option Unit, rg (nI (i + 2)) L o = o := fun o => rgs (by omega) (by omega) o
  have q2 : (nI (i + 2)).toNatClampNeg = i + 2 := clamp (by omega)
  have e5 : nI i + (5 : Int32) = nI (i + 5) := nI_add i 5
  obtain ⟨r, z1, z2, h1, h2, h3⟩ := h (xs (i + 1)) (xs (i + 2)) k z hk hI
  simp only [lts, e1, R1, q1, e2, R2, q2, h1, cls, h2, if_true, e5]
  exact go z2 h3
set_option maxRecDepth 10000 in
theorem lb_law {xs : Nat → Int32} {L i k n : Nat} {z : Mem} {K : Int32 → Mem → Option Unit} (hL : L ≤ 2560) (hx : i + 5 ≤ L) (hk : k < 512) (hI : Inv k z) (go : ∀ z2, Inv (k + 1) z2 → fL_law_L18 K xs L n (nI (i + 5)) z2 = some ()) (h : ∀ (a0 : Int32), Ok (fX8_law a0) (fX9_law a0)) : lt (((nI i) + (1 : Int32)) : Int32) (fun y_87 => rg y_87 L (lt ((xs y_87.toNatClampNeg) : Int32) (fun a_89 => cl (fX8_law a_89 z) (fun r_90 z_91 => lt (((nI i) + (1 : Int32)) : Int32) (fun y_93 => rg y_93 L (lt ((xs y_93.toNatClampNeg) : Int32) (fun a_95 => cl (fX9_law a_95 z_91) (fun r_96 z_97 => (if r_90 = r_96 then lt ((nI i) + (5 : Int32)) (fun x3_100 => (fL_law_L18 K xs L n x3_100 z_97)) else none))))))))) = some () := by
  have e1 : nI i + (1 : Int32) = nI (i + 1) := nI_add i 1
  have R1 : ∀ o : Option Unit, rg (nI (i + 1)) L o = o := fun o => rgs (by omega) (by omega) o
  have q1 : (nI (i + 1)).toNatClampNeg = i + 1 := clamp (by omega)
  have e5 : nI i + (5 : Int32) = nI (i + 5) := nI_add i 5
  obtain ⟨r, z1, z2, h1, h2, h3⟩ := h (xs (i + 1)) k z hk hI
  simp only [lts, e1, R1, q1, h1, cls, h2, if_true, e5]
  exact go z2 h3
set_option maxRecDepth 10000 in
theorem lb_eat {xs : Nat → Int32} {L i k n : Nat} {z : Mem} {K : Int32 → Mem → Option Unit} (hL : L ≤ 2560) (hx : i + 5 ≤ L) (hk : k < 512) (hI : Inv k z) (go : ∀ z2, Inv (k + 1) z2 → fL_law_L18 K xs L n (nI (i + 5)) z2 = some ()) (h : ∀ (a0 : Int32) (a1 : Int32), Ok (fX8_eat a0 a1) (fX9_eat a0 a1)) : lt (((nI i) + (1 : Int32)) : Int32) (fun y_102 => rg y_102 L (lt ((xs y_102.toNatClampNeg) : Int32) (fun a_104 => lt (((nI i) + (2 : Int32)) : Int32) (fun y_105 => rg y_105 L (lt ((xs y_105.toNatClampNeg) : Int32) (fun a_107 => cl (fX8_eat a_104 a_107 z) (fun r_108 z_109 => lt (((nI i) + (1 : Int32)) : Int32) (fun y_111 => rg y_111 L (lt ((xs y_111.toNatClampNeg) : Int32) (fun a_113 => lt (((nI i) + (2 : Int32)) : Int32) (fun y_114 => rg y_114 L (lt ((xs y_114.toNatClampNeg) : Int32) (fun a_116 => cl (fX9_eat a_113 a_116 z_109) (fun r_117 z_118 => (if r_108 = r_117 then lt ((nI i) + (5 : Int32)) (fun x3_121 => (fL_law_L18 K xs L n x3_121 z_118)) else none))))))))))))))) = some () := by
  have e1 : nI i + (1 : Int32) = nI (i + 1) := nI_add i 1
  have R1 : ∀ o : Option Unit, rg (nI (i + 1)) L o = o := fun o => rgs (by omega) (by omega) o
  have q1 : (nI (i + 1)).toNatClampNeg = i + 1 := clamp (by omega)
  have e2 : nI i + (2 : Int32) = nI (i + 2) := nI_add i 2
  have R2 : ∀ o : Option Unit, rg (nI (i + 2)) L o = o := fun o => rgs (by omega) (by omega) o
  have q2 : (nI (i + 2)).toNatClampNeg = i + 2 := clamp (by omega)
  have e5 : nI i + (5 : Int32) = nI (i + 5) := nI_add i 5
  obtain ⟨r, z1, z2, h1, h2, h3⟩ := h (xs (i + 1)) (xs (i + 2)) k z hk hI
  simp only [lts, e1, R1, q1, e2, R2, q2, h1, cls, h2, if_true, e5]
  exact go z2 h3
set_option maxRecDepth 10000 in
theorem lb_toil {xs : Nat → Int32} {L i k n : Nat} {z : Mem} {K : Int32 → Mem → Option Unit} (hL : L ≤ 2560) (hx : i + 5 ≤ L) (hk : k < 512) (hI : Inv k z) (go : ∀ z2, Inv (k + 1) z2 → fL_law_L18 K xs L n (nI (i + 5)) z2 = some ()) (h : ∀ (a0 : Int32) (a1 : Int32), Ok (fX8_toil a0 a1) (fX9_toil a0 a1)) : lt (((nI i) + (1 : Int32)) : Int32) (fun y_123 => rg y_123 L (lt ((xs y_123.toNatClampNeg) : Int32) (fun a_125 => lt (((nI i) + (2 : Int32)) : Int32) (fun y_126 => rg y_126 L (lt ((xs y_126.toNatClampNeg) : Int32) (fun a_128 => cl (fX8_toil a_125 a_128 z) (fun r_129 z_130 => lt (((nI i) + (1 : Int32)) : Int32) (fun y_132 => rg y_132 L (lt ((xs y_132.toNatClampNeg) : Int32) (fun a_134 => lt (((nI i) + (2 : Int32)) : Int32) (fun y_135 => rg y_135 L (lt ((xs y_135.toNatClampNeg) : Int32) (fun a_137 => cl (fX9_toil a_134 a_137 z_130) (fun r_138 z_139 => (if r_129 = r_138 then lt ((nI i) + (5 : Int32)) (fun x3_142 => (fL_law_L18 K xs L n x3_142 z_139)) else none))))))))))))))) = some () := by
  have e1 : nI i + (1 : Int32) = nI (i + 1) := nI_add i 1
  have R1 : ∀ o : Option Unit, rg (nI (i + 1)) L o = o := fun o => rgs (by omega) (by omega) o
  have q1 : (nI (i + 1)).toNatClampNeg = i + 1 := clamp (by omega)
  have e2 : nI i + (2 : Int32) = nI (i + 2) := nI_add i 2
  have R2 : ∀ o : Option Unit, rg (nI (i + 2)) L o = o := fun o => rgs (by omega) (by omega) o
  have q2 : (nI (i + 2)).toNatClampNeg = i + 2 := clamp (by omega)
  have e5 : nI i + (5 : Int32) = nI (i + 5) := nI_add i 5
  obtain ⟨r, z1, z2, h1, h2, h3⟩ := h (xs (i + 1)) (xs (i + 2)) k z hk hI
  simp only [lts, e1, R1, q1, e2, R2, q2, h1, cls, h2, if_true, e5]
  exact go z2 h3
set_option maxRecDepth 10000 in
theorem lb_drink {xs : Nat → Int32} {L i k n : Nat} {z : Mem} {K : Int32 → Mem → Option Unit} (hL : L ≤ 2560) (hx : i + 5 ≤ L) (hk : k < 512) (hI : Inv k z) (go : ∀ z2, Inv (k + 1) z2 → fL_law_L18 K xs L n (nI (i + 5)) z2 = some ()) (h : ∀ (a0 : Int32) (a1 : Int32), Ok (fX8_drink a0 a1) (fX9_drink a0 a1)) : lt (((nI i) + (1 : Int32)) : Int32) (fun y_144 => rg y_144 L (lt ((xs y_144.toNatClampNeg) : Int32) (fun a_146 => lt (((nI i) + (2 : Int32)) : Int32) (fun y_147 => rg y_147 L (lt ((xs y_147.toNatClampNeg) : Int32) (fun a_149 => cl (fX8_drink a_146 a_149 z) (fun r_150 z_151 => lt (((nI i) + (1 : Int32)) : Int32) (fun y_153 => rg y_153 L (lt ((xs y_153.toNatClampNeg) : Int32) (fun a_155 => lt (((nI i) + (2 : Int32)) : Int32) (fun y_156 => rg y_156 L (lt ((xs y_156.toNatClampNeg) : Int32) (fun a_158 => cl (fX9_drink a_155 a_158 z_151) (fun r_159 z_160 => (if r_150 = r_159 then lt ((nI i) + (5 : Int32)) (fun x3_163 => (fL_law_L18 K xs L n x3_163 z_160)) else none))))))))))))))) = some () := by
  have e1 : nI i + (1 : Int32) = nI (i + 1) := nI_add i 1
  have R1 : ∀ o : Option Unit, rg (nI (i + 1)) L o = o := fun o => rgs (by omega) (by omega) o
  have q1 : (nI (i + 1)).toNatClampNeg = i + 1 := clamp (by omega)
  have e2 : nI i + (2 : Int32) = nI (i + 2) := nI_add i 2
  have R2 : ∀ o : Option Unit, rg (nI (i + 2)) L o = o := fun o => rgs (by omega) (by omega) o
  have q2 : (nI (i + 2)).toNatClampNeg = i + 2 := clamp (by omega)
  have e5 : nI i + (5 : Int32) = nI (i + 5) := nI_add i 5
  obtain ⟨r, z1, z2, h1, h2, h3⟩ := h (xs (i + 1)) (xs (i + 2)) k z hk hI
  simp only [lts, e1, R1, q1, e2, R2, q2, h1, cls, h2, if_true, e5]
  exact go z2 h3
set_option maxRecDepth 10000 in
theorem lb_hand {xs : Nat → Int32} {L i k n : Nat} {z : Mem} {K : Int32 → Mem → Option Unit} (hL : L ≤ 2560) (hx : i + 5 ≤ L) (hk : k < 512) (hI : Inv k z) (go : ∀ z2, Inv (k + 1) z2 → fL_law_L18 K xs L n (nI (i + 5)) z2 = some ()) (h : ∀ (a0 : Int32) (a1 : Int32) (a2 : Int32), a2 = 0 ∨ a2 = 1 → Ok (fX8_hand a0 a1 a2) (fX9_hand a0 a1 a2)) : lt (((nI i) + (1 : Int32)) : Int32) (fun y_165 => rg y_165 L (lt ((xs y_165.toNatClampNeg) : Int32) (fun a_167 => lt (((nI i) + (2 : Int32)) : Int32) (fun y_168 => rg y_168 L (lt ((xs y_168.toNatClampNeg) : Int32) (fun a_170 => lt (((nI i) + (3 : Int32)) : Int32) (fun y_171 => rg y_171 L (lt ((xs y_171.toNatClampNeg) : Int32) (fun a_173 => (jn (fun (v_175 : Int32) (z_176 : Mem) => cl (fX8_hand a_167 a_170 v_175 z_176) (fun r_177 z_178 => lt (((nI i) + (1 : Int32)) : Int32) (fun y_180 => rg y_180 L (lt ((xs y_180.toNatClampNeg) : Int32) (fun a_182 => lt (((nI i) + (2 : Int32)) : Int32) (fun y_183 => rg y_183 L (lt ((xs y_183.toNatClampNeg) : Int32) (fun a_185 => lt (((nI i) + (3 : Int32)) : Int32) (fun y_186 => rg y_186 L (lt ((xs y_186.toNatClampNeg) : Int32) (fun a_188 => (jn (fun (v_190 : Int32) (z_191 : Mem) => cl (fX9_hand a_182 a_185 v_190 z_191) (fun r_192 z_193 => (if r_177 = r_192 then lt ((nI i) + (5 : Int32)) (fun x3_196 => (fL_law_L18 K xs L n x3_196 z_193)) else none))) (fun K_189 => (if a_188 = 0 then (K_189 (0 : Int32) z_178) else (K_189 (1 : Int32) z_178))))))))))))))) (fun K_174 => (if a_173 = 0 then (K_174 (0 : Int32) z) else (K_174 (1 : Int32) z))))))))))))) = some () := by
  have e1 : nI i + (1 : Int32) = nI (i + 1) := nI_add i 1
  have R1 : ∀ o : Option Unit, rg (nI (i + 1)) L o = o := fun o => rgs (by omega) (by omega) o
  have q1 : (nI (i + 1)).toNatClampNeg = i + 1 := clamp (by omega)
  have e2 : nI i + (2 : Int32) = nI (i + 2) := nI_add i 2
  have R2 : ∀ o : Option Unit, rg (nI (i + 2)) L o = o := fun o => rgs (by omega) (by omega) o
  have q2 : (nI (i + 2)).toNatClampNeg = i + 2 := clamp (by omega)
  have e3 : nI i + (3 : Int32) = nI (i + 3) := nI_add i 3
  have R3 : ∀ o : Option Unit, rg (nI (i + 3)) L o = o := fun o => rgs (by omega) (by omega) o
  have q3 : (nI (i + 3)).toNatClampNeg = i + 3 := clamp (by omega)
  have e5 : nI i + (5 : Int32) = nI (i + 5) := nI_add i 5
  by_cases hb : xs (i + 3) = 0
  · obtain ⟨r, z1, z2, h1, h2, h3⟩ := h (xs (i + 1)) (xs (i + 2)) (0 : Int32) (Or.inl rfl) k z hk hI
    simp only [lts, e1, R1, q1, e2, R2, q2, e3, R3, q3, jns, if_pos hb, h1, cls, h2, if_true, e5]
    exact go z2 h3
  · obtain ⟨r, z1, z2, h1, h2, h3⟩ := h (xs (i + 1)) (xs (i + 2)) (1 : Int32) (Or.inr rfl) k z hk hI
    simp only [lts, e1, R1, q1, e2, R2, q2, e3, R3, q3, jns, if_neg hb, h1, cls, h2, if_true, e5]
    exact go z2 h3
set_option maxRecDepth 10000 in
theorem lb_day {xs : Nat → Int32} {L i k n : Nat} {z : Mem} {K : Int32 → Mem → Option Unit} (hL : L ≤ 2560) (hx : i + 5 ≤ L) (hk : k < 512) (hI : Inv k z) (go : ∀ z2, Inv (k + 1) z2 → fL_law_L18 K xs L n (nI (i + 5)) z2 = some ()) (h : Ok (fX8_day) (fX9_day)) : cl (fX8_day z) (fun r_200 z_201 => cl (fX9_day z_201) (fun r_203 z_204 => (if r_200 = r_203 then lt ((nI i) + (5 : Int32)) (fun x3_207 => (fL_law_L18 K xs L n x3_207 z_204)) else none))) = some () := by
  have e5 : nI i + (5 : Int32) = nI (i + 5) := nI_add i 5
  obtain ⟨r, z1, z2, h1, h2, h3⟩ := h k z hk hI
  simp only [lts, h1, cls, h2, if_true, e5]
  exact go z2 h3
set_option maxRecDepth 10000 in
theorem lb_crown {xs : Nat → Int32} {L i k n : Nat} {z : Mem} {K : Int32 → Mem → Option Unit} (hL : L ≤ 2560) (hx : i + 5 ≤ L) (hk : k < 512) (hI : Inv k z) (go : ∀ z2, Inv (k + 1) z2 → fL_law_L18 K xs L n (nI (i + 5)) z2 = some ()) (h : Ok (fX8_crown) (fX9_crown)) : cl (fX8_crown z) (fun r_209 z_210 => cl (fX9_crown z_210) (fun r_212 z_213 => (if r_209 = r_212 then lt ((nI i) + (5 : Int32)) (fun x3_216 => (fL_law_L18 K xs L n x3_216 z_213)) else none))) = some () := by
  have e5 : nI i + (5 : Int32) = nI (i + 5) := nI_add i 5
  obtain ⟨r, z1, z2, h1, h2, h3⟩ := h k z hk hI
  simp only [lts, h1, cls, h2, if_true, e5]
  exact go z2 h3
set_option maxRecDepth 10000 in
theorem lb_noon {xs : Nat → Int32} {L i k n : Nat} {z : Mem} {K : Int32 → Mem → Option Unit} (hL : L ≤ 2560) (hx : i + 5 ≤ L) (hk : k < 512) (hI : Inv k z) (go : ∀ z2, Inv (k + 1) z2 → fL_law_L18 K xs L n (nI (i + 5)) z2 = some ()) (h : Ok (fX8_noon) (fX9_noon)) : cl (fX8_noon z) (fun r_218 z_219 => cl (fX9_noon z_219) (fun r_221 z_222 => (if r_218 = r_221 then lt ((nI i) + (5 : Int32)) (fun x3_225 => (fL_law_L18 K xs L n x3_225 z_222)) else none))) = some () := by
  have e5 : nI i + (5 : Int32) = nI (i + 5) := nI_add i 5
  obtain ⟨r, z1, z2, h1, h2, h3⟩ := h k z hk hI
  simp only [lts, h1, cls, h2, if_true, e5]
  exact go z2 h3
set_option maxRecDepth 10000 in
theorem lb_undo {xs : Nat → Int32} {L i k n : Nat} {z : Mem} {K : Int32 → Mem → Option Unit} (hL : L ≤ 2560) (hx : i + 5 ≤ L) (hk : k < 512) (hI : Inv k z) (go : ∀ z2, Inv (k + 1) z2 → fL_law_L18 K xs L n (nI (i + 5)) z2 = some ()) (h : Ok (fX8_undo) (fX9_undo)) : cl (fX8_undo z) (fun r_227 z_228 => cl (fX9_undo z_228) (fun r_230 z_231 => (if r_227 = r_230 then lt ((nI i) + (5 : Int32)) (fun x3_234 => (fL_law_L18 K xs L n x3_234 z_231)) else none))) = some () := by
  have e5 : nI i + (5 : Int32) = nI (i + 5) := nI_add i 5
  obtain ⟨r, z1, z2, h1, h2, h3⟩ := h k z hk hI
  simp only [lts, h1, cls, h2, if_true, e5]
  exact go z2 h3
set_option maxRecDepth 10000 in
theorem lb_sure {xs : Nat → Int32} {L i k n : Nat} {z : Mem} {K : Int32 → Mem → Option Unit} (hL : L ≤ 2560) (hx : i + 5 ≤ L) (hk : k < 512) (hI : Inv k z) (go : ∀ z2, Inv (k + 1) z2 → fL_law_L18 K xs L n (nI (i + 5)) z2 = some ()) (h : ∀ (a0 : Int32) (a1 : Int32) (a2 : Int32), Ok (fX8_sure a0 a1 a2) (fX9_sure a0 a1 a2)) : lt (((nI i) + (1 : Int32)) : Int32) (fun y_236 => rg y_236 L (lt ((xs y_236.toNatClampNeg) : Int32) (fun a_238 => lt (((nI i) + (2 : Int32)) : Int32) (fun y_239 => rg y_239 L (lt ((xs y_239.toNatClampNeg) : Int32) (fun a_241 => lt (((nI i) + (3 : Int32)) : Int32) (fun y_242 => rg y_242 L (lt ((xs y_242.toNatClampNeg) : Int32) (fun a_244 => cl (fX8_sure a_238 a_241 a_244 z) (fun r_245 z_246 => lt (((nI i) + (1 : Int32)) : Int32) (fun y_248 => rg y_248 L (lt ((xs y_248.toNatClampNeg) : Int32) (fun a_250 => lt (((nI i) + (2 : Int32)) : Int32) (fun y_251 => rg y_251 L (lt ((xs y_251.toNatClampNeg) : Int32) (fun a_253 => lt (((nI i) + (3 : Int32)) : Int32) (fun y_254 => rg y_254 L (lt ((xs y_254.toNatClampNeg) : Int32) (fun a_256 => cl (fX9_sure a_250 a_253 a_256 z_246) (fun r_257 z_258 => (if r_245 = r_257 then lt ((nI i) + (5 : Int32)) (fun x3_261 => (fL_law_L18 K xs L n x3_261 z_258)) else none))))))))))))))))))))) = some () := by
  have e1 : nI i + (1 : Int32) = nI (i + 1) := nI_add i 1
  have R1 : ∀ o : Option Unit, rg (nI (i + 1)) L o = o := fun o => rgs (by omega) (by omega) o
  have q1 : (nI (i + 1)).toNatClampNeg = i + 1 := clamp (by omega)
  have e2 : nI i + (2 : Int32) = nI (i + 2) := nI_add i 2
  have R2 : ∀ o : Option Unit, rg (nI (i + 2)) L o = o := fun o => rgs (by omega) (by omega) o
  have q2 : (nI (i + 2)).toNatClampNeg = i + 2 := clamp (by omega)
  have e3 : nI i + (3 : Int32) = nI (i + 3) := nI_add i 3
  have R3 : ∀ o : Option Unit, rg (nI (i + 3)) L o = o := fun o => rgs (by omega) (by omega) o
  have q3 : (nI (i + 3)).toNatClampNeg = i + 3 := clamp (by omega)
  have e5 : nI i + (5 : Int32) = nI (i + 5) := nI_add i 5
  obtain ⟨r, z1, z2, h1, h2, h3⟩ := h (xs (i + 1)) (xs (i + 2)) (xs (i + 3)) k z hk hI
  simp only [lts, e1, R1, q1, e2, R2, q2, e3, R3, q3, h1, cls, h2, if_true, e5]
  exact go z2 h3
set_option maxRecDepth 10000 in
theorem lb_sureAt {xs : Nat → Int32} {L i k n : Nat} {z : Mem} {K : Int32 → Mem → Option Unit} (hL : L ≤ 2560) (hx : i + 5 ≤ L) (hk : k < 512) (hI : Inv k z) (go : ∀ z2, Inv (k + 1) z2 → fL_law_L18 K xs L n (nI (i + 5)) z2 = some ()) (h : ∀ (a0 : Int32) (a1 : Int32) (a2 : Int32) (a3 : Int32), Ok (fX8_sureAt a0 a1 a2 a3) (fX9_sureAt a0 a1 a2 a3)) : lt (((nI i) + (1 : Int32)) : Int32) (fun y_263 => rg y_263 L (lt ((xs y_263.toNatClampNeg) : Int32) (fun a_265 => lt (((nI i) + (2 : Int32)) : Int32) (fun y_266 => rg y_266 L (lt ((xs y_266.toNatClampNeg) : Int32) (fun a_268 => lt (((nI i) + (3 : Int32)) : Int32) (fun y_269 => rg y_269 L (lt ((xs y_269.toNatClampNeg) : Int32) (fun a_271 => lt (((nI i) + (4 : Int32)) : Int32) (fun y_272 => rg y_272 L (lt ((xs y_272.toNatClampNeg) : Int32) (fun a_274 => cl (fX8_sureAt a_265 a_268 a_271 a_274 z) (fun r_275 z_276 => lt (((nI i) + (1 : Int32)) : Int32) (fun y_278 => rg y_278 L (lt ((xs y_278.toNatClampNeg) : Int32) (fun a_280 => lt (((nI i) + (2 : Int32)) : Int32) (fun y_281 => rg y_281 L (lt ((xs y_281.toNatClampNeg) : Int32) (fun a_283 => lt (((nI i) + (3 : Int32)) : Int32) (fun y_284 => rg y_284 L (lt ((xs y_284.toNatClampNeg) : Int32) (fun a_286 => lt (((nI i) + (4 : Int32)) : Int32) (fun y_287 => rg y_287 L (lt ((xs y_287.toNatClampNeg) : Int32) (fun a_289 => cl (fX9_sureAt a_280 a_283 a_286 a_289 z_276) (fun r_290 z_291 => (if r_275 = r_290 then lt ((nI i) + (5 : Int32)) (fun x3_294 => (fL_law_L18 K xs L n x3_294 z_291)) else none))))))))))))))))))))))))))) = some () := by
  have e1 : nI i + (1 : Int32) = nI (i + 1) := nI_add i 1
  have R1 : ∀ o : Option Unit, rg (nI (i + 1)) L o = o := fun o => rgs (by omega) (by omega) o
  have q1 : (nI (i + 1)).toNatClampNeg = i + 1 := clamp (by omega)
  have e2 : nI i + (2 : Int32) = nI (i + 2) := nI_add i 2
  have R2 : ∀ o : Option Unit, rg (nI (i + 2)) L o = o := fun o => rgs (by omega) (by omega) o
  have q2 : (nI (i + 2)).toNatClampNeg = i + 2 := clamp (by omega)
  have e3 : nI i + (3 : Int32) = nI (i + 3) := nI_add i 3
  have R3 : ∀ o : Option Unit, rg (nI (i + 3)) L o = o := fun o => rgs (by omega) (by omega) o
  have q3 : (nI (i + 3)).toNatClampNeg = i + 3 := clamp (by omega)
  have e4 : nI i + (4 : Int32) = nI (i + 4) := nI_add i 4
  have R4 : ∀ o : Option Unit, rg (nI (i + 4)) L o = o := fun o => rgs (by omega) (by omega) o
  have q4 : (nI (i + 4)).toNatClampNeg = i + 4 := clamp (by omega)
  have e5 : nI i + (5 : Int32) = nI (i + 5) := nI_add i 5
  obtain ⟨r, z1, z2, h1, h2, h3⟩ := h (xs (i + 1)) (xs (i + 2)) (xs (i + 3)) (xs (i + 4)) k z hk hI
  simp only [lts, e1, R1, q1, e2, R2, q2, e3, R3, q3, e4, R4, q4, h1, cls, h2, if_true, e5]
  exact go z2 h3
set_option maxRecDepth 10000 in
theorem lb_feed {xs : Nat → Int32} {L i k n : Nat} {z : Mem} {K : Int32 → Mem → Option Unit} (hL : L ≤ 2560) (hx : i + 5 ≤ L) (hk : k < 512) (hI : Inv k z) (go : ∀ z2, Inv (k + 1) z2 → fL_law_L18 K xs L n (nI (i + 5)) z2 = some ()) (h : ∀ (a0 : Int32), Ok (fX8_feed a0) (fX9_feed a0)) : lt (((nI i) + (1 : Int32)) : Int32) (fun y_296 => rg y_296 L (lt ((xs y_296.toNatClampNeg) : Int32) (fun a_298 => cl (fX8_feed a_298 z) (fun r_299 z_300 => lt (((nI i) + (1 : Int32)) : Int32) (fun y_302 => rg y_302 L (lt ((xs y_302.toNatClampNeg) : Int32) (fun a_304 => cl (fX9_feed a_304 z_300) (fun r_305 z_306 => (if r_299 = r_305 then lt ((nI i) + (5 : Int32)) (fun x3_309 => (fL_law_L18 K xs L n x3_309 z_306)) else none))))))))) = some () := by
  have e1 : nI i + (1 : Int32) = nI (i + 1) := nI_add i 1
  have R1 : ∀ o : Option Unit, rg (nI (i + 1)) L o = o := fun o => rgs (by omega) (by omega) o
  have q1 : (nI (i + 1)).toNatClampNeg = i + 1 := clamp (by omega)
  have e5 : nI i + (5 : Int32) = nI (i + 5) := nI_add i 5
  obtain ⟨r, z1, z2, h1, h2, h3⟩ := h (xs (i + 1)) k z hk hI
  simp only [lts, e1, R1, q1, h1, cls, h2, if_true, e5]
  exact go z2 h3
set_option maxRecDepth 10000 in
theorem lb_weigh {xs : Nat → Int32} {L i k n : Nat} {z : Mem} {K : Int32 → Mem → Option Unit} (hL : L ≤ 2560) (hx : i + 5 ≤ L) (hk : k < 512) (hI : Inv k z) (go : ∀ z2, Inv (k + 1) z2 → fL_law_L18 K xs L n (nI (i + 5)) z2 = some ()) (h : ∀ (a0 : Int32) (a1 : Int32) (a2 : Int32), Ok (fX8_weigh a0 a1 a2) (fX9_weigh a0 a1 a2)) : lt (((nI i) + (1 : Int32)) : Int32) (fun y_311 => rg y_311 L (lt ((xs y_311.toNatClampNeg) : Int32) (fun a_313 => lt (((nI i) + (2 : Int32)) : Int32) (fun y_314 => rg y_314 L (lt ((xs y_314.toNatClampNeg) : Int32) (fun a_316 => lt (((nI i) + (3 : Int32)) : Int32) (fun y_317 => rg y_317 L (lt ((xs y_317.toNatClampNeg) : Int32) (fun a_319 => cl (fX8_weigh a_313 a_316 a_319 z) (fun r_320 z_321 => lt (((nI i) + (1 : Int32)) : Int32) (fun y_323 => rg y_323 L (lt ((xs y_323.toNatClampNeg) : Int32) (fun a_325 => lt (((nI i) + (2 : Int32)) : Int32) (fun y_326 => rg y_326 L (lt ((xs y_326.toNatClampNeg) : Int32) (fun a_328 => lt (((nI i) + (3 : Int32)) : Int32) (fun y_329 => rg y_329 L (lt ((xs y_329.toNatClampNeg) : Int32) (fun a_331 => cl (fX9_weigh a_325 a_328 a_331 z_321) (fun r_332 z_333 => (if r_320 = r_332 then lt ((nI i) + (5 : Int32)) (fun x3_336 => (fL_law_L18 K xs L n x3_336 z_333)) else none))))))))))))))))))))) = some () := by
  have e1 : nI i + (1 : Int32) = nI (i + 1) := nI_add i 1
  have R1 : ∀ o : Option Unit, rg (nI (i + 1)) L o = o := fun o => rgs (by omega) (by omega) o
  have q1 : (nI (i + 1)).toNatClampNeg = i + 1 := clamp (by omega)
  have e2 : nI i + (2 : Int32) = nI (i + 2) := nI_add i 2
  have R2 : ∀ o : Option Unit, rg (nI (i + 2)) L o = o := fun o => rgs (by omega) (by omega) o
  have q2 : (nI (i + 2)).toNatClampNeg = i + 2 := clamp (by omega)
  have e3 : nI i + (3 : Int32) = nI (i + 3) := nI_add i 3
  have R3 : ∀ o : Option Unit, rg (nI (i + 3)) L o = o := fun o => rgs (by omega) (by omega) o
  have q3 : (nI (i + 3)).toNatClampNeg = i + 3 := clamp (by omega)
  have e5 : nI i + (5 : Int32) = nI (i + 5) := nI_add i 5
  obtain ⟨r, z1, z2, h1, h2, h3⟩ := h (xs (i + 1)) (xs (i + 2)) (xs (i + 3)) k z hk hI
  simp only [lts, e1, R1, q1, e2, R2, q2, e3, R3, q3, h1, cls, h2, if_true, e5]
  exact go z2 h3
set_option maxRecDepth 10000 in
theorem lb_unweigh {xs : Nat → Int32} {L i k n : Nat} {z : Mem} {K : Int32 → Mem → Option Unit} (hL : L ≤ 2560) (hx : i + 5 ≤ L) (hk : k < 512) (hI : Inv k z) (go : ∀ z2, Inv (k + 1) z2 → fL_law_L18 K xs L n (nI (i + 5)) z2 = some ()) (h : Ok (fX8_unweigh) (fX9_unweigh)) : cl (fX8_unweigh z) (fun r_338 z_339 => cl (fX9_unweigh z_339) (fun r_341 z_342 => (if r_338 = r_341 then lt ((nI i) + (5 : Int32)) (fun x3_345 => (fL_law_L18 K xs L n x3_345 z_342)) else none))) = some () := by
  have e5 : nI i + (5 : Int32) = nI (i + 5) := nI_add i 5
  obtain ⟨r, z1, z2, h1, h2, h3⟩ := h k z hk hI
  simp only [lts, h1, cls, h2, if_true, e5]
  exact go z2 h3
set_option maxRecDepth 10000 in
theorem lb_mayBe {xs : Nat → Int32} {L i k n : Nat} {z : Mem} {K : Int32 → Mem → Option Unit} (hL : L ≤ 2560) (hx : i + 5 ≤ L) (hk : k < 512) (hI : Inv k z) (go : ∀ z2, Inv (k + 1) z2 → fL_law_L18 K xs L n (nI (i + 5)) z2 = some ()) (h : ∀ (a0 : Int32), a0 = 0 ∨ a0 = 1 → Ok (fX8_mayBe a0) (fX9_mayBe a0)) : lt (((nI i) + (1 : Int32)) : Int32) (fun y_347 => rg y_347 L (lt ((xs y_347.toNatClampNeg) : Int32) (fun a_349 => (jn (fun (v_351 : Int32) (z_352 : Mem) => cl (fX8_mayBe v_351 z_352) (fun r_353 z_354 => lt (((nI i) + (1 : Int32)) : Int32) (fun y_356 => rg y_356 L (lt ((xs y_356.toNatClampNeg) : Int32) (fun a_358 => (jn (fun (v_360 : Int32) (z_361 : Mem) => cl (fX9_mayBe v_360 z_361) (fun r_362 z_363 => (if r_353 = r_362 then lt ((nI i) + (5 : Int32)) (fun x3_366 => (fL_law_L18 K xs L n x3_366 z_363)) else none))) (fun K_359 => (if a_358 = 0 then (K_359 (0 : Int32) z_354) else (K_359 (1 : Int32) z_354))))))))) (fun K_350 => (if a_349 = 0 then (K_350 (0 : Int32) z) else (K_350 (1 : Int32) z))))))) = some () := by
  have e1 : nI i + (1 : Int32) = nI (i + 1) := nI_add i 1
  have R1 : ∀ o : Option Unit, rg (nI (i + 1)) L o = o := fun o => rgs (by omega) (by omega) o
  have q1 : (nI (i + 1)).toNatClampNeg = i + 1 := clamp (by omega)
  have e5 : nI i + (5 : Int32) = nI (i + 5) := nI_add i 5
  by_cases hb : xs (i + 1) = 0
  · obtain ⟨r, z1, z2, h1, h2, h3⟩ := h (0 : Int32) (Or.inl rfl) k z hk hI
    simp only [lts, e1, R1, q1, jns, if_pos hb, h1, cls, h2, if_true, e5]
    exact go z2 h3
  · obtain ⟨r, z1, z2, h1, h2, h3⟩ := h (1 : Int32) (Or.inr rfl) k z hk hI
    simp only [lts, e1, R1, q1, jns, if_neg hb, h1, cls, h2, if_true, e5]
    exact go z2 h3
set_option maxRecDepth 10000 in
theorem lb_search {xs : Nat → Int32} {L i k n : Nat} {z : Mem} {K : Int32 → Mem → Option Unit} (hL : L ≤ 2560) (hx : i + 5 ≤ L) (hk : k < 512) (hI : Inv k z) (go : ∀ z2, Inv (k + 1) z2 → fL_law_L18 K xs L n (nI (i + 5)) z2 = some ()) (h : ∀ (a0 : Int32) (a1 : Int32), Ok (fX8_search a0 a1) (fX9_search a0 a1)) : lt (((nI i) + (1 : Int32)) : Int32) (fun y_370 => rg y_370 L (lt ((xs y_370.toNatClampNeg) : Int32) (fun a_372 => lt (((nI i) + (2 : Int32)) : Int32) (fun y_373 => rg y_373 L (lt ((xs y_373.toNatClampNeg) : Int32) (fun a_375 => cl (fX8_search a_372 a_375 z) (fun r_376 z_377 => lt (((nI i) + (1 : Int32)) : Int32) (fun y_379 => rg y_379 L (lt ((xs y_379.toNatClampNeg) : Int32) (fun a_381 => lt (((nI i) + (2 : Int32)) : Int32) (fun y_382 => rg y_382 L (lt ((xs y_382.toNatClampNeg) : Int32) (fun a_384 => cl (fX9_search a_381 a_384 z_377) (fun r_385 z_386 => (if r_376 = r_385 then lt ((nI i) + (5 : Int32)) (fun x3_389 => (fL_law_L18 K xs L n x3_389 z_386)) else none))))))))))))))) = some () := by
  have e1 : nI i + (1 : Int32) = nI (i + 1) := nI_add i 1
  have R1 : ∀ o : Option Unit, rg (nI (i + 1)) L o = o := fun o => rgs (by omega) (by omega) o
  have q1 : (nI (i + 1)).toNatClampNeg = i + 1 := clamp (by omega)
  have e2 : nI i + (2 : Int32) = nI (i + 2) := nI_add i 2
  have R2 : ∀ o : Option Unit, rg (nI (i + 2)) L o = o := fun o => rgs (by omega) (by omega) o
  have q2 : (nI (i + 2)).toNatClampNeg = i + 2 := clamp (by omega)
  have e5 : nI i + (5 : Int32) = nI (i + 5) := nI_add i 5
  obtain ⟨r, z1, z2, h1, h2, h3⟩ := h (xs (i + 1)) (xs (i + 2)) k z hk hI
  simp only [lts, e1, R1, q1, e2, R2, q2, h1, cls, h2, if_true, e5]
  exact go z2 h3
set_option maxRecDepth 10000 in
theorem lb_unsearch {xs : Nat → Int32} {L i k n : Nat} {z : Mem} {K : Int32 → Mem → Option Unit} (hL : L ≤ 2560) (hx : i + 5 ≤ L) (hk : k < 512) (hI : Inv k z) (go : ∀ z2, Inv (k + 1) z2 → fL_law_L18 K xs L n (nI (i + 5)) z2 = some ()) (h : Ok (fX8_unsearch) (fX9_unsearch)) : cl (fX8_unsearch z) (fun r_391 z_392 => cl (fX9_unsearch z_392) (fun r_394 z_395 => (if r_391 = r_394 then lt ((nI i) + (5 : Int32)) (fun x3_398 => (fL_law_L18 K xs L n x3_398 z_395)) else none))) = some () := by
  have e5 : nI i + (5 : Int32) = nI (i + 5) := nI_add i 5
  obtain ⟨r, z1, z2, h1, h2, h3⟩ := h k z hk hI
  simp only [lts, h1, cls, h2, if_true, e5]
  exact go z2 h3
set_option maxRecDepth 10000 in
theorem lb_rows {xs : Nat → Int32} {L i k n : Nat} {z : Mem} {K : Int32 → Mem → Option Unit} (hL : L ≤ 2560) (hx : i + 5 ≤ L) (hk : k < 512) (hI : Inv k z) (go : ∀ z2, Inv (k + 1) z2 → fL_law_L18 K xs L n (nI (i + 5)) z2 = some ()) (h : Ok (fX8_rows) (fX9_rows)) : cl (fX8_rows z) (fun r_400 z_401 => cl (fX9_rows z_401) (fun r_403 z_404 => (if r_400 = r_403 then lt ((nI i) + (5 : Int32)) (fun x3_407 => (fL_law_L18 K xs L n x3_407 z_404)) else none))) = some () := by
  have e5 : nI i + (5 : Int32) = nI (i + 5) := nI_add i 5
  obtain ⟨r, z1, z2, h1, h2, h3⟩ := h k z hk hI
  simp only [lts, h1, cls, h2, if_true, e5]
  exact go z2 h3
set_option maxRecDepth 10000 in
theorem lb_stones {xs : Nat → Int32} {L i k n : Nat} {z : Mem} {K : Int32 → Mem → Option Unit} (hL : L ≤ 2560) (hx : i + 5 ≤ L) (hk : k < 512) (hI : Inv k z) (go : ∀ z2, Inv (k + 1) z2 → fL_law_L18 K xs L n (nI (i + 5)) z2 = some ()) (h : ∀ (a0 : Int32) (a1 : Int32), a1 = 0 ∨ a1 = 1 → Ok (fX8_stones a0 a1) (fX9_stones a0 a1)) : lt (((nI i) + (1 : Int32)) : Int32) (fun y_409 => rg y_409 L (lt ((xs y_409.toNatClampNeg) : Int32) (fun a_411 => lt (((nI i) + (2 : Int32)) : Int32) (fun y_412 => rg y_412 L (lt ((xs y_412.toNatClampNeg) : Int32) (fun a_414 => (jn (fun (v_416 : Int32) (z_417 : Mem) => cl (fX8_stones a_411 v_416 z_417) (fun r_418 z_419 => lt (((nI i) + (1 : Int32)) : Int32) (fun y_421 => rg y_421 L (lt ((xs y_421.toNatClampNeg) : Int32) (fun a_423 => lt (((nI i) + (2 : Int32)) : Int32) (fun y_424 => rg y_424 L (lt ((xs y_424.toNatClampNeg) : Int32) (fun a_426 => (jn (fun (v_428 : Int32) (z_429 : Mem) => cl (fX9_stones a_423 v_428 z_429) (fun r_430 z_431 => (if r_418 = r_430 then lt ((nI i) + (5 : Int32)) (fun x3_434 => (fL_law_L18 K xs L n x3_434 z_431)) else none))) (fun K_427 => (if a_426 = 0 then (K_427 (0 : Int32) z_419) else (K_427 (1 : Int32) z_419)))))))))))) (fun K_415 => (if a_414 = 0 then (K_415 (0 : Int32) z) else (K_415 (1 : Int32) z)))))))))) = some () := by
  have e1 : nI i + (1 : Int32) = nI (i + 1) := nI_add i 1
  have R1 : ∀ o : Option Unit, rg (nI (i + 1)) L o = o := fun o => rgs (by omega) (by omega) o
  have q1 : (nI (i + 1)).toNatClampNeg = i + 1 := clamp (by omega)
  have e2 : nI i + (2 : Int32) = nI (i + 2) := nI_add i 2
  have R2 : ∀ o : Option Unit, rg (nI (i + 2)) L o = o := fun o => rgs (by omega) (by omega) o
  have q2 : (nI (i + 2)).toNatClampNeg = i + 2 := clamp (by omega)
  have e5 : nI i + (5 : Int32) = nI (i + 5) := nI_add i 5
  by_cases hb : xs (i + 2) = 0
  · obtain ⟨r, z1, z2, h1, h2, h3⟩ := h (xs (i + 1)) (0 : Int32) (Or.inl rfl) k z hk hI
    simp only [lts, e1, R1, q1, e2, R2, q2, jns, if_pos hb, h1, cls, h2, if_true, e5]
    exact go z2 h3
  · obtain ⟨r, z1, z2, h1, h2, h3⟩ := h (xs (i + 1)) (1 : Int32) (Or.inr rfl) k z hk hI
    simp only [lts, e1, R1, q1, e2, R2, q2, jns, if_neg hb, h1, cls, h2, if_true, e5]
    exact go z2 h3
set_option maxRecDepth 10000 in
theorem lb_ruled {xs : Nat → Int32} {L i k n : Nat} {z : Mem} {K : Int32 → Mem → Option Unit} (hL : L ≤ 2560) (hx : i + 5 ≤ L) (hk : k < 512) (hI : Inv k z) (go : ∀ z2, Inv (k + 1) z2 → fL_law_L18 K xs L n (nI (i + 5)) z2 = some ()) (h : ∀ (a0 : Int32), Ok (fX8_ruled a0) (fX9_ruled a0)) : lt (((nI i) + (1 : Int32)) : Int32) (fun y_438 => rg y_438 L (lt ((xs y_438.toNatClampNeg) : Int32) (fun a_440 => cl (fX8_ruled a_440 z) (fun r_441 z_442 => lt (((nI i) + (1 : Int32)) : Int32) (fun y_444 => rg y_444 L (lt ((xs y_444.toNatClampNeg) : Int32) (fun a_446 => cl (fX9_ruled a_446 z_442) (fun r_447 z_448 => (if r_441 = r_447 then lt ((nI i) + (5 : Int32)) (fun x3_451 => (fL_law_L18 K xs L n x3_451 z_448)) else none))))))))) = some () := by
  have e1 : nI i + (1 : Int32) = nI (i + 1) := nI_add i 1
  have R1 : ∀ o : Option Unit, rg (nI (i + 1)) L o = o := fun o => rgs (by omega) (by omega) o
  have q1 : (nI (i + 1)).toNatClampNeg = i + 1 := clamp (by omega)
  have e5 : nI i + (5 : Int32) = nI (i + 5) := nI_add i 5
  obtain ⟨r, z1, z2, h1, h2, h3⟩ := h (xs (i + 1)) k z hk hI
  simp only [lts, e1, R1, q1, h1, cls, h2, if_true, e5]
  exact go z2 h3
set_option maxRecDepth 10000 in
theorem lb_unrule {xs : Nat → Int32} {L i k n : Nat} {z : Mem} {K : Int32 → Mem → Option Unit} (hL : L ≤ 2560) (hx : i + 5 ≤ L) (hk : k < 512) (hI : Inv k z) (go : ∀ z2, Inv (k + 1) z2 → fL_law_L18 K xs L n (nI (i + 5)) z2 = some ()) (h : Ok (fX8_unrule) (fX9_unrule)) : cl (fX8_unrule z) (fun r_453 z_454 => cl (fX9_unrule z_454) (fun r_456 z_457 => (if r_453 = r_456 then lt ((nI i) + (5 : Int32)) (fun x3_460 => (fL_law_L18 K xs L n x3_460 z_457)) else none))) = some () := by
  have e5 : nI i + (5 : Int32) = nI (i + 5) := nI_add i 5
  obtain ⟨r, z1, z2, h1, h2, h3⟩ := h k z hk hI
  simp only [lts, h1, cls, h2, if_true, e5]
  exact go z2 h3
set_option maxRecDepth 10000 in
theorem lb_line {xs : Nat → Int32} {L i k n : Nat} {z : Mem} {K : Int32 → Mem → Option Unit} (hL : L ≤ 2560) (hx : i + 5 ≤ L) (hk : k < 512) (hI : Inv k z) (go : ∀ z2, Inv (k + 1) z2 → fL_law_L18 K xs L n (nI (i + 5)) z2 = some ()) (h : Ok (fX8_line) (fX9_line)) : cl (fX8_line z) (fun r_462 z_463 => cl (fX9_line z_463) (fun r_465 z_466 => (if (lg_cmp r_462 r_465) = 0 then lt ((nI i) + (5 : Int32)) (fun x3_469 => (fL_law_L18 K xs L n x3_469 z_466)) else none))) = some () := by
  have e5 : nI i + (5 : Int32) = nI (i + 5) := nI_add i 5
  obtain ⟨r, z1, z2, h1, h2, h3⟩ := h k z hk hI
  simp only [lts, h1, cls, h2, cmp_self, if_true, e5]
  exact go z2 h3
set_option maxRecDepth 10000 in
theorem lb_seed {xs : Nat → Int32} {L i k n : Nat} {z : Mem} {K : Int32 → Mem → Option Unit} (hL : L ≤ 2560) (hx : i + 5 ≤ L) (hk : k < 512) (hI : Inv k z) (go : ∀ z2, Inv (k + 1) z2 → fL_law_L18 K xs L n (nI (i + 5)) z2 = some ()) (h : ∀ (a0 : Int64), Ok (fX8_seed a0) (fX9_seed a0)) : lt (((nI i) + (1 : Int32)) : Int32) (fun y_471 => rg y_471 L (lt ((xs y_471.toNatClampNeg) : Int32) (fun a_473 => lt (((nI i) + (2 : Int32)) : Int32) (fun y_474 => rg y_474 L (lt ((xs y_474.toNatClampNeg) : Int32) (fun a_476 => cl (fX8_seed (((a_473.toInt64) <<< ((32 : Int32).toInt64 &&& 63)) ||| ((a_476.toInt64) &&& (4294967295 : Int64))) z) (fun r_477 z_478 => lt (((nI i) + (1 : Int32)) : Int32) (fun y_480 => rg y_480 L (lt ((xs y_480.toNatClampNeg) : Int32) (fun a_482 => lt (((nI i) + (2 : Int32)) : Int32) (fun y_483 => rg y_483 L (lt ((xs y_483.toNatClampNeg) : Int32) (fun a_485 => cl (fX9_seed (((a_482.toInt64) <<< ((32 : Int32).toInt64 &&& 63)) ||| ((a_485.toInt64) &&& (4294967295 : Int64))) z_478) (fun r_486 z_487 => (if (lg_cmp r_477 r_486) = 0 then lt ((nI i) + (5 : Int32)) (fun x3_490 => (fL_law_L18 K xs L n x3_490 z_487)) else none))))))))))))))) = some () := by
  have e1 : nI i + (1 : Int32) = nI (i + 1) := nI_add i 1
  have R1 : ∀ o : Option Unit, rg (nI (i + 1)) L o = o := fun o => rgs (by omega) (by omega) o
  have q1 : (nI (i + 1)).toNatClampNeg = i + 1 := clamp (by omega)
  have e2 : nI i + (2 : Int32) = nI (i + 2) := nI_add i 2
  have R2 : ∀ o : Option Unit, rg (nI (i + 2)) L o = o := fun o => rgs (by omega) (by omega) o
  have q2 : (nI (i + 2)).toNatClampNeg = i + 2 := clamp (by omega)
  have e5 : nI i + (5 : Int32) = nI (i + 5) := nI_add i 5
  rw [lts, e1, R1, lts, q1, lts, e2, R2, lts, q2]
  obtain ⟨r, z1, z2, h1, h2, h3⟩ := h (((xs (i + 1)).toInt64 <<< ((32 : Int32).toInt64 &&& 63)) ||| ((xs (i + 2)).toInt64 &&& (4294967295 : Int64))) k z hk hI
  rw [h1, cls, lts, R1, lts, q1, lts, R2, lts, q2, h2, cls, cmp_self, if_pos rfl, lts, e5]
  exact go z2 h3
set_option maxRecDepth 10000 in
theorem lb_reign {xs : Nat → Int32} {L i k n : Nat} {z : Mem} {K : Int32 → Mem → Option Unit} (hL : L ≤ 2560) (hx : i + 5 ≤ L) (hk : k < 512) (hI : Inv k z) (go : ∀ z2, Inv (k + 1) z2 → fL_law_L18 K xs L n (nI (i + 5)) z2 = some ()) (h : ∀ (a0 : Int32) (a1 : Int32), Ok (fX8_reign a0 a1) (fX9_reign a0 a1)) : lt (((nI i) + (1 : Int32)) : Int32) (fun y_492 => rg y_492 L (lt ((xs y_492.toNatClampNeg) : Int32) (fun a_494 => lt (((nI i) + (2 : Int32)) : Int32) (fun y_495 => rg y_495 L (lt ((xs y_495.toNatClampNeg) : Int32) (fun a_497 => cl (fX8_reign a_494 a_497 z) (fun r_498 z_499 => lt (((nI i) + (1 : Int32)) : Int32) (fun y_501 => rg y_501 L (lt ((xs y_501.toNatClampNeg) : Int32) (fun a_503 => lt (((nI i) + (2 : Int32)) : Int32) (fun y_504 => rg y_504 L (lt ((xs y_504.toNatClampNeg) : Int32) (fun a_506 => cl (fX9_reign a_503 a_506 z_499) (fun r_507 z_508 => (if r_498 = r_507 then lt ((nI i) + (5 : Int32)) (fun x3_511 => (fL_law_L18 K xs L n x3_511 z_508)) else none))))))))))))))) = some () := by
  have e1 : nI i + (1 : Int32) = nI (i + 1) := nI_add i 1
  have R1 : ∀ o : Option Unit, rg (nI (i + 1)) L o = o := fun o => rgs (by omega) (by omega) o
  have q1 : (nI (i + 1)).toNatClampNeg = i + 1 := clamp (by omega)
  have e2 : nI i + (2 : Int32) = nI (i + 2) := nI_add i 2
  have R2 : ∀ o : Option Unit, rg (nI (i + 2)) L o = o := fun o => rgs (by omega) (by omega) o
  have q2 : (nI (i + 2)).toNatClampNeg = i + 2 := clamp (by omega)
  have e5 : nI i + (5 : Int32) = nI (i + 5) := nI_add i 5
  obtain ⟨r, z1, z2, h1, h2, h3⟩ := h (xs (i + 1)) (xs (i + 2)) k z hk hI
  simp only [lts, e1, R1, q1, e2, R2, q2, h1, cls, h2, if_true, e5]
  exact go z2 h3
set_option maxRecDepth 10000 in
theorem lb_keep {xs : Nat → Int32} {L i k n : Nat} {z : Mem} {K : Int32 → Mem → Option Unit} (hL : L ≤ 2560) (hx : i + 5 ≤ L) (hk : k < 512) (hI : Inv k z) (go : ∀ z2, Inv (k + 1) z2 → fL_law_L18 K xs L n (nI (i + 5)) z2 = some ()) (h : ∀ (a0 : Int32), Ok (fX8_keep a0) (fX9_keep a0)) : lt (((nI i) + (1 : Int32)) : Int32) (fun y_513 => rg y_513 L (lt ((xs y_513.toNatClampNeg) : Int32) (fun a_515 => cl (fX8_keep a_515 z) (fun r_516 z_517 => lt (((nI i) + (1 : Int32)) : Int32) (fun y_519 => rg y_519 L (lt ((xs y_519.toNatClampNeg) : Int32) (fun a_521 => cl (fX9_keep a_521 z_517) (fun r_522 z_523 => (if r_516 = r_522 then lt ((nI i) + (5 : Int32)) (fun x3_526 => (fL_law_L18 K xs L n x3_526 z_523)) else none))))))))) = some () := by
  have e1 : nI i + (1 : Int32) = nI (i + 1) := nI_add i 1
  have R1 : ∀ o : Option Unit, rg (nI (i + 1)) L o = o := fun o => rgs (by omega) (by omega) o
  have q1 : (nI (i + 1)).toNatClampNeg = i + 1 := clamp (by omega)
  have e5 : nI i + (5 : Int32) = nI (i + 5) := nI_add i 5
  obtain ⟨r, z1, z2, h1, h2, h3⟩ := h (xs (i + 1)) k z hk hI
  simp only [lts, e1, R1, q1, h1, cls, h2, if_true, e5]
  exact go z2 h3
set_option maxRecDepth 10000 in
theorem lb_again {xs : Nat → Int32} {L i k n : Nat} {z : Mem} {K : Int32 → Mem → Option Unit} (hL : L ≤ 2560) (hx : i + 5 ≤ L) (hk : k < 512) (hI : Inv k z) (go : ∀ z2, Inv (k + 1) z2 → fL_law_L18 K xs L n (nI (i + 5)) z2 = some ()) (h : ∀ (a0 : Int32), Ok (fX8_again a0) (fX9_again a0)) : lt (((nI i) + (1 : Int32)) : Int32) (fun y_528 => rg y_528 L (lt ((xs y_528.toNatClampNeg) : Int32) (fun a_530 => cl (fX8_again a_530 z) (fun r_531 z_532 => lt (((nI i) + (1 : Int32)) : Int32) (fun y_534 => rg y_534 L (lt ((xs y_534.toNatClampNeg) : Int32) (fun a_536 => cl (fX9_again a_536 z_532) (fun r_537 z_538 => (if r_531 = r_537 then lt ((nI i) + (5 : Int32)) (fun x3_541 => (fL_law_L18 K xs L n x3_541 z_538)) else none))))))))) = some () := by
  have e1 : nI i + (1 : Int32) = nI (i + 1) := nI_add i 1
  have R1 : ∀ o : Option Unit, rg (nI (i + 1)) L o = o := fun o => rgs (by omega) (by omega) o
  have q1 : (nI (i + 1)).toNatClampNeg = i + 1 := clamp (by omega)
  have e5 : nI i + (5 : Int32) = nI (i + 5) := nI_add i 5
  obtain ⟨r, z1, z2, h1, h2, h3⟩ := h (xs (i + 1)) k z hk hI
  simp only [lts, e1, R1, q1, h1, cls, h2, if_true, e5]
  exact go z2 h3
set_option maxRecDepth 10000 in
theorem lb_count {xs : Nat → Int32} {L i k n : Nat} {z : Mem} {K : Int32 → Mem → Option Unit} (hL : L ≤ 2560) (hx : i + 5 ≤ L) (hk : k < 512) (hI : Inv k z) (go : ∀ z2, Inv (k + 1) z2 → fL_law_L18 K xs L n (nI (i + 5)) z2 = some ()) (h : ∀ (a0 : Int32), Ok (fX8_count a0) (fX9_count a0)) : lt (((nI i) + (1 : Int32)) : Int32) (fun y_543 => rg y_543 L (lt ((xs y_543.toNatClampNeg) : Int32) (fun a_545 => cl (fX8_count a_545 z) (fun r_546 z_547 => lt (((nI i) + (1 : Int32)) : Int32) (fun y_549 => rg y_549 L (lt ((xs y_549.toNatClampNeg) : Int32) (fun a_551 => cl (fX9_count a_551 z_547) (fun r_552 z_553 => (if r_546 = r_552 then lt ((nI i) + (5 : Int32)) (fun x3_556 => (fL_law_L18 K xs L n x3_556 z_553)) else none))))))))) = some () := by
  have e1 : nI i + (1 : Int32) = nI (i + 1) := nI_add i 1
  have R1 : ∀ o : Option Unit, rg (nI (i + 1)) L o = o := fun o => rgs (by omega) (by omega) o
  have q1 : (nI (i + 1)).toNatClampNeg = i + 1 := clamp (by omega)
  have e5 : nI i + (5 : Int32) = nI (i + 5) := nI_add i 5
  obtain ⟨r, z1, z2, h1, h2, h3⟩ := h (xs (i + 1)) k z hk hI
  simp only [lts, e1, R1, q1, h1, cls, h2, if_true, e5]
  exact go z2 h3
set_option maxHeartbeats 4000000 in
set_option maxRecDepth 10000 in
theorem law_step {xs : Nat → Int32} {L i k n : Nat} {z : Mem} {K : Int32 → Mem → Option Unit} (hL : L ≤ 2560) (hx : i + 5 ≤ L) (hk : k < 512) (hI : Inv k z) (go : ∀ z2, Inv (k + 1) z2 → fL_law_L18 K xs L n (nI (i + 5)) z2 = some ()) {y : Int32}
    (h_write : ∀ (a0 : Int32) (a1 : Int64), Ok (fX8_write a0 a1) (fX9_write a0 a1))
    (h_wipe : Ok (fX8_wipe) (fX9_wipe))
    (h_fault : Ok (fX8_fault) (fX9_fault))
    (h_land : Ok (fX8_land) (fX9_land))
    (h_person : ∀ (a0 : Int32) (a1 : Int32), Ok (fX8_person a0 a1) (fX9_person a0 a1))
    (h_law : ∀ (a0 : Int32), Ok (fX8_law a0) (fX9_law a0))
    (h_eat : ∀ (a0 : Int32) (a1 : Int32), Ok (fX8_eat a0 a1) (fX9_eat a0 a1))
    (h_toil : ∀ (a0 : Int32) (a1 : Int32), Ok (fX8_toil a0 a1) (fX9_toil a0 a1))
    (h_drink : ∀ (a0 : Int32) (a1 : Int32), Ok (fX8_drink a0 a1) (fX9_drink a0 a1))
    (h_hand : ∀ (a0 : Int32) (a1 : Int32) (a2 : Int32), a2 = 0 ∨ a2 = 1 → Ok (fX8_hand a0 a1 a2) (fX9_hand a0 a1 a2))
    (h_day : Ok (fX8_day) (fX9_day))
    (h_crown : Ok (fX8_crown) (fX9_crown))
    (h_noon : Ok (fX8_noon) (fX9_noon))
    (h_undo : Ok (fX8_undo) (fX9_undo))
    (h_sure : ∀ (a0 : Int32) (a1 : Int32) (a2 : Int32), Ok (fX8_sure a0 a1 a2) (fX9_sure a0 a1 a2))
    (h_sureAt : ∀ (a0 : Int32) (a1 : Int32) (a2 : Int32) (a3 : Int32), Ok (fX8_sureAt a0 a1 a2 a3) (fX9_sureAt a0 a1 a2 a3))
    (h_feed : ∀ (a0 : Int32), Ok (fX8_feed a0) (fX9_feed a0))
    (h_weigh : ∀ (a0 : Int32) (a1 : Int32) (a2 : Int32), Ok (fX8_weigh a0 a1 a2) (fX9_weigh a0 a1 a2))
    (h_unweigh : Ok (fX8_unweigh) (fX9_unweigh))
    (h_mayBe : ∀ (a0 : Int32), a0 = 0 ∨ a0 = 1 → Ok (fX8_mayBe a0) (fX9_mayBe a0))
    (h_search : ∀ (a0 : Int32) (a1 : Int32), Ok (fX8_search a0 a1) (fX9_search a0 a1))
    (h_unsearch : Ok (fX8_unsearch) (fX9_unsearch))
    (h_rows : Ok (fX8_rows) (fX9_rows))
    (h_stones : ∀ (a0 : Int32) (a1 : Int32), a1 = 0 ∨ a1 = 1 → Ok (fX8_stones a0 a1) (fX9_stones a0 a1))
    (h_ruled : ∀ (a0 : Int32), Ok (fX8_ruled a0) (fX9_ruled a0))
    (h_unrule : Ok (fX8_unrule) (fX9_unrule))
    (h_line : Ok (fX8_line) (fX9_line))
    (h_seed : ∀ (a0 : Int64), Ok (fX8_seed a0) (fX9_seed a0))
    (h_reign : ∀ (a0 : Int32) (a1 : Int32), Ok (fX8_reign a0 a1) (fX9_reign a0 a1))
    (h_keep : ∀ (a0 : Int32), Ok (fX8_keep a0) (fX9_keep a0))
    (h_again : ∀ (a0 : Int32), Ok (fX8_again a0) (fX9_again a0))
    (h_count : ∀ (a0 : Int32), Ok (fX8_count a0) (fX9_count a0)) : (if y.toInt = 0 then lt (((nI i) + (1 : Int32)) : Int32) (fun y_12 => rg y_12 L (lt ((xs y_12.toNatClampNeg) : Int32) (fun a_14 => lt (((nI i) + (2 : Int32)) : Int32) (fun y_15 => rg y_15 L (lt ((xs y_15.toNatClampNeg) : Int32) (fun a_17 => lt (((nI i) + (3 : Int32)) : Int32) (fun y_18 => rg y_18 L (lt ((xs y_18.toNatClampNeg) : Int32) (fun a_20 => cl (fX8_write a_14 (((a_17.toInt64) <<< ((32 : Int32).toInt64 &&& 63)) ||| ((a_20.toInt64) &&& (4294967295 : Int64))) z) (fun r_21 z_22 => lt (((nI i) + (1 : Int32)) : Int32) (fun y_24 => rg y_24 L (lt ((xs y_24.toNatClampNeg) : Int32) (fun a_26 => lt (((nI i) + (2 : Int32)) : Int32) (fun y_27 => rg y_27 L (lt ((xs y_27.toNatClampNeg) : Int32) (fun a_29 => lt (((nI i) + (3 : Int32)) : Int32) (fun y_30 => rg y_30 L (lt ((xs y_30.toNatClampNeg) : Int32) (fun a_32 => cl (fX9_write a_26 (((a_29.toInt64) <<< ((32 : Int32).toInt64 &&& 63)) ||| ((a_32.toInt64) &&& (4294967295 : Int64))) z_22) (fun r_33 z_34 => (if r_21 = r_33 then lt ((nI i) + (5 : Int32)) (fun x3_37 => (fL_law_L18 K xs L n x3_37 z_34)) else none))))))))))))))))))))) else (if y.toInt = 1 then cl (fX8_wipe z) (fun r_39 z_40 => cl (fX9_wipe z_40) (fun r_42 z_43 => (if r_39 = r_42 then lt ((nI i) + (5 : Int32)) (fun x3_46 => (fL_law_L18 K xs L n x3_46 z_43)) else none))) else (if y.toInt = 2 then cl (fX8_fault z) (fun r_48 z_49 => cl (fX9_fault z_49) (fun r_51 z_52 => (if r_48 = r_51 then lt ((nI i) + (5 : Int32)) (fun x3_55 => (fL_law_L18 K xs L n x3_55 z_52)) else none))) else (if y.toInt = 3 then cl (fX8_land z) (fun r_57 z_58 => cl (fX9_land z_58) (fun r_60 z_61 => (if r_57 = r_60 then lt ((nI i) + (5 : Int32)) (fun x3_64 => (fL_law_L18 K xs L n x3_64 z_61)) else none))) else (if y.toInt = 4 then lt (((nI i) + (1 : Int32)) : Int32) (fun y_66 => rg y_66 L (lt ((xs y_66.toNatClampNeg) : Int32) (fun a_68 => lt (((nI i) + (2 : Int32)) : Int32) (fun y_69 => rg y_69 L (lt ((xs y_69.toNatClampNeg) : Int32) (fun a_71 => cl (fX8_person a_68 a_71 z) (fun r_72 z_73 => lt (((nI i) + (1 : Int32)) : Int32) (fun y_75 => rg y_75 L (lt ((xs y_75.toNatClampNeg) : Int32) (fun a_77 => lt (((nI i) + (2 : Int32)) : Int32) (fun y_78 => rg y_78 L (lt ((xs y_78.toNatClampNeg) : Int32) (fun a_80 => cl (fX9_person a_77 a_80 z_73) (fun r_81 z_82 => (if r_72 = r_81 then lt ((nI i) + (5 : Int32)) (fun x3_85 => (fL_law_L18 K xs L n x3_85 z_82)) else none))))))))))))))) else (if y.toInt = 5 then lt (((nI i) + (1 : Int32)) : Int32) (fun y_87 => rg y_87 L (lt ((xs y_87.toNatClampNeg) : Int32) (fun a_89 => cl (fX8_law a_89 z) (fun r_90 z_91 => lt (((nI i) + (1 : Int32)) : Int32) (fun y_93 => rg y_93 L (lt ((xs y_93.toNatClampNeg) : Int32) (fun a_95 => cl (fX9_law a_95 z_91) (fun r_96 z_97 => (if r_90 = r_96 then lt ((nI i) + (5 : Int32)) (fun x3_100 => (fL_law_L18 K xs L n x3_100 z_97)) else none))))))))) else (if y.toInt = 6 then lt (((nI i) + (1 : Int32)) : Int32) (fun y2 => rg y2 L (lt ((xs y2.toNatClampNeg) : Int32) (fun a_104 => lt (((nI i) + (2 : Int32)) : Int32) (fun y5 => rg y5 L (lt ((xs y5.toNatClampNeg) : Int32) (fun a_107 => cl (fX8_eat a_104 a_107 z) (fun r_108 z_109 => lt (((nI i) + (1 : Int32)) : Int32) (fun y_111 => rg y_111 L (lt ((xs y_111.toNatClampNeg) : Int32) (fun a_113 => lt (((nI i) + (2 : Int32)) : Int32) (fun y_114 => rg y_114 L (lt ((xs y_114.toNatClampNeg) : Int32) (fun a_116 => cl (fX9_eat a_113 a_116 z_109) (fun r_117 z_118 => (if r_108 = r_117 then lt ((nI i) + (5 : Int32)) (fun x3_121 => (fL_law_L18 K xs L n x3_121 z_118)) else none))))))))))))))) else (if y.toInt = 7 then lt (((nI i) + (1 : Int32)) : Int32) (fun y_123 => rg y_123 L (lt ((xs y_123.toNatClampNeg) : Int32) (fun a_125 => lt (((nI i) + (2 : Int32)) : Int32) (fun y_126 => rg y_126 L (lt ((xs y_126.toNatClampNeg) : Int32) (fun a_128 => cl (fX8_toil a_125 a_128 z) (fun r_129 z_130 => lt (((nI i) + (1 : Int32)) : Int32) (fun y_132 => rg y_132 L (lt ((xs y_132.toNatClampNeg) : Int32) (fun a_134 => lt (((nI i) + (2 : Int32)) : Int32) (fun y_135 => rg y_135 L (lt ((xs y_135.toNatClampNeg) : Int32) (fun a_137 => cl (fX9_toil a_134 a_137 z_130) (fun r_138 z_139 => (if r_129 = r_138 then lt ((nI i) + (5 : Int32)) (fun x3_142 => (fL_law_L18 K xs L n x3_142 z_139)) else none))))))))))))))) else (if y.toInt = 8 then lt (((nI i) + (1 : Int32)) : Int32) (fun y_144 => rg y_144 L (lt ((xs y_144.toNatClampNeg) : Int32) (fun a_146 => lt (((nI i) + (2 : Int32)) : Int32) (fun y_147 => rg y_147 L (lt ((xs y_147.toNatClampNeg) : Int32) (fun a_149 => cl (fX8_drink a_146 a_149 z) (fun r_150 z_151 => lt (((nI i) + (1 : Int32)) : Int32) (fun y_153 => rg y_153 L (lt ((xs y_153.toNatClampNeg) : Int32) (fun a_155 => lt (((nI i) + (2 : Int32)) : Int32) (fun y_156 => rg y_156 L (lt ((xs y_156.toNatClampNeg) : Int32) (fun a_158 => cl (fX9_drink a_155 a_158 z_151) (fun r_159 z_160 => (if r_150 = r_159 then lt ((nI i) + (5 : Int32)) (fun x3_163 => (fL_law_L18 K xs L n x3_163 z_160)) else none))))))))))))))) else (if y.toInt = 9 then lt (((nI i) + (1 : Int32)) : Int32) (fun y_165 => rg y_165 L (lt ((xs y_165.toNatClampNeg) : Int32) (fun a_167 => lt (((nI i) + (2 : Int32)) : Int32) (fun y_168 => rg y_168 L (lt ((xs y_168.toNatClampNeg) : Int32) (fun a_170 => lt (((nI i) + (3 : Int32)) : Int32) (fun y_171 => rg y_171 L (lt ((xs y_171.toNatClampNeg) : Int32) (fun a_173 => (jn (fun (v_175 : Int32) (z_176 : Mem) => cl (fX8_hand a_167 a_170 v_175 z_176) (fun r_177 z_178 => lt (((nI i) + (1 : Int32)) : Int32) (fun y_180 => rg y_180 L (lt ((xs y_180.toNatClampNeg) : Int32) (fun a_182 => lt (((nI i) + (2 : Int32)) : Int32) (fun y_183 => rg y_183 L (lt ((xs y_183.toNatClampNeg) : Int32) (fun a_185 => lt (((nI i) + (3 : Int32)) : Int32) (fun y_186 => rg y_186 L (lt ((xs y_186.toNatClampNeg) : Int32) (fun a_188 => (jn (fun (v_190 : Int32) (z_191 : Mem) => cl (fX9_hand a_182 a_185 v_190 z_191) (fun r_192 z_193 => (if r_177 = r_192 then lt ((nI i) + (5 : Int32)) (fun x3_196 => (fL_law_L18 K xs L n x3_196 z_193)) else none))) (fun K_189 => (if a_188 = 0 then (K_189 (0 : Int32) z_178) else (K_189 (1 : Int32) z_178))))))))))))))) (fun K_174 => (if a_173 = 0 then (K_174 (0 : Int32) z) else (K_174 (1 : Int32) z))))))))))))) else (if y.toInt = 10 then cl (fX8_day z) (fun r_200 z_201 => cl (fX9_day z_201) (fun r_203 z_204 => (if r_200 = r_203 then lt ((nI i) + (5 : Int32)) (fun x3_207 => (fL_law_L18 K xs L n x3_207 z_204)) else none))) else (if y.toInt = 11 then cl (fX8_crown z) (fun r_209 z_210 => cl (fX9_crown z_210) (fun r_212 z_213 => (if r_209 = r_212 then lt ((nI i) + (5 : Int32)) (fun x3_216 => (fL_law_L18 K xs L n x3_216 z_213)) else none))) else (if y.toInt = 12 then cl (fX8_noon z) (fun r_218 z_219 => cl (fX9_noon z_219) (fun r_221 z_222 => (if r_218 = r_221 then lt ((nI i) + (5 : Int32)) (fun x3_225 => (fL_law_L18 K xs L n x3_225 z_222)) else none))) else (if y.toInt = 13 then cl (fX8_undo z) (fun r_227 z_228 => cl (fX9_undo z_228) (fun r_230 z_231 => (if r_227 = r_230 then lt ((nI i) + (5 : Int32)) (fun x3_234 => (fL_law_L18 K xs L n x3_234 z_231)) else none))) else (if y.toInt = 14 then lt (((nI i) + (1 : Int32)) : Int32) (fun y_236 => rg y_236 L (lt ((xs y_236.toNatClampNeg) : Int32) (fun a_238 => lt (((nI i) + (2 : Int32)) : Int32) (fun y_239 => rg y_239 L (lt ((xs y_239.toNatClampNeg) : Int32) (fun a_241 => lt (((nI i) + (3 : Int32)) : Int32) (fun y_242 => rg y_242 L (lt ((xs y_242.toNatClampNeg) : Int32) (fun a_244 => cl (fX8_sure a_238 a_241 a_244 z) (fun r_245 z_246 => lt (((nI i) + (1 : Int32)) : Int32) (fun y_248 => rg y_248 L (lt ((xs y_248.toNatClampNeg) : Int32) (fun a_250 => lt (((nI i) + (2 : Int32)) : Int32) (fun y_251 => rg y_251 L (lt ((xs y_251.toNatClampNeg) : Int32) (fun a_253 => lt (((nI i) + (3 : Int32)) : Int32) (fun y_254 => rg y_254 L (lt ((xs y_254.toNatClampNeg) : Int32) (fun a_256 => cl (fX9_sure a_250 a_253 a_256 z_246) (fun r_257 z_258 => (if r_245 = r_257 then lt ((nI i) + (5 : Int32)) (fun x3_261 => (fL_law_L18 K xs L n x3_261 z_258)) else none))))))))))))))))))))) else (if y.toInt = 15 then lt (((nI i) + (1 : Int32)) : Int32) (fun y_263 => rg y_263 L (lt ((xs y_263.toNatClampNeg) : Int32) (fun a_265 => lt (((nI i) + (2 : Int32)) : Int32) (fun y_266 => rg y_266 L (lt ((xs y_266.toNatClampNeg) : Int32) (fun a_268 => lt (((nI i) + (3 : Int32)) : Int32) (fun y_269 => rg y_269 L (lt ((xs y_269.toNatClampNeg) : Int32) (fun a_271 => lt (((nI i) + (4 : Int32)) : Int32) (fun y_272 => rg y_272 L (lt ((xs y_272.toNatClampNeg) : Int32) (fun a_274 => cl (fX8_sureAt a_265 a_268 a_271 a_274 z) (fun r_275 z_276 => lt (((nI i) + (1 : Int32)) : Int32) (fun y_278 => rg y_278 L (lt ((xs y_278.toNatClampNeg) : Int32) (fun a_280 => lt (((nI i) + (2 : Int32)) : Int32) (fun y_281 => rg y_281 L (lt ((xs y_281.toNatClampNeg) : Int32) (fun a_283 => lt (((nI i) + (3 : Int32)) : Int32) (fun y_284 => rg y_284 L (lt ((xs y_284.toNatClampNeg) : Int32) (fun a_286 => lt (((nI i) + (4 : Int32)) : Int32) (fun y_287 => rg y_287 L (lt ((xs y_287.toNatClampNeg) : Int32) (fun a_289 => cl (fX9_sureAt a_280 a_283 a_286 a_289 z_276) (fun r_290 z_291 => (if r_275 = r_290 then lt ((nI i) + (5 : Int32)) (fun x3_294 => (fL_law_L18 K xs L n x3_294 z_291)) else none))))))))))))))))))))))))))) else (if y.toInt = 16 then lt (((nI i) + (1 : Int32)) : Int32) (fun y_296 => rg y_296 L (lt ((xs y_296.toNatClampNeg) : Int32) (fun a_298 => cl (fX8_feed a_298 z) (fun r_299 z_300 => lt (((nI i) + (1 : Int32)) : Int32) (fun y_302 => rg y_302 L (lt ((xs y_302.toNatClampNeg) : Int32) (fun a_304 => cl (fX9_feed a_304 z_300) (fun r_305 z_306 => (if r_299 = r_305 then lt ((nI i) + (5 : Int32)) (fun x3_309 => (fL_law_L18 K xs L n x3_309 z_306)) else none))))))))) else (if y.toInt = 17 then lt (((nI i) + (1 : Int32)) : Int32) (fun y_311 => rg y_311 L (lt ((xs y_311.toNatClampNeg) : Int32) (fun a_313 => lt (((nI i) + (2 : Int32)) : Int32) (fun y_314 => rg y_314 L (lt ((xs y_314.toNatClampNeg) : Int32) (fun a_316 => lt (((nI i) + (3 : Int32)) : Int32) (fun y_317 => rg y_317 L (lt ((xs y_317.toNatClampNeg) : Int32) (fun a_319 => cl (fX8_weigh a_313 a_316 a_319 z) (fun r_320 z_321 => lt (((nI i) + (1 : Int32)) : Int32) (fun y_323 => rg y_323 L (lt ((xs y_323.toNatClampNeg) : Int32) (fun a_325 => lt (((nI i) + (2 : Int32)) : Int32) (fun y_326 => rg y_326 L (lt ((xs y_326.toNatClampNeg) : Int32) (fun a_328 => lt (((nI i) + (3 : Int32)) : Int32) (fun y_329 => rg y_329 L (lt ((xs y_329.toNatClampNeg) : Int32) (fun a_331 => cl (fX9_weigh a_325 a_328 a_331 z_321) (fun r_332 z_333 => (if r_320 = r_332 then lt ((nI i) + (5 : Int32)) (fun x3_336 => (fL_law_L18 K xs L n x3_336 z_333)) else none))))))))))))))))))))) else (if y.toInt = 18 then cl (fX8_unweigh z) (fun r_338 z_339 => cl (fX9_unweigh z_339) (fun r_341 z_342 => (if r_338 = r_341 then lt ((nI i) + (5 : Int32)) (fun x3_345 => (fL_law_L18 K xs L n x3_345 z_342)) else none))) else (if y.toInt = 19 then lt (((nI i) + (1 : Int32)) : Int32) (fun y_347 => rg y_347 L (lt ((xs y_347.toNatClampNeg) : Int32) (fun a_349 => (jn (fun (v_351 : Int32) (z_352 : Mem) => cl (fX8_mayBe v_351 z_352) (fun r_353 z_354 => lt (((nI i) + (1 : Int32)) : Int32) (fun y_356 => rg y_356 L (lt ((xs y_356.toNatClampNeg) : Int32) (fun a_358 => (jn (fun (v_360 : Int32) (z_361 : Mem) => cl (fX9_mayBe v_360 z_361) (fun r_362 z_363 => (if r_353 = r_362 then lt ((nI i) + (5 : Int32)) (fun x3_366 => (fL_law_L18 K xs L n x3_366 z_363)) else none))) (fun K_359 => (if a_358 = 0 then (K_359 (0 : Int32) z_354) else (K_359 (1 : Int32) z_354))))))))) (fun K_350 => (if a_349 = 0 then (K_350 (0 : Int32) z) else (K_350 (1 : Int32) z))))))) else (if y.toInt = 20 then lt (((nI i) + (1 : Int32)) : Int32) (fun y_370 => rg y_370 L (lt ((xs y_370.toNatClampNeg) : Int32) (fun a_372 => lt (((nI i) + (2 : Int32)) : Int32) (fun y_373 => rg y_373 L (lt ((xs y_373.toNatClampNeg) : Int32) (fun a_375 => cl (fX8_search a_372 a_375 z) (fun r_376 z_377 => lt (((nI i) + (1 : Int32)) : Int32) (fun y_379 => rg y_379 L (lt ((xs y_379.toNatClampNeg) : Int32) (fun a_381 => lt (((nI i) + (2 : Int32)) : Int32) (fun y_382 => rg y_382 L (lt ((xs y_382.toNatClampNeg) : Int32) (fun a_384 => cl (fX9_search a_381 a_384 z_377) (fun r_385 z_386 => (if r_376 = r_385 then lt ((nI i) + (5 : Int32)) (fun x3_389 => (fL_law_L18 K xs L n x3_389 z_386)) else none))))))))))))))) else (if y.toInt = 21 then cl (fX8_unsearch z) (fun r_391 z_392 => cl (fX9_unsearch z_392) (fun r_394 z_395 => (if r_391 = r_394 then lt ((nI i) + (5 : Int32)) (fun x3_398 => (fL_law_L18 K xs L n x3_398 z_395)) else none))) else (if y.toInt = 22 then cl (fX8_rows z) (fun r_400 z_401 => cl (fX9_rows z_401) (fun r_403 z_404 => (if r_400 = r_403 then lt ((nI i) + (5 : Int32)) (fun x3_407 => (fL_law_L18 K xs L n x3_407 z_404)) else none))) else (if y.toInt = 23 then lt (((nI i) + (1 : Int32)) : Int32) (fun y_409 => rg y_409 L (lt ((xs y_409.toNatClampNeg) : Int32) (fun a_411 => lt (((nI i) + (2 : Int32)) : Int32) (fun y_412 => rg y_412 L (lt ((xs y_412.toNatClampNeg) : Int32) (fun a_414 => (jn (fun (v_416 : Int32) (z_417 : Mem) => cl (fX8_stones a_411 v_416 z_417) (fun r_418 z_419 => lt (((nI i) + (1 : Int32)) : Int32) (fun y_421 => rg y_421 L (lt ((xs y_421.toNatClampNeg) : Int32) (fun a_423 => lt (((nI i) + (2 : Int32)) : Int32) (fun y_424 => rg y_424 L (lt ((xs y_424.toNatClampNeg) : Int32) (fun a_426 => (jn (fun (v_428 : Int32) (z_429 : Mem) => cl (fX9_stones a_423 v_428 z_429) (fun r_430 z_431 => (if r_418 = r_430 then lt ((nI i) + (5 : Int32)) (fun x3_434 => (fL_law_L18 K xs L n x3_434 z_431)) else none))) (fun K_427 => (if a_426 = 0 then (K_427 (0 : Int32) z_419) else (K_427 (1 : Int32) z_419)))))))))))) (fun K_415 => (if a_414 = 0 then (K_415 (0 : Int32) z) else (K_415 (1 : Int32) z)))))))))) else (if y.toInt = 24 then lt (((nI i) + (1 : Int32)) : Int32) (fun y_438 => rg y_438 L (lt ((xs y_438.toNatClampNeg) : Int32) (fun a_440 => cl (fX8_ruled a_440 z) (fun r_441 z_442 => lt (((nI i) + (1 : Int32)) : Int32) (fun y_444 => rg y_444 L (lt ((xs y_444.toNatClampNeg) : Int32) (fun a_446 => cl (fX9_ruled a_446 z_442) (fun r_447 z_448 => (if r_441 = r_447 then lt ((nI i) + (5 : Int32)) (fun x3_451 => (fL_law_L18 K xs L n x3_451 z_448)) else none))))))))) else (if y.toInt = 25 then cl (fX8_unrule z) (fun r_453 z_454 => cl (fX9_unrule z_454) (fun r_456 z_457 => (if r_453 = r_456 then lt ((nI i) + (5 : Int32)) (fun x3_460 => (fL_law_L18 K xs L n x3_460 z_457)) else none))) else (if y.toInt = 26 then cl (fX8_line z) (fun r_462 z_463 => cl (fX9_line z_463) (fun r_465 z_466 => (if (lg_cmp r_462 r_465) = 0 then lt ((nI i) + (5 : Int32)) (fun x3_469 => (fL_law_L18 K xs L n x3_469 z_466)) else none))) else (if y.toInt = 27 then lt (((nI i) + (1 : Int32)) : Int32) (fun y_471 => rg y_471 L (lt ((xs y_471.toNatClampNeg) : Int32) (fun a_473 => lt (((nI i) + (2 : Int32)) : Int32) (fun y_474 => rg y_474 L (lt ((xs y_474.toNatClampNeg) : Int32) (fun a_476 => cl (fX8_seed (((a_473.toInt64) <<< ((32 : Int32).toInt64 &&& 63)) ||| ((a_476.toInt64) &&& (4294967295 : Int64))) z) (fun r_477 z_478 => lt (((nI i) + (1 : Int32)) : Int32) (fun y_480 => rg y_480 L (lt ((xs y_480.toNatClampNeg) : Int32) (fun a_482 => lt (((nI i) + (2 : Int32)) : Int32) (fun y_483 => rg y_483 L (lt ((xs y_483.toNatClampNeg) : Int32) (fun a_485 => cl (fX9_seed (((a_482.toInt64) <<< ((32 : Int32).toInt64 &&& 63)) ||| ((a_485.toInt64) &&& (4294967295 : Int64))) z_478) (fun r_486 z_487 => (if (lg_cmp r_477 r_486) = 0 then lt ((nI i) + (5 : Int32)) (fun x3_490 => (fL_law_L18 K xs L n x3_490 z_487)) else none))))))))))))))) else (if y.toInt = 28 then lt (((nI i) + (1 : Int32)) : Int32) (fun y_492 => rg y_492 L (lt ((xs y_492.toNatClampNeg) : Int32) (fun a_494 => lt (((nI i) + (2 : Int32)) : Int32) (fun y_495 => rg y_495 L (lt ((xs y_495.toNatClampNeg) : Int32) (fun a_497 => cl (fX8_reign a_494 a_497 z) (fun r_498 z_499 => lt (((nI i) + (1 : Int32)) : Int32) (fun y_501 => rg y_501 L (lt ((xs y_501.toNatClampNeg) : Int32) (fun a_503 => lt (((nI i) + (2 : Int32)) : Int32) (fun y_504 => rg y_504 L (lt ((xs y_504.toNatClampNeg) : Int32) (fun a_506 => cl (fX9_reign a_503 a_506 z_499) (fun r_507 z_508 => (if r_498 = r_507 then lt ((nI i) + (5 : Int32)) (fun x3_511 => (fL_law_L18 K xs L n x3_511 z_508)) else none))))))))))))))) else (if y.toInt = 29 then lt (((nI i) + (1 : Int32)) : Int32) (fun y_513 => rg y_513 L (lt ((xs y_513.toNatClampNeg) : Int32) (fun a_515 => cl (fX8_keep a_515 z) (fun r_516 z_517 => lt (((nI i) + (1 : Int32)) : Int32) (fun y_519 => rg y_519 L (lt ((xs y_519.toNatClampNeg) : Int32) (fun a_521 => cl (fX9_keep a_521 z_517) (fun r_522 z_523 => (if r_516 = r_522 then lt ((nI i) + (5 : Int32)) (fun x3_526 => (fL_law_L18 K xs L n x3_526 z_523)) else none))))))))) else (if y.toInt = 30 then lt (((nI i) + (1 : Int32)) : Int32) (fun y_528 => rg y_528 L (lt ((xs y_528.toNatClampNeg) : Int32) (fun a_530 => cl (fX8_again a_530 z) (fun r_531 z_532 => lt (((nI i) + (1 : Int32)) : Int32) (fun y_534 => rg y_534 L (lt ((xs y_534.toNatClampNeg) : Int32) (fun a_536 => cl (fX9_again a_536 z_532) (fun r_537 z_538 => (if r_531 = r_537 then lt ((nI i) + (5 : Int32)) (fun x3_541 => (fL_law_L18 K xs L n x3_541 z_538)) else none))))))))) else (if y.toInt = 31 then lt (((nI i) + (1 : Int32)) : Int32) (fun y_543 => rg y_543 L (lt ((xs y_543.toNatClampNeg) : Int32) (fun a_545 => cl (fX8_count a_545 z) (fun r_546 z_547 => lt (((nI i) + (1 : Int32)) : Int32) (fun y_549 => rg y_549 L (lt ((xs y_549.toNatClampNeg) : Int32) (fun a_551 => cl (fX9_count a_551 z_547) (fun r_552 z_553 => (if r_546 = r_552 then lt ((nI i) + (5 : Int32)) (fun x3_556 => (fL_law_L18 K xs L n x3_556 z_553)) else none))))))))) else lt ((nI i) + (5 : Int32)) (fun x3_557 => (fL_law_L18 K xs L n x3_557 z)))))))))))))))))))))))))))))))))) = some () := by
  refine ite_el (fun _ => lb_write hL hx hk hI go h_write) (fun _ => ?_)
  refine ite_el (fun _ => lb_wipe hL hx hk hI go h_wipe) (fun _ => ?_)
  refine ite_el (fun _ => lb_fault hL hx hk hI go h_fault) (fun _ => ?_)
  refine ite_el (fun _ => lb_land hL hx hk hI go h_land) (fun _ => ?_)
  refine ite_el (fun _ => lb_person hL hx hk hI go h_person) (fun _ => ?_)
  refine ite_el (fun _ => lb_law hL hx hk hI go h_law) (fun _ => ?_)
  refine ite_el (fun _ => lb_eat hL hx hk hI go h_eat) (fun _ => ?_)
  refine ite_el (fun _ => lb_toil hL hx hk hI go h_toil) (fun _ => ?_)
  refine ite_el (fun _ => lb_drink hL hx hk hI go h_drink) (fun _ => ?_)
  refine ite_el (fun _ => lb_hand hL hx hk hI go h_hand) (fun _ => ?_)
  refine ite_el (fun _ => lb_day hL hx hk hI go h_day) (fun _ => ?_)
  refine ite_el (fun _ => lb_crown hL hx hk hI go h_crown) (fun _ => ?_)
  refine ite_el (fun _ => lb_noon hL hx hk hI go h_noon) (fun _ => ?_)
  refine ite_el (fun _ => lb_undo hL hx hk hI go h_undo) (fun _ => ?_)
  refine ite_el (fun _ => lb_sure hL hx hk hI go h_sure) (fun _ => ?_)
  refine ite_el (fun _ => lb_sureAt hL hx hk hI go h_sureAt) (fun _ => ?_)
  refine ite_el (fun _ => lb_feed hL hx hk hI go h_feed) (fun _ => ?_)
  refine ite_el (fun _ => lb_weigh hL hx hk hI go h_weigh) (fun _ => ?_)
  refine ite_el (fun _ => lb_unweigh hL hx hk hI go h_unweigh) (fun _ => ?_)
  refine ite_el (fun _ => lb_mayBe hL hx hk hI go h_mayBe) (fun _ => ?_)
  refine ite_el (fun _ => lb_search hL hx hk hI go h_search) (fun _ => ?_)
  refine ite_el (fun _ => lb_unsearch hL hx hk hI go h_unsearch) (fun _ => ?_)
  refine ite_el (fun _ => lb_rows hL hx hk hI go h_rows) (fun _ => ?_)
  refine ite_el (fun _ => lb_stones hL hx hk hI go h_stones) (fun _ => ?_)
  refine ite_el (fun _ => lb_ruled hL hx hk hI go h_ruled) (fun _ => ?_)
  refine ite_el (fun _ => lb_unrule hL hx hk hI go h_unrule) (fun _ => ?_)
  refine ite_el (fun _ => lb_line hL hx hk hI go h_line) (fun _ => ?_)
  refine ite_el (fun _ => lb_seed hL hx hk hI go h_seed) (fun _ => ?_)
  refine ite_el (fun _ => lb_reign hL hx hk hI go h_reign) (fun _ => ?_)
  refine ite_el (fun _ => lb_keep hL hx hk hI go h_keep) (fun _ => ?_)
  refine ite_el (fun _ => lb_again hL hx hk hI go h_again) (fun _ => ?_)
  refine ite_el (fun _ => lb_count hL hx hk hI go h_count) (fun _ => ?_)
  rw [lts, show nI i + (5 : Int32) = nI (i + 5) from nI_add i 5]
  exact go z (by obtain ⟨S, g1, g2, g3⟩ := hI; exact ⟨S, g1.up, g2, g3⟩)
set_option maxHeartbeats 4000000 in
set_option maxRecDepth 10000 in
theorem law_pure {xs : Nat → Int32} {L : Nat} (hL : L ≤ 2560)
    (h_write : ∀ (a0 : Int32) (a1 : Int64), Ok (fX8_write a0 a1) (fX9_write a0 a1))
    (h_wipe : Ok (fX8_wipe) (fX9_wipe))
    (h_fault : Ok (fX8_fault) (fX9_fault))
    (h_land : Ok (fX8_land) (fX9_land))
    (h_person : ∀ (a0 : Int32) (a1 : Int32), Ok (fX8_person a0 a1) (fX9_person a0 a1))
    (h_law : ∀ (a0 : Int32), Ok (fX8_law a0) (fX9_law a0))
    (h_eat : ∀ (a0 : Int32) (a1 : Int32), Ok (fX8_eat a0 a1) (fX9_eat a0 a1))
    (h_toil : ∀ (a0 : Int32) (a1 : Int32), Ok (fX8_toil a0 a1) (fX9_toil a0 a1))
    (h_drink : ∀ (a0 : Int32) (a1 : Int32), Ok (fX8_drink a0 a1) (fX9_drink a0 a1))
    (h_hand : ∀ (a0 : Int32) (a1 : Int32) (a2 : Int32), a2 = 0 ∨ a2 = 1 → Ok (fX8_hand a0 a1 a2) (fX9_hand a0 a1 a2))
    (h_day : Ok (fX8_day) (fX9_day))
    (h_crown : Ok (fX8_crown) (fX9_crown))
    (h_noon : Ok (fX8_noon) (fX9_noon))
    (h_undo : Ok (fX8_undo) (fX9_undo))
    (h_sure : ∀ (a0 : Int32) (a1 : Int32) (a2 : Int32), Ok (fX8_sure a0 a1 a2) (fX9_sure a0 a1 a2))
    (h_sureAt : ∀ (a0 : Int32) (a1 : Int32) (a2 : Int32) (a3 : Int32), Ok (fX8_sureAt a0 a1 a2 a3) (fX9_sureAt a0 a1 a2 a3))
    (h_feed : ∀ (a0 : Int32), Ok (fX8_feed a0) (fX9_feed a0))
    (h_weigh : ∀ (a0 : Int32) (a1 : Int32) (a2 : Int32), Ok (fX8_weigh a0 a1 a2) (fX9_weigh a0 a1 a2))
    (h_unweigh : Ok (fX8_unweigh) (fX9_unweigh))
    (h_mayBe : ∀ (a0 : Int32), a0 = 0 ∨ a0 = 1 → Ok (fX8_mayBe a0) (fX9_mayBe a0))
    (h_search : ∀ (a0 : Int32) (a1 : Int32), Ok (fX8_search a0 a1) (fX9_search a0 a1))
    (h_unsearch : Ok (fX8_unsearch) (fX9_unsearch))
    (h_rows : Ok (fX8_rows) (fX9_rows))
    (h_stones : ∀ (a0 : Int32) (a1 : Int32), a1 = 0 ∨ a1 = 1 → Ok (fX8_stones a0 a1) (fX9_stones a0 a1))
    (h_ruled : ∀ (a0 : Int32), Ok (fX8_ruled a0) (fX9_ruled a0))
    (h_unrule : Ok (fX8_unrule) (fX9_unrule))
    (h_line : Ok (fX8_line) (fX9_line))
    (h_seed : ∀ (a0 : Int64), Ok (fX8_seed a0) (fX9_seed a0))
    (h_reign : ∀ (a0 : Int32) (a1 : Int32), Ok (fX8_reign a0 a1) (fX9_reign a0 a1))
    (h_keep : ∀ (a0 : Int32), Ok (fX8_keep a0) (fX9_keep a0))
    (h_again : ∀ (a0 : Int32), Ok (fX8_again a0) (fX9_again a0))
    (h_count : ∀ (a0 : Int32), Ok (fX8_count a0) (fX9_count a0)) : fL_law xs L z00 = some () := by
  rw [fL_law]
  generalize hK : (fun (_ : Int32) (_ : Mem) => (some () : Option Unit)) = K
  have hKs : ∀ x z, K x z = some () := by intro x z; rw [← hK]
  have main : ∀ (n i k : Nat) (z : Mem), i = 5 * k → i ≤ L → L < i + 5 * n → Inv k z → fL_law_L18 K xs L n (nI i) z = some () := by
    intro n
    induction n with
    | zero => intro i k z h1 h2 h3; omega
    | succ n ih =>
      intro i k z hik hiL hn hI
      rw [fL_law_L18_s]
      by_cases hx : i + 5 ≤ L
      · have e0 : ¬ (Int32.ofNat L - (5 : Int32)) < nI i := by
          rw [show (Int32.ofNat L - (5 : Int32)) = nI (L - 5) from pk_sub (a := L) (b := 5) (by omega)]
          exact nI_nlt (by omega) (by omega)
        rw [if_neg e0, rgs (by omega) (by omega), lts, lts]
        exact law_step hL hx (by omega) hI (fun z2 h => ih (i + 5) (k + 1) z2 (by omega) hx (by omega) h) h_write h_wipe h_fault h_land h_person h_law h_eat h_toil h_drink h_hand h_day h_crown h_noon h_undo h_sure h_sureAt h_feed h_weigh h_unweigh h_mayBe h_search h_unsearch h_rows h_stones h_ruled h_unrule h_line h_seed h_reign h_keep h_again h_count
      · have e0 : (Int32.ofNat L - (5 : Int32)) < nI i := by
          by_cases h5 : 5 ≤ L
          · rw [show (Int32.ofNat L - (5 : Int32)) = nI (L - 5) from pk_sub (a := L) (b := 5) h5]
            exact nI_lt (by omega) (by omega)
          · refine Int32.lt_of_lt_of_le (b := 0) (pk_sneg (a := L) (b := 5) (by decide) (by omega)) (nI_pos' (by omega))
        rw [if_pos e0]
        exact hKs _ _
  have h9 := main FU 0 0 z00 rfl (Nat.zero_le L) (Nat.lt_of_le_of_lt hL (by unfold FU; decide)) Inv0
  rw [nI_0] at h9
  exact h9
