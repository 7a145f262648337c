set_option maxRecDepth 100000 in
set_option maxHeartbeats 8000000 in
theorem c_X5_addPoint (l : Launch) (D : va_G) (G : Gc) (ad : Nat → Nat → Nat) (d : Dt) (p1 : Int32) (h0 : 0 ≤ p1.toInt) (h1 : p1.toInt < 72) (h2 : 0 ≤ (d.1 0 0 8).toInt) (h3 : (d.1 0 0 8).toInt ≤ 11) : Met l yX5_addPoint (wsU yX5_addPoint cX5_addPoint 5 none) ({ frames := 0, cells := 0, slots := 0, locals := 0 } : Room) (va_Pc [.ref (ad 0 0), .int p1] (XPre D (tysG G) (MF G ad) MN ad d)) (qW none D (MF G ad) MN ad (sp_X5_addPoint d p1)) 0 0 (adS MN ad) := by
  refine ent (by decide +kernel) (Nat.le_of_ble_eq_true rfl) ?_
  intro p e s m below meth c S hr hlk hpre ls hl
  have S : CallFix p m c cX5_addPoint 5 s [.ref (ad 0 0), .int p1].toArray wsL_law RX5 := S
  obtain ⟨hK, hN, hX⟩ := hpre
  have hl : lv_has ls 5 [(0, .ref (ad 0 0)), (1, .int p1)] := hl
  have hs := sp_X5_addPoint.eq_1 d p1
  have hS : va_S (adS MN ad) s.heap s.heap [] := va_S.rf
  refine lv_iconst (v := 0) S.1 S.2.1 dX5_addPoint_0 (by decide) ?_
  refine lv_istore_n (lv' := [(2, .int 0), (0, .ref (ad 0 0)), (1, .int p1)]) S.1 S.2.1 dX5_addPoint_1 rfl hl (by decide) rfl (fun ls hl => ?_)
  have L2 : ∀ (n : Nat), ∀ (x2 : Int32), (d.1 0 0 8).toInt - x2.toInt < (n : Int) → 0 ≤ x2.toInt → x2.toInt ≤ (d.1 0 0 8).toInt → sp_X5_addPoint d p1 = lp_X5_addPoint_2 d p1 n x2 → ∀ (H : Heap) (locs : List Loc), PIC D (MF G ad) MN ad d H → va_S (adS MN ad) s.heap H locs → ∀ ls : Array Slot, lv_has ls 5 [(2, .int x2), (0, .ref (ad 0 0)), (1, .int p1)] → W p l e ({ frames := 0, cells := 0, slots := 0, locals := 0 } : Room) s m [.ref (ad 0 0), .int p1].toArray below meth c H locs 0 0 (MQ below (qW none D (MF G ad) MN ad (sp_X5_addPoint d p1)) [.ref (ad 0 0), .int p1].toArray s 0 0 (adS MN ad)) (F0 m 2 ls []) := by
    intro n
    induction n with
    | zero => intro x2 hms v2_0 v2_1 hs H locs hX hS ls hl; omega
    | succ n ih2 =>
      intro x2 hms v2_0 v2_1 hs H locs hX hS ls hl
      have hs := hs.trans (st_X5_addPoint_2.eq_1 d p1 (lp_X5_addPoint_2 d p1 n) x2)
      refine lv_iload_n S.1 S.2.1 dX5_addPoint_2 rfl (lv_at hl 0 rfl) ?_
      refine lv_aload_n S.1 S.2.1 dX5_addPoint_3 rfl (lv_at hl 1 rfl) ?_
      refine gf_RX5_133 S hK hX (v := d.1 0 0 8) rfl dX5_addPoint_4 ?_
      refine q_icmp_ge (tgt := 31) (xi := x2.toInt) (yi := (d.1 0 0 8).toInt) S rfl rfl dX5_addPoint_7 (by decide) (fun c1 => ?_) (fun c1 => ?_)
      · have hs := hs.trans (cif_t c1)
        refine lv_iload_n S.1 S.2.1 dX5_addPoint_31 rfl (lv_at hl 0 rfl) ?_
        refine lv_aload_n S.1 S.2.1 dX5_addPoint_32 rfl (lv_at hl 1 rfl) ?_
        refine gf_RX5_133 S hK hX (v := d.1 0 0 8) rfl dX5_addPoint_33 ?_
        refine q_icmp_ge (tgt := 58) (xi := x2.toInt) (yi := (d.1 0 0 8).toInt) S rfl rfl dX5_addPoint_36 (by decide) (fun c2 => ?_) (fun c2 => absurd (by assumption) c2)
        refine lv_iconst (v := 0) S.1 S.2.1 dX5_addPoint_58 (by decide) ?_
        refine lv_istore_n (lv' := [(3, .int 0), (2, .int x2), (0, .ref (ad 0 0)), (1, .int p1)]) S.1 S.2.1 dX5_addPoint_59 rfl hl (by decide) rfl (fun ls hl => ?_)
        refine lv_iload_n S.1 S.2.1 dX5_addPoint_60 rfl (lv_at hl 0 rfl) ?_
        refine q_if_eq (tgt := 80) (xi := 0) S rfl dX5_addPoint_61 (by decide) (fun c3 => ?_) (fun c3 => absurd (by omega) c3)
        refine lv_aload_n S.1 S.2.1 dX5_addPoint_80 rfl (lv_at hl 2 rfl) ?_
        refine gf_RX5_133 S hK hX (v := d.1 0 0 8) rfl dX5_addPoint_81 ?_
        refine lv_istore (lv' := [(4, .int (d.1 0 0 8)), (3, .int 0), (2, .int x2), (0, .ref (ad 0 0)), (1, .int p1)]) S.1 S.2.1 dX5_addPoint_84 hl (by decide) rfl (fun ls hl => ?_)
        have L86 : ∀ (n : Nat), ∀ (x4 : Int32) (e86 : Dt), x4.toInt < (n : Int) → 0 ≤ x4.toInt → x4.toInt ≤ 11 → sp_X5_addPoint d p1 = lp_X5_addPoint_86 d p1 x2 n x4 e86 → ∀ (H : Heap) (locs : List Loc), PIC D (MF G ad) MN ad e86 H → va_S (adS MN ad) s.heap H locs → ∀ ls : Array Slot, lv_has ls 5 [(4, .int x4), (3, .int 0), (2, .int x2), (0, .ref (ad 0 0)), (1, .int p1)] → W p l e ({ frames := 0, cells := 0, slots := 0, locals := 0 } : Room) s m [.ref (ad 0 0), .int p1].toArray below meth c H locs 0 0 (MQ below (qW none D (MF G ad) MN ad (sp_X5_addPoint d p1)) [.ref (ad 0 0), .int p1].toArray s 0 0 (adS MN ad)) (F0 m 86 ls []) := by
          intro n
          induction n with
          | zero => intro x4 e86 hms v86_0 v86_1 hs H locs hX hS ls hl; omega
          | succ n ih86 =>
            intro x4 e86 hms v86_0 v86_1 hs H locs hX hS ls hl
            have hs := hs.trans (st_X5_addPoint_86.eq_1 d p1 x2 (lp_X5_addPoint_86 d p1 x2 n) x4 e86)
            have e7 := v86_0
            refine lv_iload S.1 S.2.1 dX5_addPoint_86 (lv_at hl 0 rfl) ?_
            refine lv_iload_n S.1 S.2.1 dX5_addPoint_88 rfl (lv_at hl 2 rfl) ?_
            refine q_icmp_le (tgt := 150) (xi := x4.toInt) (yi := x2.toInt) S rfl rfl dX5_addPoint_89 (by decide) (fun c4 => ?_) (fun c4 => ?_)
            · have hs := hs.trans (cif_t c4)
              refine lv_aload_n S.1 S.2.1 dX5_addPoint_150 rfl (lv_at hl 3 rfl) ?_
              refine gf_RX5_28 S hK hX dX5_addPoint_151 ?_
              refine lv_iload_n S.1 S.2.1 dX5_addPoint_154 rfl (lv_at hl 2 rfl) ?_
              refine lv_aload_n S.1 S.2.1 dX5_addPoint_155 rfl (lv_at hl 3 rfl) ?_
              refine gf_RX5_16 S hK hX dX5_addPoint_156 ?_
              refine lv_iload_n S.1 S.2.1 dX5_addPoint_159 rfl (lv_at hl 4 rfl) ?_
              refine al_M4 S hK hX (by omega) (by omega) (z := e86.1 4 0 (ix p1)) rfl dX5_addPoint_160 ?_
              refine as_M9 S hK hX hS (by omega) (by omega) dX5_addPoint_161 (fun H locs hX hS => ?_)
              refine lv_aload_n S.1 S.2.1 dX5_addPoint_162 rfl (lv_at hl 3 rfl) ?_
              refine gf_RX5_31 S hK hX dX5_addPoint_163 ?_
              refine lv_iload_n S.1 S.2.1 dX5_addPoint_166 rfl (lv_at hl 2 rfl) ?_
              refine lv_aload_n S.1 S.2.1 dX5_addPoint_167 rfl (lv_at hl 3 rfl) ?_
              refine gf_RX5_22 S hK hX dX5_addPoint_168 ?_
              refine lv_iload_n S.1 S.2.1 dX5_addPoint_171 rfl (lv_at hl 4 rfl) ?_
              refine al_M6 S hK hX (by omega) (by omega) (z := e86.1 6 0 (ix p1)) rfl dX5_addPoint_172 ?_
              refine as_M10 S hK hX hS (by omega) (by omega) dX5_addPoint_173 (fun H locs hX hS => ?_)
              refine lv_aload_n S.1 S.2.1 dX5_addPoint_174 rfl (lv_at hl 3 rfl) ?_
              refine gf_RX5_34 S hK hX dX5_addPoint_175 ?_
              refine lv_iload_n S.1 S.2.1 dX5_addPoint_178 rfl (lv_at hl 2 rfl) ?_
              refine lv_aload_n S.1 S.2.1 dX5_addPoint_179 rfl (lv_at hl 3 rfl) ?_
              refine gf_RX5_19 S hK hX dX5_addPoint_180 ?_
              refine lv_iload_n S.1 S.2.1 dX5_addPoint_183 rfl (lv_at hl 4 rfl) ?_
              refine al_M5 S hK hX (by omega) (by omega) (z := e86.1 5 0 (ix p1)) rfl dX5_addPoint_184 ?_
              refine as_M11 S hK hX hS (by omega) (by omega) dX5_addPoint_185 (fun H locs hX hS => ?_)
              refine lv_aload_n S.1 S.2.1 dX5_addPoint_186 rfl (lv_at hl 3 rfl) ?_
              refine lv_dup S.1 S.2.1 dX5_addPoint_187 rfl ?_
              refine gf_RX5_133 S hK hX (v := e86.1 0 0 8) rfl dX5_addPoint_188 ?_
              refine lv_iload_n S.1 S.2.1 dX5_addPoint_191 rfl (lv_at hl 1 rfl) ?_
              refine q_if_eq (tgt := 199) (xi := 0) S rfl dX5_addPoint_192 (by decide) (fun c5 => ?_) (fun c5 => absurd (by omega) c5)
              refine lv_iconst (v := 1) S.1 S.2.1 dX5_addPoint_199 (by decide) ?_
              refine lv_iadd S.1 S.2.1 dX5_addPoint_200 ?_
              refine pf_RX5_133 S hK hX hS dX5_addPoint_201 (fun H locs hX hS => ?_)
              exact wV S hr hlk hs hX hS dX5_addPoint_204
            · have hs := hs.trans (cif_f c4)
              refine lv_iload_n S.1 S.2.1 dX5_addPoint_92 rfl (lv_at hl 1 rfl) ?_
              refine q_if_ne (tgt := 150) (xi := 0) S rfl dX5_addPoint_93 (by decide) (fun c6 => absurd (by omega) c6) (fun c6 => ?_)
              have e6 : 1 ≤ x4.toInt := by omega
              have e8 := ts1 (x := x4) (dn3 v86_0)
              have e5 : 0 ≤ (x4 - 1).toInt := by omega
              have e4 : (x4 - 1).toInt < 13 := by omega
              have e3 : x4.toInt < 13 := by omega
              refine lv_aload_n S.1 S.2.1 dX5_addPoint_96 rfl (lv_at hl 3 rfl) ?_
              refine gf_RX5_28 S hK hX dX5_addPoint_97 ?_
              refine lv_iload S.1 S.2.1 dX5_addPoint_100 (lv_at hl 0 rfl) ?_
              refine lv_aload_n S.1 S.2.1 dX5_addPoint_102 rfl (lv_at hl 3 rfl) ?_
              refine gf_RX5_28 S hK hX dX5_addPoint_103 ?_
              refine lv_iload S.1 S.2.1 dX5_addPoint_106 (lv_at hl 0 rfl) ?_
              refine lv_iconst (v := 1) S.1 S.2.1 dX5_addPoint_108 (by decide) ?_
              refine lv_isub S.1 S.2.1 dX5_addPoint_109 ?_
              refine al_M9 S hK hX e5 e4 (z := e86.1 9 0 (ix (x4 - 1))) rfl dX5_addPoint_110 ?_
              refine as_M9 S hK hX hS v86_0 e3 dX5_addPoint_111 (fun H locs hX hS => ?_)
              refine lv_aload_n S.1 S.2.1 dX5_addPoint_112 rfl (lv_at hl 3 rfl) ?_
              refine gf_RX5_31 S hK hX dX5_addPoint_113 ?_
              refine lv_iload S.1 S.2.1 dX5_addPoint_116 (lv_at hl 0 rfl) ?_
              refine lv_aload_n S.1 S.2.1 dX5_addPoint_118 rfl (lv_at hl 3 rfl) ?_
              refine gf_RX5_31 S hK hX dX5_addPoint_119 ?_
              refine lv_iload S.1 S.2.1 dX5_addPoint_122 (lv_at hl 0 rfl) ?_
              refine lv_iconst (v := 1) S.1 S.2.1 dX5_addPoint_124 (by decide) ?_
              refine lv_isub S.1 S.2.1 dX5_addPoint_125 ?_
              refine al_M10 S hK hX e5 e4 (z := e86.1 10 0 (ix (x4 - 1))) rfl dX5_addPoint_126 ?_
              refine as_M10 S hK hX hS v86_0 e3 dX5_addPoint_127 (fun H locs hX hS => ?_)
              refine lv_aload_n S.1 S.2.1 dX5_addPoint_128 rfl (lv_at hl 3 rfl) ?_
              refine gf_RX5_34 S hK hX dX5_addPoint_129 ?_
              refine lv_iload S.1 S.2.1 dX5_addPoint_132 (lv_at hl 0 rfl) ?_
              refine lv_aload_n S.1 S.2.1 dX5_addPoint_134 rfl (lv_at hl 3 rfl) ?_
              refine gf_RX5_34 S hK hX dX5_addPoint_135 ?_
              refine lv_iload S.1 S.2.1 dX5_addPoint_138 (lv_at hl 0 rfl) ?_
              refine lv_iconst (v := 1) S.1 S.2.1 dX5_addPoint_140 (by decide) ?_
              refine lv_isub S.1 S.2.1 dX5_addPoint_141 ?_
              refine al_M11 S hK hX e5 e4 (z := e86.1 11 0 (ix (x4 - 1))) rfl dX5_addPoint_142 ?_
              refine as_M11 S hK hX hS v86_0 e3 dX5_addPoint_143 (fun H locs hX hS => ?_)
              refine lv_iinc (v := x4 + (-1)) (lv' := [(4, .int (x4 + (-1))), (3, .int 0), (2, .int x2), (0, .ref (ad 0 0)), (1, .int p1)]) S.1 S.2.1 dX5_addPoint_144 hl (k := 0) rfl (by rfl) (by decide) rfl (fun ls hl => ?_)
              refine lv_goto (tgt := 86) S.1 S.2.1 dX5_addPoint_147 (by decide) ?_
              have e9 : ((x4 + (-1))).toInt = x4.toInt - 1 := tim1 (dn3 v86_0)
              exact ih86 (x4 + (-1)) (uv (uv (uv e86 9 0 (ix x4) (e86.1 9 0 (ix (x4 - 1)))) 10 0 (ix x4) (e86.1 10 0 (ix (x4 - 1)))) 11 0 (ix x4) (e86.1 11 0 (ix (x4 - 1)))) (dn1 e9 hms) (dn2 e9 e6) (dn4 e9 v86_1) hs _ _ hX hS _ (lv_sub hl [0, 1, 2, 3, 4] rfl)
        exact L86 16 (d.1 0 0 8) d (by omega) (by omega) (by omega) hs _ _ hX hS _ (lv_sub hl [0, 1, 2, 3, 4] rfl)
      · have hs := hs.trans (cif_f c1)
        refine lv_aload_n S.1 S.2.1 dX5_addPoint_10 rfl (lv_at hl 1 rfl) ?_
        refine gf_RX5_28 S hK hX dX5_addPoint_11 ?_
        refine lv_iload_n S.1 S.2.1 dX5_addPoint_14 rfl (lv_at hl 0 rfl) ?_
        refine al_M9 S hK hX (by omega) (by omega) (z := d.1 9 0 (ix x2)) rfl dX5_addPoint_15 ?_
        refine lv_aload_n S.1 S.2.1 dX5_addPoint_16 rfl (lv_at hl 1 rfl) ?_
        refine gf_RX5_16 S hK hX dX5_addPoint_17 ?_
        refine lv_iload_n S.1 S.2.1 dX5_addPoint_20 rfl (lv_at hl 2 rfl) ?_
        refine al_M4 S hK hX (by omega) (by omega) (z := d.1 4 0 (ix p1)) rfl dX5_addPoint_21 ?_
        refine q_icmp_ge (tgt := 31) (xi := (d.1 9 0 (ix x2)).toInt) (yi := (d.1 4 0 (ix p1)).toInt) S rfl rfl dX5_addPoint_22 (by decide) (fun c7 => ?_) (fun c7 => ?_)
        · have hs := hs.trans (cif_t c7)
          refine lv_iload_n S.1 S.2.1 dX5_addPoint_31 rfl (lv_at hl 0 rfl) ?_
          refine lv_aload_n S.1 S.2.1 dX5_addPoint_32 rfl (lv_at hl 1 rfl) ?_
          refine gf_RX5_133 S hK hX (v := d.1 0 0 8) rfl dX5_addPoint_33 ?_
          refine q_icmp_ge (tgt := 58) (xi := x2.toInt) (yi := (d.1 0 0 8).toInt) S rfl rfl dX5_addPoint_36 (by decide) (fun c8 => absurd c8 (by assumption)) (fun c8 => ?_)
          refine lv_aload_n S.1 S.2.1 dX5_addPoint_39 rfl (lv_at hl 1 rfl) ?_
          refine gf_RX5_28 S hK hX dX5_addPoint_40 ?_
          refine lv_iload_n S.1 S.2.1 dX5_addPoint_43 rfl (lv_at hl 0 rfl) ?_
          refine al_M9 S hK hX (by omega) (by omega) (z := d.1 9 0 (ix x2)) rfl dX5_addPoint_44 ?_
          refine lv_aload_n S.1 S.2.1 dX5_addPoint_45 rfl (lv_at hl 1 rfl) ?_
          refine gf_RX5_16 S hK hX dX5_addPoint_46 ?_
          refine lv_iload_n S.1 S.2.1 dX5_addPoint_49 rfl (lv_at hl 2 rfl) ?_
          refine al_M4 S hK hX (by omega) (by omega) (z := d.1 4 0 (ix p1)) rfl dX5_addPoint_50 ?_
          refine q_icmp_ne (tgt := 58) (xi := (d.1 9 0 (ix x2)).toInt) (yi := (d.1 4 0 (ix p1)).toInt) S rfl rfl dX5_addPoint_51 (by decide) (fun c9 => ?_) (fun c9 => ?_)
          · have hs := hs.trans (cif_f c9)
            refine lv_iconst (v := 0) S.1 S.2.1 dX5_addPoint_58 (by decide) ?_
            refine lv_istore_n (lv' := [(3, .int 0), (2, .int x2), (0, .ref (ad 0 0)), (1, .int p1)]) S.1 S.2.1 dX5_addPoint_59 rfl hl (by decide) rfl (fun ls hl => ?_)
            refine lv_iload_n S.1 S.2.1 dX5_addPoint_60 rfl (lv_at hl 0 rfl) ?_
            refine q_if_eq (tgt := 80) (xi := 0) S rfl dX5_addPoint_61 (by decide) (fun c10 => ?_) (fun c10 => absurd (by omega) c10)
            refine lv_aload_n S.1 S.2.1 dX5_addPoint_80 rfl (lv_at hl 2 rfl) ?_
            refine gf_RX5_133 S hK hX (v := d.1 0 0 8) rfl dX5_addPoint_81 ?_
            refine lv_istore (lv' := [(4, .int (d.1 0 0 8)), (3, .int 0), (2, .int x2), (0, .ref (ad 0 0)), (1, .int p1)]) S.1 S.2.1 dX5_addPoint_84 hl (by decide) rfl (fun ls hl => ?_)
            have L86 : ∀ (n : Nat), ∀ (x4 : Int32) (e86 : Dt), x4.toInt < (n : Int) → 0 ≤ x4.toInt → x4.toInt ≤ 11 → sp_X5_addPoint d p1 = lp_X5_addPoint_86 d p1 x2 n x4 e86 → ∀ (H : Heap) (locs : List Loc), PIC D (MF G ad) MN ad e86 H → va_S (adS MN ad) s.heap H locs → ∀ ls : Array Slot, lv_has ls 5 [(4, .int x4), (3, .int 0), (2, .int x2), (0, .ref (ad 0 0)), (1, .int p1)] → W p l e ({ frames := 0, cells := 0, slots := 0, locals := 0 } : Room) s m [.ref (ad 0 0), .int p1].toArray below meth c H locs 0 0 (MQ below (qW none D (MF G ad) MN ad (sp_X5_addPoint d p1)) [.ref (ad 0 0), .int p1].toArray s 0 0 (adS MN ad)) (F0 m 86 ls []) := by
              intro n
              induction n with
              | zero => intro x4 e86 hms v86_0 v86_1 hs H locs hX hS ls hl; omega
              | succ n ih86 =>
                intro x4 e86 hms v86_0 v86_1 hs H locs hX hS ls hl
                have hs := hs.trans (st_X5_addPoint_86.eq_1 d p1 x2 (lp_X5_addPoint_86 d p1 x2 n) x4 e86)
                have e7 := v86_0
                refine lv_iload S.1 S.2.1 dX5_addPoint_86 (lv_at hl 0 rfl) ?_
                refine lv_iload_n S.1 S.2.1 dX5_addPoint_88 rfl (lv_at hl 2 rfl) ?_
                refine q_icmp_le (tgt := 150) (xi := x4.toInt) (yi := x2.toInt) S rfl rfl dX5_addPoint_89 (by decide) (fun c11 => ?_) (fun c11 => ?_)
                · have hs := hs.trans (cif_t c11)
                  refine lv_aload_n S.1 S.2.1 dX5_addPoint_150 rfl (lv_at hl 3 rfl) ?_
                  refine gf_RX5_28 S hK hX dX5_addPoint_151 ?_
                  refine lv_iload_n S.1 S.2.1 dX5_addPoint_154 rfl (lv_at hl 2 rfl) ?_
                  refine lv_aload_n S.1 S.2.1 dX5_addPoint_155 rfl (lv_at hl 3 rfl) ?_
                  refine gf_RX5_16 S hK hX dX5_addPoint_156 ?_
                  refine lv_iload_n S.1 S.2.1 dX5_addPoint_159 rfl (lv_at hl 4 rfl) ?_
                  refine al_M4 S hK hX (by omega) (by omega) (z := e86.1 4 0 (ix p1)) rfl dX5_addPoint_160 ?_
                  refine as_M9 S hK hX hS (by omega) (by omega) dX5_addPoint_161 (fun H locs hX hS => ?_)
                  refine lv_aload_n S.1 S.2.1 dX5_addPoint_162 rfl (lv_at hl 3 rfl) ?_
                  refine gf_RX5_31 S hK hX dX5_addPoint_163 ?_
                  refine lv_iload_n S.1 S.2.1 dX5_addPoint_166 rfl (lv_at hl 2 rfl) ?_
                  refine lv_aload_n S.1 S.2.1 dX5_addPoint_167 rfl (lv_at hl 3 rfl) ?_
                  refine gf_RX5_22 S hK hX dX5_addPoint_168 ?_
                  refine lv_iload_n S.1 S.2.1 dX5_addPoint_171 rfl (lv_at hl 4 rfl) ?_
                  refine al_M6 S hK hX (by omega) (by omega) (z := e86.1 6 0 (ix p1)) rfl dX5_addPoint_172 ?_
                  refine as_M10 S hK hX hS (by omega) (by omega) dX5_addPoint_173 (fun H locs hX hS => ?_)
                  refine lv_aload_n S.1 S.2.1 dX5_addPoint_174 rfl (lv_at hl 3 rfl) ?_
                  refine gf_RX5_34 S hK hX dX5_addPoint_175 ?_
                  refine lv_iload_n S.1 S.2.1 dX5_addPoint_178 rfl (lv_at hl 2 rfl) ?_
                  refine lv_aload_n S.1 S.2.1 dX5_addPoint_179 rfl (lv_at hl 3 rfl) ?_
                  refine gf_RX5_19 S hK hX dX5_addPoint_180 ?_
                  refine lv_iload_n S.1 S.2.1 dX5_addPoint_183 rfl (lv_at hl 4 rfl) ?_
                  refine al_M5 S hK hX (by omega) (by omega) (z := e86.1 5 0 (ix p1)) rfl dX5_addPoint_184 ?_
                  refine as_M11 S hK hX hS (by omega) (by omega) dX5_addPoint_185 (fun H locs hX hS => ?_)
                  refine lv_aload_n S.1 S.2.1 dX5_addPoint_186 rfl (lv_at hl 3 rfl) ?_
                  refine lv_dup S.1 S.2.1 dX5_addPoint_187 rfl ?_
                  refine gf_RX5_133 S hK hX (v := e86.1 0 0 8) rfl dX5_addPoint_188 ?_
                  refine lv_iload_n S.1 S.2.1 dX5_addPoint_191 rfl (lv_at hl 1 rfl) ?_
                  refine q_if_eq (tgt := 199) (xi := 0) S rfl dX5_addPoint_192 (by decide) (fun c12 => ?_) (fun c12 => absurd (by omega) c12)
                  refine lv_iconst (v := 1) S.1 S.2.1 dX5_addPoint_199 (by decide) ?_
                  refine lv_iadd S.1 S.2.1 dX5_addPoint_200 ?_
                  refine pf_RX5_133 S hK hX hS dX5_addPoint_201 (fun H locs hX hS => ?_)
                  exact wV S hr hlk hs hX hS dX5_addPoint_204
                · have hs := hs.trans (cif_f c11)
                  refine lv_iload_n S.1 S.2.1 dX5_addPoint_92 rfl (lv_at hl 1 rfl) ?_
                  refine q_if_ne (tgt := 150) (xi := 0) S rfl dX5_addPoint_93 (by decide) (fun c13 => absurd (by omega) c13) (fun c13 => ?_)
                  have e6 : 1 ≤ x4.toInt := by omega
                  have e8 := ts1 (x := x4) (dn3 v86_0)
                  have e5 : 0 ≤ (x4 - 1).toInt := by omega
                  have e4 : (x4 - 1).toInt < 13 := by omega
                  have e3 : x4.toInt < 13 := by omega
                  refine lv_aload_n S.1 S.2.1 dX5_addPoint_96 rfl (lv_at hl 3 rfl) ?_
                  refine gf_RX5_28 S hK hX dX5_addPoint_97 ?_
                  refine lv_iload S.1 S.2.1 dX5_addPoint_100 (lv_at hl 0 rfl) ?_
                  refine lv_aload_n S.1 S.2.1 dX5_addPoint_102 rfl (lv_at hl 3 rfl) ?_
                  refine gf_RX5_28 S hK hX dX5_addPoint_103 ?_
                  refine lv_iload S.1 S.2.1 dX5_addPoint_106 (lv_at hl 0 rfl) ?_
                  refine lv_iconst (v := 1) S.1 S.2.1 dX5_addPoint_108 (by decide) ?_
                  refine lv_isub S.1 S.2.1 dX5_addPoint_109 ?_
                  refine al_M9 S hK hX e5 e4 (z := e86.1 9 0 (ix (x4 - 1))) rfl dX5_addPoint_110 ?_
                  refine as_M9 S hK hX hS v86_0 e3 dX5_addPoint_111 (fun H locs hX hS => ?_)
                  refine lv_aload_n S.1 S.2.1 dX5_addPoint_112 rfl (lv_at hl 3 rfl) ?_
                  refine gf_RX5_31 S hK hX dX5_addPoint_113 ?_
                  refine lv_iload S.1 S.2.1 dX5_addPoint_116 (lv_at hl 0 rfl) ?_
                  refine lv_aload_n S.1 S.2.1 dX5_addPoint_118 rfl (lv_at hl 3 rfl) ?_
                  refine gf_RX5_31 S hK hX dX5_addPoint_119 ?_
                  refine lv_iload S.1 S.2.1 dX5_addPoint_122 (lv_at hl 0 rfl) ?_
                  refine lv_iconst (v := 1) S.1 S.2.1 dX5_addPoint_124 (by decide) ?_
                  refine lv_isub S.1 S.2.1 dX5_addPoint_125 ?_
                  refine al_M10 S hK hX e5 e4 (z := e86.1 10 0 (ix (x4 - 1))) rfl dX5_addPoint_126 ?_
                  refine as_M10 S hK hX hS v86_0 e3 dX5_addPoint_127 (fun H locs hX hS => ?_)
                  refine lv_aload_n S.1 S.2.1 dX5_addPoint_128 rfl (lv_at hl 3 rfl) ?_
                  refine gf_RX5_34 S hK hX dX5_addPoint_129 ?_
                  refine lv_iload S.1 S.2.1 dX5_addPoint_132 (lv_at hl 0 rfl) ?_
                  refine lv_aload_n S.1 S.2.1 dX5_addPoint_134 rfl (lv_at hl 3 rfl) ?_
                  refine gf_RX5_34 S hK hX dX5_addPoint_135 ?_
                  refine lv_iload S.1 S.2.1 dX5_addPoint_138 (lv_at hl 0 rfl) ?_
                  refine lv_iconst (v := 1) S.1 S.2.1 dX5_addPoint_140 (by decide) ?_
                  refine lv_isub S.1 S.2.1 dX5_addPoint_141 ?_
                  refine al_M11 S hK hX e5 e4 (z := e86.1 11 0 (ix (x4 - 1))) rfl dX5_addPoint_142 ?_
                  refine as_M11 S hK hX hS v86_0 e3 dX5_addPoint_143 (fun H locs hX hS => ?_)
                  refine lv_iinc (v := x4 + (-1)) (lv' := [(4, .int (x4 + (-1))), (3, .int 0), (2, .int x2), (0, .ref (ad 0 0)), (1, .int p1)]) S.1 S.2.1 dX5_addPoint_144 hl (k := 0) rfl (by rfl) (by decide) rfl (fun ls hl => ?_)
                  refine lv_goto (tgt := 86) S.1 S.2.1 dX5_addPoint_147 (by decide) ?_
                  have e9 : ((x4 + (-1))).toInt = x4.toInt - 1 := tim1 (dn3 v86_0)
                  exact ih86 (x4 + (-1)) (uv (uv (uv e86 9 0 (ix x4) (e86.1 9 0 (ix (x4 - 1)))) 10 0 (ix x4) (e86.1 10 0 (ix (x4 - 1)))) 11 0 (ix x4) (e86.1 11 0 (ix (x4 - 1)))) (dn1 e9 hms) (dn2 e9 e6) (dn4 e9 v86_1) hs _ _ hX hS _ (lv_sub hl [0, 1, 2, 3, 4] rfl)
            exact L86 16 (d.1 0 0 8) d (by omega) (by omega) (by omega) hs _ _ hX hS _ (lv_sub hl [0, 1, 2, 3, 4] rfl)
          · have hs := hs.trans (cif_t c9)
            refine lv_iconst (v := 1) S.1 S.2.1 dX5_addPoint_54 (by decide) ?_
            refine lv_goto (tgt := 59) S.1 S.2.1 dX5_addPoint_55 (by decide) ?_
            refine lv_istore_n (lv' := [(3, .int 1), (2, .int x2), (0, .ref (ad 0 0)), (1, .int p1)]) S.1 S.2.1 dX5_addPoint_59 rfl hl (by decide) rfl (fun ls hl => ?_)
            refine lv_iload_n S.1 S.2.1 dX5_addPoint_60 rfl (lv_at hl 0 rfl) ?_
            refine q_if_eq (tgt := 80) (xi := 1) S rfl dX5_addPoint_61 (by decide) (fun c14 => absurd c14 (by omega)) (fun c14 => ?_)
            refine lv_aload_n S.1 S.2.1 dX5_addPoint_64 rfl (lv_at hl 2 rfl) ?_
            refine gf_RX5_34 S hK hX dX5_addPoint_65 ?_
            refine lv_iload_n S.1 S.2.1 dX5_addPoint_68 rfl (lv_at hl 1 rfl) ?_
            refine al_M11 S hK hX (by omega) (by omega) (z := d.1 11 0 (ix x2)) rfl dX5_addPoint_69 ?_
            refine lv_aload_n S.1 S.2.1 dX5_addPoint_70 rfl (lv_at hl 2 rfl) ?_
            refine gf_RX5_19 S hK hX dX5_addPoint_71 ?_
            refine lv_iload_n S.1 S.2.1 dX5_addPoint_74 rfl (lv_at hl 3 rfl) ?_
            refine al_M5 S hK hX (by omega) (by omega) (z := d.1 5 0 (ix p1)) rfl dX5_addPoint_75 ?_
            refine q_icmp_le (tgt := 80) (xi := (d.1 11 0 (ix x2)).toInt) (yi := (d.1 5 0 (ix p1)).toInt) S rfl rfl dX5_addPoint_76 (by decide) (fun c15 => ?_) (fun c15 => ?_)
            · have hs := hs.trans (cif_t c15)
              refine lv_aload_n S.1 S.2.1 dX5_addPoint_80 rfl (lv_at hl 2 rfl) ?_
              refine gf_RX5_133 S hK hX (v := d.1 0 0 8) rfl dX5_addPoint_81 ?_
              refine lv_istore (lv' := [(4, .int (d.1 0 0 8)), (3, .int 1), (2, .int x2), (0, .ref (ad 0 0)), (1, .int p1)]) S.1 S.2.1 dX5_addPoint_84 hl (by decide) rfl (fun ls hl => ?_)
              refine lv_iload S.1 S.2.1 dX5_addPoint_86 (lv_at hl 0 rfl) ?_
              refine lv_iload_n S.1 S.2.1 dX5_addPoint_88 rfl (lv_at hl 2 rfl) ?_
              refine q_icmp_le (tgt := 150) (xi := (d.1 0 0 8).toInt) (yi := x2.toInt) S rfl rfl dX5_addPoint_89 (by decide) (fun c16 => absurd c16 (by assumption)) (fun c16 => ?_)
              refine lv_iload_n S.1 S.2.1 dX5_addPoint_92 rfl (lv_at hl 1 rfl) ?_
              refine q_if_ne (tgt := 150) (xi := 1) S rfl dX5_addPoint_93 (by decide) (fun c17 => ?_) (fun c17 => absurd c17 (by assumption))
              refine lv_aload_n S.1 S.2.1 dX5_addPoint_150 rfl (lv_at hl 3 rfl) ?_
              refine gf_RX5_28 S hK hX dX5_addPoint_151 ?_
              refine lv_iload_n S.1 S.2.1 dX5_addPoint_154 rfl (lv_at hl 2 rfl) ?_
              refine lv_aload_n S.1 S.2.1 dX5_addPoint_155 rfl (lv_at hl 3 rfl) ?_
              refine gf_RX5_16 S hK hX dX5_addPoint_156 ?_
              refine lv_iload_n S.1 S.2.1 dX5_addPoint_159 rfl (lv_at hl 4 rfl) ?_
              refine al_M4 S hK hX (by omega) (by omega) (z := d.1 4 0 (ix p1)) rfl dX5_addPoint_160 ?_
              refine as_M9 S hK hX hS (by omega) (by omega) dX5_addPoint_161 (fun H locs hX hS => ?_)
              refine lv_aload_n S.1 S.2.1 dX5_addPoint_162 rfl (lv_at hl 3 rfl) ?_
              refine gf_RX5_31 S hK hX dX5_addPoint_163 ?_
              refine lv_iload_n S.1 S.2.1 dX5_addPoint_166 rfl (lv_at hl 2 rfl) ?_
              refine lv_aload_n S.1 S.2.1 dX5_addPoint_167 rfl (lv_at hl 3 rfl) ?_
              refine gf_RX5_22 S hK hX dX5_addPoint_168 ?_
              refine lv_iload_n S.1 S.2.1 dX5_addPoint_171 rfl (lv_at hl 4 rfl) ?_
              refine al_M6 S hK hX (by omega) (by omega) (z := d.1 6 0 (ix p1)) rfl dX5_addPoint_172 ?_
              refine as_M10 S hK hX hS (by omega) (by omega) dX5_addPoint_173 (fun H locs hX hS => ?_)
              refine lv_aload_n S.1 S.2.1 dX5_addPoint_174 rfl (lv_at hl 3 rfl) ?_
              refine gf_RX5_34 S hK hX dX5_addPoint_175 ?_
              refine lv_iload_n S.1 S.2.1 dX5_addPoint_178 rfl (lv_at hl 2 rfl) ?_
              refine lv_aload_n S.1 S.2.1 dX5_addPoint_179 rfl (lv_at hl 3 rfl) ?_
              refine gf_RX5_19 S hK hX dX5_addPoint_180 ?_
              refine lv_iload_n S.1 S.2.1 dX5_addPoint_183 rfl (lv_at hl 4 rfl) ?_
              refine al_M5 S hK hX (by omega) (by omega) (z := d.1 5 0 (ix p1)) rfl dX5_addPoint_184 ?_
              refine as_M11 S hK hX hS (by omega) (by omega) dX5_addPoint_185 (fun H locs hX hS => ?_)
              refine lv_aload_n S.1 S.2.1 dX5_addPoint_186 rfl (lv_at hl 3 rfl) ?_
              refine lv_dup S.1 S.2.1 dX5_addPoint_187 rfl ?_
              refine gf_RX5_133 S hK hX (v := d.1 0 0 8) rfl dX5_addPoint_188 ?_
              refine lv_iload_n S.1 S.2.1 dX5_addPoint_191 rfl (lv_at hl 1 rfl) ?_
              refine q_if_eq (tgt := 199) (xi := 1) S rfl dX5_addPoint_192 (by decide) (fun c18 => absurd c18 (by assumption)) (fun c18 => ?_)
              refine lv_iconst (v := 0) S.1 S.2.1 dX5_addPoint_195 (by decide) ?_
              refine lv_goto (tgt := 200) S.1 S.2.1 dX5_addPoint_196 (by decide) ?_
              refine lv_iadd S.1 S.2.1 dX5_addPoint_200 ?_
              refine pf_RX5_133 S hK hX hS dX5_addPoint_201 (fun H locs hX hS => ?_)
              exact wV S hr hlk hs hX hS dX5_addPoint_204
            · have hs := hs.trans (cif_f c15)
              exact wV S hr hlk hs hX hS dX5_addPoint_79
        · have hs := hs.trans (cif_f c7)
          refine lv_iinc (v := x2 + 1) (lv' := [(2, .int (x2 + 1)), (0, .ref (ad 0 0)), (1, .int p1)]) S.1 S.2.1 dX5_addPoint_25 hl (k := 0) rfl (by rfl) (by decide) rfl (fun ls hl => ?_)
          refine lv_goto (tgt := 2) S.1 S.2.1 dX5_addPoint_28 (by decide) ?_
          have e9 : ((x2 + 1)).toInt = x2.toInt + 1 := ti1 (by omega)
          exact ih2 (x2 + 1) (by omega) (by omega) (by omega) hs _ _ hX hS _ (lv_sub hl [0, 1, 2] rfl)
  exact L2 16 0 (by first | omega | (simp only [Int32.toInt_zero]; omega)) (by first | omega | (simp only [Int32.toInt_zero]; omega)) (by first | omega | (simp only [Int32.toInt_zero]; omega)) hs _ _ hX hS _ (lv_sub hl [0, 1, 2] rfl)
set_option maxRecDepth 100000 in
set_option maxHeartbeats 8000000 in
theorem c_X5_findCurve (l : Launch) (D : va_G) (G : Gc) (ad : Nat → Nat → Nat) (d : Dt) (p1 : Int32) (p2 : Int32) (h0 : 0 ≤ p1.toInt) (h1 : p1.toInt < 6) (h2 : 0 ≤ (d.1 3 0 (ix p1)).toInt) (h3 : (d.1 3 0 (ix p1)).toInt ≤ 12) : Met l yX5_findCurve (wsU yX5_findCurve cX5_findCurve 4 none) ({ frames := 1, cells := 0, slots := 0, locals := 24 } : Room) (va_Pc [.ref (ad 0 0), .int p1, .int p2] (XPre D (tysG G) (MF G ad) MN ad d)) (qW none D (MF G ad) MN ad (sp_X5_findCurve d p1 p2)) 0 0 (adS MN ad) := by
  refine ent (by decide +kernel) (Nat.le_of_ble_eq_true rfl) ?_
  intro p e s m below meth c S hr hlk hpre ls hl
  have S : CallFix p m c cX5_findCurve 4 s [.ref (ad 0 0), .int p1, .int p2].toArray wsL_law RX5 := S
  obtain ⟨hK, hN, hX⟩ := hpre
  have hl : lv_has ls 4 [(0, .ref (ad 0 0)), (1, .int p1), (2, .int p2)] := hl
  have hs := sp_X5_findCurve.eq_1 d p1 p2
  have hS : va_S (adS MN ad) s.heap s.heap [] := va_S.rf
  have e1 := lin (a := 12) (z := 12) (x := p1) (y := d.1 3 0 (ix p1)) rfl (by omega) (by omega) (by omega)
  refine lv_aload_n S.1 S.2.1 dX5_findCurve_0 rfl (lv_at hl 0 rfl) ?_
  refine lv_iconst (v := 0) S.1 S.2.1 dX5_findCurve_1 (by decide) ?_
  refine pf_RX5_133 S hK hX hS dX5_findCurve_2 (fun H locs hX hS => ?_)
  refine lv_bipush (v := 12) S.1 S.2.1 dX5_findCurve_5 (by decide) ?_
  refine lv_iload_n S.1 S.2.1 dX5_findCurve_7 rfl (lv_at hl 1 rfl) ?_
  refine lv_imul S.1 S.2.1 dX5_findCurve_8 ?_
  refine lv_istore_n (lv' := [(3, .int (12 * p1)), (0, .ref (ad 0 0)), (1, .int p1), (2, .int p2)]) S.1 S.2.1 dX5_findCurve_9 rfl hl (by decide) rfl (fun ls hl => ?_)
  have L10 : ∀ (n : Nat), ∀ (x3 : Int32) (e10 : Dt), 12 * p1.toInt + (d.1 3 0 (ix p1)).toInt - x3.toInt < (n : Int) → 12 * p1.toInt ≤ x3.toInt → x3.toInt ≤ 12 * p1.toInt + (d.1 3 0 (ix p1)).toInt → 0 ≤ (e10.1 0 0 8).toInt → (e10.1 0 0 8).toInt ≤ x3.toInt - 12 * p1.toInt → CF d e10 → sp_X5_findCurve d p1 p2 = lp_X5_findCurve_10 d p1 p2 n x3 e10 → ∀ (H : Heap) (locs : List Loc), PIC D (MF G ad) MN ad e10 H → va_S (adS MN ad) s.heap H locs → ∀ ls : Array Slot, lv_has ls 4 [(3, .int x3), (0, .ref (ad 0 0)), (1, .int p1), (2, .int p2)] → W p l e ({ frames := 1, cells := 0, slots := 0, locals := 24 } : Room) s m [.ref (ad 0 0), .int p1, .int p2].toArray below meth c H locs 0 0 (MQ below (qW none D (MF G ad) MN ad (sp_X5_findCurve d p1 p2)) [.ref (ad 0 0), .int p1, .int p2].toArray s 0 0 (adS MN ad)) (F0 m 10 ls []) := by
    intro n
    induction n with
    | zero => intro x3 e10 hms v10_0 v10_1 v10_2 v10_3 v10_4 hs H locs hX hS ls hl; omega
    | succ n ih10 =>
      intro x3 e10 hms v10_0 v10_1 v10_2 v10_3 v10_4 hs H locs hX hS ls hl
      have hs := hs.trans (st_X5_findCurve_10.eq_1 d p1 p2 (lp_X5_findCurve_10 d p1 p2 n) x3 e10)
      have e2 : (e10.1 3 0 (ix p1)) = d.1 3 0 (ix p1) := by rw [v10_4.1 3 (by decide) (by decide) (by decide) (by decide)]
      have e3 : (e10.1 3 0 (ix p1)).toInt = (d.1 3 0 (ix p1)).toInt := by rw [e2]
      have e4 : ((12 * p1) + (e10.1 3 0 (ix p1))).toInt = 12 * p1.toInt + (d.1 3 0 (ix p1)).toInt := by rw [e2]; exact e1.1
      refine lv_iload_n S.1 S.2.1 dX5_findCurve_10 rfl (lv_at hl 0 rfl) ?_
      refine lv_bipush (v := 12) S.1 S.2.1 dX5_findCurve_11 (by decide) ?_
      refine lv_iload_n S.1 S.2.1 dX5_findCurve_13 rfl (lv_at hl 2 rfl) ?_
      refine lv_imul S.1 S.2.1 dX5_findCurve_14 ?_
      refine lv_aload_n S.1 S.2.1 dX5_findCurve_15 rfl (lv_at hl 1 rfl) ?_
      refine gf_RX5_13 S hK hX dX5_findCurve_16 ?_
      refine lv_iload_n S.1 S.2.1 dX5_findCurve_19 rfl (lv_at hl 2 rfl) ?_
      refine al_M3 S hK hX (by omega) (by omega) (z := e10.1 3 0 (ix p1)) rfl dX5_findCurve_20 ?_
      refine lv_iadd S.1 S.2.1 dX5_findCurve_21 ?_
      refine q_icmp_ge (tgt := 46) (xi := x3.toInt) (yi := ((12 * p1) + (e10.1 3 0 (ix p1))).toInt) S rfl rfl dX5_findCurve_22 (by decide) (fun c1 => ?_) (fun c1 => ?_)
      · have hs := hs.trans (cif_t c1)
        exact wV S hr hlk hs hX hS dX5_findCurve_46
      · have hs := hs.trans (cif_f c1)
        refine lv_aload_n S.1 S.2.1 dX5_findCurve_25 rfl (lv_at hl 1 rfl) ?_
        refine gf_RX5_19 S hK hX dX5_findCurve_26 ?_
        refine lv_iload_n S.1 S.2.1 dX5_findCurve_29 rfl (lv_at hl 0 rfl) ?_
        refine al_M5 S hK hX (by omega) (by omega) (z := e10.1 5 0 (ix x3)) rfl dX5_findCurve_30 ?_
        refine lv_iload_n S.1 S.2.1 dX5_findCurve_31 rfl (lv_at hl 3 rfl) ?_
        refine q_icmp_gt (tgt := 40) (xi := (e10.1 5 0 (ix x3)).toInt) (yi := p2.toInt) S rfl rfl dX5_findCurve_32 (by decide) (fun c2 => ?_) (fun c2 => ?_)
        · have hs := hs.trans (cif_t c2)
          refine lv_iinc (v := x3 + 1) (lv' := [(3, .int (x3 + 1)), (0, .ref (ad 0 0)), (1, .int p1), (2, .int p2)]) S.1 S.2.1 dX5_findCurve_40 hl (k := 0) rfl (by rfl) (by decide) rfl (fun ls hl => ?_)
          refine lv_goto (tgt := 10) S.1 S.2.1 dX5_findCurve_43 (by decide) ?_
          have e9 : ((x3 + 1)).toInt = x3.toInt + 1 := ti1 (by omega)
          exact ih10 (x3 + 1) e10 (by omega) (by omega) (by omega) (by omega) (by omega) (by first | assumption | exact v10_4.tr (ap_cf _)) hs _ _ hX hS _ (lv_sub hl [0, 1, 2, 3] rfl)
        · have hs := hs.trans (cif_f c2)
          refine lv_aload_n S.1 S.2.1 dX5_findCurve_35 rfl (lv_at hl 1 rfl) ?_
          refine lv_iload_n S.1 S.2.1 dX5_findCurve_36 rfl (lv_at hl 0 rfl) ?_
          refine cWV (rest := []) S (c_X5_addPoint l D G ad e10 x3 (by omega) (by omega) (by omega) (by omega)) gV_RX5_136 ds_X5_addPoint ⟨rfl, rfl⟩ ⟨Nat.le_of_ble_eq_true rfl, Nat.le_of_ble_eq_true rfl⟩ ⟨blindX, recvX hK hX (k := 0) (i := 0) Nat.zero_lt_one rfl rfl, preX hK hN hX _⟩ rfl hl.1 rfl (Nat.le_of_ble_eq_true rfl) ⟨Nat.le_of_ble_eq_true rfl, Nat.le_of_ble_eq_true rfl⟩ dX5_findCurve_37 hS (fun _ h => h) (fun H locs hX hS hfr => ?_)
          have g9 := ap_pt (d := e10) x3 (by omega) (by omega)
          refine lv_iinc (v := x3 + 1) (lv' := [(3, .int (x3 + 1)), (0, .ref (ad 0 0)), (1, .int p1), (2, .int p2)]) S.1 S.2.1 dX5_findCurve_40 hl (k := 0) rfl (by rfl) (by decide) rfl (fun ls hl => ?_)
          refine lv_goto (tgt := 10) S.1 S.2.1 dX5_findCurve_43 (by decide) ?_
          have e9 : ((x3 + 1)).toInt = x3.toInt + 1 := ti1 (by omega)
          exact ih10 (x3 + 1) (sp_X5_addPoint e10 x3) (by omega) (by omega) (by omega) (by omega) (by omega) (by first | assumption | exact v10_4.tr (ap_cf _)) hs _ _ hX hS _ (lv_sub hl [0, 1, 2, 3] rfl)
  exact L10 16 (12 * p1) (uv d 0 0 8 0) (by omega) (by omega) (by omega) (by show 0 ≤ (0 : Int32).toInt; decide) (by show (0 : Int32).toInt ≤ _; rw [Int32.toInt_zero]; omega) (CF.p8 CF.rf) hs _ _ hX hS _ (lv_sub hl [0, 1, 2, 3] rfl)
set_option maxRecDepth 100000 in
set_option maxHeartbeats 8000000 in
theorem c_X5_factorAt (l : Launch) (D : va_G) (G : Gc) (ad : Nat → Nat → Nat) (d : Dt) (p1 : Int32) (p2 : Int32) (p3 : Int32) (h0 : 0 ≤ p1.toInt) (h1 : p1.toInt < 6) (h2 : 0 ≤ (d.1 3 0 (ix p1)).toInt) (h3 : (d.1 3 0 (ix p1)).toInt ≤ 12) : Met l yX5_factorAt (wsU yX5_factorAt cX5_factorAt 9 (some .int)) ({ frames := 2, cells := 0, slots := 0, locals := 47 } : Room) (va_Pc [.ref (ad 0 0), .int p1, .int p2, .int p3] (XPre D (tysG G) (MF G ad) MN ad d)) (qW (some (.int (sp_X5_factorAt d p1 p2 p3).1)) D (MF G ad) MN ad (sp_X5_factorAt d p1 p2 p3).2) 0 0 (adS MN ad) := by
  refine ent (by decide +kernel) (Nat.le_of_ble_eq_true rfl) ?_
  intro p e s m below meth c S hr hlk hpre ls hl
  have S : CallFix p m c cX5_factorAt 9 s [.ref (ad 0 0), .int p1, .int p2, .int p3].toArray wsL_law RX5 := S
  obtain ⟨hK, hN, hX⟩ := hpre
  have hl : lv_has ls 9 [(0, .ref (ad 0 0)), (1, .int p1), (2, .int p2), (3, .int p3)] := hl
  have hs := sp_X5_factorAt.eq_1 d p1 p2 p3
  have hS : va_S (adS MN ad) s.heap s.heap [] := va_S.rf
  refine lv_aload_n S.1 S.2.1 dX5_factorAt_0 rfl (lv_at hl 0 rfl) ?_
  refine lv_iload_n S.1 S.2.1 dX5_factorAt_1 rfl (lv_at hl 1 rfl) ?_
  refine lv_iload_n S.1 S.2.1 dX5_factorAt_2 rfl (lv_at hl 3 rfl) ?_
  refine cWV (rest := []) S (c_X5_findCurve l D G ad d p1 p3 (by omega) (by omega) (by omega) (by omega)) gV_RX5_140 ds_X5_findCurve ⟨rfl, rfl⟩ ⟨Nat.le_of_ble_eq_true rfl, Nat.le_of_ble_eq_true rfl⟩ ⟨blindX, recvX hK hX (k := 0) (i := 0) Nat.zero_lt_one rfl rfl, preX hK hN hX _⟩ rfl hl.1 rfl (Nat.le_of_ble_eq_true rfl) ⟨Nat.le_of_ble_eq_true rfl, Nat.le_of_ble_eq_true rfl⟩ dX5_factorAt_3 hS (fun _ h => h) (fun H locs hX hS hfr => ?_)
  have g9 := fc_pt (d := d) (x := p1) (y := p3) (by omega) (by omega)
  refine lv_aload_n S.1 S.2.1 dX5_factorAt_6 rfl (lv_at hl 0 rfl) ?_
  refine gf_RX5_133 S hK hX (v := (sp_X5_findCurve d p1 p3).1 0 0 8) rfl dX5_factorAt_7 ?_
  refine q_if_ne (tgt := 16) (xi := ((sp_X5_findCurve d p1 p3).1 0 0 8).toInt) S rfl dX5_factorAt_10 (by decide) (fun c1 => ?_) (fun c1 => ?_)
  · have hs := hs.trans (cif_f c1)
    have q9 : ¬ ((sp_X5_findCurve d p1 p3).1 0 0 8).toInt = 0 := by assumption
    refine lv_iconst (v := 0) S.1 S.2.1 dX5_factorAt_16 (by decide) ?_
    refine lv_istore (lv' := [(4, .int 0), (0, .ref (ad 0 0)), (1, .int p1), (2, .int p2), (3, .int p3)]) S.1 S.2.1 dX5_factorAt_17 hl (by decide) rfl (fun ls hl => ?_)
    obtain ⟨e19, ee19⟩ : ∃ z : Dt, z = (sp_X5_findCurve d p1 p3) := ⟨_, rfl⟩
    have L19 : ∀ (n : Nat), ∀ (x4 : Int32), (e19.1 0 0 8).toInt - x4.toInt < (n : Int) → 0 ≤ x4.toInt → x4.toInt ≤ (e19.1 0 0 8).toInt → 1 ≤ (e19.1 0 0 8).toInt → (e19.1 0 0 8).toInt ≤ 12 → (x4.toInt = 0 ∨ (e19.1 9 0 (ix (x4 - 1))).toInt < p2.toInt) → sp_X5_factorAt d p1 p2 p3 = lp_X5_factorAt_19 d p1 p2 p3 e19 n x4 → ∀ (H : Heap) (locs : List Loc), PIC D (MF G ad) MN ad e19 H → va_S (adS MN ad) s.heap H locs → ∀ ls : Array Slot, lv_has ls 9 [(4, .int x4), (0, .ref (ad 0 0)), (1, .int p1), (2, .int p2), (3, .int p3)] → W p l e ({ frames := 2, cells := 0, slots := 0, locals := 47 } : Room) s m [.ref (ad 0 0), .int p1, .int p2, .int p3].toArray below meth c H locs 0 0 (MQ below (qW (some (.int (sp_X5_factorAt d p1 p2 p3).1)) D (MF G ad) MN ad (sp_X5_factorAt d p1 p2 p3).2) [.ref (ad 0 0), .int p1, .int p2, .int p3].toArray s 0 0 (adS MN ad)) (F0 m 19 ls []) := by
      intro n
      induction n with
      | zero => intro x4 hms v19_0 v19_1 v19_2 v19_3 v19_4 hs H locs hX hS ls hl; omega
      | succ n ih19 =>
        intro x4 hms v19_0 v19_1 v19_2 v19_3 v19_4 hs H locs hX hS ls hl
        have hs := hs.trans (st_X5_factorAt_19.eq_1 d p1 p2 p3 e19 (lp_X5_factorAt_19 d p1 p2 p3 e19 n) x4)
        refine lv_iload S.1 S.2.1 dX5_factorAt_19 (lv_at hl 0 rfl) ?_
        refine lv_aload_n S.1 S.2.1 dX5_factorAt_21 rfl (lv_at hl 1 rfl) ?_
        refine gf_RX5_133 S hK hX (v := e19.1 0 0 8) rfl dX5_factorAt_22 ?_
        refine q_icmp_ge (tgt := 45) (xi := x4.toInt) (yi := (e19.1 0 0 8).toInt) S rfl rfl dX5_factorAt_25 (by decide) (fun c2 => ?_) (fun c2 => ?_)
        · have hs := hs.trans (cif_t c2)
          refine lv_iload S.1 S.2.1 dX5_factorAt_45 (lv_at hl 0 rfl) ?_
          refine lv_aload_n S.1 S.2.1 dX5_factorAt_47 rfl (lv_at hl 1 rfl) ?_
          refine gf_RX5_133 S hK hX (v := e19.1 0 0 8) rfl dX5_factorAt_48 ?_
          refine q_icmp_ne (tgt := 66) (xi := x4.toInt) (yi := (e19.1 0 0 8).toInt) S rfl rfl dX5_factorAt_51 (by decide) (fun c3 => ?_) (fun c3 => ?_)
          · have hs := hs.trans (cif_f c3)
            refine lv_iload S.1 S.2.1 dX5_factorAt_66 (lv_at hl 0 rfl) ?_
            refine q_if_eq (tgt := 82) (xi := x4.toInt) S rfl dX5_factorAt_68 (by decide) (fun c4 => ?_) (fun c4 => ?_)
            · have hs := hs.trans (cif_t c4)
              refine lv_aload_n S.1 S.2.1 dX5_factorAt_82 rfl (lv_at hl 1 rfl) ?_
              refine gf_RX5_31 S hK hX dX5_factorAt_83 ?_
              refine lv_iload S.1 S.2.1 dX5_factorAt_86 (lv_at hl 0 rfl) ?_
              refine al_M10 S hK hX (by omega) (by omega) (z := e19.1 10 0 (ix x4)) rfl dX5_factorAt_88 ?_
              exact wI S hr hlk hs hX hS dX5_factorAt_89
            · have hs := hs.trans (cif_f c4)
              refine lv_aload_n S.1 S.2.1 dX5_factorAt_71 rfl (lv_at hl 1 rfl) ?_
              refine gf_RX5_28 S hK hX dX5_factorAt_72 ?_
              refine lv_iload S.1 S.2.1 dX5_factorAt_75 (lv_at hl 0 rfl) ?_
              refine al_M9 S hK hX (by omega) (by omega) (z := e19.1 9 0 (ix x4)) rfl dX5_factorAt_77 ?_
              refine lv_iload_n S.1 S.2.1 dX5_factorAt_78 rfl (lv_at hl 3 rfl) ?_
              refine q_icmp_ne (tgt := 90) (xi := (e19.1 9 0 (ix x4)).toInt) (yi := p2.toInt) S rfl rfl dX5_factorAt_79 (by decide) (fun c5 => ?_) (fun c5 => ?_)
              · have hs := hs.trans (cif_f c5)
                have e8 := ts1 (x := x4) (by omega)
                refine lv_aload_n S.1 S.2.1 dX5_factorAt_90 rfl (lv_at hl 1 rfl) ?_
                refine gf_RX5_28 S hK hX dX5_factorAt_91 ?_
                refine lv_iload S.1 S.2.1 dX5_factorAt_94 (lv_at hl 0 rfl) ?_
                refine lv_iconst (v := 1) S.1 S.2.1 dX5_factorAt_96 (by decide) ?_
                refine lv_isub S.1 S.2.1 dX5_factorAt_97 ?_
                refine al_M9 S hK hX (by omega) (by omega) (z := e19.1 9 0 (ix (x4 - 1))) rfl dX5_factorAt_98 ?_
                refine lv_i2l S.1 S.2.1 dX5_factorAt_99 rfl ?_
                refine lv_lstore (lv' := [(5, .long ((e19.1 9 0 (ix (x4 - 1))).toInt64)), (4, .int x4), (0, .ref (ad 0 0)), (1, .int p1), (2, .int p2), (3, .int p3)]) S.1 S.2.1 dX5_factorAt_100 hl (by decide) rfl (fun ls hl => ?_)
                refine lv_aload_n S.1 S.2.1 dX5_factorAt_102 rfl (lv_at hl 2 rfl) ?_
                refine gf_RX5_31 S hK hX dX5_factorAt_103 ?_
                refine lv_iload S.1 S.2.1 dX5_factorAt_106 (lv_at hl 1 rfl) ?_
                refine lv_iconst (v := 1) S.1 S.2.1 dX5_factorAt_108 (by decide) ?_
                refine lv_isub S.1 S.2.1 dX5_factorAt_109 ?_
                refine al_M10 S hK hX (by omega) (by omega) (z := e19.1 10 0 (ix (x4 - 1))) rfl dX5_factorAt_110 ?_
                refine lv_i2l S.1 S.2.1 dX5_factorAt_111 rfl ?_
                refine lv_lstore (lv' := [(7, .long ((e19.1 10 0 (ix (x4 - 1))).toInt64)), (5, .long ((e19.1 9 0 (ix (x4 - 1))).toInt64)), (4, .int x4), (0, .ref (ad 0 0)), (1, .int p1), (2, .int p2), (3, .int p3)]) S.1 S.2.1 dX5_factorAt_112 hl (by decide) rfl (fun ls hl => ?_)
                refine lv_lload S.1 S.2.1 dX5_factorAt_114 (lv_at hl 0 rfl) ?_
                refine lv_aload_n S.1 S.2.1 dX5_factorAt_116 rfl (lv_at hl 3 rfl) ?_
                refine gf_RX5_31 S hK hX dX5_factorAt_117 ?_
                refine lv_iload S.1 S.2.1 dX5_factorAt_120 (lv_at hl 2 rfl) ?_
                refine al_M10 S hK hX (by omega) (by omega) (z := e19.1 10 0 (ix x4)) rfl dX5_factorAt_122 ?_
                refine lv_i2l S.1 S.2.1 dX5_factorAt_123 rfl ?_
                refine lv_lload S.1 S.2.1 dX5_factorAt_124 (lv_at hl 0 rfl) ?_
                refine lv_lsub S.1 S.2.1 dX5_factorAt_126 ?_
                refine lv_iload_n S.1 S.2.1 dX5_factorAt_127 rfl (lv_at hl 5 rfl) ?_
                refine lv_i2l S.1 S.2.1 dX5_factorAt_128 rfl ?_
                refine lv_lload S.1 S.2.1 dX5_factorAt_129 (lv_at hl 1 rfl) ?_
                refine lv_lsub S.1 S.2.1 dX5_factorAt_131 ?_
                refine lv_lmul S.1 S.2.1 dX5_factorAt_132 ?_
                refine lv_aload_n S.1 S.2.1 dX5_factorAt_133 rfl (lv_at hl 3 rfl) ?_
                refine gf_RX5_28 S hK hX dX5_factorAt_134 ?_
                refine lv_iload S.1 S.2.1 dX5_factorAt_137 (lv_at hl 2 rfl) ?_
                refine al_M9 S hK hX (by omega) (by omega) (z := e19.1 9 0 (ix x4)) rfl dX5_factorAt_139 ?_
                refine lv_i2l S.1 S.2.1 dX5_factorAt_140 rfl ?_
                refine lv_lload S.1 S.2.1 dX5_factorAt_141 (lv_at hl 1 rfl) ?_
                refine lv_lsub S.1 S.2.1 dX5_factorAt_143 ?_
                refine lv_ldiv S.1 S.2.1 dX5_factorAt_144 (nzsub (by omega)) ?_
                refine lv_ladd S.1 S.2.1 dX5_factorAt_145 ?_
                refine lv_l2i S.1 S.2.1 dX5_factorAt_146 rfl ?_
                exact wI S hr hlk hs hX hS dX5_factorAt_147
              · have hs := hs.trans (cif_t c5)
                refine lv_aload_n S.1 S.2.1 dX5_factorAt_82 rfl (lv_at hl 1 rfl) ?_
                refine gf_RX5_31 S hK hX dX5_factorAt_83 ?_
                refine lv_iload S.1 S.2.1 dX5_factorAt_86 (lv_at hl 0 rfl) ?_
                refine al_M10 S hK hX (by omega) (by omega) (z := e19.1 10 0 (ix x4)) rfl dX5_factorAt_88 ?_
                exact wI S hr hlk hs hX hS dX5_factorAt_89
          · have hs := hs.trans (cif_t c3)
            have e8 := ts1 (x := e19.1 0 0 8) (by omega)
            refine lv_aload_n S.1 S.2.1 dX5_factorAt_54 rfl (lv_at hl 1 rfl) ?_
            refine gf_RX5_31 S hK hX dX5_factorAt_55 ?_
            refine lv_aload_n S.1 S.2.1 dX5_factorAt_58 rfl (lv_at hl 1 rfl) ?_
            refine gf_RX5_133 S hK hX (v := e19.1 0 0 8) rfl dX5_factorAt_59 ?_
            refine lv_iconst (v := 1) S.1 S.2.1 dX5_factorAt_62 (by decide) ?_
            refine lv_isub S.1 S.2.1 dX5_factorAt_63 ?_
            refine al_M10 S hK hX (by omega) (by omega) (z := e19.1 10 0 (ix ((e19.1 0 0 8) - 1))) rfl dX5_factorAt_64 ?_
            exact wI S hr hlk hs hX hS dX5_factorAt_65
        · have hs := hs.trans (cif_f c2)
          refine lv_aload_n S.1 S.2.1 dX5_factorAt_28 rfl (lv_at hl 1 rfl) ?_
          refine gf_RX5_28 S hK hX dX5_factorAt_29 ?_
          refine lv_iload S.1 S.2.1 dX5_factorAt_32 (lv_at hl 0 rfl) ?_
          refine al_M9 S hK hX (by omega) (by omega) (z := e19.1 9 0 (ix x4)) rfl dX5_factorAt_34 ?_
          refine lv_iload_n S.1 S.2.1 dX5_factorAt_35 rfl (lv_at hl 3 rfl) ?_
          refine q_icmp_ge (tgt := 45) (xi := (e19.1 9 0 (ix x4)).toInt) (yi := p2.toInt) S rfl rfl dX5_factorAt_36 (by decide) (fun c6 => ?_) (fun c6 => ?_)
          · have hs := hs.trans (cif_t c6)
            refine lv_iload S.1 S.2.1 dX5_factorAt_45 (lv_at hl 0 rfl) ?_
            refine lv_aload_n S.1 S.2.1 dX5_factorAt_47 rfl (lv_at hl 1 rfl) ?_
            refine gf_RX5_133 S hK hX (v := e19.1 0 0 8) rfl dX5_factorAt_48 ?_
            refine q_icmp_ne (tgt := 66) (xi := x4.toInt) (yi := (e19.1 0 0 8).toInt) S rfl rfl dX5_factorAt_51 (by decide) (fun c7 => ?_) (fun c7 => ?_)
            · have hs := hs.trans (cif_f c7)
              refine lv_iload S.1 S.2.1 dX5_factorAt_66 (lv_at hl 0 rfl) ?_
              refine q_if_eq (tgt := 82) (xi := x4.toInt) S rfl dX5_factorAt_68 (by decide) (fun c8 => ?_) (fun c8 => ?_)
              · have hs := hs.trans (cif_t c8)
                refine lv_aload_n S.1 S.2.1 dX5_factorAt_82 rfl (lv_at hl 1 rfl) ?_
                refine gf_RX5_31 S hK hX dX5_factorAt_83 ?_
                refine lv_iload S.1 S.2.1 dX5_factorAt_86 (lv_at hl 0 rfl) ?_
                refine al_M10 S hK hX (by omega) (by omega) (z := e19.1 10 0 (ix x4)) rfl dX5_factorAt_88 ?_
                exact wI S hr hlk hs hX hS dX5_factorAt_89
              · have hs := hs.trans (cif_f c8)
                refine lv_aload_n S.1 S.2.1 dX5_factorAt_71 rfl (lv_at hl 1 rfl) ?_
                refine gf_RX5_28 S hK hX dX5_factorAt_72 ?_
                refine lv_iload S.1 S.2.1 dX5_factorAt_75 (lv_at hl 0 rfl) ?_
                refine al_M9 S hK hX (by omega) (by omega) (z := e19.1 9 0 (ix x4)) rfl dX5_factorAt_77 ?_
                refine lv_iload_n S.1 S.2.1 dX5_factorAt_78 rfl (lv_at hl 3 rfl) ?_
                refine q_icmp_ne (tgt := 90) (xi := (e19.1 9 0 (ix x4)).toInt) (yi := p2.toInt) S rfl rfl dX5_factorAt_79 (by decide) (fun c9 => ?_) (fun c9 => ?_)
                · have hs := hs.trans (cif_f c9)
                  have e8 := ts1 (x := x4) (by omega)
                  refine lv_aload_n S.1 S.2.1 dX5_factorAt_90 rfl (lv_at hl 1 rfl) ?_
                  refine gf_RX5_28 S hK hX dX5_factorAt_91 ?_
                  refine lv_iload S.1 S.2.1 dX5_factorAt_94 (lv_at hl 0 rfl) ?_
                  refine lv_iconst (v := 1) S.1 S.2.1 dX5_factorAt_96 (by decide) ?_
                  refine lv_isub S.1 S.2.1 dX5_factorAt_97 ?_
                  refine al_M9 S hK hX (by omega) (by omega) (z := e19.1 9 0 (ix (x4 - 1))) rfl dX5_factorAt_98 ?_
                  refine lv_i2l S.1 S.2.1 dX5_factorAt_99 rfl ?_
                  refine lv_lstore (lv' := [(5, .long ((e19.1 9 0 (ix (x4 - 1))).toInt64)), (4, .int x4), (0, .ref (ad 0 0)), (1, .int p1), (2, .int p2), (3, .int p3)]) S.1 S.2.1 dX5_factorAt_100 hl (by decide) rfl (fun ls hl => ?_)
                  refine lv_aload_n S.1 S.2.1 dX5_factorAt_102 rfl (lv_at hl 2 rfl) ?_
                  refine gf_RX5_31 S hK hX dX5_factorAt_103 ?_
                  refine lv_iload S.1 S.2.1 dX5_factorAt_106 (lv_at hl 1 rfl) ?_
                  refine lv_iconst (v := 1) S.1 S.2.1 dX5_factorAt_108 (by decide) ?_
                  refine lv_isub S.1 S.2.1 dX5_factorAt_109 ?_
                  refine al_M10 S hK hX (by omega) (by omega) (z := e19.1 10 0 (ix (x4 - 1))) rfl dX5_factorAt_110 ?_
                  refine lv_i2l S.1 S.2.1 dX5_factorAt_111 rfl ?_
                  refine lv_lstore (lv' := [(7, .long ((e19.1 10 0 (ix (x4 - 1))).toInt64)), (5, .long ((e19.1 9 0 (ix (x4 - 1))).toInt64)), (4, .int x4), (0, .ref (ad 0 0)), (1, .int p1), (2, .int p2), (3, .int p3)]) S.1 S.2.1 dX5_factorAt_112 hl (by decide) rfl (fun ls hl => ?_)
                  refine lv_lload S.1 S.2.1 dX5_factorAt_114 (lv_at hl 0 rfl) ?_
                  refine lv_aload_n S.1 S.2.1 dX5_factorAt_116 rfl (lv_at hl 3 rfl) ?_
                  refine gf_RX5_31 S hK hX dX5_factorAt_117 ?_
                  refine lv_iload S.1 S.2.1 dX5_factorAt_120 (lv_at hl 2 rfl) ?_
                  refine al_M10 S hK hX (by omega) (by omega) (z := e19.1 10 0 (ix x4)) rfl dX5_factorAt_122 ?_
                  refine lv_i2l S.1 S.2.1 dX5_factorAt_123 rfl ?_
                  refine lv_lload S.1 S.2.1 dX5_factorAt_124 (lv_at hl 0 rfl) ?_
                  refine lv_lsub S.1 S.2.1 dX5_factorAt_126 ?_
                  refine lv_iload_n S.1 S.2.1 dX5_factorAt_127 rfl (lv_at hl 5 rfl) ?_
                  refine lv_i2l S.1 S.2.1 dX5_factorAt_128 rfl ?_
                  refine lv_lload S.1 S.2.1 dX5_factorAt_129 (lv_at hl 1 rfl) ?_
                  refine lv_lsub S.1 S.2.1 dX5_factorAt_131 ?_
                  refine lv_lmul S.1 S.2.1 dX5_factorAt_132 ?_
                  refine lv_aload_n S.1 S.2.1 dX5_factorAt_133 rfl (lv_at hl 3 rfl) ?_
                  refine gf_RX5_28 S hK hX dX5_factorAt_134 ?_
                  refine lv_iload S.1 S.2.1 dX5_factorAt_137 (lv_at hl 2 rfl) ?_
                  refine al_M9 S hK hX (by omega) (by omega) (z := e19.1 9 0 (ix x4)) rfl dX5_factorAt_139 ?_
                  refine lv_i2l S.1 S.2.1 dX5_factorAt_140 rfl ?_
                  refine lv_lload S.1 S.2.1 dX5_factorAt_141 (lv_at hl 1 rfl) ?_
                  refine lv_lsub S.1 S.2.1 dX5_factorAt_143 ?_
                  refine lv_ldiv S.1 S.2.1 dX5_factorAt_144 (nzsub (by omega)) ?_
                  refine lv_ladd S.1 S.2.1 dX5_factorAt_145 ?_
                  refine lv_l2i S.1 S.2.1 dX5_factorAt_146 rfl ?_
                  exact wI S hr hlk hs hX hS dX5_factorAt_147
                · have hs := hs.trans (cif_t c9)
                  refine lv_aload_n S.1 S.2.1 dX5_factorAt_82 rfl (lv_at hl 1 rfl) ?_
                  refine gf_RX5_31 S hK hX dX5_factorAt_83 ?_
                  refine lv_iload S.1 S.2.1 dX5_factorAt_86 (lv_at hl 0 rfl) ?_
                  refine al_M10 S hK hX (by omega) (by omega) (z := e19.1 10 0 (ix x4)) rfl dX5_factorAt_88 ?_
                  exact wI S hr hlk hs hX hS dX5_factorAt_89
            · have hs := hs.trans (cif_t c7)
              have e8 := ts1 (x := e19.1 0 0 8) (by omega)
              refine lv_aload_n S.1 S.2.1 dX5_factorAt_54 rfl (lv_at hl 1 rfl) ?_
              refine gf_RX5_31 S hK hX dX5_factorAt_55 ?_
              refine lv_aload_n S.1 S.2.1 dX5_factorAt_58 rfl (lv_at hl 1 rfl) ?_
              refine gf_RX5_133 S hK hX (v := e19.1 0 0 8) rfl dX5_factorAt_59 ?_
              refine lv_iconst (v := 1) S.1 S.2.1 dX5_factorAt_62 (by decide) ?_
              refine lv_isub S.1 S.2.1 dX5_factorAt_63 ?_
              refine al_M10 S hK hX (by omega) (by omega) (z := e19.1 10 0 (ix ((e19.1 0 0 8) - 1))) rfl dX5_factorAt_64 ?_
              exact wI S hr hlk hs hX hS dX5_factorAt_65
          · have hs := hs.trans (cif_f c6)
            refine lv_iinc (v := x4 + 1) (lv' := [(4, .int (x4 + 1)), (0, .ref (ad 0 0)), (1, .int p1), (2, .int p2), (3, .int p3)]) S.1 S.2.1 dX5_factorAt_39 hl (k := 0) rfl (by rfl) (by decide) rfl (fun ls hl => ?_)
            refine lv_goto (tgt := 19) S.1 S.2.1 dX5_factorAt_42 (by decide) ?_
            have e9 : ((x4 + 1)).toInt = x4.toInt + 1 := ti1 (by omega)
            exact ih19 (x4 + 1) (by omega) (by omega) (by omega) (by omega) (by omega) (Or.inr (by rw [a1s]; omega)) hs _ _ hX hS _ (lv_sub hl [0, 1, 2, 3, 4] rfl)
    subst ee19
    exact L19 16 0 (by first | omega | (simp only [Int32.toInt_zero]; omega)) (by first | omega | (simp only [Int32.toInt_zero]; omega)) (by first | omega | (simp only [Int32.toInt_zero]; omega)) (by omega) (by omega) (Or.inl rfl) hs _ _ hX hS _ (lv_sub hl [0, 1, 2, 3, 4] rfl)
  · have hs := hs.trans (cif_t c1)
    refine lv_ldc S.1 S.2.1 S.2.2.2.1 (S.2.2.2.2 _ wKI_RX5_144) dX5_factorAt_13 ?_
    exact wI S hr hlk hs hX hS dX5_factorAt_15
