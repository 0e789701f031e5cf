def f_X12_walk_L58 (p1 : Int32) (p2 : Int32) (p3 : Int32) (p4 : Int32) (σ : ab_F) (K : Int32 → Option (Int32 × ab_F)) : Nat → Int32 → Int32 → Option (Int32 × ab_F)
  | 0, _, _ => none
  | n + 1, u5, u6 => (if (256 : Int32) ≤ u6 then (K u5) else ab_lt ((u6 - u6 / (16 : Int32) * (16 : Int32))) (fun x11 => (if ((p3 >>> ((u6 / (16 : Int32)) &&& 31)) &&& (1 : Int32)) = (1 : Int32) then (f_X12_areBeside (u6 / (16 : Int32)) x11 σ).bind (fun q15 => (if (ab_b q15) = 0 then ab_lt ((u5 ||| (0 : Int32))) (fun x17 => ab_lt (u6 + (1 : Int32)) (fun x18 => (f_X12_walk_L58 p1 p2 p3 p4 σ K n x17 x18))) else ab_ck (ab_ib ((28 : Int32) + x11) 450) ((f_X12_its p1 (3 : Int32) σ).bind (fun q20 => (if q20 < (σ 86 (((28 : Int32) + x11)).toNatClampNeg) then ab_lt ((u5 ||| (0 : Int32))) (fun x22 => ab_lt (u6 + (1 : Int32)) (fun x23 => (f_X12_walk_L58 p1 p2 p3 p4 σ K n x22 x23))) else ab_lt ((u5 ||| ((1 : Int32) <<< (x11 &&& 31)))) (fun x24 => ab_lt (u6 + (1 : Int32)) (fun x25 => (f_X12_walk_L58 p1 p2 p3 p4 σ K n x24 x25)))))))) else ab_lt ((u5 ||| (0 : Int32))) (fun x13 => ab_lt (u6 + (1 : Int32)) (fun x14 => (f_X12_walk_L58 p1 p2 p3 p4 σ K n x13 x14))))))
set_option maxRecDepth 100000 in
set_option maxHeartbeats 4000000 in
theorem e_X12_walk_L58 {sc : Nat × (Nat → Int32)} {r : Option Nat × Option Nat} {p1 : Int32} {p2 : Int32} {p3 : Int32} {p4 : Int32} {σ : ab_F} {K : Int32 → Option (Int32 × ab_F)} {res : (Int32 × ab_F)} (hK : ∀ (u5 : Int32), K u5 = some res → ab_E mX12_walk 2 sc 149 [some (.ref 85), some (.int p1), some (.int p2), none, some (.int p4), some (.int u5), none, none, none] [] (σ, r) (fun v S => v = some (.int res.1) ∧ S = (res.2, r))) : ∀ (n : Nat) (u5 : Int32) (u6 : Int32), f_X12_walk_L58 p1 p2 p3 p4 σ K n u5 u6 = some res → ab_E mX12_walk 2 sc 58 [some (.ref 85), some (.int p1), some (.int p2), some (.int p3), some (.int p4), some (.int u5), some (.int u6), none, none] [] (σ, r) (fun v S => v = some (.int res.1) ∧ S = (res.2, r)) := by
  intro n
  induction n with
  | zero =>
    intro u5 u6 h
    rw [f_X12_walk_L58] at h
    cases h
  | succ n ih =>
    intro u5 u6 h
    rw [f_X12_walk_L58] at h
    refine z_iload (pc2 := 60) rfl dX12_walk_58 rfl ?_
    refine z_sipush (pc2 := 63) rfl dX12_walk_60 lt_s_256 ?_
    refine z_icmp_ge (pc2 := 66) (tgt := 149) rfl dX12_walk_63 (by decide) (fun hc10 => ?_) (fun hc10 => ?_)
    · replace h := ab_pos hc10 h
      refine z_fgt [true, true, true, false, true, true, false, false, false] (L2 := [some (.ref 85), some (.int p1), some (.int p2), none, some (.int p4), some (.int u5), none, none, none]) rfl ?_
      exact hK _ h
    · replace h := ab_neg hc10 h
      refine z_iload (pc2 := 68) rfl dX12_walk_66 rfl ?_
      refine z_bipush (pc2 := 70) rfl dX12_walk_68 lt_b_16 ?_
      refine z_irem (pc2 := 71) rfl dX12_walk_70 (by decide) ?_
      obtain ⟨x11, hxx11, h⟩ := ab_lt_e h
      refine z_top hxx11 ?_
      refine z_istore (pc2 := 73) (L2 := [some (.ref 85), some (.int p1), some (.int p2), some (.int p3), some (.int p4), some (.int u5), some (.int u6), some (.int x11), none]) rfl dX12_walk_71 (by decide) rfl rfl ?_
      refine z_iload_n (pc2 := 74) rfl dX12_walk_73 rfl ?_
      refine z_iload (pc2 := 76) rfl dX12_walk_74 rfl ?_
      refine z_bipush (pc2 := 78) rfl dX12_walk_76 lt_b_16 ?_
      refine z_idiv (pc2 := 79) rfl dX12_walk_78 (by decide) ?_
      refine z_ishr (pc2 := 80) rfl dX12_walk_79 ?_
      refine z_iconst (pc2 := 81) rfl dX12_walk_80 lt_i_1 ?_
      refine z_iand (pc2 := 82) rfl dX12_walk_81 ?_
      refine z_iconst (pc2 := 83) rfl dX12_walk_82 lt_i_1 ?_
      refine z_icmp_ne (pc2 := 86) (tgt := 122) rfl dX12_walk_83 (by decide) (fun hc12 => ?_) (fun hc12 => ?_)
      · replace h := ab_neg hc12 h
        refine z_iconst (pc2 := 123) rfl dX12_walk_122 lt_i_0 ?_
        refine z_istore (pc2 := 125) (L2 := [some (.ref 85), some (.int p1), some (.int p2), some (.int p3), some (.int p4), some (.int u5), some (.int u6), some (.int x11), some (.int (0 : Int32))]) rfl dX12_walk_123 (by decide) rfl rfl ?_
        refine z_iload (pc2 := 127) rfl dX12_walk_125 rfl ?_
        refine z_iload (pc2 := 129) rfl dX12_walk_127 rfl ?_
        refine z_if_eq (pc2 := 132) (tgt := 139) rfl dX12_walk_129 (by decide) (fun hc => ?_) (fun hc => ?_)
        · refine z_iconst (pc2 := 140) rfl dX12_walk_139 lt_i_0 ?_
          refine z_ior (pc2 := 141) rfl dX12_walk_140 ?_
          obtain ⟨x13, hxx13, h⟩ := ab_lt_e h
          refine z_top hxx13 ?_
          refine z_istore (pc2 := 143) (L2 := [some (.ref 85), some (.int p1), some (.int p2), some (.int p3), some (.int p4), some (.int x13), some (.int u6), some (.int x11), some (.int (0 : Int32))]) rfl dX12_walk_141 (by decide) rfl rfl ?_
          obtain ⟨x14, hxx14, h⟩ := ab_lt_e h
          refine z_iinc (pc2 := 146) (v := x14) (L2 := [some (.ref 85), some (.int p1), some (.int p2), some (.int p3), some (.int p4), some (.int x13), some (.int x14), some (.int x11), some (.int (0 : Int32))]) rfl dX12_walk_143 rfl (by rw [hxx14]; rfl) (by decide) rfl rfl ?_
          refine ab_goto (tgt := 58) dX12_walk_146 (by decide) ?_
          refine z_fgt [true, true, true, true, true, true, true, false, false] (L2 := [some (.ref 85), some (.int p1), some (.int p2), some (.int p3), some (.int p4), some (.int x13), some (.int x14), none, none]) rfl ?_
          exact ih _ _ h
        · exact absurd hc (by decide)
      · replace h := ab_pos hc12 h
        refine z_iload (pc2 := 88) rfl dX12_walk_86 rfl ?_
        refine z_bipush (pc2 := 90) rfl dX12_walk_88 lt_b_16 ?_
        refine z_idiv (pc2 := 91) rfl dX12_walk_90 (by decide) ?_
        refine z_iload (pc2 := 93) rfl dX12_walk_91 rfl ?_
        obtain ⟨q15, hq15, h⟩ := ab_bnd h
        refine z_callSi [.int (u6 / (16 : Int32)), .int x11] [some (.int (u6 / (16 : Int32))), some (.int x11), none, none] (pc2 := 96) rfl rfl dX12_walk_93 ok_X12_areBeside ⟨fun _ => rfl, fun _ => Nat.le_of_ble_eq_true rfl⟩ rfl wd_1236 wd_1237 rfl (e_X12_areBeside hq15) ?_
        refine z_if_eq (pc2 := 99) (tgt := 122) rfl dX12_walk_96 (by decide) (fun hc16 => ?_) (fun hc16 => ?_)
        · replace h := ab_pos hc16 h
          refine z_iconst (pc2 := 123) rfl dX12_walk_122 lt_i_0 ?_
          refine z_istore (pc2 := 125) (L2 := [some (.ref 85), some (.int p1), some (.int p2), some (.int p3), some (.int p4), some (.int u5), some (.int u6), some (.int x11), some (.int (0 : Int32))]) rfl dX12_walk_123 (by decide) rfl rfl ?_
          refine z_iload (pc2 := 127) rfl dX12_walk_125 rfl ?_
          refine z_iload (pc2 := 129) rfl dX12_walk_127 rfl ?_
          refine z_if_eq (pc2 := 132) (tgt := 139) rfl dX12_walk_129 (by decide) (fun hc => ?_) (fun hc => ?_)
          · refine z_iconst (pc2 := 140) rfl dX12_walk_139 lt_i_0 ?_
            refine z_ior (pc2 := 141) rfl dX12_walk_140 ?_
            obtain ⟨x17, hxx17, h⟩ := ab_lt_e h
            refine z_top hxx17 ?_
            refine z_istore (pc2 := 143) (L2 := [some (.ref 85), some (.int p1), some (.int p2), some (.int p3), some (.int p4), some (.int x17), some (.int u6), some (.int x11), some (.int (0 : Int32))]) rfl dX12_walk_141 (by decide) rfl rfl ?_
            obtain ⟨x18, hxx18, h⟩ := ab_lt_e h
            refine z_iinc (pc2 := 146) (v := x18) (L2 := [some (.ref 85), some (.int p1), some (.int p2), some (.int p3), some (.int p4), some (.int x17), some (.int x18), some (.int x11), some (.int (0 : Int32))]) rfl dX12_walk_143 rfl (by rw [hxx18]; rfl) (by decide) rfl rfl ?_
            refine ab_goto (tgt := 58) dX12_walk_146 (by decide) ?_
            refine z_fgt [true, true, true, true, true, true, true, false, false] (L2 := [some (.ref 85), some (.int p1), some (.int p2), some (.int p3), some (.int p4), some (.int x17), some (.int x18), none, none]) rfl ?_
            exact ih _ _ h
          · exact absurd hc (by decide)
        · replace h := ab_neg hc16 h
          refine z_aload_n (pc2 := 100) rfl dX12_walk_99 rfl ?_
          refine z_getR 85 12 0 86 (pc2 := 103) rfl dX12_walk_100 rfl rfl ff_12_0 wd_977 rfl ?_
          refine z_bipush (pc2 := 105) rfl dX12_walk_103 lt_b_28 ?_
          refine z_iload (pc2 := 107) rfl dX12_walk_105 rfl ?_
          refine z_iadd (pc2 := 108) rfl dX12_walk_107 ?_
          obtain ⟨hb19, h⟩ := ab_ck_e h
          refine z_iald 86 (pc2 := 109) (j := (((28 : Int32) + x11)).toNatClampNeg) rfl dX12_walk_108 rfl rfl hb19 rfl ?_
          refine z_aload_n (pc2 := 110) rfl dX12_walk_109 rfl ?_
          refine z_iload_n (pc2 := 111) rfl dX12_walk_110 rfl ?_
          refine z_iconst (pc2 := 112) rfl dX12_walk_111 lt_i_3 ?_
          obtain ⟨q20, hq20, h⟩ := ab_bnd h
          refine z_callVi 85 [.int p1, .int (3 : Int32)] [some (.ref 85), some (.int p1), some (.int (3 : Int32))] (pc2 := 115) rfl rfl dX12_walk_112 ok_X12_its ⟨fun _ => rfl, fun _ => Nat.le_of_ble_eq_true rfl⟩ rfl rv_85 wd_1129 wd_1131 wd_31 rfl (e_X12_its hq20) ?_
          refine z_icmp_gt (pc2 := 118) (tgt := 122) rfl dX12_walk_115 (by decide) (fun hc21 => ?_) (fun hc21 => ?_)
          · replace h := ab_pos hc21 h
            refine z_iconst (pc2 := 123) rfl dX12_walk_122 lt_i_0 ?_
            refine z_istore (pc2 := 125) (L2 := [some (.ref 85), some (.int p1), some (.int p2), some (.int p3), some (.int p4), some (.int u5), some (.int u6), some (.int x11), some (.int (0 : Int32))]) rfl dX12_walk_123 (by decide) rfl rfl ?_
            refine z_iload (pc2 := 127) rfl dX12_walk_125 rfl ?_
            refine z_iload (pc2 := 129) rfl dX12_walk_127 rfl ?_
            refine z_if_eq (pc2 := 132) (tgt := 139) rfl dX12_walk_129 (by decide) (fun hc => ?_) (fun hc => ?_)
            · refine z_iconst (pc2 := 140) rfl dX12_walk_139 lt_i_0 ?_
              refine z_ior (pc2 := 141) rfl dX12_walk_140 ?_
              obtain ⟨x22, hxx22, h⟩ := ab_lt_e h
              refine z_top hxx22 ?_
              refine z_istore (pc2 := 143) (L2 := [some (.ref 85), some (.int p1), some (.int p2), some (.int p3), some (.int p4), some (.int x22), some (.int u6), some (.int x11), some (.int (0 : Int32))]) rfl dX12_walk_141 (by decide) rfl rfl ?_
              obtain ⟨x23, hxx23, h⟩ := ab_lt_e h
              refine z_iinc (pc2 := 146) (v := x23) (L2 := [some (.ref 85), some (.int p1), some (.int p2), some (.int p3), some (.int p4), some (.int x22), some (.int x23), some (.int x11), some (.int (0 : Int32))]) rfl dX12_walk_143 rfl (by rw [hxx23]; rfl) (by decide) rfl rfl ?_
              refine ab_goto (tgt := 58) dX12_walk_146 (by decide) ?_
              refine z_fgt [true, true, true, true, true, true, true, false, false] (L2 := [some (.ref 85), some (.int p1), some (.int p2), some (.int p3), some (.int p4), some (.int x22), some (.int x23), none, none]) rfl ?_
              exact ih _ _ h
            · exact absurd hc (by decide)
          · replace h := ab_neg hc21 h
            refine z_iconst (pc2 := 119) rfl dX12_walk_118 lt_i_1 ?_
            refine ab_goto (tgt := 123) dX12_walk_119 (by decide) ?_
            refine z_istore (pc2 := 125) (L2 := [some (.ref 85), some (.int p1), some (.int p2), some (.int p3), some (.int p4), some (.int u5), some (.int u6), some (.int x11), some (.int (1 : Int32))]) rfl dX12_walk_123 (by decide) rfl rfl ?_
            refine z_iload (pc2 := 127) rfl dX12_walk_125 rfl ?_
            refine z_iload (pc2 := 129) rfl dX12_walk_127 rfl ?_
            refine z_if_eq (pc2 := 132) (tgt := 139) rfl dX12_walk_129 (by decide) (fun hc => ?_) (fun hc => ?_)
            · exact absurd hc (by decide)
            · refine z_iconst (pc2 := 133) rfl dX12_walk_132 lt_i_1 ?_
              refine z_iload (pc2 := 135) rfl dX12_walk_133 rfl ?_
              refine z_ishl (pc2 := 136) rfl dX12_walk_135 ?_
              refine ab_goto (tgt := 140) dX12_walk_136 (by decide) ?_
              refine z_ior (pc2 := 141) rfl dX12_walk_140 ?_
              obtain ⟨x24, hxx24, h⟩ := ab_lt_e h
              refine z_top hxx24 ?_
              refine z_istore (pc2 := 143) (L2 := [some (.ref 85), some (.int p1), some (.int p2), some (.int p3), some (.int p4), some (.int x24), some (.int u6), some (.int x11), some (.int (1 : Int32))]) rfl dX12_walk_141 (by decide) rfl rfl ?_
              obtain ⟨x25, hxx25, h⟩ := ab_lt_e h
              refine z_iinc (pc2 := 146) (v := x25) (L2 := [some (.ref 85), some (.int p1), some (.int p2), some (.int p3), some (.int p4), some (.int x24), some (.int x25), some (.int x11), some (.int (1 : Int32))]) rfl dX12_walk_143 rfl (by rw [hxx25]; rfl) (by decide) rfl rfl ?_
              refine ab_goto (tgt := 58) dX12_walk_146 (by decide) ?_
              refine z_fgt [true, true, true, true, true, true, true, false, false] (L2 := [some (.ref 85), some (.int p1), some (.int p2), some (.int p3), some (.int p4), some (.int x24), some (.int x25), none, none]) rfl ?_
              exact ih _ _ h
def f_X12_walk_L33 (p1 : Int32) (p2 : Int32) (σ : ab_F) (K : Option (Int32 × ab_F)) : Nat → Int32 → Int32 → Option (Int32 × ab_F)
  | 0, _, _ => none
  | n + 1, u3, u4 => (if (16 : Int32) ≤ u4 then (K) else (if ((u3 >>> (p2 &&& 31)) &&& (1 : Int32)) = (1 : Int32) then (some (u4, σ)) else (f_X12_walk_L58 p1 p2 u3 u4 σ (fun (k26 : Int32) => ab_lt (u4 + (1 : Int32)) (fun x27 => (f_X12_walk_L33 p1 p2 σ K n k26 x27))) ab_fu u3 (0 : Int32))))
set_option maxRecDepth 100000 in
set_option maxHeartbeats 4000000 in
theorem e_X12_walk_L33 {sc : Nat × (Nat → Int32)} {r : Option Nat × Option Nat} {p1 : Int32} {p2 : Int32} {σ : ab_F} {K : Option (Int32 × ab_F)} {res : (Int32 × ab_F)} (hK : K = some res → ab_E mX12_walk 2 sc 158 [some (.ref 85), none, none, none, none, none, none, none, none] [] (σ, r) (fun v S => v = some (.int res.1) ∧ S = (res.2, r))) : ∀ (n : Nat) (u3 : Int32) (u4 : Int32), f_X12_walk_L33 p1 p2 σ K n u3 u4 = some res → ab_E mX12_walk 2 sc 33 [some (.ref 85), some (.int p1), some (.int p2), some (.int u3), some (.int u4), none, none, none, none] [] (σ, r) (fun v S => v = some (.int res.1) ∧ S = (res.2, r)) := by
  intro n
  induction n with
  | zero =>
    intro u3 u4 h
    rw [f_X12_walk_L33] at h
    cases h
  | succ n ih =>
    intro u3 u4 h
    rw [f_X12_walk_L33] at h
    refine z_iload (pc2 := 35) rfl dX12_walk_33 rfl ?_
    refine z_bipush (pc2 := 37) rfl dX12_walk_35 lt_b_16 ?_
    refine z_icmp_ge (pc2 := 40) (tgt := 158) rfl dX12_walk_37 (by decide) (fun hc8 => ?_) (fun hc8 => ?_)
    · replace h := ab_pos hc8 h
      refine z_fgt [true, false, false, false, false, false, false, false, false] (L2 := [some (.ref 85), none, none, none, none, none, none, none, none]) rfl ?_
      exact hK  h
    · replace h := ab_neg hc8 h
      refine z_iload_n (pc2 := 41) rfl dX12_walk_40 rfl ?_
      refine z_iload_n (pc2 := 42) rfl dX12_walk_41 rfl ?_
      refine z_ishr (pc2 := 43) rfl dX12_walk_42 ?_
      refine z_iconst (pc2 := 44) rfl dX12_walk_43 lt_i_1 ?_
      refine z_iand (pc2 := 45) rfl dX12_walk_44 ?_
      refine z_iconst (pc2 := 46) rfl dX12_walk_45 lt_i_1 ?_
      refine z_icmp_ne (pc2 := 49) (tgt := 52) rfl dX12_walk_46 (by decide) (fun hc9 => ?_) (fun hc9 => ?_)
      · replace h := ab_neg hc9 h
        refine z_iload_n (pc2 := 53) rfl dX12_walk_52 rfl ?_
        refine z_istore (pc2 := 55) (L2 := [some (.ref 85), some (.int p1), some (.int p2), some (.int u3), some (.int u4), some (.int u3), none, none, none]) rfl dX12_walk_53 (by decide) rfl rfl ?_
        refine z_iconst (pc2 := 56) rfl dX12_walk_55 lt_i_0 ?_
        refine z_istore (pc2 := 58) (L2 := [some (.ref 85), some (.int p1), some (.int p2), some (.int u3), some (.int u4), some (.int u3), some (.int (0 : Int32)), none, none]) rfl dX12_walk_56 (by decide) rfl rfl ?_
        refine z_fgt [true, true, true, true, true, true, true, false, false] (L2 := [some (.ref 85), some (.int p1), some (.int p2), some (.int u3), some (.int u4), some (.int u3), some (.int (0 : Int32)), none, none]) rfl ?_
        refine e_X12_walk_L58 (fun k26 h => ?_) _ _ _ h
        refine z_iload (pc2 := 151) rfl dX12_walk_149 rfl ?_
        refine z_istore_n (pc2 := 152) (L2 := [some (.ref 85), some (.int p1), some (.int p2), some (.int k26), some (.int u4), some (.int k26), none, none, none]) rfl dX12_walk_151 (by decide) rfl rfl ?_
        obtain ⟨x27, hxx27, h⟩ := ab_lt_e h
        refine z_iinc (pc2 := 155) (v := x27) (L2 := [some (.ref 85), some (.int p1), some (.int p2), some (.int k26), some (.int x27), some (.int k26), none, none, none]) rfl dX12_walk_152 rfl (by rw [hxx27]; rfl) (by decide) rfl rfl ?_
        refine ab_goto (tgt := 33) dX12_walk_155 (by decide) ?_
        refine z_fgt [true, true, true, true, true, false, false, false, false] (L2 := [some (.ref 85), some (.int p1), some (.int p2), some (.int k26), some (.int x27), none, none, none, none]) rfl ?_
        exact ih _ _ h
      · replace h := ab_pos hc9 h
        refine z_iload (pc2 := 51) rfl dX12_walk_49 rfl ?_
        exact z_iret dX12_walk_51 rfl rfl (fi_w h)
def f_X12_walk (a1 : Int32) (a2 : Int32) (σ : ab_F) : Option (Int32 × ab_F) := (f_X12_isOne a1 σ).bind (fun q1 => (if (ab_b q1) = 0 then (f_X12_error (1 : Int32) σ).bind (fun q3 => (some (q3.1, q3.2))) else (f_X12_isCell a2 σ).bind (fun q4 => (if (ab_b q4) = 0 then (f_X12_error (1 : Int32) σ).bind (fun q29 => (some (q29.1, q29.2))) else (f_X12_its a1 (2 : Int32) σ).bind (fun q6 => ab_lt (((1 : Int32) <<< (q6 &&& 31))) (fun x7 => (f_X12_walk_L33 a1 a2 σ ((f_X12_error (2 : Int32) σ).bind (fun q28 => (some (q28.1, q28.2)))) ab_fu x7 (0 : Int32))))))))
set_option maxRecDepth 100000 in
set_option maxHeartbeats 4000000 in
theorem e_X12_walk {sc : Nat × (Nat → Int32)} {r : Option Nat × Option Nat} {a1 : Int32} {a2 : Int32} {σ : ab_F} {res : (Int32 × ab_F)} (h : f_X12_walk a1 a2 σ = some res) : ab_E mX12_walk 2 sc 0 [some (.ref 85), some (.int a1), some (.int a2), none, none, none, none, none, none] [] (σ, r) (fun v S => v = some (.int res.1) ∧ S = (res.2, r)) := by
  unfold f_X12_walk at h
  refine z_aload_n (pc2 := 1) rfl dX12_walk_0 rfl ?_
  refine z_iload_n (pc2 := 2) rfl dX12_walk_1 rfl ?_
  obtain ⟨q1, hq1, h⟩ := ab_bnd h
  refine z_callVi 85 [.int a1] [some (.ref 85), some (.int a1)] (pc2 := 5) rfl rfl dX12_walk_2 ok_X12_isOne ⟨fun _ => rfl, fun _ => Nat.le_of_ble_eq_true rfl⟩ rfl rv_85 wd_1121 wd_1123 wd_29 rfl (e_X12_isOne hq1) ?_
  refine z_if_eq (pc2 := 8) (tgt := 15) rfl dX12_walk_5 (by decide) (fun hc2 => ?_) (fun hc2 => ?_)
  · replace h := ab_pos hc2 h
    refine z_aload_n (pc2 := 16) rfl dX12_walk_15 rfl ?_
    refine z_iconst (pc2 := 17) rfl dX12_walk_16 lt_i_1 ?_
    obtain ⟨q3, hq3, h⟩ := ab_bnd h
    refine z_callVi 85 [.int (1 : Int32)] [some (.ref 85), some (.int (1 : Int32))] (pc2 := 20) rfl rfl dX12_walk_17 ok_X12_error ⟨fun _ => rfl, fun _ => Nat.le_of_ble_eq_true rfl⟩ rfl rv_85 wd_1045 wd_1047 wd_16 rfl (e_X12_error hq3) ?_
    exact z_iret dX12_walk_20 rfl rfl (fi_w h)
  · replace h := ab_neg hc2 h
    refine z_iload_n (pc2 := 9) rfl dX12_walk_8 rfl ?_
    obtain ⟨q4, hq4, h⟩ := ab_bnd h
    refine z_callSi [.int a2] [some (.int a2)] (pc2 := 12) rfl rfl dX12_walk_9 ok_X12_isCell ⟨fun _ => rfl, fun _ => Nat.le_of_ble_eq_true rfl⟩ rfl wd_1110 wd_1111 rfl (e_X12_isCell hq4) ?_
    refine z_if_ne (pc2 := 15) (tgt := 21) rfl dX12_walk_12 (by decide) (fun hc5 => ?_) (fun hc5 => ?_)
    · replace h := ab_neg hc5 h
      refine z_iconst (pc2 := 22) rfl dX12_walk_21 lt_i_1 ?_
      refine z_aload_n (pc2 := 23) rfl dX12_walk_22 rfl ?_
      refine z_iload_n (pc2 := 24) rfl dX12_walk_23 rfl ?_
      refine z_iconst (pc2 := 25) rfl dX12_walk_24 lt_i_2 ?_
      obtain ⟨q6, hq6, h⟩ := ab_bnd h
      refine z_callVi 85 [.int a1, .int (2 : Int32)] [some (.ref 85), some (.int a1), some (.int (2 : Int32))] (pc2 := 28) rfl rfl dX12_walk_25 ok_X12_its ⟨fun _ => rfl, fun _ => Nat.le_of_ble_eq_true rfl⟩ rfl rv_85 wd_1129 wd_1131 wd_31 rfl (e_X12_its hq6) ?_
      refine z_ishl (pc2 := 29) rfl dX12_walk_28 ?_
      obtain ⟨x7, hxx7, h⟩ := ab_lt_e h
      refine z_top hxx7 ?_
      refine z_istore_n (pc2 := 30) (L2 := [some (.ref 85), some (.int a1), some (.int a2), some (.int x7), none, none, none, none, none]) rfl dX12_walk_29 (by decide) rfl rfl ?_
      refine z_iconst (pc2 := 31) rfl dX12_walk_30 lt_i_0 ?_
      refine z_istore (pc2 := 33) (L2 := [some (.ref 85), some (.int a1), some (.int a2), some (.int x7), some (.int (0 : Int32)), none, none, none, none]) rfl dX12_walk_31 (by decide) rfl rfl ?_
      refine z_fgt [true, true, true, true, true, false, false, false, false] (L2 := [some (.ref 85), some (.int a1), some (.int a2), some (.int x7), some (.int (0 : Int32)), none, none, none, none]) rfl ?_
      refine e_X12_walk_L33 (fun  h => ?_) _ _ _ h
      refine z_aload_n (pc2 := 159) rfl dX12_walk_158 rfl ?_
      refine z_iconst (pc2 := 160) rfl dX12_walk_159 lt_i_2 ?_
      obtain ⟨q28, hq28, h⟩ := ab_bnd h
      refine z_callVi 85 [.int (2 : Int32)] [some (.ref 85), some (.int (2 : Int32))] (pc2 := 163) rfl rfl dX12_walk_160 ok_X12_error ⟨fun _ => rfl, fun _ => Nat.le_of_ble_eq_true rfl⟩ rfl rv_85 wd_1045 wd_1047 wd_16 rfl (e_X12_error hq28) ?_
      exact z_iret dX12_walk_163 rfl rfl (fi_w h)
    · replace h := ab_pos hc5 h
      refine z_aload_n (pc2 := 16) rfl dX12_walk_15 rfl ?_
      refine z_iconst (pc2 := 17) rfl dX12_walk_16 lt_i_1 ?_
      obtain ⟨q29, hq29, h⟩ := ab_bnd h
      refine z_callVi 85 [.int (1 : Int32)] [some (.ref 85), some (.int (1 : Int32))] (pc2 := 20) rfl rfl dX12_walk_17 ok_X12_error ⟨fun _ => rfl, fun _ => Nat.le_of_ble_eq_true rfl⟩ rfl rv_85 wd_1045 wd_1047 wd_16 rfl (e_X12_error hq29) ?_
      exact z_iret dX12_walk_20 rfl rfl (fi_w h)
def f_X12_council_L39 (p1 : Int32) (p2 : Int32) (p3 : Int32) (σ : ab_F) (K : Int32 → Option (Int32 × ab_F)) : Nat → Int32 → Int32 → Option (Int32 × ab_F)
  | 0, _, _ => none
  | n + 1, u4, u5 => (if (σ 86 5) ≤ u5 then (K u4) else (if ((p3 >>> (u5 &&& 31)) &&& (1 : Int32)) = (1 : Int32) then (f_X12_its u5 (4 : Int32) σ).bind (fun q8 => ab_lt ((u4 ||| q8)) (fun x9 => ab_lt (u5 + (1 : Int32)) (fun x10 => (f_X12_council_L39 p1 p2 p3 σ K n x9 x10)))) else ab_lt ((u4 ||| (0 : Int32))) (fun x6 => ab_lt (u5 + (1 : Int32)) (fun x7 => (f_X12_council_L39 p1 p2 p3 σ K n x6 x7)))))
set_option maxRecDepth 100000 in
set_option maxHeartbeats 4000000 in
theorem e_X12_council_L39 {sc : Nat × (Nat → Int32)} {r : Option Nat × Option Nat} {p1 : Int32} {p2 : Int32} {p3 : Int32} {σ : ab_F} {K : Int32 → Option (Int32 × ab_F)} {res : (Int32 × ab_F)} (hK : ∀ (u4 : Int32), K u4 = some res → ab_E mX12_council 1 sc 82 [some (.ref 85), some (.int p1), some (.int p2), some (.int p3), some (.int u4), none] [] (σ, r) (fun v S => v = some (.int res.1) ∧ S = (res.2, r))) : ∀ (n : Nat) (u4 : Int32) (u5 : Int32), f_X12_council_L39 p1 p2 p3 σ K n u4 u5 = some res → ab_E mX12_council 1 sc 39 [some (.ref 85), some (.int p1), some (.int p2), some (.int p3), some (.int u4), some (.int u5)] [] (σ, r) (fun v S => v = some (.int res.1) ∧ S = (res.2, r)) := by
  intro n
  induction n with
  | zero =>
    intro u4 u5 h
    rw [f_X12_council_L39] at h
    cases h
  | succ n ih =>
    intro u4 u5 h
    rw [f_X12_council_L39] at h
    refine z_iload (pc2 := 41) rfl dX12_council_39 rfl ?_
    refine z_aload_n (pc2 := 42) rfl dX12_council_41 rfl ?_
    refine z_getR 85 12 0 86 (pc2 := 45) rfl dX12_council_42 rfl rfl ff_12_0 wd_977 rfl ?_
    refine z_iconst (pc2 := 46) rfl dX12_council_45 lt_i_5 ?_
    refine z_iald 86 (pc2 := 47) (j := 5) rfl dX12_council_46 rfl rfl (by decide) (by decide) ?_
    refine z_icmp_ge (pc2 := 50) (tgt := 82) rfl dX12_council_47 (by decide) (fun hc4 => ?_) (fun hc4 => ?_)
    · replace h := ab_pos hc4 h
      refine z_fgt [true, true, true, true, true, false] (L2 := [some (.ref 85), some (.int p1), some (.int p2), some (.int p3), some (.int u4), none]) rfl ?_
      exact hK _ h
    · replace h := ab_neg hc4 h
      refine z_iload (pc2 := 52) rfl dX12_council_50 rfl ?_
      refine z_iload_n (pc2 := 53) rfl dX12_council_52 rfl ?_
      refine z_iload (pc2 := 55) rfl dX12_council_53 rfl ?_
      refine z_ishr (pc2 := 56) rfl dX12_council_55 ?_
      refine z_iconst (pc2 := 57) rfl dX12_council_56 lt_i_1 ?_
      refine z_iand (pc2 := 58) rfl dX12_council_57 ?_
      refine z_iconst (pc2 := 59) rfl dX12_council_58 lt_i_1 ?_
      refine z_icmp_ne (pc2 := 62) (tgt := 72) rfl dX12_council_59 (by decide) (fun hc5 => ?_) (fun hc5 => ?_)
      · replace h := ab_neg hc5 h
        refine z_iconst (pc2 := 73) rfl dX12_council_72 lt_i_0 ?_
        refine z_ior (pc2 := 74) rfl dX12_council_73 ?_
        obtain ⟨x6, hxx6, h⟩ := ab_lt_e h
        refine z_top hxx6 ?_
        refine z_istore (pc2 := 76) (L2 := [some (.ref 85), some (.int p1), some (.int p2), some (.int p3), some (.int x6), some (.int u5)]) rfl dX12_council_74 (by decide) rfl rfl ?_
        obtain ⟨x7, hxx7, h⟩ := ab_lt_e h
        refine z_iinc (pc2 := 79) (v := x7) (L2 := [some (.ref 85), some (.int p1), some (.int p2), some (.int p3), some (.int x6), some (.int x7)]) rfl dX12_council_76 rfl (by rw [hxx7]; rfl) (by decide) rfl rfl ?_
        refine ab_goto (tgt := 39) dX12_council_79 (by decide) ?_
        refine z_fgt [true, true, true, true, true, true] (L2 := [some (.ref 85), some (.int p1), some (.int p2), some (.int p3), some (.int x6), some (.int x7)]) rfl ?_
        exact ih _ _ h
      · replace h := ab_pos hc5 h
        refine z_aload_n (pc2 := 63) rfl dX12_council_62 rfl ?_
        refine z_iload (pc2 := 65) rfl dX12_council_63 rfl ?_
        refine z_iconst (pc2 := 66) rfl dX12_council_65 lt_i_4 ?_
        obtain ⟨q8, hq8, h⟩ := ab_bnd h
        refine z_callVi 85 [.int u5, .int (4 : Int32)] [some (.ref 85), some (.int u5), some (.int (4 : Int32))] (pc2 := 69) rfl rfl dX12_council_66 ok_X12_its ⟨fun _ => rfl, fun _ => Nat.le_of_ble_eq_true rfl⟩ rfl rv_85 wd_1129 wd_1131 wd_31 rfl (e_X12_its hq8) ?_
        refine ab_goto (tgt := 73) dX12_council_69 (by decide) ?_
        refine z_ior (pc2 := 74) rfl dX12_council_73 ?_
        obtain ⟨x9, hxx9, h⟩ := ab_lt_e h
        refine z_top hxx9 ?_
        refine z_istore (pc2 := 76) (L2 := [some (.ref 85), some (.int p1), some (.int p2), some (.int p3), some (.int x9), some (.int u5)]) rfl dX12_council_74 (by decide) rfl rfl ?_
        obtain ⟨x10, hxx10, h⟩ := ab_lt_e h
        refine z_iinc (pc2 := 79) (v := x10) (L2 := [some (.ref 85), some (.int p1), some (.int p2), some (.int p3), some (.int x9), some (.int x10)]) rfl dX12_council_76 rfl (by rw [hxx10]; rfl) (by decide) rfl rfl ?_
        refine ab_goto (tgt := 39) dX12_council_79 (by decide) ?_
        refine z_fgt [true, true, true, true, true, true] (L2 := [some (.ref 85), some (.int p1), some (.int p2), some (.int p3), some (.int x9), some (.int x10)]) rfl ?_
        exact ih _ _ h
def f_X12_council_L21 (p1 : Int32) (σ : ab_F) (K : Int32 → Option (Int32 × ab_F)) : Nat → Int32 → Int32 → Option (Int32 × ab_F)
  | 0, _, _ => none
  | n + 1, u2, u3 => (if ((1 : Int32) <<< ((σ 86 5) &&& 31)) ≤ u3 then (K u2) else (f_X12_council_L39 p1 u2 u3 σ (fun (k11 : Int32) => (if u2 < 0 then (if (p1 &&& (k11 ^^^ (-1 : Int32))) = 0 then ab_lt (u3 + (1 : Int32)) (fun x15 => (f_X12_council_L21 p1 σ K n u3 x15)) else ab_lt (u3 + (1 : Int32)) (fun x14 => (f_X12_council_L21 p1 σ K n u2 x14))) else (f_X12_ones u3 σ).bind (fun q16 => (f_X12_ones u2 σ).bind (fun q17 => (if q17 ≤ q16 then ab_lt (u3 + (1 : Int32)) (fun x19 => (f_X12_council_L21 p1 σ K n u2 x19)) else (if (p1 &&& (k11 ^^^ (-1 : Int32))) = 0 then ab_lt (u3 + (1 : Int32)) (fun x22 => (f_X12_council_L21 p1 σ K n u3 x22)) else ab_lt (u3 + (1 : Int32)) (fun x21 => (f_X12_council_L21 p1 σ K n u2 x21)))))))) ab_fu (0 : Int32) (0 : Int32)))
set_option maxRecDepth 100000 in
set_option maxHeartbeats 4000000 in
theorem e_X12_council_L21 {sc : Nat × (Nat → Int32)} {r : Option Nat × Option Nat} {p1 : Int32} {σ : ab_F} {K : Int32 → Option (Int32 × ab_F)} {res : (Int32 × ab_F)} (hK : ∀ (u2 : Int32), K u2 = some res → ab_E mX12_council 1 sc 130 [some (.ref 85), none, some (.int u2), none, none, none] [] (σ, r) (fun v S => v = some (.int res.1) ∧ S = (res.2, r))) : ∀ (n : Nat) (u2 : Int32) (u3 : Int32), f_X12_council_L21 p1 σ K n u2 u3 = some res → ab_E mX12_council 1 sc 21 [some (.ref 85), some (.int p1), some (.int u2), some (.int u3), none, none] [] (σ, r) (fun v S => v = some (.int res.1) ∧ S = (res.2, r)) := by
  intro n
  induction n with
  | zero =>
    intro u2 u3 h
    rw [f_X12_council_L21] at h
    cases h
  | succ n ih =>
    intro u2 u3 h
    rw [f_X12_council_L21] at h
    refine z_iload_n (pc2 := 22) rfl dX12_council_21 rfl ?_
    refine z_iconst (pc2 := 23) rfl dX12_council_22 lt_i_1 ?_
    refine z_aload_n (pc2 := 24) rfl dX12_council_23 rfl ?_
    refine z_getR 85 12 0 86 (pc2 := 27) rfl dX12_council_24 rfl rfl ff_12_0 wd_977 rfl ?_
    refine z_iconst (pc2 := 28) rfl dX12_council_27 lt_i_5 ?_
    refine z_iald 86 (pc2 := 29) (j := 5) rfl dX12_council_28 rfl rfl (by decide) (by decide) ?_
    refine z_ishl (pc2 := 30) rfl dX12_council_29 ?_
    refine z_icmp_ge (pc2 := 33) (tgt := 130) rfl dX12_council_30 (by decide) (fun hc3 => ?_) (fun hc3 => ?_)
    · replace h := ab_pos hc3 h
      refine z_fgt [true, false, true, false, false, false] (L2 := [some (.ref 85), none, some (.int u2), none, none, none]) rfl ?_
      exact hK _ h
    · replace h := ab_neg hc3 h
      refine z_iconst (pc2 := 34) rfl dX12_council_33 lt_i_0 ?_
      refine z_istore (pc2 := 36) (L2 := [some (.ref 85), some (.int p1), some (.int u2), some (.int u3), some (.int (0 : Int32)), none]) rfl dX12_council_34 (by decide) rfl rfl ?_
      refine z_iconst (pc2 := 37) rfl dX12_council_36 lt_i_0 ?_
      refine z_istore (pc2 := 39) (L2 := [some (.ref 85), some (.int p1), some (.int u2), some (.int u3), some (.int (0 : Int32)), some (.int (0 : Int32))]) rfl dX12_council_37 (by decide) rfl rfl ?_
      refine z_fgt [true, true, true, true, true, true] (L2 := [some (.ref 85), some (.int p1), some (.int u2), some (.int u3), some (.int (0 : Int32)), some (.int (0 : Int32))]) rfl ?_
      refine e_X12_council_L39 (fun k11 h => ?_) _ _ _ h
      refine z_iload_n (pc2 := 83) rfl dX12_council_82 rfl ?_
      refine z_if_lt (pc2 := 86) (tgt := 97) rfl dX12_council_83 (by decide) (fun hc12 => ?_) (fun hc12 => ?_)
      · replace h := ab_pos hc12 h
        refine z_iconst (pc2 := 98) rfl dX12_council_97 lt_i_1 ?_
        refine ab_goto (tgt := 102) dX12_council_98 (by decide) ?_
        refine z_istore (pc2 := 104) (L2 := [some (.ref 85), some (.int p1), some (.int u2), some (.int u3), some (.int k11), some (.int (1 : Int32))]) rfl dX12_council_102 (by decide) rfl rfl ?_
        refine z_iload (pc2 := 106) rfl dX12_council_104 rfl ?_
        refine z_if_eq (pc2 := 109) (tgt := 122) rfl dX12_council_106 (by decide) (fun hc => ?_) (fun hc => ?_)
        · exact absurd hc (by decide)
        · refine z_iload_n (pc2 := 110) rfl dX12_council_109 rfl ?_
          refine z_iload (pc2 := 112) rfl dX12_council_110 rfl ?_
          refine z_iconst (pc2 := 113) rfl dX12_council_112 lt_i_m1 ?_
          refine z_ixor (pc2 := 114) rfl dX12_council_113 ?_
          refine z_iand (pc2 := 115) rfl dX12_council_114 ?_
          refine z_if_ne (pc2 := 118) (tgt := 122) rfl dX12_council_115 (by decide) (fun hc13 => ?_) (fun hc13 => ?_)
          · replace h := ab_neg hc13 h
            refine z_iload_n (pc2 := 123) rfl dX12_council_122 rfl ?_
            refine z_istore_n (pc2 := 124) (L2 := [some (.ref 85), some (.int p1), some (.int u2), some (.int u3), some (.int k11), some (.int (1 : Int32))]) rfl dX12_council_123 (by decide) rfl rfl ?_
            obtain ⟨x14, hxx14, h⟩ := ab_lt_e h
            refine z_iinc (pc2 := 127) (v := x14) (L2 := [some (.ref 85), some (.int p1), some (.int u2), some (.int x14), some (.int k11), some (.int (1 : Int32))]) rfl dX12_council_124 rfl (by rw [hxx14]; rfl) (by decide) rfl rfl ?_
            refine ab_goto (tgt := 21) dX12_council_127 (by decide) ?_
            refine z_fgt [true, true, true, true, false, false] (L2 := [some (.ref 85), some (.int p1), some (.int u2), some (.int x14), none, none]) rfl ?_
            exact ih _ _ h
          · replace h := ab_pos hc13 h
            refine z_iload_n (pc2 := 119) rfl dX12_council_118 rfl ?_
            refine ab_goto (tgt := 123) dX12_council_119 (by decide) ?_
            refine z_istore_n (pc2 := 124) (L2 := [some (.ref 85), some (.int p1), some (.int u3), some (.int u3), some (.int k11), some (.int (1 : Int32))]) rfl dX12_council_123 (by decide) rfl rfl ?_
            obtain ⟨x15, hxx15, h⟩ := ab_lt_e h
            refine z_iinc (pc2 := 127) (v := x15) (L2 := [some (.ref 85), some (.int p1), some (.int u3), some (.int x15), some (.int k11), some (.int (1 : Int32))]) rfl dX12_council_124 rfl (by rw [hxx15]; rfl) (by decide) rfl rfl ?_
            refine ab_goto (tgt := 21) dX12_council_127 (by decide) ?_
            refine z_fgt [true, true, true, true, false, false] (L2 := [some (.ref 85), some (.int p1), some (.int u3), some (.int x15), none, none]) rfl ?_
            exact ih _ _ h
      · replace h := ab_neg hc12 h
        refine z_iload_n (pc2 := 87) rfl dX12_council_86 rfl ?_
        obtain ⟨q16, hq16, h⟩ := ab_bnd h
        refine z_callSi [.int u3] [some (.int u3), none, none] (pc2 := 90) rfl rfl dX12_council_87 ok_X12_ones ⟨fun _ => rfl, fun _ => Nat.le_of_ble_eq_true rfl⟩ rfl wd_1141 wd_1142 rfl (e_X12_ones hq16) ?_
        refine z_iload_n (pc2 := 91) rfl dX12_council_90 rfl ?_
        obtain ⟨q17, hq17, h⟩ := ab_bnd h
        refine z_callSi [.int u2] [some (.int u2), none, none] (pc2 := 94) rfl rfl dX12_council_91 ok_X12_ones ⟨fun _ => rfl, fun _ => Nat.le_of_ble_eq_true rfl⟩ rfl wd_1141 wd_1142 rfl (e_X12_ones hq17) ?_
        refine z_icmp_ge (pc2 := 97) (tgt := 101) rfl dX12_council_94 (by decide) (fun hc18 => ?_) (fun hc18 => ?_)
        · replace h := ab_pos hc18 h
          refine z_iconst (pc2 := 102) rfl dX12_council_101 lt_i_0 ?_
          refine z_istore (pc2 := 104) (L2 := [some (.ref 85), some (.int p1), some (.int u2), some (.int u3), some (.int k11), some (.int (0 : Int32))]) rfl dX12_council_102 (by decide) rfl rfl ?_
          refine z_iload (pc2 := 106) rfl dX12_council_104 rfl ?_
          refine z_if_eq (pc2 := 109) (tgt := 122) rfl dX12_council_106 (by decide) (fun hc => ?_) (fun hc => ?_)
          · refine z_iload_n (pc2 := 123) rfl dX12_council_122 rfl ?_
            refine z_istore_n (pc2 := 124) (L2 := [some (.ref 85), some (.int p1), some (.int u2), some (.int u3), some (.int k11), some (.int (0 : Int32))]) rfl dX12_council_123 (by decide) rfl rfl ?_
            obtain ⟨x19, hxx19, h⟩ := ab_lt_e h
            refine z_iinc (pc2 := 127) (v := x19) (L2 := [some (.ref 85), some (.int p1), some (.int u2), some (.int x19), some (.int k11), some (.int (0 : Int32))]) rfl dX12_council_124 rfl (by rw [hxx19]; rfl) (by decide) rfl rfl ?_
            refine ab_goto (tgt := 21) dX12_council_127 (by decide) ?_
            refine z_fgt [true, true, true, true, false, false] (L2 := [some (.ref 85), some (.int p1), some (.int u2), some (.int x19), none, none]) rfl ?_
            exact ih _ _ h
          · exact absurd hc (by decide)
        · replace h := ab_neg hc18 h
          refine z_iconst (pc2 := 98) rfl dX12_council_97 lt_i_1 ?_
          refine ab_goto (tgt := 102) dX12_council_98 (by decide) ?_
          refine z_istore (pc2 := 104) (L2 := [some (.ref 85), some (.int p1), some (.int u2), some (.int u3), some (.int k11), some (.int (1 : Int32))]) rfl dX12_council_102 (by decide) rfl rfl ?_
          refine z_iload (pc2 := 106) rfl dX12_council_104 rfl ?_
          refine z_if_eq (pc2 := 109) (tgt := 122) rfl dX12_council_106 (by decide) (fun hc => ?_) (fun hc => ?_)
          · exact absurd hc (by decide)
          · refine z_iload_n (pc2 := 110) rfl dX12_council_109 rfl ?_
            refine z_iload (pc2 := 112) rfl dX12_council_110 rfl ?_
            refine z_iconst (pc2 := 113) rfl dX12_council_112 lt_i_m1 ?_
            refine z_ixor (pc2 := 114) rfl dX12_council_113 ?_
            refine z_iand (pc2 := 115) rfl dX12_council_114 ?_
            refine z_if_ne (pc2 := 118) (tgt := 122) rfl dX12_council_115 (by decide) (fun hc20 => ?_) (fun hc20 => ?_)
            · replace h := ab_neg hc20 h
              refine z_iload_n (pc2 := 123) rfl dX12_council_122 rfl ?_
              refine z_istore_n (pc2 := 124) (L2 := [some (.ref 85), some (.int p1), some (.int u2), some (.int u3), some (.int k11), some (.int (1 : Int32))]) rfl dX12_council_123 (by decide) rfl rfl ?_
              obtain ⟨x21, hxx21, h⟩ := ab_lt_e h
              refine z_iinc (pc2 := 127) (v := x21) (L2 := [some (.ref 85), some (.int p1), some (.int u2), some (.int x21), some (.int k11), some (.int (1 : Int32))]) rfl dX12_council_124 rfl (by rw [hxx21]; rfl) (by decide) rfl rfl ?_
              refine ab_goto (tgt := 21) dX12_council_127 (by decide) ?_
              refine z_fgt [true, true, true, true, false, false] (L2 := [some (.ref 85), some (.int p1), some (.int u2), some (.int x21), none, none]) rfl ?_
              exact ih _ _ h
            · replace h := ab_pos hc20 h
              refine z_iload_n (pc2 := 119) rfl dX12_council_118 rfl ?_
              refine ab_goto (tgt := 123) dX12_council_119 (by decide) ?_
              refine z_istore_n (pc2 := 124) (L2 := [some (.ref 85), some (.int p1), some (.int u3), some (.int u3), some (.int k11), some (.int (1 : Int32))]) rfl dX12_council_123 (by decide) rfl rfl ?_
              obtain ⟨x22, hxx22, h⟩ := ab_lt_e h
              refine z_iinc (pc2 := 127) (v := x22) (L2 := [some (.ref 85), some (.int p1), some (.int u3), some (.int x22), some (.int k11), some (.int (1 : Int32))]) rfl dX12_council_124 rfl (by rw [hxx22]; rfl) (by decide) rfl rfl ?_
              refine ab_goto (tgt := 21) dX12_council_127 (by decide) ?_
              refine z_fgt [true, true, true, true, false, false] (L2 := [some (.ref 85), some (.int p1), some (.int u3), some (.int x22), none, none]) rfl ?_
              exact ih _ _ h
def f_X12_council (a1 : Int32) (σ : ab_F) : Option (Int32 × ab_F) := (f_X12_in a1 (0 : Int32) (4095 : Int32) σ).bind (fun q1 => (if (ab_b q1) = 0 then (f_X12_error (1 : Int32) σ).bind (fun q26 => (some (q26.1, q26.2))) else (f_X12_council_L21 a1 σ (fun (k23 : Int32) => (if 0 ≤ k23 then (some (k23, σ)) else (f_X12_error (2 : Int32) σ).bind (fun q25 => (some (q25.1, q25.2))))) ab_fu (-1 : Int32) (0 : Int32))))
set_option maxRecDepth 100000 in
set_option maxHeartbeats 4000000 in
theorem e_X12_council {sc : Nat × (Nat → Int32)} {r : Option Nat × Option Nat} {a1 : Int32} {σ : ab_F} {res : (Int32 × ab_F)} (h : f_X12_council a1 σ = some res) : ab_E mX12_council 1 sc 0 [some (.ref 85), some (.int a1), none, none, none, none] [] (σ, r) (fun v S => v = some (.int res.1) ∧ S = (res.2, r)) := by
  unfold f_X12_council at h
  refine z_iload_n (pc2 := 1) rfl dX12_council_0 rfl ?_
  refine z_iconst (pc2 := 2) rfl dX12_council_1 lt_i_0 ?_
  refine z_sipush (pc2 := 5) rfl dX12_council_2 lt_s_4095 ?_
  obtain ⟨q1, hq1, h⟩ := ab_bnd h
  refine z_callSi [.int a1, .int (0 : Int32), .int (4095 : Int32)] [some (.int a1), some (.int (0 : Int32)), some (.int (4095 : Int32))] (pc2 := 8) rfl rfl dX12_council_5 ok_X12_in ⟨fun _ => rfl, fun _ => Nat.le_of_ble_eq_true rfl⟩ rfl wd_1042 wd_1043 rfl (e_X12_in hq1) ?_
  refine z_if_ne (pc2 := 11) (tgt := 17) rfl dX12_council_8 (by decide) (fun hc2 => ?_) (fun hc2 => ?_)
  · replace h := ab_neg hc2 h
    refine z_iconst (pc2 := 18) rfl dX12_council_17 lt_i_m1 ?_
    refine z_istore_n (pc2 := 19) (L2 := [some (.ref 85), some (.int a1), some (.int (-1 : Int32)), none, none, none]) rfl dX12_council_18 (by decide) rfl rfl ?_
    refine z_iconst (pc2 := 20) rfl dX12_council_19 lt_i_0 ?_
    refine z_istore_n (pc2 := 21) (L2 := [some (.ref 85), some (.int a1), some (.int (-1 : Int32)), some (.int (0 : Int32)), none, none]) rfl dX12_council_20 (by decide) rfl rfl ?_
    refine z_fgt [true, true, true, true, false, false] (L2 := [some (.ref 85), some (.int a1), some (.int (-1 : Int32)), some (.int (0 : Int32)), none, none]) rfl ?_
    refine e_X12_council_L21 (fun k23 h => ?_) _ _ _ h
    refine z_iload_n (pc2 := 131) rfl dX12_council_130 rfl ?_
    refine z_if_ge (pc2 := 134) (tgt := 142) rfl dX12_council_131 (by decide) (fun hc24 => ?_) (fun hc24 => ?_)
    · replace h := ab_pos hc24 h
      refine z_iload_n (pc2 := 143) rfl dX12_council_142 rfl ?_
      exact z_iret dX12_council_143 rfl rfl (fi_w h)
    · replace h := ab_neg hc24 h
      refine z_aload_n (pc2 := 135) rfl dX12_council_134 rfl ?_
      refine z_iconst (pc2 := 136) rfl dX12_council_135 lt_i_2 ?_
      obtain ⟨q25, hq25, h⟩ := ab_bnd h
      refine z_callVi 85 [.int (2 : Int32)] [some (.ref 85), some (.int (2 : Int32))] (pc2 := 139) rfl rfl dX12_council_136 ok_X12_error ⟨fun _ => rfl, fun _ => Nat.le_of_ble_eq_true rfl⟩ rfl rv_85 wd_1045 wd_1047 wd_16 rfl (e_X12_error hq25) ?_
      refine ab_goto (tgt := 143) dX12_council_139 (by decide) ?_
      exact z_iret dX12_council_143 rfl rfl (fi_w h)
  · replace h := ab_pos hc2 h
    refine z_aload_n (pc2 := 12) rfl dX12_council_11 rfl ?_
    refine z_iconst (pc2 := 13) rfl dX12_council_12 lt_i_1 ?_
    obtain ⟨q26, hq26, h⟩ := ab_bnd h
    refine z_callVi 85 [.int (1 : Int32)] [some (.ref 85), some (.int (1 : Int32))] (pc2 := 16) rfl rfl dX12_council_13 ok_X12_error ⟨fun _ => rfl, fun _ => Nat.le_of_ble_eq_true rfl⟩ rfl rv_85 wd_1045 wd_1047 wd_16 rfl (e_X12_error hq26) ?_
    exact z_iret dX12_council_16 rfl rfl (fi_w h)
def f_X12_common_L4 (σ : ab_F) (K : Int32 → Option Int32) : Nat → Int32 → Int32 → Option Int32
  | 0, _, _ => none
  | n + 1, u2, u3 => (if u3 = 0 then (K u2) else ab_ck (ab_nz u3) (ab_lt ((u2 - u2 / u3 * u3)) (fun x3 => (f_X12_common_L4 σ K n u3 x3))))
set_option maxRecDepth 100000 in
set_option maxHeartbeats 4000000 in
theorem e_X12_common_L4 {sc : Nat × (Nat → Int32)} {r : Option Nat × Option Nat} {σ : ab_F} {K : Int32 → Option Int32} {res : Int32} (hK : ∀ (u2 : Int32), K u2 = some res → ab_E mX12_common 0 sc 21 [none, none, some (.int u2), none, none] [] (σ, r) (fun v S => v = some (.int res) ∧ S = (σ, r))) : ∀ (n : Nat) (u2 : Int32) (u3 : Int32), f_X12_common_L4 σ K n u2 u3 = some res → ab_E mX12_common 0 sc 4 [none, none, some (.int u2), some (.int u3), none] [] (σ, r) (fun v S => v = some (.int res) ∧ S = (σ, r)) := by
  intro n
  induction n with
  | zero =>
    intro u2 u3 h
    rw [f_X12_common_L4] at h
    cases h
  | succ n ih =>
    intro u2 u3 h
    rw [f_X12_common_L4] at h
    refine z_iload_n (pc2 := 5) rfl dX12_common_4 rfl ?_
    refine z_if_eq (pc2 := 8) (tgt := 21) rfl dX12_common_5 (by decide) (fun hc1 => ?_) (fun hc1 => ?_)
    · replace h := ab_pos hc1 h
      refine z_fgt [false, false, true, false, false] (L2 := [none, none, some (.int u2), none, none]) rfl ?_
      exact hK _ h
    · replace h := ab_neg hc1 h
      refine z_iload_n (pc2 := 9) rfl dX12_common_8 rfl ?_
      refine z_iload_n (pc2 := 10) rfl dX12_common_9 rfl ?_
      obtain ⟨hb2, h⟩ := ab_ck_e h
      refine z_irem (pc2 := 11) rfl dX12_common_10 (ab_nz_e hb2) ?_
      obtain ⟨x3, hxx3, h⟩ := ab_lt_e h
      refine z_top hxx3 ?_
      refine z_istore (pc2 := 13) (L2 := [none, none, some (.int u2), some (.int u3), some (.int x3)]) rfl dX12_common_11 (by decide) rfl rfl ?_
      refine z_iload_n (pc2 := 14) rfl dX12_common_13 rfl ?_
      refine z_istore_n (pc2 := 15) (L2 := [none, none, some (.int u3), some (.int u3), some (.int x3)]) rfl dX12_common_14 (by decide) rfl rfl ?_
      refine z_iload (pc2 := 17) rfl dX12_common_15 rfl ?_
      refine z_istore_n (pc2 := 18) (L2 := [none, none, some (.int u3), some (.int x3), some (.int x3)]) rfl dX12_common_17 (by decide) rfl rfl ?_
      refine ab_goto (tgt := 4) dX12_common_18 (by decide) ?_
      refine z_fgt [false, false, true, true, false] (L2 := [none, none, some (.int u3), some (.int x3), none]) rfl ?_
      exact ih _ _ h
def f_X12_common (a0 : Int32) (a1 : Int32) (σ : ab_F) : Option Int32 := (f_X12_common_L4 σ (fun (k4 : Int32) => (some k4)) ab_fu a0 a1)
set_option maxRecDepth 100000 in
set_option maxHeartbeats 4000000 in
theorem e_X12_common {sc : Nat × (Nat → Int32)} {r : Option Nat × Option Nat} {a0 : Int32} {a1 : Int32} {σ : ab_F} {res : Int32} (h : f_X12_common a0 a1 σ = some res) : ab_E mX12_common 0 sc 0 [some (.int a0), some (.int a1), none, none, none] [] (σ, r) (fun v S => v = some (.int res) ∧ S = (σ, r)) := by
  unfold f_X12_common at h
  refine z_iload_n (pc2 := 1) rfl dX12_common_0 rfl ?_
  refine z_istore_n (pc2 := 2) (L2 := [some (.int a0), some (.int a1), some (.int a0), none, none]) rfl dX12_common_1 (by decide) rfl rfl ?_
  refine z_iload_n (pc2 := 3) rfl dX12_common_2 rfl ?_
  refine z_istore_n (pc2 := 4) (L2 := [some (.int a0), some (.int a1), some (.int a0), some (.int a1), none]) rfl dX12_common_3 (by decide) rfl rfl ?_
  refine z_fgt [false, false, true, true, false] (L2 := [none, none, some (.int a0), some (.int a1), none]) rfl ?_
  refine e_X12_common_L4 (fun k4 h => ?_) _ _ _ h
  refine z_iload_n (pc2 := 22) rfl dX12_common_21 rfl ?_
  exact z_iret dX12_common_22 rfl rfl (fi_p h)
def f_X12_odds_L43 (p1 : Int32) (p2 : Int32) (p3 : Int32) (K : Int32 → ab_F → Option (Int32 × ab_F)) : Nat → Int32 → Int32 → ab_F → Option (Int32 × ab_F)
  | 0, _, _, _ => none
  | n + 1, u4, u5, σ => (if (16 : Int32) ≤ u5 then (K u4 σ) else ab_lt (ab_u σ 86 1 u5) (fun (s11 : ab_F) => (f_X12_goesOn p2 s11).bind (fun q12 => (f_X12_isWet p1 q12).bind (fun q13 => (if (ab_b q13) = 0 then ab_lt ((u4 + (0 : Int32))) (fun x15 => (f_X12_putsBack q12).bind (fun q16 => ab_lt (u5 + (1 : Int32)) (fun x17 => (f_X12_odds_L43 p1 p2 p3 K n x15 x17 q16)))) else ab_lt ((u4 + (1 : Int32))) (fun x18 => (f_X12_putsBack q12).bind (fun q19 => ab_lt (u5 + (1 : Int32)) (fun x20 => (f_X12_odds_L43 p1 p2 p3 K n x18 x20 q19)))))))))
set_option maxRecDepth 100000 in
set_option maxHeartbeats 4000000 in
theorem e_X12_odds_L43 {sc : Nat × (Nat → Int32)} {r : Option Nat × Option Nat} {p1 : Int32} {p2 : Int32} {p3 : Int32} {K : Int32 → ab_F → Option (Int32 × ab_F)} {res : (Int32 × ab_F)} (hK : ∀ (u4 : Int32) (σ : ab_F), K u4 σ = some res → ab_E mX12_odds 7 sc 91 [none, none, none, some (.int p3), some (.int u4), none] [] (σ, r) (fun v S => v = some (.int res.1) ∧ S = (res.2, r))) : ∀ (n : Nat) (u4 : Int32) (u5 : Int32) (σ : ab_F), f_X12_odds_L43 p1 p2 p3 K n u4 u5 σ = some res → ab_E mX12_odds 7 sc 43 [some (.ref 85), some (.int p1), some (.int p2), some (.int p3), some (.int u4), some (.int u5)] [] (σ, r) (fun v S => v = some (.int res.1) ∧ S = (res.2, r)) := by
  intro n
  induction n with
  | zero =>
    intro u4 u5 σ h
    rw [f_X12_odds_L43] at h
    cases h
  | succ n ih =>
    intro u4 u5 σ h
    rw [f_X12_odds_L43] at h
    refine z_iload (pc2 := 45) rfl dX12_odds_43 rfl ?_
    refine z_bipush (pc2 := 47) rfl dX12_odds_45 lt_b_16 ?_
    refine z_icmp_ge (pc2 := 50) (tgt := 91) rfl dX12_odds_47 (by decide) (fun hc10 => ?_) (fun hc10 => ?_)
    · replace h := ab_pos hc10 h
      refine z_fgt [false, false, false, true, true, false] (L2 := [none, none, none, some (.int p3), some (.int u4), none]) rfl ?_
      exact hK _ _ h
    · replace h := ab_neg hc10 h
      refine z_aload_n (pc2 := 51) rfl dX12_odds_50 rfl ?_
      refine z_getR 85 12 0 86 (pc2 := 54) rfl dX12_odds_51 rfl rfl ff_12_0 wd_977 rfl ?_
      refine z_iconst (pc2 := 55) rfl dX12_odds_54 lt_i_1 ?_
      refine z_iload (pc2 := 57) rfl dX12_odds_55 rfl ?_
      refine z_iast 86 (pc2 := 58) (j := 1) rfl dX12_odds_57 rfl rfl (by decide) (by decide) ?_
      obtain ⟨s11, hs11, h⟩ := ab_lt_e h
      refine z_tops hs11 ?_
      refine z_aload_n (pc2 := 59) rfl dX12_odds_58 rfl ?_
      refine z_iload_n (pc2 := 60) rfl dX12_odds_59 rfl ?_
      obtain ⟨q12, hq12, h⟩ := ab_bnd h
      refine z_callVv 85 [.int p2] [some (.ref 85), some (.int p2), none] (pc2 := 63) rfl rfl dX12_odds_60 ok_X12_goesOn ⟨fun _ => rfl, fun _ => Nat.le_of_ble_eq_true rfl⟩ rfl rv_85 wd_1224 wd_1226 wd_41 rfl (e_X12_goesOn hq12) ?_
      refine z_iload (pc2 := 65) rfl dX12_odds_63 rfl ?_
      refine z_aload_n (pc2 := 66) rfl dX12_odds_65 rfl ?_
      refine z_iload_n (pc2 := 67) rfl dX12_odds_66 rfl ?_
      obtain ⟨q13, hq13, h⟩ := ab_bnd h
      refine z_callVi 85 [.int p1] [some (.ref 85), some (.int p1)] (pc2 := 70) rfl rfl dX12_odds_67 ok_X12_isWet ⟨fun _ => rfl, fun _ => Nat.le_of_ble_eq_true rfl⟩ rfl rv_85 wd_1125 wd_1127 wd_30 rfl (e_X12_isWet hq13) ?_
      refine z_if_eq (pc2 := 73) (tgt := 77) rfl dX12_odds_70 (by decide) (fun hc14 => ?_) (fun hc14 => ?_)
      · replace h := ab_pos hc14 h
        refine z_iconst (pc2 := 78) rfl dX12_odds_77 lt_i_0 ?_
        refine z_iadd (pc2 := 79) rfl dX12_odds_78 ?_
        obtain ⟨x15, hxx15, h⟩ := ab_lt_e h
        refine z_top hxx15 ?_
        refine z_istore (pc2 := 81) (L2 := [some (.ref 85), some (.int p1), some (.int p2), some (.int p3), some (.int x15), some (.int u5)]) rfl dX12_odds_79 (by decide) rfl rfl ?_
        refine z_aload_n (pc2 := 82) rfl dX12_odds_81 rfl ?_
        obtain ⟨q16, hq16, h⟩ := ab_bnd h
        refine z_callVv 85 [] [some (.ref 85), none] (pc2 := 85) rfl rfl dX12_odds_82 ok_X12_putsBack ⟨fun _ => rfl, fun _ => Nat.le_of_ble_eq_true rfl⟩ rfl rv_85 wd_1280 wd_1282 wd_50 rfl (e_X12_putsBack hq16) ?_
        obtain ⟨x17, hxx17, h⟩ := ab_lt_e h
        refine z_iinc (pc2 := 88) (v := x17) (L2 := [some (.ref 85), some (.int p1), some (.int p2), some (.int p3), some (.int x15), some (.int x17)]) rfl dX12_odds_85 rfl (by rw [hxx17]; rfl) (by decide) rfl rfl ?_
        refine ab_goto (tgt := 43) dX12_odds_88 (by decide) ?_
        refine z_fgt [true, true, true, true, true, true] (L2 := [some (.ref 85), some (.int p1), some (.int p2), some (.int p3), some (.int x15), some (.int x17)]) rfl ?_
        exact ih _ _ _ h
      · replace h := ab_neg hc14 h
        refine z_iconst (pc2 := 74) rfl dX12_odds_73 lt_i_1 ?_
        refine ab_goto (tgt := 78) dX12_odds_74 (by decide) ?_
        refine z_iadd (pc2 := 79) rfl dX12_odds_78 ?_
        obtain ⟨x18, hxx18, h⟩ := ab_lt_e h
        refine z_top hxx18 ?_
        refine z_istore (pc2 := 81) (L2 := [some (.ref 85), some (.int p1), some (.int p2), some (.int p3), some (.int x18), some (.int u5)]) rfl dX12_odds_79 (by decide) rfl rfl ?_
        refine z_aload_n (pc2 := 82) rfl dX12_odds_81 rfl ?_
        obtain ⟨q19, hq19, h⟩ := ab_bnd h
        refine z_callVv 85 [] [some (.ref 85), none] (pc2 := 85) rfl rfl dX12_odds_82 ok_X12_putsBack ⟨fun _ => rfl, fun _ => Nat.le_of_ble_eq_true rfl⟩ rfl rv_85 wd_1280 wd_1282 wd_50 rfl (e_X12_putsBack hq19) ?_
        obtain ⟨x20, hxx20, h⟩ := ab_lt_e h
        refine z_iinc (pc2 := 88) (v := x20) (L2 := [some (.ref 85), some (.int p1), some (.int p2), some (.int p3), some (.int x18), some (.int x20)]) rfl dX12_odds_85 rfl (by rw [hxx20]; rfl) (by decide) rfl rfl ?_
        refine ab_goto (tgt := 43) dX12_odds_88 (by decide) ?_
        refine z_fgt [true, true, true, true, true, true] (L2 := [some (.ref 85), some (.int p1), some (.int p2), some (.int p3), some (.int x18), some (.int x20)]) rfl ?_
        exact ih _ _ _ h
def f_X12_odds (a1 : Int32) (a2 : Int32) (a3 : Int32) (σ : ab_F) : Option (Int32 × ab_F) := (f_X12_isOne a1 σ).bind (fun q1 => (if (ab_b q1) = 0 then (f_X12_error (1 : Int32) σ).bind (fun q3 => (some (q3.1, q3.2))) else (f_X12_in a2 (0 : Int32) (40 : Int32) σ).bind (fun q4 => (if (ab_b q4) = 0 then (f_X12_error (1 : Int32) σ).bind (fun q6 => (some (q6.1, q6.2))) else (f_X12_in a3 (0 : Int32) (1 : Int32) σ).bind (fun q7 => (if (ab_b q7) = 0 then (f_X12_error (1 : Int32) σ).bind (fun q28 => (some (q28.1, q28.2))) else (f_X12_saves σ).bind (fun q9 => (f_X12_odds_L43 a1 a2 a3 (fun (k21 : Int32) (s22 : ab_F) => (if a3 = 0 then (f_X12_common k21 (16 : Int32) s22).bind (fun q26 => ab_ck (ab_nz q26) ((some ((k21 / q26), s22)))) else (f_X12_common k21 (16 : Int32) s22).bind (fun q24 => ab_ck (ab_nz q24) ((some (((16 : Int32) / q24), s22)))))) ab_fu (0 : Int32) (0 : Int32) q9))))))))
set_option maxRecDepth 100000 in
set_option maxHeartbeats 4000000 in
theorem e_X12_odds {sc : Nat × (Nat → Int32)} {r : Option Nat × Option Nat} {a1 : Int32} {a2 : Int32} {a3 : Int32} {σ : ab_F} {res : (Int32 × ab_F)} (h : f_X12_odds a1 a2 a3 σ = some res) : ab_E mX12_odds 7 sc 0 [some (.ref 85), some (.int a1), some (.int a2), some (.int a3), none, none] [] (σ, r) (fun v S => v = some (.int res.1) ∧ S = (res.2, r)) := by
  unfold f_X12_odds at h
  refine z_aload_n (pc2 := 1) rfl dX12_odds_0 rfl ?_
  refine z_iload_n (pc2 := 2) rfl dX12_odds_1 rfl ?_
  obtain ⟨q1, hq1, h⟩ := ab_bnd h
  refine z_callVi 85 [.int a1] [some (.ref 85), some (.int a1)] (pc2 := 5) rfl rfl dX12_odds_2 ok_X12_isOne ⟨fun _ => rfl, fun _ => Nat.le_of_ble_eq_true rfl⟩ rfl rv_85 wd_1121 wd_1123 wd_29 rfl (e_X12_isOne hq1) ?_
  refine z_if_eq (pc2 := 8) (tgt := 27) rfl dX12_odds_5 (by decide) (fun hc2 => ?_) (fun hc2 => ?_)
  · replace h := ab_pos hc2 h
    refine z_aload_n (pc2 := 28) rfl dX12_odds_27 rfl ?_
    refine z_iconst (pc2 := 29) rfl dX12_odds_28 lt_i_1 ?_
    obtain ⟨q3, hq3, h⟩ := ab_bnd h
    refine z_callVi 85 [.int (1 : Int32)] [some (.ref 85), some (.int (1 : Int32))] (pc2 := 32) rfl rfl dX12_odds_29 ok_X12_error ⟨fun _ => rfl, fun _ => Nat.le_of_ble_eq_true rfl⟩ rfl rv_85 wd_1045 wd_1047 wd_16 rfl (e_X12_error hq3) ?_
    exact z_iret dX12_odds_32 rfl rfl (fi_w h)
  · replace h := ab_neg hc2 h
    refine z_iload_n (pc2 := 9) rfl dX12_odds_8 rfl ?_
    refine z_iconst (pc2 := 10) rfl dX12_odds_9 lt_i_0 ?_
    refine z_bipush (pc2 := 12) rfl dX12_odds_10 lt_b_40 ?_
    obtain ⟨q4, hq4, h⟩ := ab_bnd h
    refine z_callSi [.int a2, .int (0 : Int32), .int (40 : Int32)] [some (.int a2), some (.int (0 : Int32)), some (.int (40 : Int32))] (pc2 := 15) rfl rfl dX12_odds_12 ok_X12_in ⟨fun _ => rfl, fun _ => Nat.le_of_ble_eq_true rfl⟩ rfl wd_1042 wd_1043 rfl (e_X12_in hq4) ?_
    refine z_if_eq (pc2 := 18) (tgt := 27) rfl dX12_odds_15 (by decide) (fun hc5 => ?_) (fun hc5 => ?_)
    · replace h := ab_pos hc5 h
      refine z_aload_n (pc2 := 28) rfl dX12_odds_27 rfl ?_
      refine z_iconst (pc2 := 29) rfl dX12_odds_28 lt_i_1 ?_
      obtain ⟨q6, hq6, h⟩ := ab_bnd h
      refine z_callVi 85 [.int (1 : Int32)] [some (.ref 85), some (.int (1 : Int32))] (pc2 := 32) rfl rfl dX12_odds_29 ok_X12_error ⟨fun _ => rfl, fun _ => Nat.le_of_ble_eq_true rfl⟩ rfl rv_85 wd_1045 wd_1047 wd_16 rfl (e_X12_error hq6) ?_
      exact z_iret dX12_odds_32 rfl rfl (fi_w h)
    · replace h := ab_neg hc5 h
      refine z_iload_n (pc2 := 19) rfl dX12_odds_18 rfl ?_
      refine z_iconst (pc2 := 20) rfl dX12_odds_19 lt_i_0 ?_
      refine z_iconst (pc2 := 21) rfl dX12_odds_20 lt_i_1 ?_
      obtain ⟨q7, hq7, h⟩ := ab_bnd h
      refine z_callSi [.int a3, .int (0 : Int32), .int (1 : Int32)] [some (.int a3), some (.int (0 : Int32)), some (.int (1 : Int32))] (pc2 := 24) rfl rfl dX12_odds_21 ok_X12_in ⟨fun _ => rfl, fun _ => Nat.le_of_ble_eq_true rfl⟩ rfl wd_1042 wd_1043 rfl (e_X12_in hq7) ?_
      refine z_if_ne (pc2 := 27) (tgt := 33) rfl dX12_odds_24 (by decide) (fun hc8 => ?_) (fun hc8 => ?_)
      · replace h := ab_neg hc8 h
        refine z_aload_n (pc2 := 34) rfl dX12_odds_33 rfl ?_
        obtain ⟨q9, hq9, h⟩ := ab_bnd h
        refine z_callVv 85 [] [some (.ref 85), none] (pc2 := 37) rfl rfl dX12_odds_34 ok_X12_saves ⟨fun _ => rfl, fun _ => Nat.le_of_ble_eq_true rfl⟩ rfl rv_85 wd_1276 wd_1278 wd_49 rfl (e_X12_saves hq9) ?_
        refine z_iconst (pc2 := 38) rfl dX12_odds_37 lt_i_0 ?_
        refine z_istore (pc2 := 40) (L2 := [some (.ref 85), some (.int a1), some (.int a2), some (.int a3), some (.int (0 : Int32)), none]) rfl dX12_odds_38 (by decide) rfl rfl ?_
        refine z_iconst (pc2 := 41) rfl dX12_odds_40 lt_i_0 ?_
        refine z_istore (pc2 := 43) (L2 := [some (.ref 85), some (.int a1), some (.int a2), some (.int a3), some (.int (0 : Int32)), some (.int (0 : Int32))]) rfl dX12_odds_41 (by decide) rfl rfl ?_
        refine z_fgt [true, true, true, true, true, true] (L2 := [some (.ref 85), some (.int a1), some (.int a2), some (.int a3), some (.int (0 : Int32)), some (.int (0 : Int32))]) rfl ?_
        refine e_X12_odds_L43 (fun k21 s22 h => ?_) _ _ _ _ h
        refine z_iload_n (pc2 := 92) rfl dX12_odds_91 rfl ?_
        refine z_if_ne (pc2 := 95) (tgt := 100) rfl dX12_odds_92 (by decide) (fun hc23 => ?_) (fun hc23 => ?_)
        · replace h := ab_neg hc23 h
          refine z_bipush (pc2 := 102) rfl dX12_odds_100 lt_b_16 ?_
          refine z_iload (pc2 := 104) rfl dX12_odds_102 rfl ?_
          refine z_bipush (pc2 := 106) rfl dX12_odds_104 lt_b_16 ?_
          obtain ⟨q24, hq24, h⟩ := ab_bnd h
          refine z_callSi [.int k21, .int (16 : Int32)] [some (.int k21), some (.int (16 : Int32)), none, none, none] (pc2 := 109) rfl rfl dX12_odds_106 ok_X12_common ⟨fun _ => rfl, fun _ => Nat.le_of_ble_eq_true rfl⟩ rfl wd_1316 wd_1317 rfl (e_X12_common hq24) ?_
          obtain ⟨hb25, h⟩ := ab_ck_e h
          refine z_idiv (pc2 := 110) rfl dX12_odds_109 (ab_nz_e hb25) ?_
          exact z_iret dX12_odds_110 rfl rfl (fi_w h)
        · replace h := ab_pos hc23 h
          refine z_iload (pc2 := 97) rfl dX12_odds_95 rfl ?_
          refine ab_goto (tgt := 102) dX12_odds_97 (by decide) ?_
          refine z_iload (pc2 := 104) rfl dX12_odds_102 rfl ?_
          refine z_bipush (pc2 := 106) rfl dX12_odds_104 lt_b_16 ?_
          obtain ⟨q26, hq26, h⟩ := ab_bnd h
          refine z_callSi [.int k21, .int (16 : Int32)] [some (.int k21), some (.int (16 : Int32)), none, none, none] (pc2 := 109) rfl rfl dX12_odds_106 ok_X12_common ⟨fun _ => rfl, fun _ => Nat.le_of_ble_eq_true rfl⟩ rfl wd_1316 wd_1317 rfl (e_X12_common hq26) ?_
          obtain ⟨hb27, h⟩ := ab_ck_e h
          refine z_idiv (pc2 := 110) rfl dX12_odds_109 (ab_nz_e hb27) ?_
          exact z_iret dX12_odds_110 rfl rfl (fi_w h)
      · replace h := ab_pos hc8 h
        refine z_aload_n (pc2 := 28) rfl dX12_odds_27 rfl ?_
        refine z_iconst (pc2 := 29) rfl dX12_odds_28 lt_i_1 ?_
        obtain ⟨q28, hq28, h⟩ := ab_bnd h
        refine z_callVi 85 [.int (1 : Int32)] [some (.ref 85), some (.int (1 : Int32))] (pc2 := 32) rfl rfl dX12_odds_29 ok_X12_error ⟨fun _ => rfl, fun _ => Nat.le_of_ble_eq_true rfl⟩ rfl rv_85 wd_1045 wd_1047 wd_16 rfl (e_X12_error hq28) ?_
        exact z_iret dX12_odds_32 rfl rfl (fi_w h)
def f_X12_isSheet (a0 : Int32) (σ : ab_F) : Option Bool := (f_X12_in a0 (0 : Int32) (3 : Int32) σ).bind (fun q1 => (some q1))
set_option maxRecDepth 100000 in
set_option maxHeartbeats 4000000 in
theorem e_X12_isSheet {sc : Nat × (Nat → Int32)} {r : Option Nat × Option Nat} {a0 : Int32} {σ : ab_F} {res : Bool} (h : f_X12_isSheet a0 σ = some res) : ab_E mX12_isSheet 1 sc 0 [some (.int a0)] [] (σ, r) (fun v S => v = some (.int (ab_b res)) ∧ S = (σ, r)) := by
  unfold f_X12_isSheet at h
  refine z_iload_n (pc2 := 1) rfl dX12_isSheet_0 rfl ?_
  refine z_iconst (pc2 := 2) rfl dX12_isSheet_1 lt_i_0 ?_
  refine z_iconst (pc2 := 3) rfl dX12_isSheet_2 lt_i_3 ?_
  obtain ⟨q1, hq1, h⟩ := ab_bnd h
  refine z_callSi [.int a0, .int (0 : Int32), .int (3 : Int32)] [some (.int a0), some (.int (0 : Int32)), some (.int (3 : Int32))] (pc2 := 6) rfl rfl dX12_isSheet_3 ok_X12_in ⟨fun _ => rfl, fun _ => Nat.le_of_ble_eq_true rfl⟩ rfl wd_1042 wd_1043 rfl (e_X12_in hq1) ?_
  exact z_iret dX12_isSheet_6 rfl (ab_b_n _) (fz_p rfl h)
def f_X12_fits_L76 (p1 : Int32) (p2 : Int32) (p3 : Int32) (p4 : Int32) (p5 : Int32) (K : Int32 → ab_F → Option (Int32 × ab_F)) : Nat → Int32 → Int32 → ab_F → Option (Int32 × ab_F)
  | 0, _, _, _ => none
  | n + 1, u6, u7, σ => ab_ck (ab_ib p1 4) ((if (σ 95 (p1).toNatClampNeg) ≤ u7 then (K u6 σ) else (if u6 = 0 then (K u6 σ) else ab_ck (ab_ib (((24 : Int32) * p1) + u7) 96) ((f_X12_its p2 (3 : Int32) σ).bind (fun q18 => (if (σ 96 ((((24 : Int32) * p1) + u7)).toNatClampNeg) = q18 then (f_X12_day1 σ).bind (fun q22 => ab_lt (u7 + (1 : Int32)) (fun x23 => (f_X12_fits_L76 p1 p2 p3 p4 p5 K n (1 : Int32) x23 q22))) else (f_X12_day1 σ).bind (fun q20 => ab_lt (u7 + (1 : Int32)) (fun x21 => (f_X12_fits_L76 p1 p2 p3 p4 p5 K n (0 : Int32) x21 q20)))))))))
set_option maxRecDepth 100000 in
set_option maxHeartbeats 4000000 in
theorem e_X12_fits_L76 {sc : Nat × (Nat → Int32)} {r : Option Nat × Option Nat} {p1 : Int32} {p2 : Int32} {p3 : Int32} {p4 : Int32} {p5 : Int32} {K : Int32 → ab_F → Option (Int32 × ab_F)} {res : (Int32 × ab_F)} (hK : ∀ (u6 : Int32) (σ : ab_F), K u6 σ = some res → ab_E mX12_fits 6 sc 130 [some (.ref 85), some (.int p1), some (.int p2), some (.int p3), some (.int p4), some (.int p5), some (.int u6), none] [] (σ, r) (fun v S => v = some (.int res.1) ∧ S = (res.2, r))) : ∀ (n : Nat) (u6 : Int32) (u7 : Int32) (σ : ab_F), f_X12_fits_L76 p1 p2 p3 p4 p5 K n u6 u7 σ = some res → ab_E mX12_fits 6 sc 76 [some (.ref 85), some (.int p1), some (.int p2), some (.int p3), some (.int p4), some (.int p5), some (.int u6), some (.int u7)] [] (σ, r) (fun v S => v = some (.int res.1) ∧ S = (res.2, r)) := by
  intro n
  induction n with
  | zero =>
    intro u6 u7 σ h
    rw [f_X12_fits_L76] at h
    cases h
  | succ n ih =>
    intro u6 u7 σ h
    rw [f_X12_fits_L76] at h
    refine z_iload (pc2 := 78) rfl dX12_fits_76 rfl ?_
    refine z_aload_n (pc2 := 79) rfl dX12_fits_78 rfl ?_
    refine z_getR 85 12 17 95 (pc2 := 82) rfl dX12_fits_79 rfl rfl ff_12_17 wd_994 rfl ?_
    refine z_iload_n (pc2 := 83) rfl dX12_fits_82 rfl ?_
    obtain ⟨hb14, h⟩ := ab_ck_e h
    refine z_iald 95 (pc2 := 84) (j := (p1).toNatClampNeg) rfl dX12_fits_83 rfl rfl hb14 rfl ?_
    refine z_icmp_ge (pc2 := 87) (tgt := 130) rfl dX12_fits_84 (by decide) (fun hc15 => ?_) (fun hc15 => ?_)
    · replace h := ab_pos hc15 h
      refine z_fgt [true, true, true, true, true, true, true, false] (L2 := [some (.ref 85), some (.int p1), some (.int p2), some (.int p3), some (.int p4), some (.int p5), some (.int u6), none]) rfl ?_
      exact hK _ _ h
    · replace h := ab_neg hc15 h
      refine z_iload (pc2 := 89) rfl dX12_fits_87 rfl ?_
      refine z_if_eq (pc2 := 92) (tgt := 130) rfl dX12_fits_89 (by decide) (fun hc16 => ?_) (fun hc16 => ?_)
      · replace h := ab_pos hc16 h
        refine z_fgt [true, true, true, true, true, true, true, false] (L2 := [some (.ref 85), some (.int p1), some (.int p2), some (.int p3), some (.int p4), some (.int p5), some (.int u6), none]) rfl ?_
        exact hK _ _ h
      · replace h := ab_neg hc16 h
        refine z_aload_n (pc2 := 93) rfl dX12_fits_92 rfl ?_
        refine z_getR 85 12 18 96 (pc2 := 96) rfl dX12_fits_93 rfl rfl ff_12_18 wd_995 rfl ?_
        refine z_bipush (pc2 := 98) rfl dX12_fits_96 lt_b_24 ?_
        refine z_iload_n (pc2 := 99) rfl dX12_fits_98 rfl ?_
        refine z_imul (pc2 := 100) rfl dX12_fits_99 ?_
        refine z_iload (pc2 := 102) rfl dX12_fits_100 rfl ?_
        refine z_iadd (pc2 := 103) rfl dX12_fits_102 ?_
        obtain ⟨hb17, h⟩ := ab_ck_e h
        refine z_iald 96 (pc2 := 104) (j := ((((24 : Int32) * p1) + u7)).toNatClampNeg) rfl dX12_fits_103 rfl rfl hb17 rfl ?_
        refine z_aload_n (pc2 := 105) rfl dX12_fits_104 rfl ?_
        refine z_iload_n (pc2 := 106) rfl dX12_fits_105 rfl ?_
        refine z_iconst (pc2 := 107) rfl dX12_fits_106 lt_i_3 ?_
        obtain ⟨q18, hq18, h⟩ := ab_bnd h
        refine z_callVi 85 [.int p2, .int (3 : Int32)] [some (.ref 85), some (.int p2), some (.int (3 : Int32))] (pc2 := 110) rfl rfl dX12_fits_107 ok_X12_its ⟨fun _ => rfl, fun _ => Nat.le_of_ble_eq_true rfl⟩ rfl rv_85 wd_1129 wd_1131 wd_31 rfl (e_X12_its hq18) ?_
        refine z_icmp_ne (pc2 := 113) (tgt := 117) rfl dX12_fits_110 (by decide) (fun hc19 => ?_) (fun hc19 => ?_)
        · replace h := ab_neg hc19 h
          refine z_iconst (pc2 := 118) rfl dX12_fits_117 lt_i_0 ?_
          refine z_istore (pc2 := 120) (L2 := [some (.ref 85), some (.int p1), some (.int p2), some (.int p3), some (.int p4), some (.int p5), some (.int (0 : Int32)), some (.int u7)]) rfl dX12_fits_118 (by decide) rfl rfl ?_
          refine z_aload_n (pc2 := 121) rfl dX12_fits_120 rfl ?_
          obtain ⟨q20, hq20, h⟩ := ab_bnd h
          refine z_callVv 85 [] [some (.ref 85), none, none, none] (pc2 := 124) rfl rfl dX12_fits_121 ok_X12_day1 ⟨fun _ => rfl, fun _ => Nat.le_of_ble_eq_true rfl⟩ rfl rv_85 wd_1228 wd_1230 wd_42 rfl (e_X12_day1 hq20) ?_
          obtain ⟨x21, hxx21, h⟩ := ab_lt_e h
          refine z_iinc (pc2 := 127) (v := x21) (L2 := [some (.ref 85), some (.int p1), some (.int p2), some (.int p3), some (.int p4), some (.int p5), some (.int (0 : Int32)), some (.int x21)]) rfl dX12_fits_124 rfl (by rw [hxx21]; rfl) (by decide) rfl rfl ?_
          refine ab_goto (tgt := 76) dX12_fits_127 (by decide) ?_
          refine z_fgt [true, true, true, true, true, true, true, true] (L2 := [some (.ref 85), some (.int p1), some (.int p2), some (.int p3), some (.int p4), some (.int p5), some (.int (0 : Int32)), some (.int x21)]) rfl ?_
          exact ih _ _ _ h
        · replace h := ab_pos hc19 h
          refine z_iconst (pc2 := 114) rfl dX12_fits_113 lt_i_1 ?_
          refine ab_goto (tgt := 118) dX12_fits_114 (by decide) ?_
          refine z_istore (pc2 := 120) (L2 := [some (.ref 85), some (.int p1), some (.int p2), some (.int p3), some (.int p4), some (.int p5), some (.int (1 : Int32)), some (.int u7)]) rfl dX12_fits_118 (by decide) rfl rfl ?_
          refine z_aload_n (pc2 := 121) rfl dX12_fits_120 rfl ?_
          obtain ⟨q22, hq22, h⟩ := ab_bnd h
          refine z_callVv 85 [] [some (.ref 85), none, none, none] (pc2 := 124) rfl rfl dX12_fits_121 ok_X12_day1 ⟨fun _ => rfl, fun _ => Nat.le_of_ble_eq_true rfl⟩ rfl rv_85 wd_1228 wd_1230 wd_42 rfl (e_X12_day1 hq22) ?_
          obtain ⟨x23, hxx23, h⟩ := ab_lt_e h
          refine z_iinc (pc2 := 127) (v := x23) (L2 := [some (.ref 85), some (.int p1), some (.int p2), some (.int p3), some (.int p4), some (.int p5), some (.int (1 : Int32)), some (.int x23)]) rfl dX12_fits_124 rfl (by rw [hxx23]; rfl) (by decide) rfl rfl ?_
          refine ab_goto (tgt := 76) dX12_fits_127 (by decide) ?_
          refine z_fgt [true, true, true, true, true, true, true, true] (L2 := [some (.ref 85), some (.int p1), some (.int p2), some (.int p3), some (.int p4), some (.int p5), some (.int (1 : Int32)), some (.int x23)]) rfl ?_
          exact ih _ _ _ h
