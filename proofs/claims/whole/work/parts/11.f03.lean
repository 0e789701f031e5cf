def f_X11_isUnder_27 (a1 : Int32) (σ : ab_F) : Option Bool := (if a1 = (0 : Int32) then (some true) else if a1 = (1 : Int32) then (some false) else if a1 = (2 : Int32) then (some true) else if a1 = (3 : Int32) then (some false) else if a1 = (4 : Int32) then (some false) else if a1 = (5 : Int32) then (some false) else (some false))
set_option maxRecDepth 100000 in
set_option maxHeartbeats 4000000 in
theorem e_X11_isUnder_27 {sc : Nat × (Nat → Int32)} {r : Option Nat × Option Nat} {a1 : Int32} {σ : ab_F} {res : Bool} (h : f_X11_isUnder_27 a1 σ = some res) : ab_E mX11_isUnder 0 sc 0 [some (.ref 27), some (.int a1)] [] (σ, r) (fun v S => v = some (.int (ab_b res)) ∧ S = (σ, r)) := by
  unfold f_X11_isUnder_27 at h
  refine z_iload_n (pc2 := 1) rfl dX11_isUnder_0 rfl ?_
  by_cases hc1 : a1 = (0 : Int32)
  · replace h := ab_pos hc1 h
    refine ab_tsIn (tgt := 40) dX11_isUnder_1 (by rw [hc1]; decide) (by rw [hc1]; decide) (by rw [hc1]; rfl) (by decide) ?_
    refine z_iconst (pc2 := 41) rfl dX11_isUnder_40 lt_i_1 ?_
    exact z_iret dX11_isUnder_41 rfl rfl (fz_p rfl h)
  · replace h := ab_neg hc1 h
    by_cases hc2 : a1 = (1 : Int32)
    · replace h := ab_pos hc2 h
      refine ab_tsIn (tgt := 42) dX11_isUnder_1 (by rw [hc2]; decide) (by rw [hc2]; decide) (by rw [hc2]; rfl) (by decide) ?_
      refine z_aload_n (pc2 := 43) rfl dX11_isUnder_42 rfl ?_
      refine z_instN 27 10 (pc2 := 46) rfl dX11_isUnder_43 rfl rfl rfl (by decide) wd_180 ?_
      exact z_iret dX11_isUnder_46 rfl rfl (fz_p rfl h)
    · replace h := ab_neg hc2 h
      by_cases hc3 : a1 = (2 : Int32)
      · replace h := ab_pos hc3 h
        refine ab_tsIn (tgt := 47) dX11_isUnder_1 (by rw [hc3]; decide) (by rw [hc3]; decide) (by rw [hc3]; rfl) (by decide) ?_
        refine z_aload_n (pc2 := 48) rfl dX11_isUnder_47 rfl ?_
        refine z_instS 27 10 (pc2 := 51) rfl dX11_isUnder_48 rfl rfl rfl rfl wd_187 ?_
        exact z_iret dX11_isUnder_51 rfl rfl (fz_p rfl h)
      · replace h := ab_neg hc3 h
        by_cases hc4 : a1 = (3 : Int32)
        · replace h := ab_pos hc4 h
          refine ab_tsIn (tgt := 52) dX11_isUnder_1 (by rw [hc4]; decide) (by rw [hc4]; decide) (by rw [hc4]; rfl) (by decide) ?_
          refine z_aload_n (pc2 := 53) rfl dX11_isUnder_52 rfl ?_
          refine z_instN 27 10 (pc2 := 56) rfl dX11_isUnder_53 rfl rfl rfl (by decide) wd_194 ?_
          exact z_iret dX11_isUnder_56 rfl rfl (fz_p rfl h)
        · replace h := ab_neg hc4 h
          by_cases hc5 : a1 = (4 : Int32)
          · replace h := ab_pos hc5 h
            refine ab_tsIn (tgt := 57) dX11_isUnder_1 (by rw [hc5]; decide) (by rw [hc5]; decide) (by rw [hc5]; rfl) (by decide) ?_
            refine z_aload_n (pc2 := 58) rfl dX11_isUnder_57 rfl ?_
            refine z_instN 27 10 (pc2 := 61) rfl dX11_isUnder_58 rfl rfl rfl (by decide) wd_201 ?_
            exact z_iret dX11_isUnder_61 rfl rfl (fz_p rfl h)
          · replace h := ab_neg hc5 h
            by_cases hc6 : a1 = (5 : Int32)
            · replace h := ab_pos hc6 h
              refine ab_tsIn (tgt := 62) dX11_isUnder_1 (by rw [hc6]; decide) (by rw [hc6]; decide) (by rw [hc6]; rfl) (by decide) ?_
              refine z_aload_n (pc2 := 63) rfl dX11_isUnder_62 rfl ?_
              refine z_instN 27 10 (pc2 := 66) rfl dX11_isUnder_63 rfl rfl rfl (by decide) wd_208 ?_
              exact z_iret dX11_isUnder_66 rfl rfl (fz_p rfl h)
            · replace h := ab_neg hc6 h
              have thc1 := ab_ne_toInt (k := 0) hc1 (by decide)
              have thc2 := ab_ne_toInt (k := 1) hc2 (by decide)
              have thc3 := ab_ne_toInt (k := 2) hc3 (by decide)
              have thc4 := ab_ne_toInt (k := 3) hc4 (by decide)
              have thc5 := ab_ne_toInt (k := 4) hc5 (by decide)
              have thc6 := ab_ne_toInt (k := 5) hc6 (by decide)
              refine ab_tsOut (tgt := 67) dX11_isUnder_1 (by omega) (by decide) ?_
              refine z_aload_n (pc2 := 68) rfl dX11_isUnder_67 rfl ?_
              refine z_instN 27 10 (pc2 := 71) rfl dX11_isUnder_68 rfl rfl rfl (by decide) wd_215 ?_
              exact z_iret dX11_isUnder_71 rfl rfl (fz_p rfl h)
def f_X11_isUnder_28 (a1 : Int32) (σ : ab_F) : Option Bool := (if a1 = (0 : Int32) then (some true) else if a1 = (1 : Int32) then (some false) else if a1 = (2 : Int32) then (some false) else if a1 = (3 : Int32) then (some true) else if a1 = (4 : Int32) then (some false) else if a1 = (5 : Int32) then (some false) else (some false))
set_option maxRecDepth 100000 in
set_option maxHeartbeats 4000000 in
theorem e_X11_isUnder_28 {sc : Nat × (Nat → Int32)} {r : Option Nat × Option Nat} {a1 : Int32} {σ : ab_F} {res : Bool} (h : f_X11_isUnder_28 a1 σ = some res) : ab_E mX11_isUnder 0 sc 0 [some (.ref 28), some (.int a1)] [] (σ, r) (fun v S => v = some (.int (ab_b res)) ∧ S = (σ, r)) := by
  unfold f_X11_isUnder_28 at h
  refine z_iload_n (pc2 := 1) rfl dX11_isUnder_0 rfl ?_
  by_cases hc1 : a1 = (0 : Int32)
  · replace h := ab_pos hc1 h
    refine ab_tsIn (tgt := 40) dX11_isUnder_1 (by rw [hc1]; decide) (by rw [hc1]; decide) (by rw [hc1]; rfl) (by decide) ?_
    refine z_iconst (pc2 := 41) rfl dX11_isUnder_40 lt_i_1 ?_
    exact z_iret dX11_isUnder_41 rfl rfl (fz_p rfl h)
  · replace h := ab_neg hc1 h
    by_cases hc2 : a1 = (1 : Int32)
    · replace h := ab_pos hc2 h
      refine ab_tsIn (tgt := 42) dX11_isUnder_1 (by rw [hc2]; decide) (by rw [hc2]; decide) (by rw [hc2]; rfl) (by decide) ?_
      refine z_aload_n (pc2 := 43) rfl dX11_isUnder_42 rfl ?_
      refine z_instN 28 3 (pc2 := 46) rfl dX11_isUnder_43 rfl rfl rfl (by decide) wd_180 ?_
      exact z_iret dX11_isUnder_46 rfl rfl (fz_p rfl h)
    · replace h := ab_neg hc2 h
      by_cases hc3 : a1 = (2 : Int32)
      · replace h := ab_pos hc3 h
        refine ab_tsIn (tgt := 47) dX11_isUnder_1 (by rw [hc3]; decide) (by rw [hc3]; decide) (by rw [hc3]; rfl) (by decide) ?_
        refine z_aload_n (pc2 := 48) rfl dX11_isUnder_47 rfl ?_
        refine z_instN 28 3 (pc2 := 51) rfl dX11_isUnder_48 rfl rfl rfl (by decide) wd_187 ?_
        exact z_iret dX11_isUnder_51 rfl rfl (fz_p rfl h)
      · replace h := ab_neg hc3 h
        by_cases hc4 : a1 = (3 : Int32)
        · replace h := ab_pos hc4 h
          refine ab_tsIn (tgt := 52) dX11_isUnder_1 (by rw [hc4]; decide) (by rw [hc4]; decide) (by rw [hc4]; rfl) (by decide) ?_
          refine z_aload_n (pc2 := 53) rfl dX11_isUnder_52 rfl ?_
          refine z_instS 28 3 (pc2 := 56) rfl dX11_isUnder_53 rfl rfl rfl rfl wd_194 ?_
          exact z_iret dX11_isUnder_56 rfl rfl (fz_p rfl h)
        · replace h := ab_neg hc4 h
          by_cases hc5 : a1 = (4 : Int32)
          · replace h := ab_pos hc5 h
            refine ab_tsIn (tgt := 57) dX11_isUnder_1 (by rw [hc5]; decide) (by rw [hc5]; decide) (by rw [hc5]; rfl) (by decide) ?_
            refine z_aload_n (pc2 := 58) rfl dX11_isUnder_57 rfl ?_
            refine z_instN 28 3 (pc2 := 61) rfl dX11_isUnder_58 rfl rfl rfl (by decide) wd_201 ?_
            exact z_iret dX11_isUnder_61 rfl rfl (fz_p rfl h)
          · replace h := ab_neg hc5 h
            by_cases hc6 : a1 = (5 : Int32)
            · replace h := ab_pos hc6 h
              refine ab_tsIn (tgt := 62) dX11_isUnder_1 (by rw [hc6]; decide) (by rw [hc6]; decide) (by rw [hc6]; rfl) (by decide) ?_
              refine z_aload_n (pc2 := 63) rfl dX11_isUnder_62 rfl ?_
              refine z_instN 28 3 (pc2 := 66) rfl dX11_isUnder_63 rfl rfl rfl (by decide) wd_208 ?_
              exact z_iret dX11_isUnder_66 rfl rfl (fz_p rfl h)
            · replace h := ab_neg hc6 h
              have thc1 := ab_ne_toInt (k := 0) hc1 (by decide)
              have thc2 := ab_ne_toInt (k := 1) hc2 (by decide)
              have thc3 := ab_ne_toInt (k := 2) hc3 (by decide)
              have thc4 := ab_ne_toInt (k := 3) hc4 (by decide)
              have thc5 := ab_ne_toInt (k := 4) hc5 (by decide)
              have thc6 := ab_ne_toInt (k := 5) hc6 (by decide)
              refine ab_tsOut (tgt := 67) dX11_isUnder_1 (by omega) (by decide) ?_
              refine z_aload_n (pc2 := 68) rfl dX11_isUnder_67 rfl ?_
              refine z_instN 28 3 (pc2 := 71) rfl dX11_isUnder_68 rfl rfl rfl (by decide) wd_215 ?_
              exact z_iret dX11_isUnder_71 rfl rfl (fz_p rfl h)
def f_X11_isUnder_29 (a1 : Int32) (σ : ab_F) : Option Bool := (if a1 = (0 : Int32) then (some true) else if a1 = (1 : Int32) then (some true) else if a1 = (2 : Int32) then (some false) else if a1 = (3 : Int32) then (some false) else if a1 = (4 : Int32) then (some true) else if a1 = (5 : Int32) then (some false) else (some false))
set_option maxRecDepth 100000 in
set_option maxHeartbeats 4000000 in
theorem e_X11_isUnder_29 {sc : Nat × (Nat → Int32)} {r : Option Nat × Option Nat} {a1 : Int32} {σ : ab_F} {res : Bool} (h : f_X11_isUnder_29 a1 σ = some res) : ab_E mX11_isUnder 0 sc 0 [some (.ref 29), some (.int a1)] [] (σ, r) (fun v S => v = some (.int (ab_b res)) ∧ S = (σ, r)) := by
  unfold f_X11_isUnder_29 at h
  refine z_iload_n (pc2 := 1) rfl dX11_isUnder_0 rfl ?_
  by_cases hc1 : a1 = (0 : Int32)
  · replace h := ab_pos hc1 h
    refine ab_tsIn (tgt := 40) dX11_isUnder_1 (by rw [hc1]; decide) (by rw [hc1]; decide) (by rw [hc1]; rfl) (by decide) ?_
    refine z_iconst (pc2 := 41) rfl dX11_isUnder_40 lt_i_1 ?_
    exact z_iret dX11_isUnder_41 rfl rfl (fz_p rfl h)
  · replace h := ab_neg hc1 h
    by_cases hc2 : a1 = (1 : Int32)
    · replace h := ab_pos hc2 h
      refine ab_tsIn (tgt := 42) dX11_isUnder_1 (by rw [hc2]; decide) (by rw [hc2]; decide) (by rw [hc2]; rfl) (by decide) ?_
      refine z_aload_n (pc2 := 43) rfl dX11_isUnder_42 rfl ?_
      refine z_instY 29 1 (pc2 := 46) rfl dX11_isUnder_43 rfl rfl rfl (by decide) wd_180 ?_
      exact z_iret dX11_isUnder_46 rfl rfl (fz_p rfl h)
    · replace h := ab_neg hc2 h
      by_cases hc3 : a1 = (2 : Int32)
      · replace h := ab_pos hc3 h
        refine ab_tsIn (tgt := 47) dX11_isUnder_1 (by rw [hc3]; decide) (by rw [hc3]; decide) (by rw [hc3]; rfl) (by decide) ?_
        refine z_aload_n (pc2 := 48) rfl dX11_isUnder_47 rfl ?_
        refine z_instN 29 1 (pc2 := 51) rfl dX11_isUnder_48 rfl rfl rfl (by decide) wd_187 ?_
        exact z_iret dX11_isUnder_51 rfl rfl (fz_p rfl h)
      · replace h := ab_neg hc3 h
        by_cases hc4 : a1 = (3 : Int32)
        · replace h := ab_pos hc4 h
          refine ab_tsIn (tgt := 52) dX11_isUnder_1 (by rw [hc4]; decide) (by rw [hc4]; decide) (by rw [hc4]; rfl) (by decide) ?_
          refine z_aload_n (pc2 := 53) rfl dX11_isUnder_52 rfl ?_
          refine z_instN 29 1 (pc2 := 56) rfl dX11_isUnder_53 rfl rfl rfl (by decide) wd_194 ?_
          exact z_iret dX11_isUnder_56 rfl rfl (fz_p rfl h)
        · replace h := ab_neg hc4 h
          by_cases hc5 : a1 = (4 : Int32)
          · replace h := ab_pos hc5 h
            refine ab_tsIn (tgt := 57) dX11_isUnder_1 (by rw [hc5]; decide) (by rw [hc5]; decide) (by rw [hc5]; rfl) (by decide) ?_
            refine z_aload_n (pc2 := 58) rfl dX11_isUnder_57 rfl ?_
            refine z_instS 29 1 (pc2 := 61) rfl dX11_isUnder_58 rfl rfl rfl rfl wd_201 ?_
            exact z_iret dX11_isUnder_61 rfl rfl (fz_p rfl h)
          · replace h := ab_neg hc5 h
            by_cases hc6 : a1 = (5 : Int32)
            · replace h := ab_pos hc6 h
              refine ab_tsIn (tgt := 62) dX11_isUnder_1 (by rw [hc6]; decide) (by rw [hc6]; decide) (by rw [hc6]; rfl) (by decide) ?_
              refine z_aload_n (pc2 := 63) rfl dX11_isUnder_62 rfl ?_
              refine z_instN 29 1 (pc2 := 66) rfl dX11_isUnder_63 rfl rfl rfl (by decide) wd_208 ?_
              exact z_iret dX11_isUnder_66 rfl rfl (fz_p rfl h)
            · replace h := ab_neg hc6 h
              have thc1 := ab_ne_toInt (k := 0) hc1 (by decide)
              have thc2 := ab_ne_toInt (k := 1) hc2 (by decide)
              have thc3 := ab_ne_toInt (k := 2) hc3 (by decide)
              have thc4 := ab_ne_toInt (k := 3) hc4 (by decide)
              have thc5 := ab_ne_toInt (k := 4) hc5 (by decide)
              have thc6 := ab_ne_toInt (k := 5) hc6 (by decide)
              refine ab_tsOut (tgt := 67) dX11_isUnder_1 (by omega) (by decide) ?_
              refine z_aload_n (pc2 := 68) rfl dX11_isUnder_67 rfl ?_
              refine z_instN 29 1 (pc2 := 71) rfl dX11_isUnder_68 rfl rfl rfl (by decide) wd_215 ?_
              exact z_iret dX11_isUnder_71 rfl rfl (fz_p rfl h)
def f_X11_isUnder_30 (a1 : Int32) (σ : ab_F) : Option Bool := (if a1 = (0 : Int32) then (some true) else if a1 = (1 : Int32) then (some false) else if a1 = (2 : Int32) then (some true) else if a1 = (3 : Int32) then (some false) else if a1 = (4 : Int32) then (some false) else if a1 = (5 : Int32) then (some true) else (some false))
set_option maxRecDepth 100000 in
set_option maxHeartbeats 4000000 in
theorem e_X11_isUnder_30 {sc : Nat × (Nat → Int32)} {r : Option Nat × Option Nat} {a1 : Int32} {σ : ab_F} {res : Bool} (h : f_X11_isUnder_30 a1 σ = some res) : ab_E mX11_isUnder 0 sc 0 [some (.ref 30), some (.int a1)] [] (σ, r) (fun v S => v = some (.int (ab_b res)) ∧ S = (σ, r)) := by
  unfold f_X11_isUnder_30 at h
  refine z_iload_n (pc2 := 1) rfl dX11_isUnder_0 rfl ?_
  by_cases hc1 : a1 = (0 : Int32)
  · replace h := ab_pos hc1 h
    refine ab_tsIn (tgt := 40) dX11_isUnder_1 (by rw [hc1]; decide) (by rw [hc1]; decide) (by rw [hc1]; rfl) (by decide) ?_
    refine z_iconst (pc2 := 41) rfl dX11_isUnder_40 lt_i_1 ?_
    exact z_iret dX11_isUnder_41 rfl rfl (fz_p rfl h)
  · replace h := ab_neg hc1 h
    by_cases hc2 : a1 = (1 : Int32)
    · replace h := ab_pos hc2 h
      refine ab_tsIn (tgt := 42) dX11_isUnder_1 (by rw [hc2]; decide) (by rw [hc2]; decide) (by rw [hc2]; rfl) (by decide) ?_
      refine z_aload_n (pc2 := 43) rfl dX11_isUnder_42 rfl ?_
      refine z_instN 30 0 (pc2 := 46) rfl dX11_isUnder_43 rfl rfl rfl (by decide) wd_180 ?_
      exact z_iret dX11_isUnder_46 rfl rfl (fz_p rfl h)
    · replace h := ab_neg hc2 h
      by_cases hc3 : a1 = (2 : Int32)
      · replace h := ab_pos hc3 h
        refine ab_tsIn (tgt := 47) dX11_isUnder_1 (by rw [hc3]; decide) (by rw [hc3]; decide) (by rw [hc3]; rfl) (by decide) ?_
        refine z_aload_n (pc2 := 48) rfl dX11_isUnder_47 rfl ?_
        refine z_instY 30 0 (pc2 := 51) rfl dX11_isUnder_48 rfl rfl rfl (by decide) wd_187 ?_
        exact z_iret dX11_isUnder_51 rfl rfl (fz_p rfl h)
      · replace h := ab_neg hc3 h
        by_cases hc4 : a1 = (3 : Int32)
        · replace h := ab_pos hc4 h
          refine ab_tsIn (tgt := 52) dX11_isUnder_1 (by rw [hc4]; decide) (by rw [hc4]; decide) (by rw [hc4]; rfl) (by decide) ?_
          refine z_aload_n (pc2 := 53) rfl dX11_isUnder_52 rfl ?_
          refine z_instN 30 0 (pc2 := 56) rfl dX11_isUnder_53 rfl rfl rfl (by decide) wd_194 ?_
          exact z_iret dX11_isUnder_56 rfl rfl (fz_p rfl h)
        · replace h := ab_neg hc4 h
          by_cases hc5 : a1 = (4 : Int32)
          · replace h := ab_pos hc5 h
            refine ab_tsIn (tgt := 57) dX11_isUnder_1 (by rw [hc5]; decide) (by rw [hc5]; decide) (by rw [hc5]; rfl) (by decide) ?_
            refine z_aload_n (pc2 := 58) rfl dX11_isUnder_57 rfl ?_
            refine z_instN 30 0 (pc2 := 61) rfl dX11_isUnder_58 rfl rfl rfl (by decide) wd_201 ?_
            exact z_iret dX11_isUnder_61 rfl rfl (fz_p rfl h)
          · replace h := ab_neg hc5 h
            by_cases hc6 : a1 = (5 : Int32)
            · replace h := ab_pos hc6 h
              refine ab_tsIn (tgt := 62) dX11_isUnder_1 (by rw [hc6]; decide) (by rw [hc6]; decide) (by rw [hc6]; rfl) (by decide) ?_
              refine z_aload_n (pc2 := 63) rfl dX11_isUnder_62 rfl ?_
              refine z_instS 30 0 (pc2 := 66) rfl dX11_isUnder_63 rfl rfl rfl rfl wd_208 ?_
              exact z_iret dX11_isUnder_66 rfl rfl (fz_p rfl h)
            · replace h := ab_neg hc6 h
              have thc1 := ab_ne_toInt (k := 0) hc1 (by decide)
              have thc2 := ab_ne_toInt (k := 1) hc2 (by decide)
              have thc3 := ab_ne_toInt (k := 2) hc3 (by decide)
              have thc4 := ab_ne_toInt (k := 3) hc4 (by decide)
              have thc5 := ab_ne_toInt (k := 4) hc5 (by decide)
              have thc6 := ab_ne_toInt (k := 5) hc6 (by decide)
              refine ab_tsOut (tgt := 67) dX11_isUnder_1 (by omega) (by decide) ?_
              refine z_aload_n (pc2 := 68) rfl dX11_isUnder_67 rfl ?_
              refine z_instN 30 0 (pc2 := 71) rfl dX11_isUnder_68 rfl rfl rfl (by decide) wd_215 ?_
              exact z_iret dX11_isUnder_71 rfl rfl (fz_p rfl h)
def f_X11_isUnder_31 (a1 : Int32) (σ : ab_F) : Option Bool := (if a1 = (0 : Int32) then (some true) else if a1 = (1 : Int32) then (some false) else if a1 = (2 : Int32) then (some false) else if a1 = (3 : Int32) then (some false) else if a1 = (4 : Int32) then (some false) else if a1 = (5 : Int32) then (some false) else (some true))
set_option maxRecDepth 100000 in
set_option maxHeartbeats 4000000 in
theorem e_X11_isUnder_31 {sc : Nat × (Nat → Int32)} {r : Option Nat × Option Nat} {a1 : Int32} {σ : ab_F} {res : Bool} (h : f_X11_isUnder_31 a1 σ = some res) : ab_E mX11_isUnder 0 sc 0 [some (.ref 31), some (.int a1)] [] (σ, r) (fun v S => v = some (.int (ab_b res)) ∧ S = (σ, r)) := by
  unfold f_X11_isUnder_31 at h
  refine z_iload_n (pc2 := 1) rfl dX11_isUnder_0 rfl ?_
  by_cases hc1 : a1 = (0 : Int32)
  · replace h := ab_pos hc1 h
    refine ab_tsIn (tgt := 40) dX11_isUnder_1 (by rw [hc1]; decide) (by rw [hc1]; decide) (by rw [hc1]; rfl) (by decide) ?_
    refine z_iconst (pc2 := 41) rfl dX11_isUnder_40 lt_i_1 ?_
    exact z_iret dX11_isUnder_41 rfl rfl (fz_p rfl h)
  · replace h := ab_neg hc1 h
    by_cases hc2 : a1 = (1 : Int32)
    · replace h := ab_pos hc2 h
      refine ab_tsIn (tgt := 42) dX11_isUnder_1 (by rw [hc2]; decide) (by rw [hc2]; decide) (by rw [hc2]; rfl) (by decide) ?_
      refine z_aload_n (pc2 := 43) rfl dX11_isUnder_42 rfl ?_
      refine z_instN 31 4 (pc2 := 46) rfl dX11_isUnder_43 rfl rfl rfl (by decide) wd_180 ?_
      exact z_iret dX11_isUnder_46 rfl rfl (fz_p rfl h)
    · replace h := ab_neg hc2 h
      by_cases hc3 : a1 = (2 : Int32)
      · replace h := ab_pos hc3 h
        refine ab_tsIn (tgt := 47) dX11_isUnder_1 (by rw [hc3]; decide) (by rw [hc3]; decide) (by rw [hc3]; rfl) (by decide) ?_
        refine z_aload_n (pc2 := 48) rfl dX11_isUnder_47 rfl ?_
        refine z_instN 31 4 (pc2 := 51) rfl dX11_isUnder_48 rfl rfl rfl (by decide) wd_187 ?_
        exact z_iret dX11_isUnder_51 rfl rfl (fz_p rfl h)
      · replace h := ab_neg hc3 h
        by_cases hc4 : a1 = (3 : Int32)
        · replace h := ab_pos hc4 h
          refine ab_tsIn (tgt := 52) dX11_isUnder_1 (by rw [hc4]; decide) (by rw [hc4]; decide) (by rw [hc4]; rfl) (by decide) ?_
          refine z_aload_n (pc2 := 53) rfl dX11_isUnder_52 rfl ?_
          refine z_instN 31 4 (pc2 := 56) rfl dX11_isUnder_53 rfl rfl rfl (by decide) wd_194 ?_
          exact z_iret dX11_isUnder_56 rfl rfl (fz_p rfl h)
        · replace h := ab_neg hc4 h
          by_cases hc5 : a1 = (4 : Int32)
          · replace h := ab_pos hc5 h
            refine ab_tsIn (tgt := 57) dX11_isUnder_1 (by rw [hc5]; decide) (by rw [hc5]; decide) (by rw [hc5]; rfl) (by decide) ?_
            refine z_aload_n (pc2 := 58) rfl dX11_isUnder_57 rfl ?_
            refine z_instN 31 4 (pc2 := 61) rfl dX11_isUnder_58 rfl rfl rfl (by decide) wd_201 ?_
            exact z_iret dX11_isUnder_61 rfl rfl (fz_p rfl h)
          · replace h := ab_neg hc5 h
            by_cases hc6 : a1 = (5 : Int32)
            · replace h := ab_pos hc6 h
              refine ab_tsIn (tgt := 62) dX11_isUnder_1 (by rw [hc6]; decide) (by rw [hc6]; decide) (by rw [hc6]; rfl) (by decide) ?_
              refine z_aload_n (pc2 := 63) rfl dX11_isUnder_62 rfl ?_
              refine z_instN 31 4 (pc2 := 66) rfl dX11_isUnder_63 rfl rfl rfl (by decide) wd_208 ?_
              exact z_iret dX11_isUnder_66 rfl rfl (fz_p rfl h)
            · replace h := ab_neg hc6 h
              have thc1 := ab_ne_toInt (k := 0) hc1 (by decide)
              have thc2 := ab_ne_toInt (k := 1) hc2 (by decide)
              have thc3 := ab_ne_toInt (k := 2) hc3 (by decide)
              have thc4 := ab_ne_toInt (k := 3) hc4 (by decide)
              have thc5 := ab_ne_toInt (k := 4) hc5 (by decide)
              have thc6 := ab_ne_toInt (k := 5) hc6 (by decide)
              refine ab_tsOut (tgt := 67) dX11_isUnder_1 (by omega) (by decide) ?_
              refine z_aload_n (pc2 := 68) rfl dX11_isUnder_67 rfl ?_
              refine z_instS 31 4 (pc2 := 71) rfl dX11_isUnder_68 rfl rfl rfl rfl wd_215 ?_
              exact z_iret dX11_isUnder_71 rfl rfl (fz_p rfl h)
def f_X11_as (a1 : Int32) (a2 : Int32) (σ : ab_F) : Option (Int32 × ab_F) := (f_X11_nobody a1 σ).bind (fun q1 => (if (ab_b q1) = 0 then (f_X11_outside a2 (6 : Int32) σ).bind (fun q4 => (if (ab_b q4) = 0 then ab_ck (ab_ib a1 8) ((if (σ 44 (a1).toNatClampNeg) = (0 : Int32) then (f_X11_isUnder_25 a2 σ).bind (fun q7 => (if (ab_b q7) = 0 then (f_X11_refuse (5 : Int32) σ).bind (fun q10 => (some (q10.1, q10.2))) else ab_ck (ab_ib a1 8) ((some ((σ 45 (a1).toNatClampNeg), σ))))) else if (σ 44 (a1).toNatClampNeg) = (1 : Int32) then (f_X11_isUnder_26 a2 σ).bind (fun q12 => (if (ab_b q12) = 0 then (f_X11_refuse (5 : Int32) σ).bind (fun q15 => (some (q15.1, q15.2))) else ab_ck (ab_ib a1 8) ((some ((σ 45 (a1).toNatClampNeg), σ))))) else if (σ 44 (a1).toNatClampNeg) = (2 : Int32) then (f_X11_isUnder_27 a2 σ).bind (fun q17 => (if (ab_b q17) = 0 then (f_X11_refuse (5 : Int32) σ).bind (fun q20 => (some (q20.1, q20.2))) else ab_ck (ab_ib a1 8) ((some ((σ 45 (a1).toNatClampNeg), σ))))) else if (σ 44 (a1).toNatClampNeg) = (3 : Int32) then (f_X11_isUnder_28 a2 σ).bind (fun q22 => (if (ab_b q22) = 0 then (f_X11_refuse (5 : Int32) σ).bind (fun q25 => (some (q25.1, q25.2))) else ab_ck (ab_ib a1 8) ((some ((σ 45 (a1).toNatClampNeg), σ))))) else if (σ 44 (a1).toNatClampNeg) = (4 : Int32) then (f_X11_isUnder_29 a2 σ).bind (fun q27 => (if (ab_b q27) = 0 then (f_X11_refuse (5 : Int32) σ).bind (fun q30 => (some (q30.1, q30.2))) else ab_ck (ab_ib a1 8) ((some ((σ 45 (a1).toNatClampNeg), σ))))) else if (σ 44 (a1).toNatClampNeg) = (5 : Int32) then (f_X11_isUnder_30 a2 σ).bind (fun q32 => (if (ab_b q32) = 0 then (f_X11_refuse (5 : Int32) σ).bind (fun q35 => (some (q35.1, q35.2))) else ab_ck (ab_ib a1 8) ((some ((σ 45 (a1).toNatClampNeg), σ))))) else if (σ 44 (a1).toNatClampNeg) = (6 : Int32) then (f_X11_isUnder_31 a2 σ).bind (fun q37 => (if (ab_b q37) = 0 then (f_X11_refuse (5 : Int32) σ).bind (fun q40 => (some (q40.1, q40.2))) else ab_ck (ab_ib a1 8) ((some ((σ 45 (a1).toNatClampNeg), σ))))) else none)) else (f_X11_refuse (1 : Int32) σ).bind (fun q42 => (some (q42.1, q42.2))))) else (f_X11_refuse (1 : Int32) σ).bind (fun q3 => (some (q3.1, q3.2)))))
set_option maxRecDepth 100000 in
set_option maxHeartbeats 4000000 in
theorem e_X11_as {sc : Nat × (Nat → Int32)} {r : Option Nat × Option Nat} {a1 : Int32} {a2 : Int32} {σ : ab_F} {res : (Int32 × ab_F)} (h : f_X11_as a1 a2 σ = some res) : ab_E mX11_as 1 sc 0 [some (.ref 8), some (.int a1), some (.int a2)] [] (σ, r) (fun v S => v = some (.int res.1) ∧ S = (res.2, r)) := by
  unfold f_X11_as at h
  refine z_aload_n (pc2 := 1) rfl dX11_as_0 rfl ?_
  refine z_iload_n (pc2 := 2) rfl dX11_as_1 rfl ?_
  obtain ⟨q1, hq1, h⟩ := ab_bnd h
  refine z_callVi 8 [.int a1] [some (.ref 8), some (.int a1)] (pc2 := 5) rfl rfl dX11_as_2 ok_X11_nobody ⟨fun _ => rfl, fun _ => Nat.le_of_ble_eq_true rfl⟩ rfl rv_8 wd_359 wd_361 wd_1 rfl (e_X11_nobody hq1) ?_
  refine z_if_ne (pc2 := 8) (tgt := 17) rfl dX11_as_5 (by decide) (fun hc2 => ?_) (fun hc2 => ?_)
  · replace h := ab_neg hc2 h
    refine z_aload_n (pc2 := 18) rfl dX11_as_17 rfl ?_
    refine z_iconst (pc2 := 19) rfl dX11_as_18 lt_i_1 ?_
    obtain ⟨q3, hq3, h⟩ := ab_bnd h
    refine z_callVi 8 [.int (1 : Int32)] [some (.ref 8), some (.int (1 : Int32))] (pc2 := 22) rfl rfl dX11_as_19 ok_X11_refuse ⟨fun _ => rfl, fun _ => Nat.le_of_ble_eq_true rfl⟩ rfl rv_8 wd_346 wd_348 wd_0 rfl (e_X11_refuse hq3) ?_
    exact z_iret dX11_as_22 rfl rfl (fi_w h)
  · replace h := ab_pos hc2 h
    refine z_iload_n (pc2 := 9) rfl dX11_as_8 rfl ?_
    refine z_bipush (pc2 := 11) rfl dX11_as_9 lt_b_6 ?_
    obtain ⟨q4, hq4, h⟩ := ab_bnd h
    refine z_callSi [.int a2, .int (6 : Int32)] [some (.int a2), some (.int (6 : Int32))] (pc2 := 14) rfl rfl dX11_as_11 ok_X11_outside ⟨fun _ => rfl, fun _ => Nat.le_of_ble_eq_true rfl⟩ rfl wd_343 wd_344 rfl (e_X11_outside hq4) ?_
    refine z_if_eq (pc2 := 17) (tgt := 23) rfl dX11_as_14 (by decide) (fun hc5 => ?_) (fun hc5 => ?_)
    · replace h := ab_pos hc5 h
      refine z_aload_n (pc2 := 24) rfl dX11_as_23 rfl ?_
      refine z_getR 8 11 0 38 (pc2 := 27) rfl dX11_as_24 rfl rfl ff_11_0 wd_302 rfl ?_
      refine z_getR 38 9 0 24 (pc2 := 30) rfl dX11_as_27 rfl rfl ff_9_0 wd_229 rfl ?_
      refine z_aload_n (pc2 := 31) rfl dX11_as_30 rfl ?_
      refine z_getR 8 11 0 38 (pc2 := 34) rfl dX11_as_31 rfl rfl ff_11_0 wd_302 rfl ?_
      refine z_getR 38 9 12 44 (pc2 := 37) rfl dX11_as_34 rfl rfl ff_9_12 wd_253 rfl ?_
      refine z_iload_n (pc2 := 38) rfl dX11_as_37 rfl ?_
      obtain ⟨hb6, h⟩ := ab_ck_e h
      refine z_iald 44 (pc2 := 39) (j := (a1).toNatClampNeg) rfl dX11_as_38 rfl rfl hb6 rfl ?_
      by_cases hi11 : (σ 44 (a1).toNatClampNeg) = (0 : Int32)
      · replace h := ab_pos hi11 h
        refine z_aaldG 24 25 (pc2 := 40) rfl dX11_as_39 rfl rfl (by rw [hi11]; rfl) (by rw [hi11]; rfl) ?_
        refine z_iload_n (pc2 := 41) rfl dX11_as_40 rfl ?_
        obtain ⟨q7, hq7, h⟩ := ab_bnd h
        refine z_callSi [.ref 25, .int a2] [some (.ref 25), some (.int a2)] (pc2 := 44) rfl rfl dX11_as_41 ok_X11_isUnder ⟨fun _ => rfl, fun _ => Nat.le_of_ble_eq_true rfl⟩ rfl wd_472 wd_473 rfl (e_X11_isUnder_25 hq7) ?_
        refine z_if_ne (pc2 := 47) (tgt := 53) rfl dX11_as_44 (by decide) (fun hc8 => ?_) (fun hc8 => ?_)
        · replace h := ab_neg hc8 h
          refine z_aload_n (pc2 := 54) rfl dX11_as_53 rfl ?_
          refine z_getR 8 11 0 38 (pc2 := 57) rfl dX11_as_54 rfl rfl ff_11_0 wd_302 rfl ?_
          refine z_getR 38 9 13 45 (pc2 := 60) rfl dX11_as_57 rfl rfl ff_9_13 wd_258 rfl ?_
          refine z_iload_n (pc2 := 61) rfl dX11_as_60 rfl ?_
          obtain ⟨hb9, h⟩ := ab_ck_e h
          refine z_iald 45 (pc2 := 62) (j := (a1).toNatClampNeg) rfl dX11_as_61 rfl rfl hb9 rfl ?_
          exact z_iret dX11_as_62 rfl rfl (fi_w h)
        · replace h := ab_pos hc8 h
          refine z_aload_n (pc2 := 48) rfl dX11_as_47 rfl ?_
          refine z_iconst (pc2 := 49) rfl dX11_as_48 lt_i_5 ?_
          obtain ⟨q10, hq10, h⟩ := ab_bnd h
          refine z_callVi 8 [.int (5 : Int32)] [some (.ref 8), some (.int (5 : Int32))] (pc2 := 52) rfl rfl dX11_as_49 ok_X11_refuse ⟨fun _ => rfl, fun _ => Nat.le_of_ble_eq_true rfl⟩ rfl rv_8 wd_346 wd_348 wd_0 rfl (e_X11_refuse hq10) ?_
          exact z_iret dX11_as_52 rfl rfl (fi_w h)
      · replace h := ab_neg hi11 h
        by_cases hi16 : (σ 44 (a1).toNatClampNeg) = (1 : Int32)
        · replace h := ab_pos hi16 h
          refine z_aaldG 24 26 (pc2 := 40) rfl dX11_as_39 rfl rfl (by rw [hi16]; rfl) (by rw [hi16]; rfl) ?_
          refine z_iload_n (pc2 := 41) rfl dX11_as_40 rfl ?_
          obtain ⟨q12, hq12, h⟩ := ab_bnd h
          refine z_callSi [.ref 26, .int a2] [some (.ref 26), some (.int a2)] (pc2 := 44) rfl rfl dX11_as_41 ok_X11_isUnder ⟨fun _ => rfl, fun _ => Nat.le_of_ble_eq_true rfl⟩ rfl wd_472 wd_473 rfl (e_X11_isUnder_26 hq12) ?_
          refine z_if_ne (pc2 := 47) (tgt := 53) rfl dX11_as_44 (by decide) (fun hc13 => ?_) (fun hc13 => ?_)
          · replace h := ab_neg hc13 h
            refine z_aload_n (pc2 := 54) rfl dX11_as_53 rfl ?_
            refine z_getR 8 11 0 38 (pc2 := 57) rfl dX11_as_54 rfl rfl ff_11_0 wd_302 rfl ?_
            refine z_getR 38 9 13 45 (pc2 := 60) rfl dX11_as_57 rfl rfl ff_9_13 wd_258 rfl ?_
            refine z_iload_n (pc2 := 61) rfl dX11_as_60 rfl ?_
            obtain ⟨hb14, h⟩ := ab_ck_e h
            refine z_iald 45 (pc2 := 62) (j := (a1).toNatClampNeg) rfl dX11_as_61 rfl rfl hb14 rfl ?_
            exact z_iret dX11_as_62 rfl rfl (fi_w h)
          · replace h := ab_pos hc13 h
            refine z_aload_n (pc2 := 48) rfl dX11_as_47 rfl ?_
            refine z_iconst (pc2 := 49) rfl dX11_as_48 lt_i_5 ?_
            obtain ⟨q15, hq15, h⟩ := ab_bnd h
            refine z_callVi 8 [.int (5 : Int32)] [some (.ref 8), some (.int (5 : Int32))] (pc2 := 52) rfl rfl dX11_as_49 ok_X11_refuse ⟨fun _ => rfl, fun _ => Nat.le_of_ble_eq_true rfl⟩ rfl rv_8 wd_346 wd_348 wd_0 rfl (e_X11_refuse hq15) ?_
            exact z_iret dX11_as_52 rfl rfl (fi_w h)
        · replace h := ab_neg hi16 h
          by_cases hi21 : (σ 44 (a1).toNatClampNeg) = (2 : Int32)
          · replace h := ab_pos hi21 h
            refine z_aaldG 24 27 (pc2 := 40) rfl dX11_as_39 rfl rfl (by rw [hi21]; rfl) (by rw [hi21]; rfl) ?_
            refine z_iload_n (pc2 := 41) rfl dX11_as_40 rfl ?_
            obtain ⟨q17, hq17, h⟩ := ab_bnd h
            refine z_callSi [.ref 27, .int a2] [some (.ref 27), some (.int a2)] (pc2 := 44) rfl rfl dX11_as_41 ok_X11_isUnder ⟨fun _ => rfl, fun _ => Nat.le_of_ble_eq_true rfl⟩ rfl wd_472 wd_473 rfl (e_X11_isUnder_27 hq17) ?_
            refine z_if_ne (pc2 := 47) (tgt := 53) rfl dX11_as_44 (by decide) (fun hc18 => ?_) (fun hc18 => ?_)
            · replace h := ab_neg hc18 h
              refine z_aload_n (pc2 := 54) rfl dX11_as_53 rfl ?_
              refine z_getR 8 11 0 38 (pc2 := 57) rfl dX11_as_54 rfl rfl ff_11_0 wd_302 rfl ?_
              refine z_getR 38 9 13 45 (pc2 := 60) rfl dX11_as_57 rfl rfl ff_9_13 wd_258 rfl ?_
              refine z_iload_n (pc2 := 61) rfl dX11_as_60 rfl ?_
              obtain ⟨hb19, h⟩ := ab_ck_e h
              refine z_iald 45 (pc2 := 62) (j := (a1).toNatClampNeg) rfl dX11_as_61 rfl rfl hb19 rfl ?_
              exact z_iret dX11_as_62 rfl rfl (fi_w h)
            · replace h := ab_pos hc18 h
              refine z_aload_n (pc2 := 48) rfl dX11_as_47 rfl ?_
              refine z_iconst (pc2 := 49) rfl dX11_as_48 lt_i_5 ?_
              obtain ⟨q20, hq20, h⟩ := ab_bnd h
              refine z_callVi 8 [.int (5 : Int32)] [some (.ref 8), some (.int (5 : Int32))] (pc2 := 52) rfl rfl dX11_as_49 ok_X11_refuse ⟨fun _ => rfl, fun _ => Nat.le_of_ble_eq_true rfl⟩ rfl rv_8 wd_346 wd_348 wd_0 rfl (e_X11_refuse hq20) ?_
              exact z_iret dX11_as_52 rfl rfl (fi_w h)
          · replace h := ab_neg hi21 h
            by_cases hi26 : (σ 44 (a1).toNatClampNeg) = (3 : Int32)
            · replace h := ab_pos hi26 h
              refine z_aaldG 24 28 (pc2 := 40) rfl dX11_as_39 rfl rfl (by rw [hi26]; rfl) (by rw [hi26]; rfl) ?_
              refine z_iload_n (pc2 := 41) rfl dX11_as_40 rfl ?_
              obtain ⟨q22, hq22, h⟩ := ab_bnd h
              refine z_callSi [.ref 28, .int a2] [some (.ref 28), some (.int a2)] (pc2 := 44) rfl rfl dX11_as_41 ok_X11_isUnder ⟨fun _ => rfl, fun _ => Nat.le_of_ble_eq_true rfl⟩ rfl wd_472 wd_473 rfl (e_X11_isUnder_28 hq22) ?_
              refine z_if_ne (pc2 := 47) (tgt := 53) rfl dX11_as_44 (by decide) (fun hc23 => ?_) (fun hc23 => ?_)
              · replace h := ab_neg hc23 h
                refine z_aload_n (pc2 := 54) rfl dX11_as_53 rfl ?_
                refine z_getR 8 11 0 38 (pc2 := 57) rfl dX11_as_54 rfl rfl ff_11_0 wd_302 rfl ?_
                refine z_getR 38 9 13 45 (pc2 := 60) rfl dX11_as_57 rfl rfl ff_9_13 wd_258 rfl ?_
                refine z_iload_n (pc2 := 61) rfl dX11_as_60 rfl ?_
                obtain ⟨hb24, h⟩ := ab_ck_e h
                refine z_iald 45 (pc2 := 62) (j := (a1).toNatClampNeg) rfl dX11_as_61 rfl rfl hb24 rfl ?_
                exact z_iret dX11_as_62 rfl rfl (fi_w h)
              · replace h := ab_pos hc23 h
                refine z_aload_n (pc2 := 48) rfl dX11_as_47 rfl ?_
                refine z_iconst (pc2 := 49) rfl dX11_as_48 lt_i_5 ?_
                obtain ⟨q25, hq25, h⟩ := ab_bnd h
                refine z_callVi 8 [.int (5 : Int32)] [some (.ref 8), some (.int (5 : Int32))] (pc2 := 52) rfl rfl dX11_as_49 ok_X11_refuse ⟨fun _ => rfl, fun _ => Nat.le_of_ble_eq_true rfl⟩ rfl rv_8 wd_346 wd_348 wd_0 rfl (e_X11_refuse hq25) ?_
                exact z_iret dX11_as_52 rfl rfl (fi_w h)
            · replace h := ab_neg hi26 h
              by_cases hi31 : (σ 44 (a1).toNatClampNeg) = (4 : Int32)
              · replace h := ab_pos hi31 h
                refine z_aaldG 24 29 (pc2 := 40) rfl dX11_as_39 rfl rfl (by rw [hi31]; rfl) (by rw [hi31]; rfl) ?_
                refine z_iload_n (pc2 := 41) rfl dX11_as_40 rfl ?_
                obtain ⟨q27, hq27, h⟩ := ab_bnd h
                refine z_callSi [.ref 29, .int a2] [some (.ref 29), some (.int a2)] (pc2 := 44) rfl rfl dX11_as_41 ok_X11_isUnder ⟨fun _ => rfl, fun _ => Nat.le_of_ble_eq_true rfl⟩ rfl wd_472 wd_473 rfl (e_X11_isUnder_29 hq27) ?_
                refine z_if_ne (pc2 := 47) (tgt := 53) rfl dX11_as_44 (by decide) (fun hc28 => ?_) (fun hc28 => ?_)
                · replace h := ab_neg hc28 h
                  refine z_aload_n (pc2 := 54) rfl dX11_as_53 rfl ?_
                  refine z_getR 8 11 0 38 (pc2 := 57) rfl dX11_as_54 rfl rfl ff_11_0 wd_302 rfl ?_
                  refine z_getR 38 9 13 45 (pc2 := 60) rfl dX11_as_57 rfl rfl ff_9_13 wd_258 rfl ?_
                  refine z_iload_n (pc2 := 61) rfl dX11_as_60 rfl ?_
                  obtain ⟨hb29, h⟩ := ab_ck_e h
                  refine z_iald 45 (pc2 := 62) (j := (a1).toNatClampNeg) rfl dX11_as_61 rfl rfl hb29 rfl ?_
                  exact z_iret dX11_as_62 rfl rfl (fi_w h)
                · replace h := ab_pos hc28 h
                  refine z_aload_n (pc2 := 48) rfl dX11_as_47 rfl ?_
                  refine z_iconst (pc2 := 49) rfl dX11_as_48 lt_i_5 ?_
                  obtain ⟨q30, hq30, h⟩ := ab_bnd h
                  refine z_callVi 8 [.int (5 : Int32)] [some (.ref 8), some (.int (5 : Int32))] (pc2 := 52) rfl rfl dX11_as_49 ok_X11_refuse ⟨fun _ => rfl, fun _ => Nat.le_of_ble_eq_true rfl⟩ rfl rv_8 wd_346 wd_348 wd_0 rfl (e_X11_refuse hq30) ?_
                  exact z_iret dX11_as_52 rfl rfl (fi_w h)
              · replace h := ab_neg hi31 h
                by_cases hi36 : (σ 44 (a1).toNatClampNeg) = (5 : Int32)
                · replace h := ab_pos hi36 h
                  refine z_aaldG 24 30 (pc2 := 40) rfl dX11_as_39 rfl rfl (by rw [hi36]; rfl) (by rw [hi36]; rfl) ?_
                  refine z_iload_n (pc2 := 41) rfl dX11_as_40 rfl ?_
                  obtain ⟨q32, hq32, h⟩ := ab_bnd h
                  refine z_callSi [.ref 30, .int a2] [some (.ref 30), some (.int a2)] (pc2 := 44) rfl rfl dX11_as_41 ok_X11_isUnder ⟨fun _ => rfl, fun _ => Nat.le_of_ble_eq_true rfl⟩ rfl wd_472 wd_473 rfl (e_X11_isUnder_30 hq32) ?_
                  refine z_if_ne (pc2 := 47) (tgt := 53) rfl dX11_as_44 (by decide) (fun hc33 => ?_) (fun hc33 => ?_)
                  · replace h := ab_neg hc33 h
                    refine z_aload_n (pc2 := 54) rfl dX11_as_53 rfl ?_
                    refine z_getR 8 11 0 38 (pc2 := 57) rfl dX11_as_54 rfl rfl ff_11_0 wd_302 rfl ?_
                    refine z_getR 38 9 13 45 (pc2 := 60) rfl dX11_as_57 rfl rfl ff_9_13 wd_258 rfl ?_
                    refine z_iload_n (pc2 := 61) rfl dX11_as_60 rfl ?_
                    obtain ⟨hb34, h⟩ := ab_ck_e h
                    refine z_iald 45 (pc2 := 62) (j := (a1).toNatClampNeg) rfl dX11_as_61 rfl rfl hb34 rfl ?_
                    exact z_iret dX11_as_62 rfl rfl (fi_w h)
                  · replace h := ab_pos hc33 h
                    refine z_aload_n (pc2 := 48) rfl dX11_as_47 rfl ?_
                    refine z_iconst (pc2 := 49) rfl dX11_as_48 lt_i_5 ?_
                    obtain ⟨q35, hq35, h⟩ := ab_bnd h
                    refine z_callVi 8 [.int (5 : Int32)] [some (.ref 8), some (.int (5 : Int32))] (pc2 := 52) rfl rfl dX11_as_49 ok_X11_refuse ⟨fun _ => rfl, fun _ => Nat.le_of_ble_eq_true rfl⟩ rfl rv_8 wd_346 wd_348 wd_0 rfl (e_X11_refuse hq35) ?_
                    exact z_iret dX11_as_52 rfl rfl (fi_w h)
                · replace h := ab_neg hi36 h
                  by_cases hi41 : (σ 44 (a1).toNatClampNeg) = (6 : Int32)
                  · replace h := ab_pos hi41 h
                    refine z_aaldG 24 31 (pc2 := 40) rfl dX11_as_39 rfl rfl (by rw [hi41]; rfl) (by rw [hi41]; rfl) ?_
                    refine z_iload_n (pc2 := 41) rfl dX11_as_40 rfl ?_
                    obtain ⟨q37, hq37, h⟩ := ab_bnd h
                    refine z_callSi [.ref 31, .int a2] [some (.ref 31), some (.int a2)] (pc2 := 44) rfl rfl dX11_as_41 ok_X11_isUnder ⟨fun _ => rfl, fun _ => Nat.le_of_ble_eq_true rfl⟩ rfl wd_472 wd_473 rfl (e_X11_isUnder_31 hq37) ?_
                    refine z_if_ne (pc2 := 47) (tgt := 53) rfl dX11_as_44 (by decide) (fun hc38 => ?_) (fun hc38 => ?_)
                    · replace h := ab_neg hc38 h
                      refine z_aload_n (pc2 := 54) rfl dX11_as_53 rfl ?_
                      refine z_getR 8 11 0 38 (pc2 := 57) rfl dX11_as_54 rfl rfl ff_11_0 wd_302 rfl ?_
                      refine z_getR 38 9 13 45 (pc2 := 60) rfl dX11_as_57 rfl rfl ff_9_13 wd_258 rfl ?_
                      refine z_iload_n (pc2 := 61) rfl dX11_as_60 rfl ?_
                      obtain ⟨hb39, h⟩ := ab_ck_e h
                      refine z_iald 45 (pc2 := 62) (j := (a1).toNatClampNeg) rfl dX11_as_61 rfl rfl hb39 rfl ?_
                      exact z_iret dX11_as_62 rfl rfl (fi_w h)
                    · replace h := ab_pos hc38 h
                      refine z_aload_n (pc2 := 48) rfl dX11_as_47 rfl ?_
                      refine z_iconst (pc2 := 49) rfl dX11_as_48 lt_i_5 ?_
                      obtain ⟨q40, hq40, h⟩ := ab_bnd h
                      refine z_callVi 8 [.int (5 : Int32)] [some (.ref 8), some (.int (5 : Int32))] (pc2 := 52) rfl rfl dX11_as_49 ok_X11_refuse ⟨fun _ => rfl, fun _ => Nat.le_of_ble_eq_true rfl⟩ rfl rv_8 wd_346 wd_348 wd_0 rfl (e_X11_refuse hq40) ?_
                      exact z_iret dX11_as_52 rfl rfl (fi_w h)
                  · replace h := ab_neg hi41 h
                    cases h
    · replace h := ab_neg hc5 h
      refine z_aload_n (pc2 := 18) rfl dX11_as_17 rfl ?_
      refine z_iconst (pc2 := 19) rfl dX11_as_18 lt_i_1 ?_
      obtain ⟨q42, hq42, h⟩ := ab_bnd h
      refine z_callVi 8 [.int (1 : Int32)] [some (.ref 8), some (.int (1 : Int32))] (pc2 := 22) rfl rfl dX11_as_19 ok_X11_refuse ⟨fun _ => rfl, fun _ => Nat.le_of_ble_eq_true rfl⟩ rfl rv_8 wd_346 wd_348 wd_0 rfl (e_X11_refuse hq42) ?_
      exact z_iret dX11_as_22 rfl rfl (fi_w h)
def f_X9_rowOfPeople (w : Nat) (a1 : Int32) (σ : ab_F) : Option Nat := (if a1 = (0 : Int32) then (some (w + 8)) else if a1 = (1 : Int32) then (some (w + 9)) else (some (w + 10)))
set_option maxRecDepth 100000 in
set_option maxHeartbeats 4000000 in
theorem e_X9_rowOfPeople_38 {sc : Nat × (Nat → Int32)} {r : Option Nat × Option Nat} {a1 : Int32} {σ : ab_F} {res : Nat} (h : f_X9_rowOfPeople 38 a1 σ = some res) : ab_E mX9_rowOfPeople 0 sc 0 [some (.ref 38), some (.int a1)] [] (σ, r) (fun v S => v = some (.ref res) ∧ S = (σ, r)) := by
  unfold f_X9_rowOfPeople at h
  refine z_iload_n (pc2 := 1) rfl dX9_rowOfPeople_0 rfl ?_
  by_cases hc1 : a1 = (0 : Int32)
  · replace h := ab_pos hc1 h
    refine ab_ls (off := 27) (tgt := 28) dX9_rowOfPeople_1 (by decide) (by rw [hc1]; decide) (by decide) ?_
    refine z_aload_n (pc2 := 29) rfl dX9_rowOfPeople_28 rfl ?_
    refine z_getR 38 9 14 46 (pc2 := 32) rfl dX9_rowOfPeople_29 rfl rfl ff_9_14 wd_259 rfl ?_
    exact z_aret dX9_rowOfPeople_32 rfl (by first | exact Or.inl ⟨_, rfl⟩ | exact Or.inr ⟨_, rfl⟩) (fr_p h)
  · replace h := ab_neg hc1 h
    by_cases hc2 : a1 = (1 : Int32)
    · replace h := ab_pos hc2 h
      refine ab_ls (off := 32) (tgt := 33) dX9_rowOfPeople_1 (by decide) (by rw [hc2]; decide) (by decide) ?_
      refine z_aload_n (pc2 := 34) rfl dX9_rowOfPeople_33 rfl ?_
      refine z_getR 38 9 15 47 (pc2 := 37) rfl dX9_rowOfPeople_34 rfl rfl ff_9_15 wd_261 rfl ?_
      exact z_aret dX9_rowOfPeople_37 rfl (by first | exact Or.inl ⟨_, rfl⟩ | exact Or.inr ⟨_, rfl⟩) (fr_p h)
    · replace h := ab_neg hc2 h
      refine ab_ls (off := 37) (tgt := 38) dX9_rowOfPeople_1 (by decide) (by show Op.lookupswitch.offset [(0, 27), (1, 32)] 37 _ = _; rw [lv_osw hc1 (by decide)]; rw [lv_osw hc2 (by decide)]; rfl) (by decide) ?_
      refine z_aload_n (pc2 := 39) rfl dX9_rowOfPeople_38 rfl ?_
      refine z_getR 38 9 16 48 (pc2 := 42) rfl dX9_rowOfPeople_39 rfl rfl ff_9_16 wd_263 rfl ?_
      exact z_aret dX9_rowOfPeople_42 rfl (by first | exact Or.inl ⟨_, rfl⟩ | exact Or.inr ⟨_, rfl⟩) (fr_p h)
def f_X11_swap_46 (a1 : Int32) (a2 : Int32) (σ : ab_F) : Option (Int32 × ab_F) := ab_ck (ab_ib a1 8) (ab_lt ((σ 46 (a1).toNatClampNeg)) (fun x2 => ab_ck (ab_ib a1 8) (ab_lt (ab_u σ 46 (a1).toNatClampNeg a2) (fun (s4 : ab_F) => (some (x2, s4))))))
set_option maxRecDepth 100000 in
set_option maxHeartbeats 4000000 in
theorem e_X11_swap_46 {sc : Nat × (Nat → Int32)} {r : Option Nat × Option Nat} {a1 : Int32} {a2 : Int32} {σ : ab_F} {res : (Int32 × ab_F)} (h : f_X11_swap_46 a1 a2 σ = some res) : ab_E mX11_swap 0 sc 0 [some (.ref 46), some (.int a1), some (.int a2), none] [] (σ, r) (fun v S => v = some (.int res.1) ∧ S = (res.2, r)) := by
  unfold f_X11_swap_46 at h
  refine z_aload_n (pc2 := 1) rfl dX11_swap_0 rfl ?_
  refine z_iload_n (pc2 := 2) rfl dX11_swap_1 rfl ?_
  obtain ⟨hb1, h⟩ := ab_ck_e h
  refine z_iald 46 (pc2 := 3) (j := (a1).toNatClampNeg) rfl dX11_swap_2 rfl rfl hb1 rfl ?_
  obtain ⟨x2, hxx2, h⟩ := ab_lt_e h
  refine z_top hxx2 ?_
  refine z_istore_n (pc2 := 4) (L2 := [some (.ref 46), some (.int a1), some (.int a2), some (.int x2)]) rfl dX11_swap_3 (by decide) rfl rfl ?_
  refine z_aload_n (pc2 := 5) rfl dX11_swap_4 rfl ?_
  refine z_iload_n (pc2 := 6) rfl dX11_swap_5 rfl ?_
  refine z_iload_n (pc2 := 7) rfl dX11_swap_6 rfl ?_
  obtain ⟨hb3, h⟩ := ab_ck_e h
  refine z_iast 46 (pc2 := 8) (j := (a1).toNatClampNeg) rfl dX11_swap_7 rfl rfl hb3 rfl ?_
  obtain ⟨s4, hs4, h⟩ := ab_lt_e h
  refine z_tops hs4 ?_
  refine z_iload_n (pc2 := 9) rfl dX11_swap_8 rfl ?_
  exact z_iret dX11_swap_9 rfl rfl (fi_w h)
def f_X11_swap_47 (a1 : Int32) (a2 : Int32) (σ : ab_F) : Option (Int32 × ab_F) := ab_ck (ab_ib a1 8) (ab_lt ((σ 47 (a1).toNatClampNeg)) (fun x2 => ab_ck (ab_ib a1 8) (ab_lt (ab_u σ 47 (a1).toNatClampNeg a2) (fun (s4 : ab_F) => (some (x2, s4))))))
set_option maxRecDepth 100000 in
set_option maxHeartbeats 4000000 in
theorem e_X11_swap_47 {sc : Nat × (Nat → Int32)} {r : Option Nat × Option Nat} {a1 : Int32} {a2 : Int32} {σ : ab_F} {res : (Int32 × ab_F)} (h : f_X11_swap_47 a1 a2 σ = some res) : ab_E mX11_swap 0 sc 0 [some (.ref 47), some (.int a1), some (.int a2), none] [] (σ, r) (fun v S => v = some (.int res.1) ∧ S = (res.2, r)) := by
  unfold f_X11_swap_47 at h
  refine z_aload_n (pc2 := 1) rfl dX11_swap_0 rfl ?_
  refine z_iload_n (pc2 := 2) rfl dX11_swap_1 rfl ?_
  obtain ⟨hb1, h⟩ := ab_ck_e h
  refine z_iald 47 (pc2 := 3) (j := (a1).toNatClampNeg) rfl dX11_swap_2 rfl rfl hb1 rfl ?_
  obtain ⟨x2, hxx2, h⟩ := ab_lt_e h
  refine z_top hxx2 ?_
  refine z_istore_n (pc2 := 4) (L2 := [some (.ref 47), some (.int a1), some (.int a2), some (.int x2)]) rfl dX11_swap_3 (by decide) rfl rfl ?_
  refine z_aload_n (pc2 := 5) rfl dX11_swap_4 rfl ?_
  refine z_iload_n (pc2 := 6) rfl dX11_swap_5 rfl ?_
  refine z_iload_n (pc2 := 7) rfl dX11_swap_6 rfl ?_
  obtain ⟨hb3, h⟩ := ab_ck_e h
  refine z_iast 47 (pc2 := 8) (j := (a1).toNatClampNeg) rfl dX11_swap_7 rfl rfl hb3 rfl ?_
  obtain ⟨s4, hs4, h⟩ := ab_lt_e h
  refine z_tops hs4 ?_
  refine z_iload_n (pc2 := 9) rfl dX11_swap_8 rfl ?_
  exact z_iret dX11_swap_9 rfl rfl (fi_w h)
def f_X11_swap_48 (a1 : Int32) (a2 : Int32) (σ : ab_F) : Option (Int32 × ab_F) := ab_ck (ab_ib a1 8) (ab_lt ((σ 48 (a1).toNatClampNeg)) (fun x2 => ab_ck (ab_ib a1 8) (ab_lt (ab_u σ 48 (a1).toNatClampNeg a2) (fun (s4 : ab_F) => (some (x2, s4))))))
set_option maxRecDepth 100000 in
set_option maxHeartbeats 4000000 in
theorem e_X11_swap_48 {sc : Nat × (Nat → Int32)} {r : Option Nat × Option Nat} {a1 : Int32} {a2 : Int32} {σ : ab_F} {res : (Int32 × ab_F)} (h : f_X11_swap_48 a1 a2 σ = some res) : ab_E mX11_swap 0 sc 0 [some (.ref 48), some (.int a1), some (.int a2), none] [] (σ, r) (fun v S => v = some (.int res.1) ∧ S = (res.2, r)) := by
  unfold f_X11_swap_48 at h
  refine z_aload_n (pc2 := 1) rfl dX11_swap_0 rfl ?_
  refine z_iload_n (pc2 := 2) rfl dX11_swap_1 rfl ?_
  obtain ⟨hb1, h⟩ := ab_ck_e h
  refine z_iald 48 (pc2 := 3) (j := (a1).toNatClampNeg) rfl dX11_swap_2 rfl rfl hb1 rfl ?_
  obtain ⟨x2, hxx2, h⟩ := ab_lt_e h
  refine z_top hxx2 ?_
  refine z_istore_n (pc2 := 4) (L2 := [some (.ref 48), some (.int a1), some (.int a2), some (.int x2)]) rfl dX11_swap_3 (by decide) rfl rfl ?_
  refine z_aload_n (pc2 := 5) rfl dX11_swap_4 rfl ?_
  refine z_iload_n (pc2 := 6) rfl dX11_swap_5 rfl ?_
  refine z_iload_n (pc2 := 7) rfl dX11_swap_6 rfl ?_
  obtain ⟨hb3, h⟩ := ab_ck_e h
  refine z_iast 48 (pc2 := 8) (j := (a1).toNatClampNeg) rfl dX11_swap_7 rfl rfl hb3 rfl ?_
  obtain ⟨s4, hs4, h⟩ := ab_lt_e h
  refine z_tops hs4 ?_
  refine z_iload_n (pc2 := 9) rfl dX11_swap_8 rfl ?_
  exact z_iret dX11_swap_9 rfl rfl (fi_w h)
def f_X11_set (a1 : Int32) (a2 : Int32) (a3 : Int32) (σ : ab_F) : Option (Int32 × ab_F) := (f_X11_nobody a1 σ).bind (fun q1 => (if (ab_b q1) = 0 then (f_X11_outside a2 ((3 : Int32) - (1 : Int32)) σ).bind (fun q4 => (if (ab_b q4) = 0 then ab_ck (ab_ib a2 3) ((f_X11_outside a3 (ab_tab 3 (a2).toNatClampNeg) σ).bind (fun q8 => (if (ab_b q8) = 0 then (f_X9_rowOfPeople 38 a2 σ).bind (fun q10 => (if q10 = 46 then (f_X11_swap_46 a1 a3 σ).bind (fun q11 => (some (q11.1, q11.2))) else if q10 = 47 then (f_X11_swap_47 a1 a3 σ).bind (fun q13 => (some (q13.1, q13.2))) else if q10 = 48 then (f_X11_swap_48 a1 a3 σ).bind (fun q15 => (some (q15.1, q15.2))) else none)) else (f_X11_refuse (1 : Int32) σ).bind (fun q17 => (some (q17.1, q17.2)))))) else (f_X11_refuse (1 : Int32) σ).bind (fun q6 => (some (q6.1, q6.2))))) else (f_X11_refuse (1 : Int32) σ).bind (fun q3 => (some (q3.1, q3.2)))))
set_option maxRecDepth 100000 in
set_option maxHeartbeats 4000000 in
theorem e_X11_set {sc : Nat × (Nat → Int32)} {r : Option Nat × Option Nat} {a1 : Int32} {a2 : Int32} {a3 : Int32} {σ : ab_F} {res : (Int32 × ab_F)} (h : f_X11_set a1 a2 a3 σ = some res) : ab_E mX11_set 1 sc 0 [some (.ref 8), some (.int a1), some (.int a2), some (.int a3)] [] (σ, r) (fun v S => v = some (.int res.1) ∧ S = (res.2, r)) := by
  unfold f_X11_set at h
  refine z_aload_n (pc2 := 1) rfl dX11_set_0 rfl ?_
  refine z_iload_n (pc2 := 2) rfl dX11_set_1 rfl ?_
  obtain ⟨q1, hq1, h⟩ := ab_bnd h
  refine z_callVi 8 [.int a1] [some (.ref 8), some (.int a1)] (pc2 := 5) rfl rfl dX11_set_2 ok_X11_nobody ⟨fun _ => rfl, fun _ => Nat.le_of_ble_eq_true rfl⟩ rfl rv_8 wd_359 wd_361 wd_1 rfl (e_X11_nobody hq1) ?_
  refine z_if_ne (pc2 := 8) (tgt := 33) rfl dX11_set_5 (by decide) (fun hc2 => ?_) (fun hc2 => ?_)
  · replace h := ab_neg hc2 h
    refine z_aload_n (pc2 := 34) rfl dX11_set_33 rfl ?_
    refine z_iconst (pc2 := 35) rfl dX11_set_34 lt_i_1 ?_
    obtain ⟨q3, hq3, h⟩ := ab_bnd h
    refine z_callVi 8 [.int (1 : Int32)] [some (.ref 8), some (.int (1 : Int32))] (pc2 := 38) rfl rfl dX11_set_35 ok_X11_refuse ⟨fun _ => rfl, fun _ => Nat.le_of_ble_eq_true rfl⟩ rfl rv_8 wd_346 wd_348 wd_0 rfl (e_X11_refuse hq3) ?_
    exact z_iret dX11_set_38 rfl rfl (fi_w h)
  · replace h := ab_pos hc2 h
    refine z_iload_n (pc2 := 9) rfl dX11_set_8 rfl ?_
    refine z_gets (3, "MOST_OF_ONE") (pc2 := 12) rfl dX11_set_9 (by decide) wd_479 ?_
    refine z_talen (3, 3) (pc2 := 13) (v := 3) rfl dX11_set_12 (by decide) (by decide) ?_
    refine z_iconst (pc2 := 14) rfl dX11_set_13 lt_i_1 ?_
    refine z_isub (pc2 := 15) rfl dX11_set_14 ?_
    obtain ⟨q4, hq4, h⟩ := ab_bnd h
    refine z_callSi [.int a2, .int ((3 : Int32) - (1 : Int32))] [some (.int a2), some (.int ((3 : Int32) - (1 : Int32)))] (pc2 := 18) rfl rfl dX11_set_15 ok_X11_outside ⟨fun _ => rfl, fun _ => Nat.le_of_ble_eq_true rfl⟩ rfl wd_343 wd_344 rfl (e_X11_outside hq4) ?_
    refine z_if_ne (pc2 := 21) (tgt := 33) rfl dX11_set_18 (by decide) (fun hc5 => ?_) (fun hc5 => ?_)
    · replace h := ab_neg hc5 h
      refine z_aload_n (pc2 := 34) rfl dX11_set_33 rfl ?_
      refine z_iconst (pc2 := 35) rfl dX11_set_34 lt_i_1 ?_
      obtain ⟨q6, hq6, h⟩ := ab_bnd h
      refine z_callVi 8 [.int (1 : Int32)] [some (.ref 8), some (.int (1 : Int32))] (pc2 := 38) rfl rfl dX11_set_35 ok_X11_refuse ⟨fun _ => rfl, fun _ => Nat.le_of_ble_eq_true rfl⟩ rfl rv_8 wd_346 wd_348 wd_0 rfl (e_X11_refuse hq6) ?_
      exact z_iret dX11_set_38 rfl rfl (fi_w h)
    · replace h := ab_pos hc5 h
      refine z_iload_n (pc2 := 22) rfl dX11_set_21 rfl ?_
      refine z_gets (3, "MOST_OF_ONE") (pc2 := 25) rfl dX11_set_22 (by decide) wd_479 ?_
      refine z_iload_n (pc2 := 26) rfl dX11_set_25 rfl ?_
      obtain ⟨hb7, h⟩ := ab_ck_e h
      refine z_tald (3, 3) (pc2 := 27) rfl dX11_set_26 (by decide) hb7 ?_
      obtain ⟨q8, hq8, h⟩ := ab_bnd h
      refine z_callSi [.int a3, .int (ab_tab 3 (a2).toNatClampNeg)] [some (.int a3), some (.int (ab_tab 3 (a2).toNatClampNeg))] (pc2 := 30) rfl rfl dX11_set_27 ok_X11_outside ⟨fun _ => rfl, fun _ => Nat.le_of_ble_eq_true rfl⟩ rfl wd_343 wd_344 rfl (e_X11_outside hq8) ?_
      refine z_if_eq (pc2 := 33) (tgt := 39) rfl dX11_set_30 (by decide) (fun hc9 => ?_) (fun hc9 => ?_)
      · replace h := ab_pos hc9 h
        refine z_aload_n (pc2 := 40) rfl dX11_set_39 rfl ?_
        refine z_getR 8 11 0 38 (pc2 := 43) rfl dX11_set_40 rfl rfl ff_11_0 wd_302 rfl ?_
        refine z_iload_n (pc2 := 44) rfl dX11_set_43 rfl ?_
        obtain ⟨q10, hq10, h⟩ := ab_bnd h
        refine z_callVr 38 [.int a2] [some (.ref 38), some (.int a2)] (pc2 := 47) rfl rfl dX11_set_44 ok_X9_rowOfPeople ⟨fun _ => rfl, fun _ => Nat.le_of_ble_eq_true rfl⟩ rfl rv_38 wd_481 wd_482 wd_483 rfl (e_X9_rowOfPeople_38 hq10) ?_
        by_cases hi12 : q10 = 46
        · replace h := ab_pos hi12 h
          rw [hi12]
          refine z_iload_n (pc2 := 48) rfl dX11_set_47 rfl ?_
          refine z_iload_n (pc2 := 49) rfl dX11_set_48 rfl ?_
          obtain ⟨q11, hq11, h⟩ := ab_bnd h
          refine z_callSi [.ref 46, .int a1, .int a3] [some (.ref 46), some (.int a1), some (.int a3), none] (pc2 := 52) rfl rfl dX11_set_49 ok_X11_swap ⟨fun _ => rfl, fun _ => Nat.le_of_ble_eq_true rfl⟩ rfl wd_485 wd_486 rfl (e_X11_swap_46 hq11) ?_
          exact z_iret dX11_set_52 rfl rfl (fi_w h)
        · replace h := ab_neg hi12 h
          by_cases hi14 : q10 = 47
          · replace h := ab_pos hi14 h
            rw [hi14]
            refine z_iload_n (pc2 := 48) rfl dX11_set_47 rfl ?_
            refine z_iload_n (pc2 := 49) rfl dX11_set_48 rfl ?_
            obtain ⟨q13, hq13, h⟩ := ab_bnd h
            refine z_callSi [.ref 47, .int a1, .int a3] [some (.ref 47), some (.int a1), some (.int a3), none] (pc2 := 52) rfl rfl dX11_set_49 ok_X11_swap ⟨fun _ => rfl, fun _ => Nat.le_of_ble_eq_true rfl⟩ rfl wd_485 wd_486 rfl (e_X11_swap_47 hq13) ?_
            exact z_iret dX11_set_52 rfl rfl (fi_w h)
          · replace h := ab_neg hi14 h
            by_cases hi16 : q10 = 48
            · replace h := ab_pos hi16 h
              rw [hi16]
              refine z_iload_n (pc2 := 48) rfl dX11_set_47 rfl ?_
              refine z_iload_n (pc2 := 49) rfl dX11_set_48 rfl ?_
              obtain ⟨q15, hq15, h⟩ := ab_bnd h
              refine z_callSi [.ref 48, .int a1, .int a3] [some (.ref 48), some (.int a1), some (.int a3), none] (pc2 := 52) rfl rfl dX11_set_49 ok_X11_swap ⟨fun _ => rfl, fun _ => Nat.le_of_ble_eq_true rfl⟩ rfl wd_485 wd_486 rfl (e_X11_swap_48 hq15) ?_
              exact z_iret dX11_set_52 rfl rfl (fi_w h)
            · replace h := ab_neg hi16 h
              cases h
      · replace h := ab_neg hc9 h
        refine z_aload_n (pc2 := 34) rfl dX11_set_33 rfl ?_
        refine z_iconst (pc2 := 35) rfl dX11_set_34 lt_i_1 ?_
        obtain ⟨q17, hq17, h⟩ := ab_bnd h
        refine z_callVi 8 [.int (1 : Int32)] [some (.ref 8), some (.int (1 : Int32))] (pc2 := 38) rfl rfl dX11_set_35 ok_X11_refuse ⟨fun _ => rfl, fun _ => Nat.le_of_ble_eq_true rfl⟩ rfl rv_8 wd_346 wd_348 wd_0 rfl (e_X11_refuse hq17) ?_
        exact z_iret dX11_set_38 rfl rfl (fi_w h)
def f_X11_cut (a1 : Int32) (σ : ab_F) : Option (Int32 × ab_F) := (f_X11_nobody a1 σ).bind (fun q1 => (if (ab_b q1) = 0 then (f_X9_made 38 a1 σ).bind (fun q3 => (f_X11_swap_47 a1 q3.1 q3.2).bind (fun q4 => (some (q4.1, q4.2)))) else (f_X11_refuse (1 : Int32) σ).bind (fun q5 => (some (q5.1, q5.2)))))
set_option maxRecDepth 100000 in
set_option maxHeartbeats 4000000 in
theorem e_X11_cut {sc : Nat × (Nat → Int32)} {r : Option Nat × Option Nat} {a1 : Int32} {σ : ab_F} {res : (Int32 × ab_F)} (h : f_X11_cut a1 σ = some res) : ab_E mX11_cut 4 sc 0 [some (.ref 8), some (.int a1)] [] (σ, r) (fun v S => v = some (.int res.1) ∧ S = (res.2, r)) := by
  unfold f_X11_cut at h
  refine z_aload_n (pc2 := 1) rfl dX11_cut_0 rfl ?_
  refine z_iload_n (pc2 := 2) rfl dX11_cut_1 rfl ?_
  obtain ⟨q1, hq1, h⟩ := ab_bnd h
  refine z_callVi 8 [.int a1] [some (.ref 8), some (.int a1)] (pc2 := 5) rfl rfl dX11_cut_2 ok_X11_nobody ⟨fun _ => rfl, fun _ => Nat.le_of_ble_eq_true rfl⟩ rfl rv_8 wd_359 wd_361 wd_1 rfl (e_X11_nobody hq1) ?_
  refine z_if_eq (pc2 := 8) (tgt := 14) rfl dX11_cut_5 (by decide) (fun hc2 => ?_) (fun hc2 => ?_)
  · replace h := ab_pos hc2 h
    refine z_aload_n (pc2 := 15) rfl dX11_cut_14 rfl ?_
    refine z_getR 8 11 0 38 (pc2 := 18) rfl dX11_cut_15 rfl rfl ff_11_0 wd_302 rfl ?_
    refine z_getR 38 9 15 47 (pc2 := 21) rfl dX11_cut_18 rfl rfl ff_9_15 wd_262 rfl ?_
    refine z_iload_n (pc2 := 22) rfl dX11_cut_21 rfl ?_
    refine z_aload_n (pc2 := 23) rfl dX11_cut_22 rfl ?_
    refine z_getR 8 11 0 38 (pc2 := 26) rfl dX11_cut_23 rfl rfl ff_11_0 wd_302 rfl ?_
    refine z_iload_n (pc2 := 27) rfl dX11_cut_26 rfl ?_
    obtain ⟨q3, hq3, h⟩ := ab_bnd h
    refine z_callVi 38 [.int a1] [some (.ref 38), some (.int a1)] (pc2 := 30) rfl rfl dX11_cut_27 ok_X9_made ⟨fun _ => rfl, fun _ => Nat.le_of_ble_eq_true rfl⟩ rfl rv_38 wd_422 wd_423 wd_424 rfl (e_X9_made_38 hq3) ?_
    obtain ⟨q4, hq4, h⟩ := ab_bnd h
    refine z_callSi [.ref 47, .int a1, .int q3.1] [some (.ref 47), some (.int a1), some (.int q3.1), none] (pc2 := 33) rfl rfl dX11_cut_30 ok_X11_swap ⟨fun _ => rfl, fun _ => Nat.le_of_ble_eq_true rfl⟩ rfl wd_485 wd_486 rfl (e_X11_swap_47 hq4) ?_
    exact z_iret dX11_cut_33 rfl rfl (fi_w h)
  · replace h := ab_neg hc2 h
    refine z_aload_n (pc2 := 9) rfl dX11_cut_8 rfl ?_
    refine z_iconst (pc2 := 10) rfl dX11_cut_9 lt_i_1 ?_
    obtain ⟨q5, hq5, h⟩ := ab_bnd h
    refine z_callVi 8 [.int (1 : Int32)] [some (.ref 8), some (.int (1 : Int32))] (pc2 := 13) rfl rfl dX11_cut_10 ok_X11_refuse ⟨fun _ => rfl, fun _ => Nat.le_of_ble_eq_true rfl⟩ rfl rv_8 wd_346 wd_348 wd_0 rfl (e_X11_refuse hq5) ?_
    exact z_iret dX11_cut_13 rfl rfl (fi_w h)
def f_X9_rowOfCells (w : Nat) (a1 : Int32) (σ : ab_F) : Option Nat := (if a1 = (0 : Int32) then (some (w + 1)) else if a1 = (1 : Int32) then (some (w + 2)) else if a1 = (2 : Int32) then (some (w + 3)) else (some (w + 4)))
set_option maxRecDepth 100000 in
set_option maxHeartbeats 4000000 in
theorem e_X9_rowOfCells_38 {sc : Nat × (Nat → Int32)} {r : Option Nat × Option Nat} {a1 : Int32} {σ : ab_F} {res : Nat} (h : f_X9_rowOfCells 38 a1 σ = some res) : ab_E mX9_rowOfCells 0 sc 0 [some (.ref 38), some (.int a1)] [] (σ, r) (fun v S => v = some (.ref res) ∧ S = (σ, r)) := by
  unfold f_X9_rowOfCells at h
  refine z_iload_n (pc2 := 1) rfl dX9_rowOfCells_0 rfl ?_
  by_cases hc1 : a1 = (0 : Int32)
  · replace h := ab_pos hc1 h
    refine ab_tsIn (tgt := 28) dX9_rowOfCells_1 (by rw [hc1]; decide) (by rw [hc1]; decide) (by rw [hc1]; rfl) (by decide) ?_
    refine z_aload_n (pc2 := 29) rfl dX9_rowOfCells_28 rfl ?_
    refine z_getR 38 9 6 39 (pc2 := 32) rfl dX9_rowOfCells_29 rfl rfl ff_9_6 wd_241 rfl ?_
    exact z_aret dX9_rowOfCells_32 rfl (by first | exact Or.inl ⟨_, rfl⟩ | exact Or.inr ⟨_, rfl⟩) (fr_p h)
  · replace h := ab_neg hc1 h
    by_cases hc2 : a1 = (1 : Int32)
    · replace h := ab_pos hc2 h
      refine ab_tsIn (tgt := 33) dX9_rowOfCells_1 (by rw [hc2]; decide) (by rw [hc2]; decide) (by rw [hc2]; rfl) (by decide) ?_
      refine z_aload_n (pc2 := 34) rfl dX9_rowOfCells_33 rfl ?_
      refine z_getR 38 9 7 40 (pc2 := 37) rfl dX9_rowOfCells_34 rfl rfl ff_9_7 wd_243 rfl ?_
      exact z_aret dX9_rowOfCells_37 rfl (by first | exact Or.inl ⟨_, rfl⟩ | exact Or.inr ⟨_, rfl⟩) (fr_p h)
    · replace h := ab_neg hc2 h
      by_cases hc3 : a1 = (2 : Int32)
      · replace h := ab_pos hc3 h
        refine ab_tsIn (tgt := 38) dX9_rowOfCells_1 (by rw [hc3]; decide) (by rw [hc3]; decide) (by rw [hc3]; rfl) (by decide) ?_
        refine z_aload_n (pc2 := 39) rfl dX9_rowOfCells_38 rfl ?_
        refine z_getR 38 9 8 41 (pc2 := 42) rfl dX9_rowOfCells_39 rfl rfl ff_9_8 wd_245 rfl ?_
        exact z_aret dX9_rowOfCells_42 rfl (by first | exact Or.inl ⟨_, rfl⟩ | exact Or.inr ⟨_, rfl⟩) (fr_p h)
      · replace h := ab_neg hc3 h
        have thc1 := ab_ne_toInt (k := 0) hc1 (by decide)
        have thc2 := ab_ne_toInt (k := 1) hc2 (by decide)
        have thc3 := ab_ne_toInt (k := 2) hc3 (by decide)
        refine ab_tsOut (tgt := 43) dX9_rowOfCells_1 (by omega) (by decide) ?_
        refine z_aload_n (pc2 := 44) rfl dX9_rowOfCells_43 rfl ?_
        refine z_getR 38 9 9 42 (pc2 := 47) rfl dX9_rowOfCells_44 rfl rfl ff_9_9 wd_247 rfl ?_
        exact z_aret dX9_rowOfCells_47 rfl (by first | exact Or.inl ⟨_, rfl⟩ | exact Or.inr ⟨_, rfl⟩) (fr_p h)
def f_X11_swap_39 (a1 : Int32) (a2 : Int32) (σ : ab_F) : Option (Int32 × ab_F) := ab_ck (ab_ib a1 16) (ab_lt ((σ 39 (a1).toNatClampNeg)) (fun x2 => ab_ck (ab_ib a1 16) (ab_lt (ab_u σ 39 (a1).toNatClampNeg a2) (fun (s4 : ab_F) => (some (x2, s4))))))
set_option maxRecDepth 100000 in
set_option maxHeartbeats 4000000 in
theorem e_X11_swap_39 {sc : Nat × (Nat → Int32)} {r : Option Nat × Option Nat} {a1 : Int32} {a2 : Int32} {σ : ab_F} {res : (Int32 × ab_F)} (h : f_X11_swap_39 a1 a2 σ = some res) : ab_E mX11_swap 0 sc 0 [some (.ref 39), some (.int a1), some (.int a2), none] [] (σ, r) (fun v S => v = some (.int res.1) ∧ S = (res.2, r)) := by
  unfold f_X11_swap_39 at h
  refine z_aload_n (pc2 := 1) rfl dX11_swap_0 rfl ?_
  refine z_iload_n (pc2 := 2) rfl dX11_swap_1 rfl ?_
  obtain ⟨hb1, h⟩ := ab_ck_e h
  refine z_iald 39 (pc2 := 3) (j := (a1).toNatClampNeg) rfl dX11_swap_2 rfl rfl hb1 rfl ?_
  obtain ⟨x2, hxx2, h⟩ := ab_lt_e h
  refine z_top hxx2 ?_
  refine z_istore_n (pc2 := 4) (L2 := [some (.ref 39), some (.int a1), some (.int a2), some (.int x2)]) rfl dX11_swap_3 (by decide) rfl rfl ?_
  refine z_aload_n (pc2 := 5) rfl dX11_swap_4 rfl ?_
  refine z_iload_n (pc2 := 6) rfl dX11_swap_5 rfl ?_
  refine z_iload_n (pc2 := 7) rfl dX11_swap_6 rfl ?_
  obtain ⟨hb3, h⟩ := ab_ck_e h
  refine z_iast 39 (pc2 := 8) (j := (a1).toNatClampNeg) rfl dX11_swap_7 rfl rfl hb3 rfl ?_
  obtain ⟨s4, hs4, h⟩ := ab_lt_e h
  refine z_tops hs4 ?_
  refine z_iload_n (pc2 := 9) rfl dX11_swap_8 rfl ?_
  exact z_iret dX11_swap_9 rfl rfl (fi_w h)
def f_X11_swap_40 (a1 : Int32) (a2 : Int32) (σ : ab_F) : Option (Int32 × ab_F) := ab_ck (ab_ib a1 16) (ab_lt ((σ 40 (a1).toNatClampNeg)) (fun x2 => ab_ck (ab_ib a1 16) (ab_lt (ab_u σ 40 (a1).toNatClampNeg a2) (fun (s4 : ab_F) => (some (x2, s4))))))
set_option maxRecDepth 100000 in
set_option maxHeartbeats 4000000 in
theorem e_X11_swap_40 {sc : Nat × (Nat → Int32)} {r : Option Nat × Option Nat} {a1 : Int32} {a2 : Int32} {σ : ab_F} {res : (Int32 × ab_F)} (h : f_X11_swap_40 a1 a2 σ = some res) : ab_E mX11_swap 0 sc 0 [some (.ref 40), some (.int a1), some (.int a2), none] [] (σ, r) (fun v S => v = some (.int res.1) ∧ S = (res.2, r)) := by
  unfold f_X11_swap_40 at h
  refine z_aload_n (pc2 := 1) rfl dX11_swap_0 rfl ?_
  refine z_iload_n (pc2 := 2) rfl dX11_swap_1 rfl ?_
  obtain ⟨hb1, h⟩ := ab_ck_e h
  refine z_iald 40 (pc2 := 3) (j := (a1).toNatClampNeg) rfl dX11_swap_2 rfl rfl hb1 rfl ?_
  obtain ⟨x2, hxx2, h⟩ := ab_lt_e h
  refine z_top hxx2 ?_
  refine z_istore_n (pc2 := 4) (L2 := [some (.ref 40), some (.int a1), some (.int a2), some (.int x2)]) rfl dX11_swap_3 (by decide) rfl rfl ?_
  refine z_aload_n (pc2 := 5) rfl dX11_swap_4 rfl ?_
  refine z_iload_n (pc2 := 6) rfl dX11_swap_5 rfl ?_
  refine z_iload_n (pc2 := 7) rfl dX11_swap_6 rfl ?_
  obtain ⟨hb3, h⟩ := ab_ck_e h
  refine z_iast 40 (pc2 := 8) (j := (a1).toNatClampNeg) rfl dX11_swap_7 rfl rfl hb3 rfl ?_
  obtain ⟨s4, hs4, h⟩ := ab_lt_e h
  refine z_tops hs4 ?_
  refine z_iload_n (pc2 := 9) rfl dX11_swap_8 rfl ?_
  exact z_iret dX11_swap_9 rfl rfl (fi_w h)
