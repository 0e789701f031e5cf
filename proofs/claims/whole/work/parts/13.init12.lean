def ia_cb_X9_init_1 : Nat → Int32 := upd (fun _ => 0) ((0 : Int32)).toNatClampNeg (0 : Int32)
def ia_cb_X9_init_2 : Nat → Int32 := upd ia_cb_X9_init_1 ((1 : Int32)).toNatClampNeg (1 : Int32)
def ia_cb_X9_init_3 : Nat → Int32 := upd ia_cb_X9_init_2 ((2 : Int32)).toNatClampNeg (2 : Int32)
def ia_cb_X9_init_4 : Nat → Int32 := upd ia_cb_X9_init_3 ((3 : Int32)).toNatClampNeg (3 : Int32)
def ia_cb_X9_init_5 : Nat → Int32 := upd ia_cb_X9_init_4 ((4 : Int32)).toNatClampNeg (4 : Int32)
def ia_cb_X9_init_6 : Nat → Int32 := upd ia_cb_X9_init_5 ((5 : Int32)).toNatClampNeg (5 : Int32)
def ia_cb_X9_init_7 : Nat → Int32 := upd (fun _ => 0) ((0 : Int32)).toNatClampNeg (0 : Int32)
def ia_cb_X9_init_8 : Nat → Int32 := upd ia_cb_X9_init_7 ((1 : Int32)).toNatClampNeg (7 : Int32)
def ia_cb_X9_init_9 : Nat → Int32 := upd ia_cb_X9_init_8 ((2 : Int32)).toNatClampNeg (4 : Int32)
def ia_cb_X9_init_10 : Nat → Int32 := upd ia_cb_X9_init_9 ((3 : Int32)).toNatClampNeg (1 : Int32)
def ia_cb_X9_init_11 : Nat → Int32 := upd ia_cb_X9_init_10 ((4 : Int32)).toNatClampNeg (8 : Int32)
def ia_cb_X9_init_12 : Nat → Int32 := upd ia_cb_X9_init_11 ((5 : Int32)).toNatClampNeg (5 : Int32)
def ia_cb_X9_init_13 : Nat → Int32 := upd ia_cb_X9_init_12 ((6 : Int32)).toNatClampNeg (2 : Int32)
def ia_cb_X9_init_14 : Nat → Int32 := upd ia_cb_X9_init_13 ((7 : Int32)).toNatClampNeg (9 : Int32)
def ia_cb_X9_init_15 : Nat → Int32 := upd ia_cb_X9_init_14 ((8 : Int32)).toNatClampNeg (6 : Int32)
def ia_cb_X9_init_16 : Nat → Int32 := upd ia_cb_X9_init_15 ((9 : Int32)).toNatClampNeg (3 : Int32)
def ia_cb_X9_init_17 : Nat → Int32 := upd ia_cb_X9_init_16 ((10 : Int32)).toNatClampNeg (0 : Int32)
def ia_cb_X9_init_18 : Nat → Int32 := upd ia_cb_X9_init_17 ((11 : Int32)).toNatClampNeg (7 : Int32)
def ia_cb_X9_init_19 : Nat → Int32 := upd ia_cb_X9_init_18 ((12 : Int32)).toNatClampNeg (4 : Int32)
def ia_cb_X9_init_20 : Nat → Int32 := upd ia_cb_X9_init_19 ((13 : Int32)).toNatClampNeg (1 : Int32)
def ia_cb_X9_init_21 : Nat → Int32 := upd ia_cb_X9_init_20 ((14 : Int32)).toNatClampNeg (8 : Int32)
def ia_cb_X9_init_22 : Nat → Int32 := upd ia_cb_X9_init_21 ((15 : Int32)).toNatClampNeg (5 : Int32)
set_option maxRecDepth 100000 in
set_option maxHeartbeats 8000000 in
theorem cb_X9_init {D : va_G} {cK : Nat → ClassId} {ws0 : va_W} {k a : Nat} {b0 : Nat} {b1 : Nat} {b2 : Nat} (hk : ws0[k]? = some (a, .inr (9, [.null, .null, .null, .int 0, .int 0, .int 0, .null, .null, .null, .null, .null, .int 0, .null, .null, .null, .null, .null]))) : bb_E D cK mX9_init "<init>" 1 10 110 0 0 0 [some (.ref a), some (.ref b0), some (.ref b1), some (.ref b2), none] [] ws0 (bb_Rt D cK mX9_init "<init>" 1 10 110 (fun ws2 => ∃ q1 q2 q3 q4 q5 q6 q7 q8 q9 q10 : Nat, ws2 = ws0.set k (a, .inr (9, [.ref b0, .ref b1, .ref b2, .int 0, .int 0, .int (1 : Int32), .ref q1, .ref q2, .ref q3, .ref q4, .ref q5, .int 0, .ref q6, .ref q7, .ref q8, .ref q9, .ref q10])) ++ [(q1, .inl (cK 0, 16, .inl ia_cb_X9_init_22)), (q2, .inl (cK 0, 16, .inl (fun _ => 0))), (q3, .inl (cK 0, 16, .inl (fun _ => 0))), (q4, .inl (cK 0, 16, .inl (fun _ => 0))), (q5, .inl (cK 0, 6, .inl ia_cb_X9_init_6)), (q6, .inl (cK 0, 8, .inl (fun _ => 0))), (q7, .inl (cK 0, 8, .inl (fun _ => 0))), (q8, .inl (cK 0, 8, .inl (fun _ => 0))), (q9, .inl (cK 0, 8, .inl (fun _ => 0))), (q10, .inl (cK 0, 8, .inl (fun _ => 0)))])) := by
  refine bb_aload_n (pc2 := 1) rfl dX9_init_0 rfl ?_
  refine bb_oinit (pc2 := 4) rfl dX9_init_1 wd_227 wd_89 wd_90 rfl rfl ?_
  refine bb_aload_n (pc2 := 5) rfl dX9_init_4 rfl ?_
  refine bb_iconst (pc2 := 6) rfl dX9_init_5 lt_i_1 ?_
  refine bb_ws (ws2 := ws0.set k (a, .inr (9, [.null, .null, .null, .int 0, .int 0, .int 0, .null, .null, .null, .null, .null, .int 0, .null, .null, .null, .null, .null])) ++ []) (bb_self hk) ?_
  refine bb_put k 9 5 (ft := .int) (ws2 := ws0.set k (a, .inr (9, [.null, .null, .null, .int 0, .int 0, .int (1 : Int32), .null, .null, .null, .null, .null, .int 0, .null, .null, .null, .null, .null])) ++ []) (pc2 := 9) rfl dX9_init_6 (bb_gk hk) ff_9_5 wd_239 rfl (by decide +kernel) rfl rfl (Nat.le_of_ble_eq_true rfl) (bb_sk hk) ?_
  refine bb_aload_n (pc2 := 10) rfl dX9_init_9 rfl ?_
  refine bb_bipush (pc2 := 12) rfl dX9_init_10 lt_b_16 ?_
  refine bb_newa (N := 16) (pc2 := 14) rfl dX9_init_12 wd_112 (by decide) (by decide) rfl rfl rfl (fun q1 => ?_)
  refine bb_ws (ws2 := ws0.set k (a, .inr (9, [.null, .null, .null, .int 0, .int 0, .int (1 : Int32), .null, .null, .null, .null, .null, .int 0, .null, .null, .null, .null, .null])) ++ [(q1, .inl (cK 0, 16, .inl (fun _ => 0)))]) bb_nn ?_
  refine bb_putF k 9 6 (ft := (.array .int)) (ws2 := ws0.set k (a, .inr (9, [.null, .null, .null, .int 0, .int 0, .int (1 : Int32), .ref q1, .null, .null, .null, .null, .int 0, .null, .null, .null, .null, .null])) ++ [(q1, .inl (cK 0, 16, .inl (fun _ => 0)))]) (pc2 := 17) rfl dX9_init_14 (bb_gk hk) ff_9_6 wd_241 rfl rfl rfl (by decide +kernel) rfl rfl (Nat.le_of_ble_eq_true rfl) (bb_sk hk) ?_
  refine bb_aload_n (pc2 := 18) rfl dX9_init_17 rfl ?_
  refine bb_bipush (pc2 := 20) rfl dX9_init_18 lt_b_16 ?_
  refine bb_newa (N := 16) (pc2 := 22) rfl dX9_init_20 wd_112 (by decide) (by decide) rfl rfl rfl (fun q2 => ?_)
  refine bb_ws (ws2 := ws0.set k (a, .inr (9, [.null, .null, .null, .int 0, .int 0, .int (1 : Int32), .ref q1, .null, .null, .null, .null, .int 0, .null, .null, .null, .null, .null])) ++ [(q1, .inl (cK 0, 16, .inl (fun _ => 0))), (q2, .inl (cK 0, 16, .inl (fun _ => 0)))]) bb_nn ?_
  refine bb_putF k 9 7 (ft := (.array .int)) (ws2 := ws0.set k (a, .inr (9, [.null, .null, .null, .int 0, .int 0, .int (1 : Int32), .ref q1, .ref q2, .null, .null, .null, .int 0, .null, .null, .null, .null, .null])) ++ [(q1, .inl (cK 0, 16, .inl (fun _ => 0))), (q2, .inl (cK 0, 16, .inl (fun _ => 0)))]) (pc2 := 25) rfl dX9_init_22 (bb_gk hk) ff_9_7 wd_243 rfl rfl rfl (by decide +kernel) rfl rfl (Nat.le_of_ble_eq_true rfl) (bb_sk hk) ?_
  refine bb_aload_n (pc2 := 26) rfl dX9_init_25 rfl ?_
  refine bb_bipush (pc2 := 28) rfl dX9_init_26 lt_b_16 ?_
  refine bb_newa (N := 16) (pc2 := 30) rfl dX9_init_28 wd_112 (by decide) (by decide) rfl rfl rfl (fun q3 => ?_)
  refine bb_ws (ws2 := ws0.set k (a, .inr (9, [.null, .null, .null, .int 0, .int 0, .int (1 : Int32), .ref q1, .ref q2, .null, .null, .null, .int 0, .null, .null, .null, .null, .null])) ++ [(q1, .inl (cK 0, 16, .inl (fun _ => 0))), (q2, .inl (cK 0, 16, .inl (fun _ => 0))), (q3, .inl (cK 0, 16, .inl (fun _ => 0)))]) bb_nn ?_
  refine bb_putF k 9 8 (ft := (.array .int)) (ws2 := ws0.set k (a, .inr (9, [.null, .null, .null, .int 0, .int 0, .int (1 : Int32), .ref q1, .ref q2, .ref q3, .null, .null, .int 0, .null, .null, .null, .null, .null])) ++ [(q1, .inl (cK 0, 16, .inl (fun _ => 0))), (q2, .inl (cK 0, 16, .inl (fun _ => 0))), (q3, .inl (cK 0, 16, .inl (fun _ => 0)))]) (pc2 := 33) rfl dX9_init_30 (bb_gk hk) ff_9_8 wd_245 rfl rfl rfl (by decide +kernel) rfl rfl (Nat.le_of_ble_eq_true rfl) (bb_sk hk) ?_
  refine bb_aload_n (pc2 := 34) rfl dX9_init_33 rfl ?_
  refine bb_bipush (pc2 := 36) rfl dX9_init_34 lt_b_16 ?_
  refine bb_newa (N := 16) (pc2 := 38) rfl dX9_init_36 wd_112 (by decide) (by decide) rfl rfl rfl (fun q4 => ?_)
  refine bb_ws (ws2 := ws0.set k (a, .inr (9, [.null, .null, .null, .int 0, .int 0, .int (1 : Int32), .ref q1, .ref q2, .ref q3, .null, .null, .int 0, .null, .null, .null, .null, .null])) ++ [(q1, .inl (cK 0, 16, .inl (fun _ => 0))), (q2, .inl (cK 0, 16, .inl (fun _ => 0))), (q3, .inl (cK 0, 16, .inl (fun _ => 0))), (q4, .inl (cK 0, 16, .inl (fun _ => 0)))]) bb_nn ?_
  refine bb_putF k 9 9 (ft := (.array .int)) (ws2 := ws0.set k (a, .inr (9, [.null, .null, .null, .int 0, .int 0, .int (1 : Int32), .ref q1, .ref q2, .ref q3, .ref q4, .null, .int 0, .null, .null, .null, .null, .null])) ++ [(q1, .inl (cK 0, 16, .inl (fun _ => 0))), (q2, .inl (cK 0, 16, .inl (fun _ => 0))), (q3, .inl (cK 0, 16, .inl (fun _ => 0))), (q4, .inl (cK 0, 16, .inl (fun _ => 0)))]) (pc2 := 41) rfl dX9_init_38 (bb_gk hk) ff_9_9 wd_247 rfl rfl rfl (by decide +kernel) rfl rfl (Nat.le_of_ble_eq_true rfl) (bb_sk hk) ?_
  refine bb_aload_n (pc2 := 42) rfl dX9_init_41 rfl ?_
  refine bb_bipush (pc2 := 44) rfl dX9_init_42 lt_b_6 ?_
  refine bb_newa (N := 6) (pc2 := 46) rfl dX9_init_44 wd_112 (by decide) (by decide) rfl rfl rfl (fun q5 => ?_)
  refine bb_ws (ws2 := ws0.set k (a, .inr (9, [.null, .null, .null, .int 0, .int 0, .int (1 : Int32), .ref q1, .ref q2, .ref q3, .ref q4, .null, .int 0, .null, .null, .null, .null, .null])) ++ [(q1, .inl (cK 0, 16, .inl (fun _ => 0))), (q2, .inl (cK 0, 16, .inl (fun _ => 0))), (q3, .inl (cK 0, 16, .inl (fun _ => 0))), (q4, .inl (cK 0, 16, .inl (fun _ => 0))), (q5, .inl (cK 0, 6, .inl (fun _ => 0)))]) bb_nn ?_
  refine bb_dup (pc2 := 47) rfl dX9_init_46 rfl ?_
  refine bb_iconst (pc2 := 48) rfl dX9_init_47 lt_i_0 ?_
  refine bb_iconst (pc2 := 49) rfl dX9_init_48 lt_i_0 ?_
  refine bb_iast (ws0.length + 4) (ws2 := ws0.set k (a, .inr (9, [.null, .null, .null, .int 0, .int 0, .int (1 : Int32), .ref q1, .ref q2, .ref q3, .ref q4, .null, .int 0, .null, .null, .null, .null, .null])) ++ [(q1, .inl (cK 0, 16, .inl (fun _ => 0))), (q2, .inl (cK 0, 16, .inl (fun _ => 0))), (q3, .inl (cK 0, 16, .inl (fun _ => 0))), (q4, .inl (cK 0, 16, .inl (fun _ => 0))), (q5, .inl (cK 0, 6, .inl ia_cb_X9_init_1))]) (pc2 := 50) rfl dX9_init_49 (bb_gn.trans rfl) (by decide) (bb_sn.trans rfl) ?_
  refine bb_dup (pc2 := 51) rfl dX9_init_50 rfl ?_
  refine bb_iconst (pc2 := 52) rfl dX9_init_51 lt_i_1 ?_
  refine bb_iconst (pc2 := 53) rfl dX9_init_52 lt_i_1 ?_
  refine bb_iast (ws0.length + 4) (ws2 := ws0.set k (a, .inr (9, [.null, .null, .null, .int 0, .int 0, .int (1 : Int32), .ref q1, .ref q2, .ref q3, .ref q4, .null, .int 0, .null, .null, .null, .null, .null])) ++ [(q1, .inl (cK 0, 16, .inl (fun _ => 0))), (q2, .inl (cK 0, 16, .inl (fun _ => 0))), (q3, .inl (cK 0, 16, .inl (fun _ => 0))), (q4, .inl (cK 0, 16, .inl (fun _ => 0))), (q5, .inl (cK 0, 6, .inl ia_cb_X9_init_2))]) (pc2 := 54) rfl dX9_init_53 (bb_gn.trans rfl) (by decide) (bb_sn.trans rfl) ?_
  refine bb_dup (pc2 := 55) rfl dX9_init_54 rfl ?_
  refine bb_iconst (pc2 := 56) rfl dX9_init_55 lt_i_2 ?_
  refine bb_iconst (pc2 := 57) rfl dX9_init_56 lt_i_2 ?_
  refine bb_iast (ws0.length + 4) (ws2 := ws0.set k (a, .inr (9, [.null, .null, .null, .int 0, .int 0, .int (1 : Int32), .ref q1, .ref q2, .ref q3, .ref q4, .null, .int 0, .null, .null, .null, .null, .null])) ++ [(q1, .inl (cK 0, 16, .inl (fun _ => 0))), (q2, .inl (cK 0, 16, .inl (fun _ => 0))), (q3, .inl (cK 0, 16, .inl (fun _ => 0))), (q4, .inl (cK 0, 16, .inl (fun _ => 0))), (q5, .inl (cK 0, 6, .inl ia_cb_X9_init_3))]) (pc2 := 58) rfl dX9_init_57 (bb_gn.trans rfl) (by decide) (bb_sn.trans rfl) ?_
  refine bb_dup (pc2 := 59) rfl dX9_init_58 rfl ?_
  refine bb_iconst (pc2 := 60) rfl dX9_init_59 lt_i_3 ?_
  refine bb_iconst (pc2 := 61) rfl dX9_init_60 lt_i_3 ?_
  refine bb_iast (ws0.length + 4) (ws2 := ws0.set k (a, .inr (9, [.null, .null, .null, .int 0, .int 0, .int (1 : Int32), .ref q1, .ref q2, .ref q3, .ref q4, .null, .int 0, .null, .null, .null, .null, .null])) ++ [(q1, .inl (cK 0, 16, .inl (fun _ => 0))), (q2, .inl (cK 0, 16, .inl (fun _ => 0))), (q3, .inl (cK 0, 16, .inl (fun _ => 0))), (q4, .inl (cK 0, 16, .inl (fun _ => 0))), (q5, .inl (cK 0, 6, .inl ia_cb_X9_init_4))]) (pc2 := 62) rfl dX9_init_61 (bb_gn.trans rfl) (by decide) (bb_sn.trans rfl) ?_
  refine bb_dup (pc2 := 63) rfl dX9_init_62 rfl ?_
  refine bb_iconst (pc2 := 64) rfl dX9_init_63 lt_i_4 ?_
  refine bb_iconst (pc2 := 65) rfl dX9_init_64 lt_i_4 ?_
  refine bb_iast (ws0.length + 4) (ws2 := ws0.set k (a, .inr (9, [.null, .null, .null, .int 0, .int 0, .int (1 : Int32), .ref q1, .ref q2, .ref q3, .ref q4, .null, .int 0, .null, .null, .null, .null, .null])) ++ [(q1, .inl (cK 0, 16, .inl (fun _ => 0))), (q2, .inl (cK 0, 16, .inl (fun _ => 0))), (q3, .inl (cK 0, 16, .inl (fun _ => 0))), (q4, .inl (cK 0, 16, .inl (fun _ => 0))), (q5, .inl (cK 0, 6, .inl ia_cb_X9_init_5))]) (pc2 := 66) rfl dX9_init_65 (bb_gn.trans rfl) (by decide) (bb_sn.trans rfl) ?_
  refine bb_dup (pc2 := 67) rfl dX9_init_66 rfl ?_
  refine bb_iconst (pc2 := 68) rfl dX9_init_67 lt_i_5 ?_
  refine bb_iconst (pc2 := 69) rfl dX9_init_68 lt_i_5 ?_
  refine bb_iast (ws0.length + 4) (ws2 := ws0.set k (a, .inr (9, [.null, .null, .null, .int 0, .int 0, .int (1 : Int32), .ref q1, .ref q2, .ref q3, .ref q4, .null, .int 0, .null, .null, .null, .null, .null])) ++ [(q1, .inl (cK 0, 16, .inl (fun _ => 0))), (q2, .inl (cK 0, 16, .inl (fun _ => 0))), (q3, .inl (cK 0, 16, .inl (fun _ => 0))), (q4, .inl (cK 0, 16, .inl (fun _ => 0))), (q5, .inl (cK 0, 6, .inl ia_cb_X9_init_6))]) (pc2 := 70) rfl dX9_init_69 (bb_gn.trans rfl) (by decide) (bb_sn.trans rfl) ?_
  refine bb_putF k 9 10 (ft := (.array .int)) (ws2 := ws0.set k (a, .inr (9, [.null, .null, .null, .int 0, .int 0, .int (1 : Int32), .ref q1, .ref q2, .ref q3, .ref q4, .ref q5, .int 0, .null, .null, .null, .null, .null])) ++ [(q1, .inl (cK 0, 16, .inl (fun _ => 0))), (q2, .inl (cK 0, 16, .inl (fun _ => 0))), (q3, .inl (cK 0, 16, .inl (fun _ => 0))), (q4, .inl (cK 0, 16, .inl (fun _ => 0))), (q5, .inl (cK 0, 6, .inl ia_cb_X9_init_6))]) (pc2 := 73) rfl dX9_init_70 (bb_gk hk) ff_9_10 wd_248 rfl rfl rfl (by decide +kernel) rfl rfl (Nat.le_of_ble_eq_true rfl) (bb_sk hk) ?_
  refine bb_aload_n (pc2 := 74) rfl dX9_init_73 rfl ?_
  refine bb_bipush (pc2 := 76) rfl dX9_init_74 lt_b_8 ?_
  refine bb_newa (N := 8) (pc2 := 78) rfl dX9_init_76 wd_112 (by decide) (by decide) rfl rfl rfl (fun q6 => ?_)
  refine bb_ws (ws2 := ws0.set k (a, .inr (9, [.null, .null, .null, .int 0, .int 0, .int (1 : Int32), .ref q1, .ref q2, .ref q3, .ref q4, .ref q5, .int 0, .null, .null, .null, .null, .null])) ++ [(q1, .inl (cK 0, 16, .inl (fun _ => 0))), (q2, .inl (cK 0, 16, .inl (fun _ => 0))), (q3, .inl (cK 0, 16, .inl (fun _ => 0))), (q4, .inl (cK 0, 16, .inl (fun _ => 0))), (q5, .inl (cK 0, 6, .inl ia_cb_X9_init_6)), (q6, .inl (cK 0, 8, .inl (fun _ => 0)))]) bb_nn ?_
  refine bb_putF k 9 12 (ft := (.array .int)) (ws2 := ws0.set k (a, .inr (9, [.null, .null, .null, .int 0, .int 0, .int (1 : Int32), .ref q1, .ref q2, .ref q3, .ref q4, .ref q5, .int 0, .ref q6, .null, .null, .null, .null])) ++ [(q1, .inl (cK 0, 16, .inl (fun _ => 0))), (q2, .inl (cK 0, 16, .inl (fun _ => 0))), (q3, .inl (cK 0, 16, .inl (fun _ => 0))), (q4, .inl (cK 0, 16, .inl (fun _ => 0))), (q5, .inl (cK 0, 6, .inl ia_cb_X9_init_6)), (q6, .inl (cK 0, 8, .inl (fun _ => 0)))]) (pc2 := 81) rfl dX9_init_78 (bb_gk hk) ff_9_12 wd_252 rfl rfl rfl (by decide +kernel) rfl rfl (Nat.le_of_ble_eq_true rfl) (bb_sk hk) ?_
  refine bb_aload_n (pc2 := 82) rfl dX9_init_81 rfl ?_
  refine bb_bipush (pc2 := 84) rfl dX9_init_82 lt_b_8 ?_
  refine bb_newa (N := 8) (pc2 := 86) rfl dX9_init_84 wd_112 (by decide) (by decide) rfl rfl rfl (fun q7 => ?_)
  refine bb_ws (ws2 := ws0.set k (a, .inr (9, [.null, .null, .null, .int 0, .int 0, .int (1 : Int32), .ref q1, .ref q2, .ref q3, .ref q4, .ref q5, .int 0, .ref q6, .null, .null, .null, .null])) ++ [(q1, .inl (cK 0, 16, .inl (fun _ => 0))), (q2, .inl (cK 0, 16, .inl (fun _ => 0))), (q3, .inl (cK 0, 16, .inl (fun _ => 0))), (q4, .inl (cK 0, 16, .inl (fun _ => 0))), (q5, .inl (cK 0, 6, .inl ia_cb_X9_init_6)), (q6, .inl (cK 0, 8, .inl (fun _ => 0))), (q7, .inl (cK 0, 8, .inl (fun _ => 0)))]) bb_nn ?_
  refine bb_putF k 9 13 (ft := (.array .int)) (ws2 := ws0.set k (a, .inr (9, [.null, .null, .null, .int 0, .int 0, .int (1 : Int32), .ref q1, .ref q2, .ref q3, .ref q4, .ref q5, .int 0, .ref q6, .ref q7, .null, .null, .null])) ++ [(q1, .inl (cK 0, 16, .inl (fun _ => 0))), (q2, .inl (cK 0, 16, .inl (fun _ => 0))), (q3, .inl (cK 0, 16, .inl (fun _ => 0))), (q4, .inl (cK 0, 16, .inl (fun _ => 0))), (q5, .inl (cK 0, 6, .inl ia_cb_X9_init_6)), (q6, .inl (cK 0, 8, .inl (fun _ => 0))), (q7, .inl (cK 0, 8, .inl (fun _ => 0)))]) (pc2 := 89) rfl dX9_init_86 (bb_gk hk) ff_9_13 wd_254 rfl rfl rfl (by decide +kernel) rfl rfl (Nat.le_of_ble_eq_true rfl) (bb_sk hk) ?_
  refine bb_aload_n (pc2 := 90) rfl dX9_init_89 rfl ?_
  refine bb_bipush (pc2 := 92) rfl dX9_init_90 lt_b_8 ?_
  refine bb_newa (N := 8) (pc2 := 94) rfl dX9_init_92 wd_112 (by decide) (by decide) rfl rfl rfl (fun q8 => ?_)
  refine bb_ws (ws2 := ws0.set k (a, .inr (9, [.null, .null, .null, .int 0, .int 0, .int (1 : Int32), .ref q1, .ref q2, .ref q3, .ref q4, .ref q5, .int 0, .ref q6, .ref q7, .null, .null, .null])) ++ [(q1, .inl (cK 0, 16, .inl (fun _ => 0))), (q2, .inl (cK 0, 16, .inl (fun _ => 0))), (q3, .inl (cK 0, 16, .inl (fun _ => 0))), (q4, .inl (cK 0, 16, .inl (fun _ => 0))), (q5, .inl (cK 0, 6, .inl ia_cb_X9_init_6)), (q6, .inl (cK 0, 8, .inl (fun _ => 0))), (q7, .inl (cK 0, 8, .inl (fun _ => 0))), (q8, .inl (cK 0, 8, .inl (fun _ => 0)))]) bb_nn ?_
  refine bb_putF k 9 14 (ft := (.array .int)) (ws2 := ws0.set k (a, .inr (9, [.null, .null, .null, .int 0, .int 0, .int (1 : Int32), .ref q1, .ref q2, .ref q3, .ref q4, .ref q5, .int 0, .ref q6, .ref q7, .ref q8, .null, .null])) ++ [(q1, .inl (cK 0, 16, .inl (fun _ => 0))), (q2, .inl (cK 0, 16, .inl (fun _ => 0))), (q3, .inl (cK 0, 16, .inl (fun _ => 0))), (q4, .inl (cK 0, 16, .inl (fun _ => 0))), (q5, .inl (cK 0, 6, .inl ia_cb_X9_init_6)), (q6, .inl (cK 0, 8, .inl (fun _ => 0))), (q7, .inl (cK 0, 8, .inl (fun _ => 0))), (q8, .inl (cK 0, 8, .inl (fun _ => 0)))]) (pc2 := 97) rfl dX9_init_94 (bb_gk hk) ff_9_14 wd_259 rfl rfl rfl (by decide +kernel) rfl rfl (Nat.le_of_ble_eq_true rfl) (bb_sk hk) ?_
  refine bb_aload_n (pc2 := 98) rfl dX9_init_97 rfl ?_
  refine bb_bipush (pc2 := 100) rfl dX9_init_98 lt_b_8 ?_
  refine bb_newa (N := 8) (pc2 := 102) rfl dX9_init_100 wd_112 (by decide) (by decide) rfl rfl rfl (fun q9 => ?_)
  refine bb_ws (ws2 := ws0.set k (a, .inr (9, [.null, .null, .null, .int 0, .int 0, .int (1 : Int32), .ref q1, .ref q2, .ref q3, .ref q4, .ref q5, .int 0, .ref q6, .ref q7, .ref q8, .null, .null])) ++ [(q1, .inl (cK 0, 16, .inl (fun _ => 0))), (q2, .inl (cK 0, 16, .inl (fun _ => 0))), (q3, .inl (cK 0, 16, .inl (fun _ => 0))), (q4, .inl (cK 0, 16, .inl (fun _ => 0))), (q5, .inl (cK 0, 6, .inl ia_cb_X9_init_6)), (q6, .inl (cK 0, 8, .inl (fun _ => 0))), (q7, .inl (cK 0, 8, .inl (fun _ => 0))), (q8, .inl (cK 0, 8, .inl (fun _ => 0))), (q9, .inl (cK 0, 8, .inl (fun _ => 0)))]) bb_nn ?_
  refine bb_putF k 9 15 (ft := (.array .int)) (ws2 := ws0.set k (a, .inr (9, [.null, .null, .null, .int 0, .int 0, .int (1 : Int32), .ref q1, .ref q2, .ref q3, .ref q4, .ref q5, .int 0, .ref q6, .ref q7, .ref q8, .ref q9, .null])) ++ [(q1, .inl (cK 0, 16, .inl (fun _ => 0))), (q2, .inl (cK 0, 16, .inl (fun _ => 0))), (q3, .inl (cK 0, 16, .inl (fun _ => 0))), (q4, .inl (cK 0, 16, .inl (fun _ => 0))), (q5, .inl (cK 0, 6, .inl ia_cb_X9_init_6)), (q6, .inl (cK 0, 8, .inl (fun _ => 0))), (q7, .inl (cK 0, 8, .inl (fun _ => 0))), (q8, .inl (cK 0, 8, .inl (fun _ => 0))), (q9, .inl (cK 0, 8, .inl (fun _ => 0)))]) (pc2 := 105) rfl dX9_init_102 (bb_gk hk) ff_9_15 wd_261 rfl rfl rfl (by decide +kernel) rfl rfl (Nat.le_of_ble_eq_true rfl) (bb_sk hk) ?_
  refine bb_aload_n (pc2 := 106) rfl dX9_init_105 rfl ?_
  refine bb_bipush (pc2 := 108) rfl dX9_init_106 lt_b_8 ?_
  refine bb_newa (N := 8) (pc2 := 110) rfl dX9_init_108 wd_112 (by decide) (by decide) rfl rfl rfl (fun q10 => ?_)
  refine bb_ws (ws2 := ws0.set k (a, .inr (9, [.null, .null, .null, .int 0, .int 0, .int (1 : Int32), .ref q1, .ref q2, .ref q3, .ref q4, .ref q5, .int 0, .ref q6, .ref q7, .ref q8, .ref q9, .null])) ++ [(q1, .inl (cK 0, 16, .inl (fun _ => 0))), (q2, .inl (cK 0, 16, .inl (fun _ => 0))), (q3, .inl (cK 0, 16, .inl (fun _ => 0))), (q4, .inl (cK 0, 16, .inl (fun _ => 0))), (q5, .inl (cK 0, 6, .inl ia_cb_X9_init_6)), (q6, .inl (cK 0, 8, .inl (fun _ => 0))), (q7, .inl (cK 0, 8, .inl (fun _ => 0))), (q8, .inl (cK 0, 8, .inl (fun _ => 0))), (q9, .inl (cK 0, 8, .inl (fun _ => 0))), (q10, .inl (cK 0, 8, .inl (fun _ => 0)))]) bb_nn ?_
  refine bb_putF k 9 16 (ft := (.array .int)) (ws2 := ws0.set k (a, .inr (9, [.null, .null, .null, .int 0, .int 0, .int (1 : Int32), .ref q1, .ref q2, .ref q3, .ref q4, .ref q5, .int 0, .ref q6, .ref q7, .ref q8, .ref q9, .ref q10])) ++ [(q1, .inl (cK 0, 16, .inl (fun _ => 0))), (q2, .inl (cK 0, 16, .inl (fun _ => 0))), (q3, .inl (cK 0, 16, .inl (fun _ => 0))), (q4, .inl (cK 0, 16, .inl (fun _ => 0))), (q5, .inl (cK 0, 6, .inl ia_cb_X9_init_6)), (q6, .inl (cK 0, 8, .inl (fun _ => 0))), (q7, .inl (cK 0, 8, .inl (fun _ => 0))), (q8, .inl (cK 0, 8, .inl (fun _ => 0))), (q9, .inl (cK 0, 8, .inl (fun _ => 0))), (q10, .inl (cK 0, 8, .inl (fun _ => 0)))]) (pc2 := 113) rfl dX9_init_110 (bb_gk hk) ff_9_16 wd_263 rfl rfl rfl (by decide +kernel) rfl rfl (Nat.le_of_ble_eq_true rfl) (bb_sk hk) ?_
  refine bb_aload_n (pc2 := 114) rfl dX9_init_113 rfl ?_
  refine bb_aload_n (pc2 := 115) rfl dX9_init_114 rfl ?_
  refine bb_putF k 9 0 (ft := (.array (.object "StiltParish$Goer"))) (ws2 := ws0.set k (a, .inr (9, [.ref b0, .null, .null, .int 0, .int 0, .int (1 : Int32), .ref q1, .ref q2, .ref q3, .ref q4, .ref q5, .int 0, .ref q6, .ref q7, .ref q8, .ref q9, .ref q10])) ++ [(q1, .inl (cK 0, 16, .inl (fun _ => 0))), (q2, .inl (cK 0, 16, .inl (fun _ => 0))), (q3, .inl (cK 0, 16, .inl (fun _ => 0))), (q4, .inl (cK 0, 16, .inl (fun _ => 0))), (q5, .inl (cK 0, 6, .inl ia_cb_X9_init_6)), (q6, .inl (cK 0, 8, .inl (fun _ => 0))), (q7, .inl (cK 0, 8, .inl (fun _ => 0))), (q8, .inl (cK 0, 8, .inl (fun _ => 0))), (q9, .inl (cK 0, 8, .inl (fun _ => 0))), (q10, .inl (cK 0, 8, .inl (fun _ => 0)))]) (pc2 := 118) rfl dX9_init_115 (bb_gk hk) ff_9_0 wd_228 rfl rfl rfl (by decide +kernel) rfl rfl (Nat.le_of_ble_eq_true rfl) (bb_sk hk) ?_
  refine bb_aload_n (pc2 := 119) rfl dX9_init_118 rfl ?_
  refine bb_aload_n (pc2 := 120) rfl dX9_init_119 rfl ?_
  refine bb_putF k 9 1 (ft := (.object "StiltParish$Text")) (ws2 := ws0.set k (a, .inr (9, [.ref b0, .ref b1, .null, .int 0, .int 0, .int (1 : Int32), .ref q1, .ref q2, .ref q3, .ref q4, .ref q5, .int 0, .ref q6, .ref q7, .ref q8, .ref q9, .ref q10])) ++ [(q1, .inl (cK 0, 16, .inl (fun _ => 0))), (q2, .inl (cK 0, 16, .inl (fun _ => 0))), (q3, .inl (cK 0, 16, .inl (fun _ => 0))), (q4, .inl (cK 0, 16, .inl (fun _ => 0))), (q5, .inl (cK 0, 6, .inl ia_cb_X9_init_6)), (q6, .inl (cK 0, 8, .inl (fun _ => 0))), (q7, .inl (cK 0, 8, .inl (fun _ => 0))), (q8, .inl (cK 0, 8, .inl (fun _ => 0))), (q9, .inl (cK 0, 8, .inl (fun _ => 0))), (q10, .inl (cK 0, 8, .inl (fun _ => 0)))]) (pc2 := 123) rfl dX9_init_120 (bb_gk hk) ff_9_1 wd_230 rfl rfl rfl (by decide +kernel) rfl rfl (Nat.le_of_ble_eq_true rfl) (bb_sk hk) ?_
  refine bb_aload_n (pc2 := 124) rfl dX9_init_123 rfl ?_
  refine bb_aload_n (pc2 := 125) rfl dX9_init_124 rfl ?_
  refine bb_putF k 9 2 (ft := (.object "StiltParish$Text")) (ws2 := ws0.set k (a, .inr (9, [.ref b0, .ref b1, .ref b2, .int 0, .int 0, .int (1 : Int32), .ref q1, .ref q2, .ref q3, .ref q4, .ref q5, .int 0, .ref q6, .ref q7, .ref q8, .ref q9, .ref q10])) ++ [(q1, .inl (cK 0, 16, .inl (fun _ => 0))), (q2, .inl (cK 0, 16, .inl (fun _ => 0))), (q3, .inl (cK 0, 16, .inl (fun _ => 0))), (q4, .inl (cK 0, 16, .inl (fun _ => 0))), (q5, .inl (cK 0, 6, .inl ia_cb_X9_init_6)), (q6, .inl (cK 0, 8, .inl (fun _ => 0))), (q7, .inl (cK 0, 8, .inl (fun _ => 0))), (q8, .inl (cK 0, 8, .inl (fun _ => 0))), (q9, .inl (cK 0, 8, .inl (fun _ => 0))), (q10, .inl (cK 0, 8, .inl (fun _ => 0)))]) (pc2 := 128) rfl dX9_init_125 (bb_gk hk) ff_9_2 wd_232 rfl rfl rfl (by decide +kernel) rfl rfl (Nat.le_of_ble_eq_true rfl) (bb_sk hk) ?_
  refine bb_iconst (pc2 := 129) rfl dX9_init_128 lt_i_0 ?_
  refine bb_istore (L2 := [some (.ref a), some (.ref b0), some (.ref b1), some (.ref b2), some (.int (0 : Int32))]) (pc2 := 131) rfl dX9_init_129 (by decide) rfl rfl ?_
  refine bb_iload (pc2 := 133) rfl dX9_init_131 rfl ?_
  refine bb_bipush (pc2 := 135) rfl dX9_init_133 lt_b_16 ?_
  refine bb_icmp_ge (tgt := 159) (pc2 := 138) rfl dX9_init_135 (by decide) (fun hc => ?_) (fun hc => ?_)
  · exact absurd hc (by decide)
  refine bb_aload_n (pc2 := 139) rfl dX9_init_138 rfl ?_
  refine bb_get k 9 6 (v := .ref q1) (pc2 := 142) rfl dX9_init_139 (bb_gk hk) ff_9_6 wd_241 rfl ?_
  refine bb_iload (pc2 := 144) rfl dX9_init_142 rfl ?_
  refine bb_bipush (pc2 := 146) rfl dX9_init_144 lt_b_7 ?_
  refine bb_iload (pc2 := 148) rfl dX9_init_146 rfl ?_
  refine bb_imull (z := (0 : Int32)) (pc2 := 149) rfl dX9_init_148 (by decide) ?_
  refine bb_bipush (pc2 := 151) rfl dX9_init_149 lt_b_10 ?_
  refine bb_ireml (z := (0 : Int32)) (pc2 := 152) rfl dX9_init_151 (by decide) (by decide) ?_
  refine bb_iast (ws0.length + 0) (ws2 := ws0.set k (a, .inr (9, [.ref b0, .ref b1, .ref b2, .int 0, .int 0, .int (1 : Int32), .ref q1, .ref q2, .ref q3, .ref q4, .ref q5, .int 0, .ref q6, .ref q7, .ref q8, .ref q9, .ref q10])) ++ [(q1, .inl (cK 0, 16, .inl ia_cb_X9_init_7)), (q2, .inl (cK 0, 16, .inl (fun _ => 0))), (q3, .inl (cK 0, 16, .inl (fun _ => 0))), (q4, .inl (cK 0, 16, .inl (fun _ => 0))), (q5, .inl (cK 0, 6, .inl ia_cb_X9_init_6)), (q6, .inl (cK 0, 8, .inl (fun _ => 0))), (q7, .inl (cK 0, 8, .inl (fun _ => 0))), (q8, .inl (cK 0, 8, .inl (fun _ => 0))), (q9, .inl (cK 0, 8, .inl (fun _ => 0))), (q10, .inl (cK 0, 8, .inl (fun _ => 0)))]) (pc2 := 153) rfl dX9_init_152 (bb_gn.trans rfl) (by decide) (bb_sn.trans rfl) ?_
  refine bb_iinc (v := (1 : Int32)) (L2 := [some (.ref a), some (.ref b0), some (.ref b1), some (.ref b2), some (.int (1 : Int32))]) (pc2 := 156) rfl dX9_init_153 rfl (by decide) (by decide) rfl rfl ?_
  refine bb_goto (tgt := 131) dX9_init_156 (by decide) ?_
  refine bb_iload (pc2 := 133) rfl dX9_init_131 rfl ?_
  refine bb_bipush (pc2 := 135) rfl dX9_init_133 lt_b_16 ?_
  refine bb_icmp_ge (tgt := 159) (pc2 := 138) rfl dX9_init_135 (by decide) (fun hc => ?_) (fun hc => ?_)
  · exact absurd hc (by decide)
  refine bb_aload_n (pc2 := 139) rfl dX9_init_138 rfl ?_
  refine bb_get k 9 6 (v := .ref q1) (pc2 := 142) rfl dX9_init_139 (bb_gk hk) ff_9_6 wd_241 rfl ?_
  refine bb_iload (pc2 := 144) rfl dX9_init_142 rfl ?_
  refine bb_bipush (pc2 := 146) rfl dX9_init_144 lt_b_7 ?_
  refine bb_iload (pc2 := 148) rfl dX9_init_146 rfl ?_
  refine bb_imull (z := (7 : Int32)) (pc2 := 149) rfl dX9_init_148 (by decide) ?_
  refine bb_bipush (pc2 := 151) rfl dX9_init_149 lt_b_10 ?_
  refine bb_ireml (z := (7 : Int32)) (pc2 := 152) rfl dX9_init_151 (by decide) (by decide) ?_
  refine bb_iast (ws0.length + 0) (ws2 := ws0.set k (a, .inr (9, [.ref b0, .ref b1, .ref b2, .int 0, .int 0, .int (1 : Int32), .ref q1, .ref q2, .ref q3, .ref q4, .ref q5, .int 0, .ref q6, .ref q7, .ref q8, .ref q9, .ref q10])) ++ [(q1, .inl (cK 0, 16, .inl ia_cb_X9_init_8)), (q2, .inl (cK 0, 16, .inl (fun _ => 0))), (q3, .inl (cK 0, 16, .inl (fun _ => 0))), (q4, .inl (cK 0, 16, .inl (fun _ => 0))), (q5, .inl (cK 0, 6, .inl ia_cb_X9_init_6)), (q6, .inl (cK 0, 8, .inl (fun _ => 0))), (q7, .inl (cK 0, 8, .inl (fun _ => 0))), (q8, .inl (cK 0, 8, .inl (fun _ => 0))), (q9, .inl (cK 0, 8, .inl (fun _ => 0))), (q10, .inl (cK 0, 8, .inl (fun _ => 0)))]) (pc2 := 153) rfl dX9_init_152 (bb_gn.trans rfl) (by decide) (bb_sn.trans rfl) ?_
  refine bb_iinc (v := (2 : Int32)) (L2 := [some (.ref a), some (.ref b0), some (.ref b1), some (.ref b2), some (.int (2 : Int32))]) (pc2 := 156) rfl dX9_init_153 rfl (by decide) (by decide) rfl rfl ?_
  refine bb_goto (tgt := 131) dX9_init_156 (by decide) ?_
  refine bb_iload (pc2 := 133) rfl dX9_init_131 rfl ?_
  refine bb_bipush (pc2 := 135) rfl dX9_init_133 lt_b_16 ?_
  refine bb_icmp_ge (tgt := 159) (pc2 := 138) rfl dX9_init_135 (by decide) (fun hc => ?_) (fun hc => ?_)
  · exact absurd hc (by decide)
  refine bb_aload_n (pc2 := 139) rfl dX9_init_138 rfl ?_
  refine bb_get k 9 6 (v := .ref q1) (pc2 := 142) rfl dX9_init_139 (bb_gk hk) ff_9_6 wd_241 rfl ?_
  refine bb_iload (pc2 := 144) rfl dX9_init_142 rfl ?_
  refine bb_bipush (pc2 := 146) rfl dX9_init_144 lt_b_7 ?_
  refine bb_iload (pc2 := 148) rfl dX9_init_146 rfl ?_
  refine bb_imull (z := (14 : Int32)) (pc2 := 149) rfl dX9_init_148 (by decide) ?_
  refine bb_bipush (pc2 := 151) rfl dX9_init_149 lt_b_10 ?_
  refine bb_ireml (z := (4 : Int32)) (pc2 := 152) rfl dX9_init_151 (by decide) (by decide) ?_
  refine bb_iast (ws0.length + 0) (ws2 := ws0.set k (a, .inr (9, [.ref b0, .ref b1, .ref b2, .int 0, .int 0, .int (1 : Int32), .ref q1, .ref q2, .ref q3, .ref q4, .ref q5, .int 0, .ref q6, .ref q7, .ref q8, .ref q9, .ref q10])) ++ [(q1, .inl (cK 0, 16, .inl ia_cb_X9_init_9)), (q2, .inl (cK 0, 16, .inl (fun _ => 0))), (q3, .inl (cK 0, 16, .inl (fun _ => 0))), (q4, .inl (cK 0, 16, .inl (fun _ => 0))), (q5, .inl (cK 0, 6, .inl ia_cb_X9_init_6)), (q6, .inl (cK 0, 8, .inl (fun _ => 0))), (q7, .inl (cK 0, 8, .inl (fun _ => 0))), (q8, .inl (cK 0, 8, .inl (fun _ => 0))), (q9, .inl (cK 0, 8, .inl (fun _ => 0))), (q10, .inl (cK 0, 8, .inl (fun _ => 0)))]) (pc2 := 153) rfl dX9_init_152 (bb_gn.trans rfl) (by decide) (bb_sn.trans rfl) ?_
  refine bb_iinc (v := (3 : Int32)) (L2 := [some (.ref a), some (.ref b0), some (.ref b1), some (.ref b2), some (.int (3 : Int32))]) (pc2 := 156) rfl dX9_init_153 rfl (by decide) (by decide) rfl rfl ?_
  refine bb_goto (tgt := 131) dX9_init_156 (by decide) ?_
  refine bb_iload (pc2 := 133) rfl dX9_init_131 rfl ?_
  refine bb_bipush (pc2 := 135) rfl dX9_init_133 lt_b_16 ?_
  refine bb_icmp_ge (tgt := 159) (pc2 := 138) rfl dX9_init_135 (by decide) (fun hc => ?_) (fun hc => ?_)
  · exact absurd hc (by decide)
  refine bb_aload_n (pc2 := 139) rfl dX9_init_138 rfl ?_
  refine bb_get k 9 6 (v := .ref q1) (pc2 := 142) rfl dX9_init_139 (bb_gk hk) ff_9_6 wd_241 rfl ?_
  refine bb_iload (pc2 := 144) rfl dX9_init_142 rfl ?_
  refine bb_bipush (pc2 := 146) rfl dX9_init_144 lt_b_7 ?_
  refine bb_iload (pc2 := 148) rfl dX9_init_146 rfl ?_
  refine bb_imull (z := (21 : Int32)) (pc2 := 149) rfl dX9_init_148 (by decide) ?_
  refine bb_bipush (pc2 := 151) rfl dX9_init_149 lt_b_10 ?_
  refine bb_ireml (z := (1 : Int32)) (pc2 := 152) rfl dX9_init_151 (by decide) (by decide) ?_
  refine bb_iast (ws0.length + 0) (ws2 := ws0.set k (a, .inr (9, [.ref b0, .ref b1, .ref b2, .int 0, .int 0, .int (1 : Int32), .ref q1, .ref q2, .ref q3, .ref q4, .ref q5, .int 0, .ref q6, .ref q7, .ref q8, .ref q9, .ref q10])) ++ [(q1, .inl (cK 0, 16, .inl ia_cb_X9_init_10)), (q2, .inl (cK 0, 16, .inl (fun _ => 0))), (q3, .inl (cK 0, 16, .inl (fun _ => 0))), (q4, .inl (cK 0, 16, .inl (fun _ => 0))), (q5, .inl (cK 0, 6, .inl ia_cb_X9_init_6)), (q6, .inl (cK 0, 8, .inl (fun _ => 0))), (q7, .inl (cK 0, 8, .inl (fun _ => 0))), (q8, .inl (cK 0, 8, .inl (fun _ => 0))), (q9, .inl (cK 0, 8, .inl (fun _ => 0))), (q10, .inl (cK 0, 8, .inl (fun _ => 0)))]) (pc2 := 153) rfl dX9_init_152 (bb_gn.trans rfl) (by decide) (bb_sn.trans rfl) ?_
  refine bb_iinc (v := (4 : Int32)) (L2 := [some (.ref a), some (.ref b0), some (.ref b1), some (.ref b2), some (.int (4 : Int32))]) (pc2 := 156) rfl dX9_init_153 rfl (by decide) (by decide) rfl rfl ?_
  refine bb_goto (tgt := 131) dX9_init_156 (by decide) ?_
  refine bb_iload (pc2 := 133) rfl dX9_init_131 rfl ?_
  refine bb_bipush (pc2 := 135) rfl dX9_init_133 lt_b_16 ?_
  refine bb_icmp_ge (tgt := 159) (pc2 := 138) rfl dX9_init_135 (by decide) (fun hc => ?_) (fun hc => ?_)
  · exact absurd hc (by decide)
  refine bb_aload_n (pc2 := 139) rfl dX9_init_138 rfl ?_
  refine bb_get k 9 6 (v := .ref q1) (pc2 := 142) rfl dX9_init_139 (bb_gk hk) ff_9_6 wd_241 rfl ?_
  refine bb_iload (pc2 := 144) rfl dX9_init_142 rfl ?_
  refine bb_bipush (pc2 := 146) rfl dX9_init_144 lt_b_7 ?_
  refine bb_iload (pc2 := 148) rfl dX9_init_146 rfl ?_
  refine bb_imull (z := (28 : Int32)) (pc2 := 149) rfl dX9_init_148 (by decide) ?_
  refine bb_bipush (pc2 := 151) rfl dX9_init_149 lt_b_10 ?_
  refine bb_ireml (z := (8 : Int32)) (pc2 := 152) rfl dX9_init_151 (by decide) (by decide) ?_
  refine bb_iast (ws0.length + 0) (ws2 := ws0.set k (a, .inr (9, [.ref b0, .ref b1, .ref b2, .int 0, .int 0, .int (1 : Int32), .ref q1, .ref q2, .ref q3, .ref q4, .ref q5, .int 0, .ref q6, .ref q7, .ref q8, .ref q9, .ref q10])) ++ [(q1, .inl (cK 0, 16, .inl ia_cb_X9_init_11)), (q2, .inl (cK 0, 16, .inl (fun _ => 0))), (q3, .inl (cK 0, 16, .inl (fun _ => 0))), (q4, .inl (cK 0, 16, .inl (fun _ => 0))), (q5, .inl (cK 0, 6, .inl ia_cb_X9_init_6)), (q6, .inl (cK 0, 8, .inl (fun _ => 0))), (q7, .inl (cK 0, 8, .inl (fun _ => 0))), (q8, .inl (cK 0, 8, .inl (fun _ => 0))), (q9, .inl (cK 0, 8, .inl (fun _ => 0))), (q10, .inl (cK 0, 8, .inl (fun _ => 0)))]) (pc2 := 153) rfl dX9_init_152 (bb_gn.trans rfl) (by decide) (bb_sn.trans rfl) ?_
  refine bb_iinc (v := (5 : Int32)) (L2 := [some (.ref a), some (.ref b0), some (.ref b1), some (.ref b2), some (.int (5 : Int32))]) (pc2 := 156) rfl dX9_init_153 rfl (by decide) (by decide) rfl rfl ?_
  refine bb_goto (tgt := 131) dX9_init_156 (by decide) ?_
  refine bb_iload (pc2 := 133) rfl dX9_init_131 rfl ?_
  refine bb_bipush (pc2 := 135) rfl dX9_init_133 lt_b_16 ?_
  refine bb_icmp_ge (tgt := 159) (pc2 := 138) rfl dX9_init_135 (by decide) (fun hc => ?_) (fun hc => ?_)
  · exact absurd hc (by decide)
  refine bb_aload_n (pc2 := 139) rfl dX9_init_138 rfl ?_
  refine bb_get k 9 6 (v := .ref q1) (pc2 := 142) rfl dX9_init_139 (bb_gk hk) ff_9_6 wd_241 rfl ?_
  refine bb_iload (pc2 := 144) rfl dX9_init_142 rfl ?_
  refine bb_bipush (pc2 := 146) rfl dX9_init_144 lt_b_7 ?_
  refine bb_iload (pc2 := 148) rfl dX9_init_146 rfl ?_
  refine bb_imull (z := (35 : Int32)) (pc2 := 149) rfl dX9_init_148 (by decide) ?_
  refine bb_bipush (pc2 := 151) rfl dX9_init_149 lt_b_10 ?_
  refine bb_ireml (z := (5 : Int32)) (pc2 := 152) rfl dX9_init_151 (by decide) (by decide) ?_
  refine bb_iast (ws0.length + 0) (ws2 := ws0.set k (a, .inr (9, [.ref b0, .ref b1, .ref b2, .int 0, .int 0, .int (1 : Int32), .ref q1, .ref q2, .ref q3, .ref q4, .ref q5, .int 0, .ref q6, .ref q7, .ref q8, .ref q9, .ref q10])) ++ [(q1, .inl (cK 0, 16, .inl ia_cb_X9_init_12)), (q2, .inl (cK 0, 16, .inl (fun _ => 0))), (q3, .inl (cK 0, 16, .inl (fun _ => 0))), (q4, .inl (cK 0, 16, .inl (fun _ => 0))), (q5, .inl (cK 0, 6, .inl ia_cb_X9_init_6)), (q6, .inl (cK 0, 8, .inl (fun _ => 0))), (q7, .inl (cK 0, 8, .inl (fun _ => 0))), (q8, .inl (cK 0, 8, .inl (fun _ => 0))), (q9, .inl (cK 0, 8, .inl (fun _ => 0))), (q10, .inl (cK 0, 8, .inl (fun _ => 0)))]) (pc2 := 153) rfl dX9_init_152 (bb_gn.trans rfl) (by decide) (bb_sn.trans rfl) ?_
  refine bb_iinc (v := (6 : Int32)) (L2 := [some (.ref a), some (.ref b0), some (.ref b1), some (.ref b2), some (.int (6 : Int32))]) (pc2 := 156) rfl dX9_init_153 rfl (by decide) (by decide) rfl rfl ?_
  refine bb_goto (tgt := 131) dX9_init_156 (by decide) ?_
  refine bb_iload (pc2 := 133) rfl dX9_init_131 rfl ?_
  refine bb_bipush (pc2 := 135) rfl dX9_init_133 lt_b_16 ?_
  refine bb_icmp_ge (tgt := 159) (pc2 := 138) rfl dX9_init_135 (by decide) (fun hc => ?_) (fun hc => ?_)
  · exact absurd hc (by decide)
  refine bb_aload_n (pc2 := 139) rfl dX9_init_138 rfl ?_
  refine bb_get k 9 6 (v := .ref q1) (pc2 := 142) rfl dX9_init_139 (bb_gk hk) ff_9_6 wd_241 rfl ?_
  refine bb_iload (pc2 := 144) rfl dX9_init_142 rfl ?_
  refine bb_bipush (pc2 := 146) rfl dX9_init_144 lt_b_7 ?_
  refine bb_iload (pc2 := 148) rfl dX9_init_146 rfl ?_
  refine bb_imull (z := (42 : Int32)) (pc2 := 149) rfl dX9_init_148 (by decide) ?_
  refine bb_bipush (pc2 := 151) rfl dX9_init_149 lt_b_10 ?_
  refine bb_ireml (z := (2 : Int32)) (pc2 := 152) rfl dX9_init_151 (by decide) (by decide) ?_
  refine bb_iast (ws0.length + 0) (ws2 := ws0.set k (a, .inr (9, [.ref b0, .ref b1, .ref b2, .int 0, .int 0, .int (1 : Int32), .ref q1, .ref q2, .ref q3, .ref q4, .ref q5, .int 0, .ref q6, .ref q7, .ref q8, .ref q9, .ref q10])) ++ [(q1, .inl (cK 0, 16, .inl ia_cb_X9_init_13)), (q2, .inl (cK 0, 16, .inl (fun _ => 0))), (q3, .inl (cK 0, 16, .inl (fun _ => 0))), (q4, .inl (cK 0, 16, .inl (fun _ => 0))), (q5, .inl (cK 0, 6, .inl ia_cb_X9_init_6)), (q6, .inl (cK 0, 8, .inl (fun _ => 0))), (q7, .inl (cK 0, 8, .inl (fun _ => 0))), (q8, .inl (cK 0, 8, .inl (fun _ => 0))), (q9, .inl (cK 0, 8, .inl (fun _ => 0))), (q10, .inl (cK 0, 8, .inl (fun _ => 0)))]) (pc2 := 153) rfl dX9_init_152 (bb_gn.trans rfl) (by decide) (bb_sn.trans rfl) ?_
  refine bb_iinc (v := (7 : Int32)) (L2 := [some (.ref a), some (.ref b0), some (.ref b1), some (.ref b2), some (.int (7 : Int32))]) (pc2 := 156) rfl dX9_init_153 rfl (by decide) (by decide) rfl rfl ?_
  refine bb_goto (tgt := 131) dX9_init_156 (by decide) ?_
  refine bb_iload (pc2 := 133) rfl dX9_init_131 rfl ?_
  refine bb_bipush (pc2 := 135) rfl dX9_init_133 lt_b_16 ?_
  refine bb_icmp_ge (tgt := 159) (pc2 := 138) rfl dX9_init_135 (by decide) (fun hc => ?_) (fun hc => ?_)
  · exact absurd hc (by decide)
  refine bb_aload_n (pc2 := 139) rfl dX9_init_138 rfl ?_
  refine bb_get k 9 6 (v := .ref q1) (pc2 := 142) rfl dX9_init_139 (bb_gk hk) ff_9_6 wd_241 rfl ?_
  refine bb_iload (pc2 := 144) rfl dX9_init_142 rfl ?_
  refine bb_bipush (pc2 := 146) rfl dX9_init_144 lt_b_7 ?_
  refine bb_iload (pc2 := 148) rfl dX9_init_146 rfl ?_
  refine bb_imull (z := (49 : Int32)) (pc2 := 149) rfl dX9_init_148 (by decide) ?_
  refine bb_bipush (pc2 := 151) rfl dX9_init_149 lt_b_10 ?_
  refine bb_ireml (z := (9 : Int32)) (pc2 := 152) rfl dX9_init_151 (by decide) (by decide) ?_
  refine bb_iast (ws0.length + 0) (ws2 := ws0.set k (a, .inr (9, [.ref b0, .ref b1, .ref b2, .int 0, .int 0, .int (1 : Int32), .ref q1, .ref q2, .ref q3, .ref q4, .ref q5, .int 0, .ref q6, .ref q7, .ref q8, .ref q9, .ref q10])) ++ [(q1, .inl (cK 0, 16, .inl ia_cb_X9_init_14)), (q2, .inl (cK 0, 16, .inl (fun _ => 0))), (q3, .inl (cK 0, 16, .inl (fun _ => 0))), (q4, .inl (cK 0, 16, .inl (fun _ => 0))), (q5, .inl (cK 0, 6, .inl ia_cb_X9_init_6)), (q6, .inl (cK 0, 8, .inl (fun _ => 0))), (q7, .inl (cK 0, 8, .inl (fun _ => 0))), (q8, .inl (cK 0, 8, .inl (fun _ => 0))), (q9, .inl (cK 0, 8, .inl (fun _ => 0))), (q10, .inl (cK 0, 8, .inl (fun _ => 0)))]) (pc2 := 153) rfl dX9_init_152 (bb_gn.trans rfl) (by decide) (bb_sn.trans rfl) ?_
  refine bb_iinc (v := (8 : Int32)) (L2 := [some (.ref a), some (.ref b0), some (.ref b1), some (.ref b2), some (.int (8 : Int32))]) (pc2 := 156) rfl dX9_init_153 rfl (by decide) (by decide) rfl rfl ?_
  refine bb_goto (tgt := 131) dX9_init_156 (by decide) ?_
  refine bb_iload (pc2 := 133) rfl dX9_init_131 rfl ?_
  refine bb_bipush (pc2 := 135) rfl dX9_init_133 lt_b_16 ?_
  refine bb_icmp_ge (tgt := 159) (pc2 := 138) rfl dX9_init_135 (by decide) (fun hc => ?_) (fun hc => ?_)
  · exact absurd hc (by decide)
  refine bb_aload_n (pc2 := 139) rfl dX9_init_138 rfl ?_
  refine bb_get k 9 6 (v := .ref q1) (pc2 := 142) rfl dX9_init_139 (bb_gk hk) ff_9_6 wd_241 rfl ?_
  refine bb_iload (pc2 := 144) rfl dX9_init_142 rfl ?_
  refine bb_bipush (pc2 := 146) rfl dX9_init_144 lt_b_7 ?_
  refine bb_iload (pc2 := 148) rfl dX9_init_146 rfl ?_
  refine bb_imull (z := (56 : Int32)) (pc2 := 149) rfl dX9_init_148 (by decide) ?_
  refine bb_bipush (pc2 := 151) rfl dX9_init_149 lt_b_10 ?_
  refine bb_ireml (z := (6 : Int32)) (pc2 := 152) rfl dX9_init_151 (by decide) (by decide) ?_
  refine bb_iast (ws0.length + 0) (ws2 := ws0.set k (a, .inr (9, [.ref b0, .ref b1, .ref b2, .int 0, .int 0, .int (1 : Int32), .ref q1, .ref q2, .ref q3, .ref q4, .ref q5, .int 0, .ref q6, .ref q7, .ref q8, .ref q9, .ref q10])) ++ [(q1, .inl (cK 0, 16, .inl ia_cb_X9_init_15)), (q2, .inl (cK 0, 16, .inl (fun _ => 0))), (q3, .inl (cK 0, 16, .inl (fun _ => 0))), (q4, .inl (cK 0, 16, .inl (fun _ => 0))), (q5, .inl (cK 0, 6, .inl ia_cb_X9_init_6)), (q6, .inl (cK 0, 8, .inl (fun _ => 0))), (q7, .inl (cK 0, 8, .inl (fun _ => 0))), (q8, .inl (cK 0, 8, .inl (fun _ => 0))), (q9, .inl (cK 0, 8, .inl (fun _ => 0))), (q10, .inl (cK 0, 8, .inl (fun _ => 0)))]) (pc2 := 153) rfl dX9_init_152 (bb_gn.trans rfl) (by decide) (bb_sn.trans rfl) ?_
  refine bb_iinc (v := (9 : Int32)) (L2 := [some (.ref a), some (.ref b0), some (.ref b1), some (.ref b2), some (.int (9 : Int32))]) (pc2 := 156) rfl dX9_init_153 rfl (by decide) (by decide) rfl rfl ?_
  refine bb_goto (tgt := 131) dX9_init_156 (by decide) ?_
  refine bb_iload (pc2 := 133) rfl dX9_init_131 rfl ?_
  refine bb_bipush (pc2 := 135) rfl dX9_init_133 lt_b_16 ?_
  refine bb_icmp_ge (tgt := 159) (pc2 := 138) rfl dX9_init_135 (by decide) (fun hc => ?_) (fun hc => ?_)
  · exact absurd hc (by decide)
  refine bb_aload_n (pc2 := 139) rfl dX9_init_138 rfl ?_
  refine bb_get k 9 6 (v := .ref q1) (pc2 := 142) rfl dX9_init_139 (bb_gk hk) ff_9_6 wd_241 rfl ?_
  refine bb_iload (pc2 := 144) rfl dX9_init_142 rfl ?_
  refine bb_bipush (pc2 := 146) rfl dX9_init_144 lt_b_7 ?_
  refine bb_iload (pc2 := 148) rfl dX9_init_146 rfl ?_
  refine bb_imull (z := (63 : Int32)) (pc2 := 149) rfl dX9_init_148 (by decide) ?_
  refine bb_bipush (pc2 := 151) rfl dX9_init_149 lt_b_10 ?_
  refine bb_ireml (z := (3 : Int32)) (pc2 := 152) rfl dX9_init_151 (by decide) (by decide) ?_
  refine bb_iast (ws0.length + 0) (ws2 := ws0.set k (a, .inr (9, [.ref b0, .ref b1, .ref b2, .int 0, .int 0, .int (1 : Int32), .ref q1, .ref q2, .ref q3, .ref q4, .ref q5, .int 0, .ref q6, .ref q7, .ref q8, .ref q9, .ref q10])) ++ [(q1, .inl (cK 0, 16, .inl ia_cb_X9_init_16)), (q2, .inl (cK 0, 16, .inl (fun _ => 0))), (q3, .inl (cK 0, 16, .inl (fun _ => 0))), (q4, .inl (cK 0, 16, .inl (fun _ => 0))), (q5, .inl (cK 0, 6, .inl ia_cb_X9_init_6)), (q6, .inl (cK 0, 8, .inl (fun _ => 0))), (q7, .inl (cK 0, 8, .inl (fun _ => 0))), (q8, .inl (cK 0, 8, .inl (fun _ => 0))), (q9, .inl (cK 0, 8, .inl (fun _ => 0))), (q10, .inl (cK 0, 8, .inl (fun _ => 0)))]) (pc2 := 153) rfl dX9_init_152 (bb_gn.trans rfl) (by decide) (bb_sn.trans rfl) ?_
  refine bb_iinc (v := (10 : Int32)) (L2 := [some (.ref a), some (.ref b0), some (.ref b1), some (.ref b2), some (.int (10 : Int32))]) (pc2 := 156) rfl dX9_init_153 rfl (by decide) (by decide) rfl rfl ?_
  refine bb_goto (tgt := 131) dX9_init_156 (by decide) ?_
  refine bb_iload (pc2 := 133) rfl dX9_init_131 rfl ?_
  refine bb_bipush (pc2 := 135) rfl dX9_init_133 lt_b_16 ?_
  refine bb_icmp_ge (tgt := 159) (pc2 := 138) rfl dX9_init_135 (by decide) (fun hc => ?_) (fun hc => ?_)
  · exact absurd hc (by decide)
  refine bb_aload_n (pc2 := 139) rfl dX9_init_138 rfl ?_
  refine bb_get k 9 6 (v := .ref q1) (pc2 := 142) rfl dX9_init_139 (bb_gk hk) ff_9_6 wd_241 rfl ?_
  refine bb_iload (pc2 := 144) rfl dX9_init_142 rfl ?_
  refine bb_bipush (pc2 := 146) rfl dX9_init_144 lt_b_7 ?_
  refine bb_iload (pc2 := 148) rfl dX9_init_146 rfl ?_
  refine bb_imull (z := (70 : Int32)) (pc2 := 149) rfl dX9_init_148 (by decide) ?_
  refine bb_bipush (pc2 := 151) rfl dX9_init_149 lt_b_10 ?_
  refine bb_ireml (z := (0 : Int32)) (pc2 := 152) rfl dX9_init_151 (by decide) (by decide) ?_
  refine bb_iast (ws0.length + 0) (ws2 := ws0.set k (a, .inr (9, [.ref b0, .ref b1, .ref b2, .int 0, .int 0, .int (1 : Int32), .ref q1, .ref q2, .ref q3, .ref q4, .ref q5, .int 0, .ref q6, .ref q7, .ref q8, .ref q9, .ref q10])) ++ [(q1, .inl (cK 0, 16, .inl ia_cb_X9_init_17)), (q2, .inl (cK 0, 16, .inl (fun _ => 0))), (q3, .inl (cK 0, 16, .inl (fun _ => 0))), (q4, .inl (cK 0, 16, .inl (fun _ => 0))), (q5, .inl (cK 0, 6, .inl ia_cb_X9_init_6)), (q6, .inl (cK 0, 8, .inl (fun _ => 0))), (q7, .inl (cK 0, 8, .inl (fun _ => 0))), (q8, .inl (cK 0, 8, .inl (fun _ => 0))), (q9, .inl (cK 0, 8, .inl (fun _ => 0))), (q10, .inl (cK 0, 8, .inl (fun _ => 0)))]) (pc2 := 153) rfl dX9_init_152 (bb_gn.trans rfl) (by decide) (bb_sn.trans rfl) ?_
  refine bb_iinc (v := (11 : Int32)) (L2 := [some (.ref a), some (.ref b0), some (.ref b1), some (.ref b2), some (.int (11 : Int32))]) (pc2 := 156) rfl dX9_init_153 rfl (by decide) (by decide) rfl rfl ?_
  refine bb_goto (tgt := 131) dX9_init_156 (by decide) ?_
  refine bb_iload (pc2 := 133) rfl dX9_init_131 rfl ?_
  refine bb_bipush (pc2 := 135) rfl dX9_init_133 lt_b_16 ?_
  refine bb_icmp_ge (tgt := 159) (pc2 := 138) rfl dX9_init_135 (by decide) (fun hc => ?_) (fun hc => ?_)
  · exact absurd hc (by decide)
  refine bb_aload_n (pc2 := 139) rfl dX9_init_138 rfl ?_
  refine bb_get k 9 6 (v := .ref q1) (pc2 := 142) rfl dX9_init_139 (bb_gk hk) ff_9_6 wd_241 rfl ?_
  refine bb_iload (pc2 := 144) rfl dX9_init_142 rfl ?_
  refine bb_bipush (pc2 := 146) rfl dX9_init_144 lt_b_7 ?_
  refine bb_iload (pc2 := 148) rfl dX9_init_146 rfl ?_
  refine bb_imull (z := (77 : Int32)) (pc2 := 149) rfl dX9_init_148 (by decide) ?_
  refine bb_bipush (pc2 := 151) rfl dX9_init_149 lt_b_10 ?_
  refine bb_ireml (z := (7 : Int32)) (pc2 := 152) rfl dX9_init_151 (by decide) (by decide) ?_
  refine bb_iast (ws0.length + 0) (ws2 := ws0.set k (a, .inr (9, [.ref b0, .ref b1, .ref b2, .int 0, .int 0, .int (1 : Int32), .ref q1, .ref q2, .ref q3, .ref q4, .ref q5, .int 0, .ref q6, .ref q7, .ref q8, .ref q9, .ref q10])) ++ [(q1, .inl (cK 0, 16, .inl ia_cb_X9_init_18)), (q2, .inl (cK 0, 16, .inl (fun _ => 0))), (q3, .inl (cK 0, 16, .inl (fun _ => 0))), (q4, .inl (cK 0, 16, .inl (fun _ => 0))), (q5, .inl (cK 0, 6, .inl ia_cb_X9_init_6)), (q6, .inl (cK 0, 8, .inl (fun _ => 0))), (q7, .inl (cK 0, 8, .inl (fun _ => 0))), (q8, .inl (cK 0, 8, .inl (fun _ => 0))), (q9, .inl (cK 0, 8, .inl (fun _ => 0))), (q10, .inl (cK 0, 8, .inl (fun _ => 0)))]) (pc2 := 153) rfl dX9_init_152 (bb_gn.trans rfl) (by decide) (bb_sn.trans rfl) ?_
  refine bb_iinc (v := (12 : Int32)) (L2 := [some (.ref a), some (.ref b0), some (.ref b1), some (.ref b2), some (.int (12 : Int32))]) (pc2 := 156) rfl dX9_init_153 rfl (by decide) (by decide) rfl rfl ?_
  refine bb_goto (tgt := 131) dX9_init_156 (by decide) ?_
  refine bb_iload (pc2 := 133) rfl dX9_init_131 rfl ?_
  refine bb_bipush (pc2 := 135) rfl dX9_init_133 lt_b_16 ?_
  refine bb_icmp_ge (tgt := 159) (pc2 := 138) rfl dX9_init_135 (by decide) (fun hc => ?_) (fun hc => ?_)
  · exact absurd hc (by decide)
  refine bb_aload_n (pc2 := 139) rfl dX9_init_138 rfl ?_
  refine bb_get k 9 6 (v := .ref q1) (pc2 := 142) rfl dX9_init_139 (bb_gk hk) ff_9_6 wd_241 rfl ?_
  refine bb_iload (pc2 := 144) rfl dX9_init_142 rfl ?_
  refine bb_bipush (pc2 := 146) rfl dX9_init_144 lt_b_7 ?_
  refine bb_iload (pc2 := 148) rfl dX9_init_146 rfl ?_
  refine bb_imull (z := (84 : Int32)) (pc2 := 149) rfl dX9_init_148 (by decide) ?_
  refine bb_bipush (pc2 := 151) rfl dX9_init_149 lt_b_10 ?_
  refine bb_ireml (z := (4 : Int32)) (pc2 := 152) rfl dX9_init_151 (by decide) (by decide) ?_
  refine bb_iast (ws0.length + 0) (ws2 := ws0.set k (a, .inr (9, [.ref b0, .ref b1, .ref b2, .int 0, .int 0, .int (1 : Int32), .ref q1, .ref q2, .ref q3, .ref q4, .ref q5, .int 0, .ref q6, .ref q7, .ref q8, .ref q9, .ref q10])) ++ [(q1, .inl (cK 0, 16, .inl ia_cb_X9_init_19)), (q2, .inl (cK 0, 16, .inl (fun _ => 0))), (q3, .inl (cK 0, 16, .inl (fun _ => 0))), (q4, .inl (cK 0, 16, .inl (fun _ => 0))), (q5, .inl (cK 0, 6, .inl ia_cb_X9_init_6)), (q6, .inl (cK 0, 8, .inl (fun _ => 0))), (q7, .inl (cK 0, 8, .inl (fun _ => 0))), (q8, .inl (cK 0, 8, .inl (fun _ => 0))), (q9, .inl (cK 0, 8, .inl (fun _ => 0))), (q10, .inl (cK 0, 8, .inl (fun _ => 0)))]) (pc2 := 153) rfl dX9_init_152 (bb_gn.trans rfl) (by decide) (bb_sn.trans rfl) ?_
  refine bb_iinc (v := (13 : Int32)) (L2 := [some (.ref a), some (.ref b0), some (.ref b1), some (.ref b2), some (.int (13 : Int32))]) (pc2 := 156) rfl dX9_init_153 rfl (by decide) (by decide) rfl rfl ?_
  refine bb_goto (tgt := 131) dX9_init_156 (by decide) ?_
  refine bb_iload (pc2 := 133) rfl dX9_init_131 rfl ?_
  refine bb_bipush (pc2 := 135) rfl dX9_init_133 lt_b_16 ?_
  refine bb_icmp_ge (tgt := 159) (pc2 := 138) rfl dX9_init_135 (by decide) (fun hc => ?_) (fun hc => ?_)
  · exact absurd hc (by decide)
  refine bb_aload_n (pc2 := 139) rfl dX9_init_138 rfl ?_
  refine bb_get k 9 6 (v := .ref q1) (pc2 := 142) rfl dX9_init_139 (bb_gk hk) ff_9_6 wd_241 rfl ?_
  refine bb_iload (pc2 := 144) rfl dX9_init_142 rfl ?_
  refine bb_bipush (pc2 := 146) rfl dX9_init_144 lt_b_7 ?_
  refine bb_iload (pc2 := 148) rfl dX9_init_146 rfl ?_
  refine bb_imull (z := (91 : Int32)) (pc2 := 149) rfl dX9_init_148 (by decide) ?_
  refine bb_bipush (pc2 := 151) rfl dX9_init_149 lt_b_10 ?_
  refine bb_ireml (z := (1 : Int32)) (pc2 := 152) rfl dX9_init_151 (by decide) (by decide) ?_
  refine bb_iast (ws0.length + 0) (ws2 := ws0.set k (a, .inr (9, [.ref b0, .ref b1, .ref b2, .int 0, .int 0, .int (1 : Int32), .ref q1, .ref q2, .ref q3, .ref q4, .ref q5, .int 0, .ref q6, .ref q7, .ref q8, .ref q9, .ref q10])) ++ [(q1, .inl (cK 0, 16, .inl ia_cb_X9_init_20)), (q2, .inl (cK 0, 16, .inl (fun _ => 0))), (q3, .inl (cK 0, 16, .inl (fun _ => 0))), (q4, .inl (cK 0, 16, .inl (fun _ => 0))), (q5, .inl (cK 0, 6, .inl ia_cb_X9_init_6)), (q6, .inl (cK 0, 8, .inl (fun _ => 0))), (q7, .inl (cK 0, 8, .inl (fun _ => 0))), (q8, .inl (cK 0, 8, .inl (fun _ => 0))), (q9, .inl (cK 0, 8, .inl (fun _ => 0))), (q10, .inl (cK 0, 8, .inl (fun _ => 0)))]) (pc2 := 153) rfl dX9_init_152 (bb_gn.trans rfl) (by decide) (bb_sn.trans rfl) ?_
  refine bb_iinc (v := (14 : Int32)) (L2 := [some (.ref a), some (.ref b0), some (.ref b1), some (.ref b2), some (.int (14 : Int32))]) (pc2 := 156) rfl dX9_init_153 rfl (by decide) (by decide) rfl rfl ?_
  refine bb_goto (tgt := 131) dX9_init_156 (by decide) ?_
  refine bb_iload (pc2 := 133) rfl dX9_init_131 rfl ?_
  refine bb_bipush (pc2 := 135) rfl dX9_init_133 lt_b_16 ?_
  refine bb_icmp_ge (tgt := 159) (pc2 := 138) rfl dX9_init_135 (by decide) (fun hc => ?_) (fun hc => ?_)
  · exact absurd hc (by decide)
  refine bb_aload_n (pc2 := 139) rfl dX9_init_138 rfl ?_
  refine bb_get k 9 6 (v := .ref q1) (pc2 := 142) rfl dX9_init_139 (bb_gk hk) ff_9_6 wd_241 rfl ?_
  refine bb_iload (pc2 := 144) rfl dX9_init_142 rfl ?_
  refine bb_bipush (pc2 := 146) rfl dX9_init_144 lt_b_7 ?_
  refine bb_iload (pc2 := 148) rfl dX9_init_146 rfl ?_
  refine bb_imull (z := (98 : Int32)) (pc2 := 149) rfl dX9_init_148 (by decide) ?_
  refine bb_bipush (pc2 := 151) rfl dX9_init_149 lt_b_10 ?_
  refine bb_ireml (z := (8 : Int32)) (pc2 := 152) rfl dX9_init_151 (by decide) (by decide) ?_
  refine bb_iast (ws0.length + 0) (ws2 := ws0.set k (a, .inr (9, [.ref b0, .ref b1, .ref b2, .int 0, .int 0, .int (1 : Int32), .ref q1, .ref q2, .ref q3, .ref q4, .ref q5, .int 0, .ref q6, .ref q7, .ref q8, .ref q9, .ref q10])) ++ [(q1, .inl (cK 0, 16, .inl ia_cb_X9_init_21)), (q2, .inl (cK 0, 16, .inl (fun _ => 0))), (q3, .inl (cK 0, 16, .inl (fun _ => 0))), (q4, .inl (cK 0, 16, .inl (fun _ => 0))), (q5, .inl (cK 0, 6, .inl ia_cb_X9_init_6)), (q6, .inl (cK 0, 8, .inl (fun _ => 0))), (q7, .inl (cK 0, 8, .inl (fun _ => 0))), (q8, .inl (cK 0, 8, .inl (fun _ => 0))), (q9, .inl (cK 0, 8, .inl (fun _ => 0))), (q10, .inl (cK 0, 8, .inl (fun _ => 0)))]) (pc2 := 153) rfl dX9_init_152 (bb_gn.trans rfl) (by decide) (bb_sn.trans rfl) ?_
  refine bb_iinc (v := (15 : Int32)) (L2 := [some (.ref a), some (.ref b0), some (.ref b1), some (.ref b2), some (.int (15 : Int32))]) (pc2 := 156) rfl dX9_init_153 rfl (by decide) (by decide) rfl rfl ?_
  refine bb_goto (tgt := 131) dX9_init_156 (by decide) ?_
  refine bb_iload (pc2 := 133) rfl dX9_init_131 rfl ?_
  refine bb_bipush (pc2 := 135) rfl dX9_init_133 lt_b_16 ?_
  refine bb_icmp_ge (tgt := 159) (pc2 := 138) rfl dX9_init_135 (by decide) (fun hc => ?_) (fun hc => ?_)
  · exact absurd hc (by decide)
  refine bb_aload_n (pc2 := 139) rfl dX9_init_138 rfl ?_
  refine bb_get k 9 6 (v := .ref q1) (pc2 := 142) rfl dX9_init_139 (bb_gk hk) ff_9_6 wd_241 rfl ?_
  refine bb_iload (pc2 := 144) rfl dX9_init_142 rfl ?_
  refine bb_bipush (pc2 := 146) rfl dX9_init_144 lt_b_7 ?_
  refine bb_iload (pc2 := 148) rfl dX9_init_146 rfl ?_
  refine bb_imull (z := (105 : Int32)) (pc2 := 149) rfl dX9_init_148 (by decide) ?_
  refine bb_bipush (pc2 := 151) rfl dX9_init_149 lt_b_10 ?_
  refine bb_ireml (z := (5 : Int32)) (pc2 := 152) rfl dX9_init_151 (by decide) (by decide) ?_
  refine bb_iast (ws0.length + 0) (ws2 := ws0.set k (a, .inr (9, [.ref b0, .ref b1, .ref b2, .int 0, .int 0, .int (1 : Int32), .ref q1, .ref q2, .ref q3, .ref q4, .ref q5, .int 0, .ref q6, .ref q7, .ref q8, .ref q9, .ref q10])) ++ [(q1, .inl (cK 0, 16, .inl ia_cb_X9_init_22)), (q2, .inl (cK 0, 16, .inl (fun _ => 0))), (q3, .inl (cK 0, 16, .inl (fun _ => 0))), (q4, .inl (cK 0, 16, .inl (fun _ => 0))), (q5, .inl (cK 0, 6, .inl ia_cb_X9_init_6)), (q6, .inl (cK 0, 8, .inl (fun _ => 0))), (q7, .inl (cK 0, 8, .inl (fun _ => 0))), (q8, .inl (cK 0, 8, .inl (fun _ => 0))), (q9, .inl (cK 0, 8, .inl (fun _ => 0))), (q10, .inl (cK 0, 8, .inl (fun _ => 0)))]) (pc2 := 153) rfl dX9_init_152 (bb_gn.trans rfl) (by decide) (bb_sn.trans rfl) ?_
  refine bb_iinc (v := (16 : Int32)) (L2 := [some (.ref a), some (.ref b0), some (.ref b1), some (.ref b2), some (.int (16 : Int32))]) (pc2 := 156) rfl dX9_init_153 rfl (by decide) (by decide) rfl rfl ?_
  refine bb_goto (tgt := 131) dX9_init_156 (by decide) ?_
  refine bb_iload (pc2 := 133) rfl dX9_init_131 rfl ?_
  refine bb_bipush (pc2 := 135) rfl dX9_init_133 lt_b_16 ?_
  refine bb_icmp_ge (tgt := 159) (pc2 := 138) rfl dX9_init_135 (by decide) (fun hc => ?_) (fun hc => ?_)
  rotate_left
  · exact absurd (by decide) hc
  exact bb_ret dX9_init_159 rfl rfl ⟨q1, q2, q3, q4, q5, q6, q7, q8, q9, q10, rfl⟩
