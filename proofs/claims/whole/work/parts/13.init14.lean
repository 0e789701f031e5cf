def ia_cb_X12_1 : Nat → Int32 := upd (fun _ => 0) ((2 : Int32)).toNatClampNeg (1 : Int32)
def ia_cb_X12_2 : Nat → Int32 := upd ia_cb_X12_1 ((12 : Int32)).toNatClampNeg (0 : Int32)
def ia_cb_X12_3 : Nat → Int32 := upd ia_cb_X12_2 ((13 : Int32)).toNatClampNeg (7 : Int32)
def ia_cb_X12_4 : Nat → Int32 := upd ia_cb_X12_3 ((14 : Int32)).toNatClampNeg (4 : Int32)
def ia_cb_X12_5 : Nat → Int32 := upd ia_cb_X12_4 ((15 : Int32)).toNatClampNeg (1 : Int32)
def ia_cb_X12_6 : Nat → Int32 := upd ia_cb_X12_5 ((16 : Int32)).toNatClampNeg (8 : Int32)
def ia_cb_X12_7 : Nat → Int32 := upd ia_cb_X12_6 ((17 : Int32)).toNatClampNeg (5 : Int32)
def ia_cb_X12_8 : Nat → Int32 := upd ia_cb_X12_7 ((18 : Int32)).toNatClampNeg (2 : Int32)
def ia_cb_X12_9 : Nat → Int32 := upd ia_cb_X12_8 ((19 : Int32)).toNatClampNeg (9 : Int32)
def ia_cb_X12_10 : Nat → Int32 := upd ia_cb_X12_9 ((20 : Int32)).toNatClampNeg (6 : Int32)
def ia_cb_X12_11 : Nat → Int32 := upd ia_cb_X12_10 ((21 : Int32)).toNatClampNeg (3 : Int32)
def ia_cb_X12_12 : Nat → Int32 := upd ia_cb_X12_11 ((22 : Int32)).toNatClampNeg (0 : Int32)
def ia_cb_X12_13 : Nat → Int32 := upd ia_cb_X12_12 ((23 : Int32)).toNatClampNeg (7 : Int32)
def ia_cb_X12_14 : Nat → Int32 := upd ia_cb_X12_13 ((24 : Int32)).toNatClampNeg (4 : Int32)
def ia_cb_X12_15 : Nat → Int32 := upd ia_cb_X12_14 ((25 : Int32)).toNatClampNeg (1 : Int32)
def ia_cb_X12_16 : Nat → Int32 := upd ia_cb_X12_15 ((26 : Int32)).toNatClampNeg (8 : Int32)
def ia_cb_X12_17 : Nat → Int32 := upd ia_cb_X12_16 ((27 : Int32)).toNatClampNeg (5 : Int32)
def ia_cb_X12_18 : Nat → Int32 := upd ia_cb_X12_17 ((6 : Int32)).toNatClampNeg (0 : Int32)
def ia_cb_X12_19 : Nat → Int32 := upd ia_cb_X12_18 ((7 : Int32)).toNatClampNeg (1 : Int32)
def ia_cb_X12_20 : Nat → Int32 := upd ia_cb_X12_19 ((8 : Int32)).toNatClampNeg (2 : Int32)
def ia_cb_X12_21 : Nat → Int32 := upd ia_cb_X12_20 ((9 : Int32)).toNatClampNeg (3 : Int32)
def ia_cb_X12_22 : Nat → Int32 := upd ia_cb_X12_21 ((10 : Int32)).toNatClampNeg (4 : Int32)
def ia_cb_X12_23 : Nat → Int32 := upd ia_cb_X12_22 ((11 : Int32)).toNatClampNeg (5 : Int32)
set_option maxRecDepth 100000 in
set_option maxHeartbeats 8000000 in
theorem cb_X12 {D : va_G} {cK : Nat → ClassId} {ws0 : va_W} {k a : Nat} (hk : ws0[k]? = some (a, .inr (12, [.null, .null, .null, .int 0, .null, .int 0, .int 0, .int 0, .int 0, .null, .null, .null, .int 0, .null, .int 0, .int 0, .null, .null, .null, .null]))) : bb_E D cK mX12_init "<init>" 1 12 1497 0 0 0 [some (.ref a), none] [] ws0 (bb_Rt D cK mX12_init "<init>" 1 12 1497 (fun ws2 => ∃ q1 q2 q3 q4 q5 q6 q7 q8 q9 q10 q11 q12 : Nat, ws2 = ws0.set k (a, .inr (12, [.ref q1, .ref q2, .ref q3, .int 0, .ref q4, .int 0, .int 0, .int 0, .int 0, .ref q5, .ref q6, .ref q7, .int 0, .ref q8, .int 0, .int 0, .ref q9, .ref q10, .ref q11, .ref q12])) ++ [(q1, .inl (cK 0, 450, .inl ia_cb_X12_23)), (q2, .inl (cK 0, 450, .inl (fun _ => 0))), (q3, .inl (cK 0, 116, .inl (fun _ => 0))), (q4, .inl (cK 0, 7, .inl (fun _ => 0))), (q5, .inl (cK 0, 124, .inl (fun _ => 0))), (q6, .inl (cK 0, 128, .inl (fun _ => 0))), (q7, .inl (cK 0, 64, .inl (fun _ => 0))), (q8, .inl (cK 0, 30, .inl (fun _ => 0))), (q9, .inl (cK 0, 4, .inl (fun _ => 0))), (q10, .inl (cK 0, 4, .inl (fun _ => 0))), (q11, .inl (cK 0, 96, .inl (fun _ => 0))), (q12, .inl (cK 0, 24, .inl (fun _ => 0)))])) := by
  refine bb_aload_n (pc2 := 1) rfl dX12_init_0 rfl ?_
  refine bb_oinit (pc2 := 4) rfl dX12_init_1 wd_976 wd_89 wd_90 rfl rfl ?_
  refine bb_aload_n (pc2 := 5) rfl dX12_init_4 rfl ?_
  refine bb_sipush (pc2 := 8) rfl dX12_init_5 lt_s_450 ?_
  refine bb_ws (ws2 := ws0.set k (a, .inr (12, [.null, .null, .null, .int 0, .null, .int 0, .int 0, .int 0, .int 0, .null, .null, .null, .int 0, .null, .int 0, .int 0, .null, .null, .null, .null])) ++ []) (bb_self hk) ?_
  refine bb_newa (N := 450) (pc2 := 10) rfl dX12_init_8 wd_112 (by decide) (by decide) rfl rfl rfl (fun q1 => ?_)
  refine bb_ws (ws2 := ws0.set k (a, .inr (12, [.null, .null, .null, .int 0, .null, .int 0, .int 0, .int 0, .int 0, .null, .null, .null, .int 0, .null, .int 0, .int 0, .null, .null, .null, .null])) ++ [(q1, .inl (cK 0, 450, .inl (fun _ => 0)))]) bb_nn ?_
  refine bb_putF k 12 0 (ft := (.array .int)) (ws2 := ws0.set k (a, .inr (12, [.ref q1, .null, .null, .int 0, .null, .int 0, .int 0, .int 0, .int 0, .null, .null, .null, .int 0, .null, .int 0, .int 0, .null, .null, .null, .null])) ++ [(q1, .inl (cK 0, 450, .inl (fun _ => 0)))]) (pc2 := 13) rfl dX12_init_10 (bb_gk hk) ff_12_0 wd_977 rfl rfl rfl (by decide +kernel) rfl rfl (Nat.le_of_ble_eq_true rfl) (bb_sk hk) ?_
  refine bb_aload_n (pc2 := 14) rfl dX12_init_13 rfl ?_
  refine bb_sipush (pc2 := 17) rfl dX12_init_14 lt_s_450 ?_
  refine bb_newa (N := 450) (pc2 := 19) rfl dX12_init_17 wd_112 (by decide) (by decide) rfl rfl rfl (fun q2 => ?_)
  refine bb_ws (ws2 := ws0.set k (a, .inr (12, [.ref q1, .null, .null, .int 0, .null, .int 0, .int 0, .int 0, .int 0, .null, .null, .null, .int 0, .null, .int 0, .int 0, .null, .null, .null, .null])) ++ [(q1, .inl (cK 0, 450, .inl (fun _ => 0))), (q2, .inl (cK 0, 450, .inl (fun _ => 0)))]) bb_nn ?_
  refine bb_putF k 12 1 (ft := (.array .int)) (ws2 := ws0.set k (a, .inr (12, [.ref q1, .ref q2, .null, .int 0, .null, .int 0, .int 0, .int 0, .int 0, .null, .null, .null, .int 0, .null, .int 0, .int 0, .null, .null, .null, .null])) ++ [(q1, .inl (cK 0, 450, .inl (fun _ => 0))), (q2, .inl (cK 0, 450, .inl (fun _ => 0)))]) (pc2 := 22) rfl dX12_init_19 (bb_gk hk) ff_12_1 wd_978 rfl rfl rfl (by decide +kernel) rfl rfl (Nat.le_of_ble_eq_true rfl) (bb_sk hk) ?_
  refine bb_aload_n (pc2 := 23) rfl dX12_init_22 rfl ?_
  refine bb_bipush (pc2 := 25) rfl dX12_init_23 lt_b_116 ?_
  refine bb_newa (N := 116) (pc2 := 27) rfl dX12_init_25 wd_112 (by decide) (by decide) rfl rfl rfl (fun q3 => ?_)
  refine bb_ws (ws2 := ws0.set k (a, .inr (12, [.ref q1, .ref q2, .null, .int 0, .null, .int 0, .int 0, .int 0, .int 0, .null, .null, .null, .int 0, .null, .int 0, .int 0, .null, .null, .null, .null])) ++ [(q1, .inl (cK 0, 450, .inl (fun _ => 0))), (q2, .inl (cK 0, 450, .inl (fun _ => 0))), (q3, .inl (cK 0, 116, .inl (fun _ => 0)))]) bb_nn ?_
  refine bb_putF k 12 2 (ft := (.array .int)) (ws2 := ws0.set k (a, .inr (12, [.ref q1, .ref q2, .ref q3, .int 0, .null, .int 0, .int 0, .int 0, .int 0, .null, .null, .null, .int 0, .null, .int 0, .int 0, .null, .null, .null, .null])) ++ [(q1, .inl (cK 0, 450, .inl (fun _ => 0))), (q2, .inl (cK 0, 450, .inl (fun _ => 0))), (q3, .inl (cK 0, 116, .inl (fun _ => 0)))]) (pc2 := 30) rfl dX12_init_27 (bb_gk hk) ff_12_2 wd_979 rfl rfl rfl (by decide +kernel) rfl rfl (Nat.le_of_ble_eq_true rfl) (bb_sk hk) ?_
  refine bb_aload_n (pc2 := 31) rfl dX12_init_30 rfl ?_
  refine bb_bipush (pc2 := 33) rfl dX12_init_31 lt_b_7 ?_
  refine bb_newa (N := 7) (pc2 := 35) rfl dX12_init_33 wd_112 (by decide) (by decide) rfl rfl rfl (fun q4 => ?_)
  refine bb_ws (ws2 := ws0.set k (a, .inr (12, [.ref q1, .ref q2, .ref q3, .int 0, .null, .int 0, .int 0, .int 0, .int 0, .null, .null, .null, .int 0, .null, .int 0, .int 0, .null, .null, .null, .null])) ++ [(q1, .inl (cK 0, 450, .inl (fun _ => 0))), (q2, .inl (cK 0, 450, .inl (fun _ => 0))), (q3, .inl (cK 0, 116, .inl (fun _ => 0))), (q4, .inl (cK 0, 7, .inl (fun _ => 0)))]) bb_nn ?_
  refine bb_putF k 12 4 (ft := (.array .int)) (ws2 := ws0.set k (a, .inr (12, [.ref q1, .ref q2, .ref q3, .int 0, .ref q4, .int 0, .int 0, .int 0, .int 0, .null, .null, .null, .int 0, .null, .int 0, .int 0, .null, .null, .null, .null])) ++ [(q1, .inl (cK 0, 450, .inl (fun _ => 0))), (q2, .inl (cK 0, 450, .inl (fun _ => 0))), (q3, .inl (cK 0, 116, .inl (fun _ => 0))), (q4, .inl (cK 0, 7, .inl (fun _ => 0)))]) (pc2 := 38) rfl dX12_init_35 (bb_gk hk) ff_12_4 wd_981 rfl rfl rfl (by decide +kernel) rfl rfl (Nat.le_of_ble_eq_true rfl) (bb_sk hk) ?_
  refine bb_aload_n (pc2 := 39) rfl dX12_init_38 rfl ?_
  refine bb_bipush (pc2 := 41) rfl dX12_init_39 lt_b_124 ?_
  refine bb_newa (N := 124) (pc2 := 43) rfl dX12_init_41 wd_112 (by decide) (by decide) rfl rfl rfl (fun q5 => ?_)
  refine bb_ws (ws2 := ws0.set k (a, .inr (12, [.ref q1, .ref q2, .ref q3, .int 0, .ref q4, .int 0, .int 0, .int 0, .int 0, .null, .null, .null, .int 0, .null, .int 0, .int 0, .null, .null, .null, .null])) ++ [(q1, .inl (cK 0, 450, .inl (fun _ => 0))), (q2, .inl (cK 0, 450, .inl (fun _ => 0))), (q3, .inl (cK 0, 116, .inl (fun _ => 0))), (q4, .inl (cK 0, 7, .inl (fun _ => 0))), (q5, .inl (cK 0, 124, .inl (fun _ => 0)))]) bb_nn ?_
  refine bb_putF k 12 9 (ft := (.array .int)) (ws2 := ws0.set k (a, .inr (12, [.ref q1, .ref q2, .ref q3, .int 0, .ref q4, .int 0, .int 0, .int 0, .int 0, .ref q5, .null, .null, .int 0, .null, .int 0, .int 0, .null, .null, .null, .null])) ++ [(q1, .inl (cK 0, 450, .inl (fun _ => 0))), (q2, .inl (cK 0, 450, .inl (fun _ => 0))), (q3, .inl (cK 0, 116, .inl (fun _ => 0))), (q4, .inl (cK 0, 7, .inl (fun _ => 0))), (q5, .inl (cK 0, 124, .inl (fun _ => 0)))]) (pc2 := 46) rfl dX12_init_43 (bb_gk hk) ff_12_9 wd_986 rfl rfl rfl (by decide +kernel) rfl rfl (Nat.le_of_ble_eq_true rfl) (bb_sk hk) ?_
  refine bb_aload_n (pc2 := 47) rfl dX12_init_46 rfl ?_
  refine bb_sipush (pc2 := 50) rfl dX12_init_47 lt_s_128 ?_
  refine bb_newa (N := 128) (pc2 := 52) rfl dX12_init_50 wd_112 (by decide) (by decide) rfl rfl rfl (fun q6 => ?_)
  refine bb_ws (ws2 := ws0.set k (a, .inr (12, [.ref q1, .ref q2, .ref q3, .int 0, .ref q4, .int 0, .int 0, .int 0, .int 0, .ref q5, .null, .null, .int 0, .null, .int 0, .int 0, .null, .null, .null, .null])) ++ [(q1, .inl (cK 0, 450, .inl (fun _ => 0))), (q2, .inl (cK 0, 450, .inl (fun _ => 0))), (q3, .inl (cK 0, 116, .inl (fun _ => 0))), (q4, .inl (cK 0, 7, .inl (fun _ => 0))), (q5, .inl (cK 0, 124, .inl (fun _ => 0))), (q6, .inl (cK 0, 128, .inl (fun _ => 0)))]) bb_nn ?_
  refine bb_putF k 12 10 (ft := (.array .int)) (ws2 := ws0.set k (a, .inr (12, [.ref q1, .ref q2, .ref q3, .int 0, .ref q4, .int 0, .int 0, .int 0, .int 0, .ref q5, .ref q6, .null, .int 0, .null, .int 0, .int 0, .null, .null, .null, .null])) ++ [(q1, .inl (cK 0, 450, .inl (fun _ => 0))), (q2, .inl (cK 0, 450, .inl (fun _ => 0))), (q3, .inl (cK 0, 116, .inl (fun _ => 0))), (q4, .inl (cK 0, 7, .inl (fun _ => 0))), (q5, .inl (cK 0, 124, .inl (fun _ => 0))), (q6, .inl (cK 0, 128, .inl (fun _ => 0)))]) (pc2 := 55) rfl dX12_init_52 (bb_gk hk) ff_12_10 wd_987 rfl rfl rfl (by decide +kernel) rfl rfl (Nat.le_of_ble_eq_true rfl) (bb_sk hk) ?_
  refine bb_aload_n (pc2 := 56) rfl dX12_init_55 rfl ?_
  refine bb_bipush (pc2 := 58) rfl dX12_init_56 lt_b_64 ?_
  refine bb_newa (N := 64) (pc2 := 60) rfl dX12_init_58 wd_112 (by decide) (by decide) rfl rfl rfl (fun q7 => ?_)
  refine bb_ws (ws2 := ws0.set k (a, .inr (12, [.ref q1, .ref q2, .ref q3, .int 0, .ref q4, .int 0, .int 0, .int 0, .int 0, .ref q5, .ref q6, .null, .int 0, .null, .int 0, .int 0, .null, .null, .null, .null])) ++ [(q1, .inl (cK 0, 450, .inl (fun _ => 0))), (q2, .inl (cK 0, 450, .inl (fun _ => 0))), (q3, .inl (cK 0, 116, .inl (fun _ => 0))), (q4, .inl (cK 0, 7, .inl (fun _ => 0))), (q5, .inl (cK 0, 124, .inl (fun _ => 0))), (q6, .inl (cK 0, 128, .inl (fun _ => 0))), (q7, .inl (cK 0, 64, .inl (fun _ => 0)))]) bb_nn ?_
  refine bb_putF k 12 11 (ft := (.array .int)) (ws2 := ws0.set k (a, .inr (12, [.ref q1, .ref q2, .ref q3, .int 0, .ref q4, .int 0, .int 0, .int 0, .int 0, .ref q5, .ref q6, .ref q7, .int 0, .null, .int 0, .int 0, .null, .null, .null, .null])) ++ [(q1, .inl (cK 0, 450, .inl (fun _ => 0))), (q2, .inl (cK 0, 450, .inl (fun _ => 0))), (q3, .inl (cK 0, 116, .inl (fun _ => 0))), (q4, .inl (cK 0, 7, .inl (fun _ => 0))), (q5, .inl (cK 0, 124, .inl (fun _ => 0))), (q6, .inl (cK 0, 128, .inl (fun _ => 0))), (q7, .inl (cK 0, 64, .inl (fun _ => 0)))]) (pc2 := 63) rfl dX12_init_60 (bb_gk hk) ff_12_11 wd_988 rfl rfl rfl (by decide +kernel) rfl rfl (Nat.le_of_ble_eq_true rfl) (bb_sk hk) ?_
  refine bb_aload_n (pc2 := 64) rfl dX12_init_63 rfl ?_
  refine bb_bipush (pc2 := 66) rfl dX12_init_64 lt_b_30 ?_
  refine bb_newa (N := 30) (pc2 := 68) rfl dX12_init_66 wd_112 (by decide) (by decide) rfl rfl rfl (fun q8 => ?_)
  refine bb_ws (ws2 := ws0.set k (a, .inr (12, [.ref q1, .ref q2, .ref q3, .int 0, .ref q4, .int 0, .int 0, .int 0, .int 0, .ref q5, .ref q6, .ref q7, .int 0, .null, .int 0, .int 0, .null, .null, .null, .null])) ++ [(q1, .inl (cK 0, 450, .inl (fun _ => 0))), (q2, .inl (cK 0, 450, .inl (fun _ => 0))), (q3, .inl (cK 0, 116, .inl (fun _ => 0))), (q4, .inl (cK 0, 7, .inl (fun _ => 0))), (q5, .inl (cK 0, 124, .inl (fun _ => 0))), (q6, .inl (cK 0, 128, .inl (fun _ => 0))), (q7, .inl (cK 0, 64, .inl (fun _ => 0))), (q8, .inl (cK 0, 30, .inl (fun _ => 0)))]) bb_nn ?_
  refine bb_putF k 12 13 (ft := (.array .int)) (ws2 := ws0.set k (a, .inr (12, [.ref q1, .ref q2, .ref q3, .int 0, .ref q4, .int 0, .int 0, .int 0, .int 0, .ref q5, .ref q6, .ref q7, .int 0, .ref q8, .int 0, .int 0, .null, .null, .null, .null])) ++ [(q1, .inl (cK 0, 450, .inl (fun _ => 0))), (q2, .inl (cK 0, 450, .inl (fun _ => 0))), (q3, .inl (cK 0, 116, .inl (fun _ => 0))), (q4, .inl (cK 0, 7, .inl (fun _ => 0))), (q5, .inl (cK 0, 124, .inl (fun _ => 0))), (q6, .inl (cK 0, 128, .inl (fun _ => 0))), (q7, .inl (cK 0, 64, .inl (fun _ => 0))), (q8, .inl (cK 0, 30, .inl (fun _ => 0)))]) (pc2 := 71) rfl dX12_init_68 (bb_gk hk) ff_12_13 wd_990 rfl rfl rfl (by decide +kernel) rfl rfl (Nat.le_of_ble_eq_true rfl) (bb_sk hk) ?_
  refine bb_aload_n (pc2 := 72) rfl dX12_init_71 rfl ?_
  refine bb_iconst (pc2 := 73) rfl dX12_init_72 lt_i_4 ?_
  refine bb_newa (N := 4) (pc2 := 75) rfl dX12_init_73 wd_112 (by decide) (by decide) rfl rfl rfl (fun q9 => ?_)
  refine bb_ws (ws2 := ws0.set k (a, .inr (12, [.ref q1, .ref q2, .ref q3, .int 0, .ref q4, .int 0, .int 0, .int 0, .int 0, .ref q5, .ref q6, .ref q7, .int 0, .ref q8, .int 0, .int 0, .null, .null, .null, .null])) ++ [(q1, .inl (cK 0, 450, .inl (fun _ => 0))), (q2, .inl (cK 0, 450, .inl (fun _ => 0))), (q3, .inl (cK 0, 116, .inl (fun _ => 0))), (q4, .inl (cK 0, 7, .inl (fun _ => 0))), (q5, .inl (cK 0, 124, .inl (fun _ => 0))), (q6, .inl (cK 0, 128, .inl (fun _ => 0))), (q7, .inl (cK 0, 64, .inl (fun _ => 0))), (q8, .inl (cK 0, 30, .inl (fun _ => 0))), (q9, .inl (cK 0, 4, .inl (fun _ => 0)))]) bb_nn ?_
  refine bb_putF k 12 16 (ft := (.array .int)) (ws2 := ws0.set k (a, .inr (12, [.ref q1, .ref q2, .ref q3, .int 0, .ref q4, .int 0, .int 0, .int 0, .int 0, .ref q5, .ref q6, .ref q7, .int 0, .ref q8, .int 0, .int 0, .ref q9, .null, .null, .null])) ++ [(q1, .inl (cK 0, 450, .inl (fun _ => 0))), (q2, .inl (cK 0, 450, .inl (fun _ => 0))), (q3, .inl (cK 0, 116, .inl (fun _ => 0))), (q4, .inl (cK 0, 7, .inl (fun _ => 0))), (q5, .inl (cK 0, 124, .inl (fun _ => 0))), (q6, .inl (cK 0, 128, .inl (fun _ => 0))), (q7, .inl (cK 0, 64, .inl (fun _ => 0))), (q8, .inl (cK 0, 30, .inl (fun _ => 0))), (q9, .inl (cK 0, 4, .inl (fun _ => 0)))]) (pc2 := 78) rfl dX12_init_75 (bb_gk hk) ff_12_16 wd_993 rfl rfl rfl (by decide +kernel) rfl rfl (Nat.le_of_ble_eq_true rfl) (bb_sk hk) ?_
  refine bb_aload_n (pc2 := 79) rfl dX12_init_78 rfl ?_
  refine bb_iconst (pc2 := 80) rfl dX12_init_79 lt_i_4 ?_
  refine bb_newa (N := 4) (pc2 := 82) rfl dX12_init_80 wd_112 (by decide) (by decide) rfl rfl rfl (fun q10 => ?_)
  refine bb_ws (ws2 := ws0.set k (a, .inr (12, [.ref q1, .ref q2, .ref q3, .int 0, .ref q4, .int 0, .int 0, .int 0, .int 0, .ref q5, .ref q6, .ref q7, .int 0, .ref q8, .int 0, .int 0, .ref q9, .null, .null, .null])) ++ [(q1, .inl (cK 0, 450, .inl (fun _ => 0))), (q2, .inl (cK 0, 450, .inl (fun _ => 0))), (q3, .inl (cK 0, 116, .inl (fun _ => 0))), (q4, .inl (cK 0, 7, .inl (fun _ => 0))), (q5, .inl (cK 0, 124, .inl (fun _ => 0))), (q6, .inl (cK 0, 128, .inl (fun _ => 0))), (q7, .inl (cK 0, 64, .inl (fun _ => 0))), (q8, .inl (cK 0, 30, .inl (fun _ => 0))), (q9, .inl (cK 0, 4, .inl (fun _ => 0))), (q10, .inl (cK 0, 4, .inl (fun _ => 0)))]) bb_nn ?_
  refine bb_putF k 12 17 (ft := (.array .int)) (ws2 := ws0.set k (a, .inr (12, [.ref q1, .ref q2, .ref q3, .int 0, .ref q4, .int 0, .int 0, .int 0, .int 0, .ref q5, .ref q6, .ref q7, .int 0, .ref q8, .int 0, .int 0, .ref q9, .ref q10, .null, .null])) ++ [(q1, .inl (cK 0, 450, .inl (fun _ => 0))), (q2, .inl (cK 0, 450, .inl (fun _ => 0))), (q3, .inl (cK 0, 116, .inl (fun _ => 0))), (q4, .inl (cK 0, 7, .inl (fun _ => 0))), (q5, .inl (cK 0, 124, .inl (fun _ => 0))), (q6, .inl (cK 0, 128, .inl (fun _ => 0))), (q7, .inl (cK 0, 64, .inl (fun _ => 0))), (q8, .inl (cK 0, 30, .inl (fun _ => 0))), (q9, .inl (cK 0, 4, .inl (fun _ => 0))), (q10, .inl (cK 0, 4, .inl (fun _ => 0)))]) (pc2 := 85) rfl dX12_init_82 (bb_gk hk) ff_12_17 wd_994 rfl rfl rfl (by decide +kernel) rfl rfl (Nat.le_of_ble_eq_true rfl) (bb_sk hk) ?_
  refine bb_aload_n (pc2 := 86) rfl dX12_init_85 rfl ?_
  refine bb_bipush (pc2 := 88) rfl dX12_init_86 lt_b_96 ?_
  refine bb_newa (N := 96) (pc2 := 90) rfl dX12_init_88 wd_112 (by decide) (by decide) rfl rfl rfl (fun q11 => ?_)
  refine bb_ws (ws2 := ws0.set k (a, .inr (12, [.ref q1, .ref q2, .ref q3, .int 0, .ref q4, .int 0, .int 0, .int 0, .int 0, .ref q5, .ref q6, .ref q7, .int 0, .ref q8, .int 0, .int 0, .ref q9, .ref q10, .null, .null])) ++ [(q1, .inl (cK 0, 450, .inl (fun _ => 0))), (q2, .inl (cK 0, 450, .inl (fun _ => 0))), (q3, .inl (cK 0, 116, .inl (fun _ => 0))), (q4, .inl (cK 0, 7, .inl (fun _ => 0))), (q5, .inl (cK 0, 124, .inl (fun _ => 0))), (q6, .inl (cK 0, 128, .inl (fun _ => 0))), (q7, .inl (cK 0, 64, .inl (fun _ => 0))), (q8, .inl (cK 0, 30, .inl (fun _ => 0))), (q9, .inl (cK 0, 4, .inl (fun _ => 0))), (q10, .inl (cK 0, 4, .inl (fun _ => 0))), (q11, .inl (cK 0, 96, .inl (fun _ => 0)))]) bb_nn ?_
  refine bb_putF k 12 18 (ft := (.array .int)) (ws2 := ws0.set k (a, .inr (12, [.ref q1, .ref q2, .ref q3, .int 0, .ref q4, .int 0, .int 0, .int 0, .int 0, .ref q5, .ref q6, .ref q7, .int 0, .ref q8, .int 0, .int 0, .ref q9, .ref q10, .ref q11, .null])) ++ [(q1, .inl (cK 0, 450, .inl (fun _ => 0))), (q2, .inl (cK 0, 450, .inl (fun _ => 0))), (q3, .inl (cK 0, 116, .inl (fun _ => 0))), (q4, .inl (cK 0, 7, .inl (fun _ => 0))), (q5, .inl (cK 0, 124, .inl (fun _ => 0))), (q6, .inl (cK 0, 128, .inl (fun _ => 0))), (q7, .inl (cK 0, 64, .inl (fun _ => 0))), (q8, .inl (cK 0, 30, .inl (fun _ => 0))), (q9, .inl (cK 0, 4, .inl (fun _ => 0))), (q10, .inl (cK 0, 4, .inl (fun _ => 0))), (q11, .inl (cK 0, 96, .inl (fun _ => 0)))]) (pc2 := 93) rfl dX12_init_90 (bb_gk hk) ff_12_18 wd_995 rfl rfl rfl (by decide +kernel) rfl rfl (Nat.le_of_ble_eq_true rfl) (bb_sk hk) ?_
  refine bb_aload_n (pc2 := 94) rfl dX12_init_93 rfl ?_
  refine bb_bipush (pc2 := 96) rfl dX12_init_94 lt_b_24 ?_
  refine bb_newa (N := 24) (pc2 := 98) rfl dX12_init_96 wd_112 (by decide) (by decide) rfl rfl rfl (fun q12 => ?_)
  refine bb_ws (ws2 := ws0.set k (a, .inr (12, [.ref q1, .ref q2, .ref q3, .int 0, .ref q4, .int 0, .int 0, .int 0, .int 0, .ref q5, .ref q6, .ref q7, .int 0, .ref q8, .int 0, .int 0, .ref q9, .ref q10, .ref q11, .null])) ++ [(q1, .inl (cK 0, 450, .inl (fun _ => 0))), (q2, .inl (cK 0, 450, .inl (fun _ => 0))), (q3, .inl (cK 0, 116, .inl (fun _ => 0))), (q4, .inl (cK 0, 7, .inl (fun _ => 0))), (q5, .inl (cK 0, 124, .inl (fun _ => 0))), (q6, .inl (cK 0, 128, .inl (fun _ => 0))), (q7, .inl (cK 0, 64, .inl (fun _ => 0))), (q8, .inl (cK 0, 30, .inl (fun _ => 0))), (q9, .inl (cK 0, 4, .inl (fun _ => 0))), (q10, .inl (cK 0, 4, .inl (fun _ => 0))), (q11, .inl (cK 0, 96, .inl (fun _ => 0))), (q12, .inl (cK 0, 24, .inl (fun _ => 0)))]) bb_nn ?_
  refine bb_putF k 12 19 (ft := (.array .int)) (ws2 := ws0.set k (a, .inr (12, [.ref q1, .ref q2, .ref q3, .int 0, .ref q4, .int 0, .int 0, .int 0, .int 0, .ref q5, .ref q6, .ref q7, .int 0, .ref q8, .int 0, .int 0, .ref q9, .ref q10, .ref q11, .ref q12])) ++ [(q1, .inl (cK 0, 450, .inl (fun _ => 0))), (q2, .inl (cK 0, 450, .inl (fun _ => 0))), (q3, .inl (cK 0, 116, .inl (fun _ => 0))), (q4, .inl (cK 0, 7, .inl (fun _ => 0))), (q5, .inl (cK 0, 124, .inl (fun _ => 0))), (q6, .inl (cK 0, 128, .inl (fun _ => 0))), (q7, .inl (cK 0, 64, .inl (fun _ => 0))), (q8, .inl (cK 0, 30, .inl (fun _ => 0))), (q9, .inl (cK 0, 4, .inl (fun _ => 0))), (q10, .inl (cK 0, 4, .inl (fun _ => 0))), (q11, .inl (cK 0, 96, .inl (fun _ => 0))), (q12, .inl (cK 0, 24, .inl (fun _ => 0)))]) (pc2 := 101) rfl dX12_init_98 (bb_gk hk) ff_12_19 wd_996 rfl rfl rfl (by decide +kernel) rfl rfl (Nat.le_of_ble_eq_true rfl) (bb_sk hk) ?_
  refine bb_aload_n (pc2 := 102) rfl dX12_init_101 rfl ?_
  refine bb_get k 12 0 (v := .ref q1) (pc2 := 105) rfl dX12_init_102 (bb_gk hk) ff_12_0 wd_977 rfl ?_
  refine bb_iconst (pc2 := 106) rfl dX12_init_105 lt_i_2 ?_
  refine bb_iconst (pc2 := 107) rfl dX12_init_106 lt_i_1 ?_
  refine bb_iast (ws0.length + 0) (ws2 := ws0.set k (a, .inr (12, [.ref q1, .ref q2, .ref q3, .int 0, .ref q4, .int 0, .int 0, .int 0, .int 0, .ref q5, .ref q6, .ref q7, .int 0, .ref q8, .int 0, .int 0, .ref q9, .ref q10, .ref q11, .ref q12])) ++ [(q1, .inl (cK 0, 450, .inl ia_cb_X12_1)), (q2, .inl (cK 0, 450, .inl (fun _ => 0))), (q3, .inl (cK 0, 116, .inl (fun _ => 0))), (q4, .inl (cK 0, 7, .inl (fun _ => 0))), (q5, .inl (cK 0, 124, .inl (fun _ => 0))), (q6, .inl (cK 0, 128, .inl (fun _ => 0))), (q7, .inl (cK 0, 64, .inl (fun _ => 0))), (q8, .inl (cK 0, 30, .inl (fun _ => 0))), (q9, .inl (cK 0, 4, .inl (fun _ => 0))), (q10, .inl (cK 0, 4, .inl (fun _ => 0))), (q11, .inl (cK 0, 96, .inl (fun _ => 0))), (q12, .inl (cK 0, 24, .inl (fun _ => 0)))]) (pc2 := 108) rfl dX12_init_107 (bb_gn.trans rfl) (by decide) (bb_sn.trans rfl) ?_
  refine bb_iconst (pc2 := 109) rfl dX12_init_108 lt_i_0 ?_
  refine bb_istore_n (L2 := [some (.ref a), some (.int (0 : Int32))]) (pc2 := 110) rfl dX12_init_109 (by decide) rfl rfl ?_
  refine bb_iload_n (pc2 := 111) rfl dX12_init_110 rfl ?_
  refine bb_bipush (pc2 := 113) rfl dX12_init_111 lt_b_16 ?_
  refine bb_icmp_ge (tgt := 138) (pc2 := 116) rfl dX12_init_113 (by decide) (fun hc => ?_) (fun hc => ?_)
  · exact absurd hc (by decide)
  refine bb_aload_n (pc2 := 117) rfl dX12_init_116 rfl ?_
  refine bb_get k 12 0 (v := .ref q1) (pc2 := 120) rfl dX12_init_117 (bb_gk hk) ff_12_0 wd_977 rfl ?_
  refine bb_bipush (pc2 := 122) rfl dX12_init_120 lt_b_12 ?_
  refine bb_iload_n (pc2 := 123) rfl dX12_init_122 rfl ?_
  refine bb_iaddl (z := (12 : Int32)) (pc2 := 124) rfl dX12_init_123 (by decide) ?_
  refine bb_bipush (pc2 := 126) rfl dX12_init_124 lt_b_7 ?_
  refine bb_iload_n (pc2 := 127) rfl dX12_init_126 rfl ?_
  refine bb_imull (z := (0 : Int32)) (pc2 := 128) rfl dX12_init_127 (by decide) ?_
  refine bb_bipush (pc2 := 130) rfl dX12_init_128 lt_b_10 ?_
  refine bb_ireml (z := (0 : Int32)) (pc2 := 131) rfl dX12_init_130 (by decide) (by decide) ?_
  refine bb_iast (ws0.length + 0) (ws2 := ws0.set k (a, .inr (12, [.ref q1, .ref q2, .ref q3, .int 0, .ref q4, .int 0, .int 0, .int 0, .int 0, .ref q5, .ref q6, .ref q7, .int 0, .ref q8, .int 0, .int 0, .ref q9, .ref q10, .ref q11, .ref q12])) ++ [(q1, .inl (cK 0, 450, .inl ia_cb_X12_2)), (q2, .inl (cK 0, 450, .inl (fun _ => 0))), (q3, .inl (cK 0, 116, .inl (fun _ => 0))), (q4, .inl (cK 0, 7, .inl (fun _ => 0))), (q5, .inl (cK 0, 124, .inl (fun _ => 0))), (q6, .inl (cK 0, 128, .inl (fun _ => 0))), (q7, .inl (cK 0, 64, .inl (fun _ => 0))), (q8, .inl (cK 0, 30, .inl (fun _ => 0))), (q9, .inl (cK 0, 4, .inl (fun _ => 0))), (q10, .inl (cK 0, 4, .inl (fun _ => 0))), (q11, .inl (cK 0, 96, .inl (fun _ => 0))), (q12, .inl (cK 0, 24, .inl (fun _ => 0)))]) (pc2 := 132) rfl dX12_init_131 (bb_gn.trans rfl) (by decide) (bb_sn.trans rfl) ?_
  refine bb_iinc (v := (1 : Int32)) (L2 := [some (.ref a), some (.int (1 : Int32))]) (pc2 := 135) rfl dX12_init_132 rfl (by decide) (by decide) rfl rfl ?_
  refine bb_goto (tgt := 110) dX12_init_135 (by decide) ?_
  refine bb_iload_n (pc2 := 111) rfl dX12_init_110 rfl ?_
  refine bb_bipush (pc2 := 113) rfl dX12_init_111 lt_b_16 ?_
  refine bb_icmp_ge (tgt := 138) (pc2 := 116) rfl dX12_init_113 (by decide) (fun hc => ?_) (fun hc => ?_)
  · exact absurd hc (by decide)
  refine bb_aload_n (pc2 := 117) rfl dX12_init_116 rfl ?_
  refine bb_get k 12 0 (v := .ref q1) (pc2 := 120) rfl dX12_init_117 (bb_gk hk) ff_12_0 wd_977 rfl ?_
  refine bb_bipush (pc2 := 122) rfl dX12_init_120 lt_b_12 ?_
  refine bb_iload_n (pc2 := 123) rfl dX12_init_122 rfl ?_
  refine bb_iaddl (z := (13 : Int32)) (pc2 := 124) rfl dX12_init_123 (by decide) ?_
  refine bb_bipush (pc2 := 126) rfl dX12_init_124 lt_b_7 ?_
  refine bb_iload_n (pc2 := 127) rfl dX12_init_126 rfl ?_
  refine bb_imull (z := (7 : Int32)) (pc2 := 128) rfl dX12_init_127 (by decide) ?_
  refine bb_bipush (pc2 := 130) rfl dX12_init_128 lt_b_10 ?_
  refine bb_ireml (z := (7 : Int32)) (pc2 := 131) rfl dX12_init_130 (by decide) (by decide) ?_
  refine bb_iast (ws0.length + 0) (ws2 := ws0.set k (a, .inr (12, [.ref q1, .ref q2, .ref q3, .int 0, .ref q4, .int 0, .int 0, .int 0, .int 0, .ref q5, .ref q6, .ref q7, .int 0, .ref q8, .int 0, .int 0, .ref q9, .ref q10, .ref q11, .ref q12])) ++ [(q1, .inl (cK 0, 450, .inl ia_cb_X12_3)), (q2, .inl (cK 0, 450, .inl (fun _ => 0))), (q3, .inl (cK 0, 116, .inl (fun _ => 0))), (q4, .inl (cK 0, 7, .inl (fun _ => 0))), (q5, .inl (cK 0, 124, .inl (fun _ => 0))), (q6, .inl (cK 0, 128, .inl (fun _ => 0))), (q7, .inl (cK 0, 64, .inl (fun _ => 0))), (q8, .inl (cK 0, 30, .inl (fun _ => 0))), (q9, .inl (cK 0, 4, .inl (fun _ => 0))), (q10, .inl (cK 0, 4, .inl (fun _ => 0))), (q11, .inl (cK 0, 96, .inl (fun _ => 0))), (q12, .inl (cK 0, 24, .inl (fun _ => 0)))]) (pc2 := 132) rfl dX12_init_131 (bb_gn.trans rfl) (by decide) (bb_sn.trans rfl) ?_
  refine bb_iinc (v := (2 : Int32)) (L2 := [some (.ref a), some (.int (2 : Int32))]) (pc2 := 135) rfl dX12_init_132 rfl (by decide) (by decide) rfl rfl ?_
  refine bb_goto (tgt := 110) dX12_init_135 (by decide) ?_
  refine bb_iload_n (pc2 := 111) rfl dX12_init_110 rfl ?_
  refine bb_bipush (pc2 := 113) rfl dX12_init_111 lt_b_16 ?_
  refine bb_icmp_ge (tgt := 138) (pc2 := 116) rfl dX12_init_113 (by decide) (fun hc => ?_) (fun hc => ?_)
  · exact absurd hc (by decide)
  refine bb_aload_n (pc2 := 117) rfl dX12_init_116 rfl ?_
  refine bb_get k 12 0 (v := .ref q1) (pc2 := 120) rfl dX12_init_117 (bb_gk hk) ff_12_0 wd_977 rfl ?_
  refine bb_bipush (pc2 := 122) rfl dX12_init_120 lt_b_12 ?_
  refine bb_iload_n (pc2 := 123) rfl dX12_init_122 rfl ?_
  refine bb_iaddl (z := (14 : Int32)) (pc2 := 124) rfl dX12_init_123 (by decide) ?_
  refine bb_bipush (pc2 := 126) rfl dX12_init_124 lt_b_7 ?_
  refine bb_iload_n (pc2 := 127) rfl dX12_init_126 rfl ?_
  refine bb_imull (z := (14 : Int32)) (pc2 := 128) rfl dX12_init_127 (by decide) ?_
  refine bb_bipush (pc2 := 130) rfl dX12_init_128 lt_b_10 ?_
  refine bb_ireml (z := (4 : Int32)) (pc2 := 131) rfl dX12_init_130 (by decide) (by decide) ?_
  refine bb_iast (ws0.length + 0) (ws2 := ws0.set k (a, .inr (12, [.ref q1, .ref q2, .ref q3, .int 0, .ref q4, .int 0, .int 0, .int 0, .int 0, .ref q5, .ref q6, .ref q7, .int 0, .ref q8, .int 0, .int 0, .ref q9, .ref q10, .ref q11, .ref q12])) ++ [(q1, .inl (cK 0, 450, .inl ia_cb_X12_4)), (q2, .inl (cK 0, 450, .inl (fun _ => 0))), (q3, .inl (cK 0, 116, .inl (fun _ => 0))), (q4, .inl (cK 0, 7, .inl (fun _ => 0))), (q5, .inl (cK 0, 124, .inl (fun _ => 0))), (q6, .inl (cK 0, 128, .inl (fun _ => 0))), (q7, .inl (cK 0, 64, .inl (fun _ => 0))), (q8, .inl (cK 0, 30, .inl (fun _ => 0))), (q9, .inl (cK 0, 4, .inl (fun _ => 0))), (q10, .inl (cK 0, 4, .inl (fun _ => 0))), (q11, .inl (cK 0, 96, .inl (fun _ => 0))), (q12, .inl (cK 0, 24, .inl (fun _ => 0)))]) (pc2 := 132) rfl dX12_init_131 (bb_gn.trans rfl) (by decide) (bb_sn.trans rfl) ?_
  refine bb_iinc (v := (3 : Int32)) (L2 := [some (.ref a), some (.int (3 : Int32))]) (pc2 := 135) rfl dX12_init_132 rfl (by decide) (by decide) rfl rfl ?_
  refine bb_goto (tgt := 110) dX12_init_135 (by decide) ?_
  refine bb_iload_n (pc2 := 111) rfl dX12_init_110 rfl ?_
  refine bb_bipush (pc2 := 113) rfl dX12_init_111 lt_b_16 ?_
  refine bb_icmp_ge (tgt := 138) (pc2 := 116) rfl dX12_init_113 (by decide) (fun hc => ?_) (fun hc => ?_)
  · exact absurd hc (by decide)
  refine bb_aload_n (pc2 := 117) rfl dX12_init_116 rfl ?_
  refine bb_get k 12 0 (v := .ref q1) (pc2 := 120) rfl dX12_init_117 (bb_gk hk) ff_12_0 wd_977 rfl ?_
  refine bb_bipush (pc2 := 122) rfl dX12_init_120 lt_b_12 ?_
  refine bb_iload_n (pc2 := 123) rfl dX12_init_122 rfl ?_
  refine bb_iaddl (z := (15 : Int32)) (pc2 := 124) rfl dX12_init_123 (by decide) ?_
  refine bb_bipush (pc2 := 126) rfl dX12_init_124 lt_b_7 ?_
  refine bb_iload_n (pc2 := 127) rfl dX12_init_126 rfl ?_
  refine bb_imull (z := (21 : Int32)) (pc2 := 128) rfl dX12_init_127 (by decide) ?_
  refine bb_bipush (pc2 := 130) rfl dX12_init_128 lt_b_10 ?_
  refine bb_ireml (z := (1 : Int32)) (pc2 := 131) rfl dX12_init_130 (by decide) (by decide) ?_
  refine bb_iast (ws0.length + 0) (ws2 := ws0.set k (a, .inr (12, [.ref q1, .ref q2, .ref q3, .int 0, .ref q4, .int 0, .int 0, .int 0, .int 0, .ref q5, .ref q6, .ref q7, .int 0, .ref q8, .int 0, .int 0, .ref q9, .ref q10, .ref q11, .ref q12])) ++ [(q1, .inl (cK 0, 450, .inl ia_cb_X12_5)), (q2, .inl (cK 0, 450, .inl (fun _ => 0))), (q3, .inl (cK 0, 116, .inl (fun _ => 0))), (q4, .inl (cK 0, 7, .inl (fun _ => 0))), (q5, .inl (cK 0, 124, .inl (fun _ => 0))), (q6, .inl (cK 0, 128, .inl (fun _ => 0))), (q7, .inl (cK 0, 64, .inl (fun _ => 0))), (q8, .inl (cK 0, 30, .inl (fun _ => 0))), (q9, .inl (cK 0, 4, .inl (fun _ => 0))), (q10, .inl (cK 0, 4, .inl (fun _ => 0))), (q11, .inl (cK 0, 96, .inl (fun _ => 0))), (q12, .inl (cK 0, 24, .inl (fun _ => 0)))]) (pc2 := 132) rfl dX12_init_131 (bb_gn.trans rfl) (by decide) (bb_sn.trans rfl) ?_
  refine bb_iinc (v := (4 : Int32)) (L2 := [some (.ref a), some (.int (4 : Int32))]) (pc2 := 135) rfl dX12_init_132 rfl (by decide) (by decide) rfl rfl ?_
  refine bb_goto (tgt := 110) dX12_init_135 (by decide) ?_
  refine bb_iload_n (pc2 := 111) rfl dX12_init_110 rfl ?_
  refine bb_bipush (pc2 := 113) rfl dX12_init_111 lt_b_16 ?_
  refine bb_icmp_ge (tgt := 138) (pc2 := 116) rfl dX12_init_113 (by decide) (fun hc => ?_) (fun hc => ?_)
  · exact absurd hc (by decide)
  refine bb_aload_n (pc2 := 117) rfl dX12_init_116 rfl ?_
  refine bb_get k 12 0 (v := .ref q1) (pc2 := 120) rfl dX12_init_117 (bb_gk hk) ff_12_0 wd_977 rfl ?_
  refine bb_bipush (pc2 := 122) rfl dX12_init_120 lt_b_12 ?_
  refine bb_iload_n (pc2 := 123) rfl dX12_init_122 rfl ?_
  refine bb_iaddl (z := (16 : Int32)) (pc2 := 124) rfl dX12_init_123 (by decide) ?_
  refine bb_bipush (pc2 := 126) rfl dX12_init_124 lt_b_7 ?_
  refine bb_iload_n (pc2 := 127) rfl dX12_init_126 rfl ?_
  refine bb_imull (z := (28 : Int32)) (pc2 := 128) rfl dX12_init_127 (by decide) ?_
  refine bb_bipush (pc2 := 130) rfl dX12_init_128 lt_b_10 ?_
  refine bb_ireml (z := (8 : Int32)) (pc2 := 131) rfl dX12_init_130 (by decide) (by decide) ?_
  refine bb_iast (ws0.length + 0) (ws2 := ws0.set k (a, .inr (12, [.ref q1, .ref q2, .ref q3, .int 0, .ref q4, .int 0, .int 0, .int 0, .int 0, .ref q5, .ref q6, .ref q7, .int 0, .ref q8, .int 0, .int 0, .ref q9, .ref q10, .ref q11, .ref q12])) ++ [(q1, .inl (cK 0, 450, .inl ia_cb_X12_6)), (q2, .inl (cK 0, 450, .inl (fun _ => 0))), (q3, .inl (cK 0, 116, .inl (fun _ => 0))), (q4, .inl (cK 0, 7, .inl (fun _ => 0))), (q5, .inl (cK 0, 124, .inl (fun _ => 0))), (q6, .inl (cK 0, 128, .inl (fun _ => 0))), (q7, .inl (cK 0, 64, .inl (fun _ => 0))), (q8, .inl (cK 0, 30, .inl (fun _ => 0))), (q9, .inl (cK 0, 4, .inl (fun _ => 0))), (q10, .inl (cK 0, 4, .inl (fun _ => 0))), (q11, .inl (cK 0, 96, .inl (fun _ => 0))), (q12, .inl (cK 0, 24, .inl (fun _ => 0)))]) (pc2 := 132) rfl dX12_init_131 (bb_gn.trans rfl) (by decide) (bb_sn.trans rfl) ?_
  refine bb_iinc (v := (5 : Int32)) (L2 := [some (.ref a), some (.int (5 : Int32))]) (pc2 := 135) rfl dX12_init_132 rfl (by decide) (by decide) rfl rfl ?_
  refine bb_goto (tgt := 110) dX12_init_135 (by decide) ?_
  refine bb_iload_n (pc2 := 111) rfl dX12_init_110 rfl ?_
  refine bb_bipush (pc2 := 113) rfl dX12_init_111 lt_b_16 ?_
  refine bb_icmp_ge (tgt := 138) (pc2 := 116) rfl dX12_init_113 (by decide) (fun hc => ?_) (fun hc => ?_)
  · exact absurd hc (by decide)
  refine bb_aload_n (pc2 := 117) rfl dX12_init_116 rfl ?_
  refine bb_get k 12 0 (v := .ref q1) (pc2 := 120) rfl dX12_init_117 (bb_gk hk) ff_12_0 wd_977 rfl ?_
  refine bb_bipush (pc2 := 122) rfl dX12_init_120 lt_b_12 ?_
  refine bb_iload_n (pc2 := 123) rfl dX12_init_122 rfl ?_
  refine bb_iaddl (z := (17 : Int32)) (pc2 := 124) rfl dX12_init_123 (by decide) ?_
  refine bb_bipush (pc2 := 126) rfl dX12_init_124 lt_b_7 ?_
  refine bb_iload_n (pc2 := 127) rfl dX12_init_126 rfl ?_
  refine bb_imull (z := (35 : Int32)) (pc2 := 128) rfl dX12_init_127 (by decide) ?_
  refine bb_bipush (pc2 := 130) rfl dX12_init_128 lt_b_10 ?_
  refine bb_ireml (z := (5 : Int32)) (pc2 := 131) rfl dX12_init_130 (by decide) (by decide) ?_
  refine bb_iast (ws0.length + 0) (ws2 := ws0.set k (a, .inr (12, [.ref q1, .ref q2, .ref q3, .int 0, .ref q4, .int 0, .int 0, .int 0, .int 0, .ref q5, .ref q6, .ref q7, .int 0, .ref q8, .int 0, .int 0, .ref q9, .ref q10, .ref q11, .ref q12])) ++ [(q1, .inl (cK 0, 450, .inl ia_cb_X12_7)), (q2, .inl (cK 0, 450, .inl (fun _ => 0))), (q3, .inl (cK 0, 116, .inl (fun _ => 0))), (q4, .inl (cK 0, 7, .inl (fun _ => 0))), (q5, .inl (cK 0, 124, .inl (fun _ => 0))), (q6, .inl (cK 0, 128, .inl (fun _ => 0))), (q7, .inl (cK 0, 64, .inl (fun _ => 0))), (q8, .inl (cK 0, 30, .inl (fun _ => 0))), (q9, .inl (cK 0, 4, .inl (fun _ => 0))), (q10, .inl (cK 0, 4, .inl (fun _ => 0))), (q11, .inl (cK 0, 96, .inl (fun _ => 0))), (q12, .inl (cK 0, 24, .inl (fun _ => 0)))]) (pc2 := 132) rfl dX12_init_131 (bb_gn.trans rfl) (by decide) (bb_sn.trans rfl) ?_
  refine bb_iinc (v := (6 : Int32)) (L2 := [some (.ref a), some (.int (6 : Int32))]) (pc2 := 135) rfl dX12_init_132 rfl (by decide) (by decide) rfl rfl ?_
  refine bb_goto (tgt := 110) dX12_init_135 (by decide) ?_
  refine bb_iload_n (pc2 := 111) rfl dX12_init_110 rfl ?_
  refine bb_bipush (pc2 := 113) rfl dX12_init_111 lt_b_16 ?_
  refine bb_icmp_ge (tgt := 138) (pc2 := 116) rfl dX12_init_113 (by decide) (fun hc => ?_) (fun hc => ?_)
  · exact absurd hc (by decide)
  refine bb_aload_n (pc2 := 117) rfl dX12_init_116 rfl ?_
  refine bb_get k 12 0 (v := .ref q1) (pc2 := 120) rfl dX12_init_117 (bb_gk hk) ff_12_0 wd_977 rfl ?_
  refine bb_bipush (pc2 := 122) rfl dX12_init_120 lt_b_12 ?_
  refine bb_iload_n (pc2 := 123) rfl dX12_init_122 rfl ?_
  refine bb_iaddl (z := (18 : Int32)) (pc2 := 124) rfl dX12_init_123 (by decide) ?_
  refine bb_bipush (pc2 := 126) rfl dX12_init_124 lt_b_7 ?_
  refine bb_iload_n (pc2 := 127) rfl dX12_init_126 rfl ?_
  refine bb_imull (z := (42 : Int32)) (pc2 := 128) rfl dX12_init_127 (by decide) ?_
  refine bb_bipush (pc2 := 130) rfl dX12_init_128 lt_b_10 ?_
  refine bb_ireml (z := (2 : Int32)) (pc2 := 131) rfl dX12_init_130 (by decide) (by decide) ?_
  refine bb_iast (ws0.length + 0) (ws2 := ws0.set k (a, .inr (12, [.ref q1, .ref q2, .ref q3, .int 0, .ref q4, .int 0, .int 0, .int 0, .int 0, .ref q5, .ref q6, .ref q7, .int 0, .ref q8, .int 0, .int 0, .ref q9, .ref q10, .ref q11, .ref q12])) ++ [(q1, .inl (cK 0, 450, .inl ia_cb_X12_8)), (q2, .inl (cK 0, 450, .inl (fun _ => 0))), (q3, .inl (cK 0, 116, .inl (fun _ => 0))), (q4, .inl (cK 0, 7, .inl (fun _ => 0))), (q5, .inl (cK 0, 124, .inl (fun _ => 0))), (q6, .inl (cK 0, 128, .inl (fun _ => 0))), (q7, .inl (cK 0, 64, .inl (fun _ => 0))), (q8, .inl (cK 0, 30, .inl (fun _ => 0))), (q9, .inl (cK 0, 4, .inl (fun _ => 0))), (q10, .inl (cK 0, 4, .inl (fun _ => 0))), (q11, .inl (cK 0, 96, .inl (fun _ => 0))), (q12, .inl (cK 0, 24, .inl (fun _ => 0)))]) (pc2 := 132) rfl dX12_init_131 (bb_gn.trans rfl) (by decide) (bb_sn.trans rfl) ?_
  refine bb_iinc (v := (7 : Int32)) (L2 := [some (.ref a), some (.int (7 : Int32))]) (pc2 := 135) rfl dX12_init_132 rfl (by decide) (by decide) rfl rfl ?_
  refine bb_goto (tgt := 110) dX12_init_135 (by decide) ?_
  refine bb_iload_n (pc2 := 111) rfl dX12_init_110 rfl ?_
  refine bb_bipush (pc2 := 113) rfl dX12_init_111 lt_b_16 ?_
  refine bb_icmp_ge (tgt := 138) (pc2 := 116) rfl dX12_init_113 (by decide) (fun hc => ?_) (fun hc => ?_)
  · exact absurd hc (by decide)
  refine bb_aload_n (pc2 := 117) rfl dX12_init_116 rfl ?_
  refine bb_get k 12 0 (v := .ref q1) (pc2 := 120) rfl dX12_init_117 (bb_gk hk) ff_12_0 wd_977 rfl ?_
  refine bb_bipush (pc2 := 122) rfl dX12_init_120 lt_b_12 ?_
  refine bb_iload_n (pc2 := 123) rfl dX12_init_122 rfl ?_
  refine bb_iaddl (z := (19 : Int32)) (pc2 := 124) rfl dX12_init_123 (by decide) ?_
  refine bb_bipush (pc2 := 126) rfl dX12_init_124 lt_b_7 ?_
  refine bb_iload_n (pc2 := 127) rfl dX12_init_126 rfl ?_
  refine bb_imull (z := (49 : Int32)) (pc2 := 128) rfl dX12_init_127 (by decide) ?_
  refine bb_bipush (pc2 := 130) rfl dX12_init_128 lt_b_10 ?_
  refine bb_ireml (z := (9 : Int32)) (pc2 := 131) rfl dX12_init_130 (by decide) (by decide) ?_
  refine bb_iast (ws0.length + 0) (ws2 := ws0.set k (a, .inr (12, [.ref q1, .ref q2, .ref q3, .int 0, .ref q4, .int 0, .int 0, .int 0, .int 0, .ref q5, .ref q6, .ref q7, .int 0, .ref q8, .int 0, .int 0, .ref q9, .ref q10, .ref q11, .ref q12])) ++ [(q1, .inl (cK 0, 450, .inl ia_cb_X12_9)), (q2, .inl (cK 0, 450, .inl (fun _ => 0))), (q3, .inl (cK 0, 116, .inl (fun _ => 0))), (q4, .inl (cK 0, 7, .inl (fun _ => 0))), (q5, .inl (cK 0, 124, .inl (fun _ => 0))), (q6, .inl (cK 0, 128, .inl (fun _ => 0))), (q7, .inl (cK 0, 64, .inl (fun _ => 0))), (q8, .inl (cK 0, 30, .inl (fun _ => 0))), (q9, .inl (cK 0, 4, .inl (fun _ => 0))), (q10, .inl (cK 0, 4, .inl (fun _ => 0))), (q11, .inl (cK 0, 96, .inl (fun _ => 0))), (q12, .inl (cK 0, 24, .inl (fun _ => 0)))]) (pc2 := 132) rfl dX12_init_131 (bb_gn.trans rfl) (by decide) (bb_sn.trans rfl) ?_
  refine bb_iinc (v := (8 : Int32)) (L2 := [some (.ref a), some (.int (8 : Int32))]) (pc2 := 135) rfl dX12_init_132 rfl (by decide) (by decide) rfl rfl ?_
  refine bb_goto (tgt := 110) dX12_init_135 (by decide) ?_
  refine bb_iload_n (pc2 := 111) rfl dX12_init_110 rfl ?_
  refine bb_bipush (pc2 := 113) rfl dX12_init_111 lt_b_16 ?_
  refine bb_icmp_ge (tgt := 138) (pc2 := 116) rfl dX12_init_113 (by decide) (fun hc => ?_) (fun hc => ?_)
  · exact absurd hc (by decide)
  refine bb_aload_n (pc2 := 117) rfl dX12_init_116 rfl ?_
  refine bb_get k 12 0 (v := .ref q1) (pc2 := 120) rfl dX12_init_117 (bb_gk hk) ff_12_0 wd_977 rfl ?_
  refine bb_bipush (pc2 := 122) rfl dX12_init_120 lt_b_12 ?_
  refine bb_iload_n (pc2 := 123) rfl dX12_init_122 rfl ?_
  refine bb_iaddl (z := (20 : Int32)) (pc2 := 124) rfl dX12_init_123 (by decide) ?_
  refine bb_bipush (pc2 := 126) rfl dX12_init_124 lt_b_7 ?_
  refine bb_iload_n (pc2 := 127) rfl dX12_init_126 rfl ?_
  refine bb_imull (z := (56 : Int32)) (pc2 := 128) rfl dX12_init_127 (by decide) ?_
  refine bb_bipush (pc2 := 130) rfl dX12_init_128 lt_b_10 ?_
  refine bb_ireml (z := (6 : Int32)) (pc2 := 131) rfl dX12_init_130 (by decide) (by decide) ?_
  refine bb_iast (ws0.length + 0) (ws2 := ws0.set k (a, .inr (12, [.ref q1, .ref q2, .ref q3, .int 0, .ref q4, .int 0, .int 0, .int 0, .int 0, .ref q5, .ref q6, .ref q7, .int 0, .ref q8, .int 0, .int 0, .ref q9, .ref q10, .ref q11, .ref q12])) ++ [(q1, .inl (cK 0, 450, .inl ia_cb_X12_10)), (q2, .inl (cK 0, 450, .inl (fun _ => 0))), (q3, .inl (cK 0, 116, .inl (fun _ => 0))), (q4, .inl (cK 0, 7, .inl (fun _ => 0))), (q5, .inl (cK 0, 124, .inl (fun _ => 0))), (q6, .inl (cK 0, 128, .inl (fun _ => 0))), (q7, .inl (cK 0, 64, .inl (fun _ => 0))), (q8, .inl (cK 0, 30, .inl (fun _ => 0))), (q9, .inl (cK 0, 4, .inl (fun _ => 0))), (q10, .inl (cK 0, 4, .inl (fun _ => 0))), (q11, .inl (cK 0, 96, .inl (fun _ => 0))), (q12, .inl (cK 0, 24, .inl (fun _ => 0)))]) (pc2 := 132) rfl dX12_init_131 (bb_gn.trans rfl) (by decide) (bb_sn.trans rfl) ?_
  refine bb_iinc (v := (9 : Int32)) (L2 := [some (.ref a), some (.int (9 : Int32))]) (pc2 := 135) rfl dX12_init_132 rfl (by decide) (by decide) rfl rfl ?_
  refine bb_goto (tgt := 110) dX12_init_135 (by decide) ?_
  refine bb_iload_n (pc2 := 111) rfl dX12_init_110 rfl ?_
  refine bb_bipush (pc2 := 113) rfl dX12_init_111 lt_b_16 ?_
  refine bb_icmp_ge (tgt := 138) (pc2 := 116) rfl dX12_init_113 (by decide) (fun hc => ?_) (fun hc => ?_)
  · exact absurd hc (by decide)
  refine bb_aload_n (pc2 := 117) rfl dX12_init_116 rfl ?_
  refine bb_get k 12 0 (v := .ref q1) (pc2 := 120) rfl dX12_init_117 (bb_gk hk) ff_12_0 wd_977 rfl ?_
  refine bb_bipush (pc2 := 122) rfl dX12_init_120 lt_b_12 ?_
  refine bb_iload_n (pc2 := 123) rfl dX12_init_122 rfl ?_
  refine bb_iaddl (z := (21 : Int32)) (pc2 := 124) rfl dX12_init_123 (by decide) ?_
  refine bb_bipush (pc2 := 126) rfl dX12_init_124 lt_b_7 ?_
  refine bb_iload_n (pc2 := 127) rfl dX12_init_126 rfl ?_
  refine bb_imull (z := (63 : Int32)) (pc2 := 128) rfl dX12_init_127 (by decide) ?_
  refine bb_bipush (pc2 := 130) rfl dX12_init_128 lt_b_10 ?_
  refine bb_ireml (z := (3 : Int32)) (pc2 := 131) rfl dX12_init_130 (by decide) (by decide) ?_
  refine bb_iast (ws0.length + 0) (ws2 := ws0.set k (a, .inr (12, [.ref q1, .ref q2, .ref q3, .int 0, .ref q4, .int 0, .int 0, .int 0, .int 0, .ref q5, .ref q6, .ref q7, .int 0, .ref q8, .int 0, .int 0, .ref q9, .ref q10, .ref q11, .ref q12])) ++ [(q1, .inl (cK 0, 450, .inl ia_cb_X12_11)), (q2, .inl (cK 0, 450, .inl (fun _ => 0))), (q3, .inl (cK 0, 116, .inl (fun _ => 0))), (q4, .inl (cK 0, 7, .inl (fun _ => 0))), (q5, .inl (cK 0, 124, .inl (fun _ => 0))), (q6, .inl (cK 0, 128, .inl (fun _ => 0))), (q7, .inl (cK 0, 64, .inl (fun _ => 0))), (q8, .inl (cK 0, 30, .inl (fun _ => 0))), (q9, .inl (cK 0, 4, .inl (fun _ => 0))), (q10, .inl (cK 0, 4, .inl (fun _ => 0))), (q11, .inl (cK 0, 96, .inl (fun _ => 0))), (q12, .inl (cK 0, 24, .inl (fun _ => 0)))]) (pc2 := 132) rfl dX12_init_131 (bb_gn.trans rfl) (by decide) (bb_sn.trans rfl) ?_
  refine bb_iinc (v := (10 : Int32)) (L2 := [some (.ref a), some (.int (10 : Int32))]) (pc2 := 135) rfl dX12_init_132 rfl (by decide) (by decide) rfl rfl ?_
  refine bb_goto (tgt := 110) dX12_init_135 (by decide) ?_
  refine bb_iload_n (pc2 := 111) rfl dX12_init_110 rfl ?_
  refine bb_bipush (pc2 := 113) rfl dX12_init_111 lt_b_16 ?_
  refine bb_icmp_ge (tgt := 138) (pc2 := 116) rfl dX12_init_113 (by decide) (fun hc => ?_) (fun hc => ?_)
  · exact absurd hc (by decide)
  refine bb_aload_n (pc2 := 117) rfl dX12_init_116 rfl ?_
  refine bb_get k 12 0 (v := .ref q1) (pc2 := 120) rfl dX12_init_117 (bb_gk hk) ff_12_0 wd_977 rfl ?_
  refine bb_bipush (pc2 := 122) rfl dX12_init_120 lt_b_12 ?_
  refine bb_iload_n (pc2 := 123) rfl dX12_init_122 rfl ?_
  refine bb_iaddl (z := (22 : Int32)) (pc2 := 124) rfl dX12_init_123 (by decide) ?_
  refine bb_bipush (pc2 := 126) rfl dX12_init_124 lt_b_7 ?_
  refine bb_iload_n (pc2 := 127) rfl dX12_init_126 rfl ?_
  refine bb_imull (z := (70 : Int32)) (pc2 := 128) rfl dX12_init_127 (by decide) ?_
  refine bb_bipush (pc2 := 130) rfl dX12_init_128 lt_b_10 ?_
  refine bb_ireml (z := (0 : Int32)) (pc2 := 131) rfl dX12_init_130 (by decide) (by decide) ?_
  refine bb_iast (ws0.length + 0) (ws2 := ws0.set k (a, .inr (12, [.ref q1, .ref q2, .ref q3, .int 0, .ref q4, .int 0, .int 0, .int 0, .int 0, .ref q5, .ref q6, .ref q7, .int 0, .ref q8, .int 0, .int 0, .ref q9, .ref q10, .ref q11, .ref q12])) ++ [(q1, .inl (cK 0, 450, .inl ia_cb_X12_12)), (q2, .inl (cK 0, 450, .inl (fun _ => 0))), (q3, .inl (cK 0, 116, .inl (fun _ => 0))), (q4, .inl (cK 0, 7, .inl (fun _ => 0))), (q5, .inl (cK 0, 124, .inl (fun _ => 0))), (q6, .inl (cK 0, 128, .inl (fun _ => 0))), (q7, .inl (cK 0, 64, .inl (fun _ => 0))), (q8, .inl (cK 0, 30, .inl (fun _ => 0))), (q9, .inl (cK 0, 4, .inl (fun _ => 0))), (q10, .inl (cK 0, 4, .inl (fun _ => 0))), (q11, .inl (cK 0, 96, .inl (fun _ => 0))), (q12, .inl (cK 0, 24, .inl (fun _ => 0)))]) (pc2 := 132) rfl dX12_init_131 (bb_gn.trans rfl) (by decide) (bb_sn.trans rfl) ?_
  refine bb_iinc (v := (11 : Int32)) (L2 := [some (.ref a), some (.int (11 : Int32))]) (pc2 := 135) rfl dX12_init_132 rfl (by decide) (by decide) rfl rfl ?_
  refine bb_goto (tgt := 110) dX12_init_135 (by decide) ?_
  refine bb_iload_n (pc2 := 111) rfl dX12_init_110 rfl ?_
  refine bb_bipush (pc2 := 113) rfl dX12_init_111 lt_b_16 ?_
  refine bb_icmp_ge (tgt := 138) (pc2 := 116) rfl dX12_init_113 (by decide) (fun hc => ?_) (fun hc => ?_)
  · exact absurd hc (by decide)
  refine bb_aload_n (pc2 := 117) rfl dX12_init_116 rfl ?_
  refine bb_get k 12 0 (v := .ref q1) (pc2 := 120) rfl dX12_init_117 (bb_gk hk) ff_12_0 wd_977 rfl ?_
  refine bb_bipush (pc2 := 122) rfl dX12_init_120 lt_b_12 ?_
  refine bb_iload_n (pc2 := 123) rfl dX12_init_122 rfl ?_
  refine bb_iaddl (z := (23 : Int32)) (pc2 := 124) rfl dX12_init_123 (by decide) ?_
  refine bb_bipush (pc2 := 126) rfl dX12_init_124 lt_b_7 ?_
  refine bb_iload_n (pc2 := 127) rfl dX12_init_126 rfl ?_
  refine bb_imull (z := (77 : Int32)) (pc2 := 128) rfl dX12_init_127 (by decide) ?_
  refine bb_bipush (pc2 := 130) rfl dX12_init_128 lt_b_10 ?_
  refine bb_ireml (z := (7 : Int32)) (pc2 := 131) rfl dX12_init_130 (by decide) (by decide) ?_
  refine bb_iast (ws0.length + 0) (ws2 := ws0.set k (a, .inr (12, [.ref q1, .ref q2, .ref q3, .int 0, .ref q4, .int 0, .int 0, .int 0, .int 0, .ref q5, .ref q6, .ref q7, .int 0, .ref q8, .int 0, .int 0, .ref q9, .ref q10, .ref q11, .ref q12])) ++ [(q1, .inl (cK 0, 450, .inl ia_cb_X12_13)), (q2, .inl (cK 0, 450, .inl (fun _ => 0))), (q3, .inl (cK 0, 116, .inl (fun _ => 0))), (q4, .inl (cK 0, 7, .inl (fun _ => 0))), (q5, .inl (cK 0, 124, .inl (fun _ => 0))), (q6, .inl (cK 0, 128, .inl (fun _ => 0))), (q7, .inl (cK 0, 64, .inl (fun _ => 0))), (q8, .inl (cK 0, 30, .inl (fun _ => 0))), (q9, .inl (cK 0, 4, .inl (fun _ => 0))), (q10, .inl (cK 0, 4, .inl (fun _ => 0))), (q11, .inl (cK 0, 96, .inl (fun _ => 0))), (q12, .inl (cK 0, 24, .inl (fun _ => 0)))]) (pc2 := 132) rfl dX12_init_131 (bb_gn.trans rfl) (by decide) (bb_sn.trans rfl) ?_
  refine bb_iinc (v := (12 : Int32)) (L2 := [some (.ref a), some (.int (12 : Int32))]) (pc2 := 135) rfl dX12_init_132 rfl (by decide) (by decide) rfl rfl ?_
  refine bb_goto (tgt := 110) dX12_init_135 (by decide) ?_
  refine bb_iload_n (pc2 := 111) rfl dX12_init_110 rfl ?_
  refine bb_bipush (pc2 := 113) rfl dX12_init_111 lt_b_16 ?_
  refine bb_icmp_ge (tgt := 138) (pc2 := 116) rfl dX12_init_113 (by decide) (fun hc => ?_) (fun hc => ?_)
  · exact absurd hc (by decide)
  refine bb_aload_n (pc2 := 117) rfl dX12_init_116 rfl ?_
  refine bb_get k 12 0 (v := .ref q1) (pc2 := 120) rfl dX12_init_117 (bb_gk hk) ff_12_0 wd_977 rfl ?_
  refine bb_bipush (pc2 := 122) rfl dX12_init_120 lt_b_12 ?_
  refine bb_iload_n (pc2 := 123) rfl dX12_init_122 rfl ?_
  refine bb_iaddl (z := (24 : Int32)) (pc2 := 124) rfl dX12_init_123 (by decide) ?_
  refine bb_bipush (pc2 := 126) rfl dX12_init_124 lt_b_7 ?_
  refine bb_iload_n (pc2 := 127) rfl dX12_init_126 rfl ?_
  refine bb_imull (z := (84 : Int32)) (pc2 := 128) rfl dX12_init_127 (by decide) ?_
  refine bb_bipush (pc2 := 130) rfl dX12_init_128 lt_b_10 ?_
  refine bb_ireml (z := (4 : Int32)) (pc2 := 131) rfl dX12_init_130 (by decide) (by decide) ?_
  refine bb_iast (ws0.length + 0) (ws2 := ws0.set k (a, .inr (12, [.ref q1, .ref q2, .ref q3, .int 0, .ref q4, .int 0, .int 0, .int 0, .int 0, .ref q5, .ref q6, .ref q7, .int 0, .ref q8, .int 0, .int 0, .ref q9, .ref q10, .ref q11, .ref q12])) ++ [(q1, .inl (cK 0, 450, .inl ia_cb_X12_14)), (q2, .inl (cK 0, 450, .inl (fun _ => 0))), (q3, .inl (cK 0, 116, .inl (fun _ => 0))), (q4, .inl (cK 0, 7, .inl (fun _ => 0))), (q5, .inl (cK 0, 124, .inl (fun _ => 0))), (q6, .inl (cK 0, 128, .inl (fun _ => 0))), (q7, .inl (cK 0, 64, .inl (fun _ => 0))), (q8, .inl (cK 0, 30, .inl (fun _ => 0))), (q9, .inl (cK 0, 4, .inl (fun _ => 0))), (q10, .inl (cK 0, 4, .inl (fun _ => 0))), (q11, .inl (cK 0, 96, .inl (fun _ => 0))), (q12, .inl (cK 0, 24, .inl (fun _ => 0)))]) (pc2 := 132) rfl dX12_init_131 (bb_gn.trans rfl) (by decide) (bb_sn.trans rfl) ?_
  refine bb_iinc (v := (13 : Int32)) (L2 := [some (.ref a), some (.int (13 : Int32))]) (pc2 := 135) rfl dX12_init_132 rfl (by decide) (by decide) rfl rfl ?_
  refine bb_goto (tgt := 110) dX12_init_135 (by decide) ?_
  refine bb_iload_n (pc2 := 111) rfl dX12_init_110 rfl ?_
  refine bb_bipush (pc2 := 113) rfl dX12_init_111 lt_b_16 ?_
  refine bb_icmp_ge (tgt := 138) (pc2 := 116) rfl dX12_init_113 (by decide) (fun hc => ?_) (fun hc => ?_)
  · exact absurd hc (by decide)
  refine bb_aload_n (pc2 := 117) rfl dX12_init_116 rfl ?_
  refine bb_get k 12 0 (v := .ref q1) (pc2 := 120) rfl dX12_init_117 (bb_gk hk) ff_12_0 wd_977 rfl ?_
  refine bb_bipush (pc2 := 122) rfl dX12_init_120 lt_b_12 ?_
  refine bb_iload_n (pc2 := 123) rfl dX12_init_122 rfl ?_
  refine bb_iaddl (z := (25 : Int32)) (pc2 := 124) rfl dX12_init_123 (by decide) ?_
  refine bb_bipush (pc2 := 126) rfl dX12_init_124 lt_b_7 ?_
  refine bb_iload_n (pc2 := 127) rfl dX12_init_126 rfl ?_
  refine bb_imull (z := (91 : Int32)) (pc2 := 128) rfl dX12_init_127 (by decide) ?_
  refine bb_bipush (pc2 := 130) rfl dX12_init_128 lt_b_10 ?_
  refine bb_ireml (z := (1 : Int32)) (pc2 := 131) rfl dX12_init_130 (by decide) (by decide) ?_
  refine bb_iast (ws0.length + 0) (ws2 := ws0.set k (a, .inr (12, [.ref q1, .ref q2, .ref q3, .int 0, .ref q4, .int 0, .int 0, .int 0, .int 0, .ref q5, .ref q6, .ref q7, .int 0, .ref q8, .int 0, .int 0, .ref q9, .ref q10, .ref q11, .ref q12])) ++ [(q1, .inl (cK 0, 450, .inl ia_cb_X12_15)), (q2, .inl (cK 0, 450, .inl (fun _ => 0))), (q3, .inl (cK 0, 116, .inl (fun _ => 0))), (q4, .inl (cK 0, 7, .inl (fun _ => 0))), (q5, .inl (cK 0, 124, .inl (fun _ => 0))), (q6, .inl (cK 0, 128, .inl (fun _ => 0))), (q7, .inl (cK 0, 64, .inl (fun _ => 0))), (q8, .inl (cK 0, 30, .inl (fun _ => 0))), (q9, .inl (cK 0, 4, .inl (fun _ => 0))), (q10, .inl (cK 0, 4, .inl (fun _ => 0))), (q11, .inl (cK 0, 96, .inl (fun _ => 0))), (q12, .inl (cK 0, 24, .inl (fun _ => 0)))]) (pc2 := 132) rfl dX12_init_131 (bb_gn.trans rfl) (by decide) (bb_sn.trans rfl) ?_
  refine bb_iinc (v := (14 : Int32)) (L2 := [some (.ref a), some (.int (14 : Int32))]) (pc2 := 135) rfl dX12_init_132 rfl (by decide) (by decide) rfl rfl ?_
  refine bb_goto (tgt := 110) dX12_init_135 (by decide) ?_
  refine bb_iload_n (pc2 := 111) rfl dX12_init_110 rfl ?_
  refine bb_bipush (pc2 := 113) rfl dX12_init_111 lt_b_16 ?_
  refine bb_icmp_ge (tgt := 138) (pc2 := 116) rfl dX12_init_113 (by decide) (fun hc => ?_) (fun hc => ?_)
  · exact absurd hc (by decide)
  refine bb_aload_n (pc2 := 117) rfl dX12_init_116 rfl ?_
  refine bb_get k 12 0 (v := .ref q1) (pc2 := 120) rfl dX12_init_117 (bb_gk hk) ff_12_0 wd_977 rfl ?_
  refine bb_bipush (pc2 := 122) rfl dX12_init_120 lt_b_12 ?_
  refine bb_iload_n (pc2 := 123) rfl dX12_init_122 rfl ?_
  refine bb_iaddl (z := (26 : Int32)) (pc2 := 124) rfl dX12_init_123 (by decide) ?_
  refine bb_bipush (pc2 := 126) rfl dX12_init_124 lt_b_7 ?_
  refine bb_iload_n (pc2 := 127) rfl dX12_init_126 rfl ?_
  refine bb_imull (z := (98 : Int32)) (pc2 := 128) rfl dX12_init_127 (by decide) ?_
  refine bb_bipush (pc2 := 130) rfl dX12_init_128 lt_b_10 ?_
  refine bb_ireml (z := (8 : Int32)) (pc2 := 131) rfl dX12_init_130 (by decide) (by decide) ?_
  refine bb_iast (ws0.length + 0) (ws2 := ws0.set k (a, .inr (12, [.ref q1, .ref q2, .ref q3, .int 0, .ref q4, .int 0, .int 0, .int 0, .int 0, .ref q5, .ref q6, .ref q7, .int 0, .ref q8, .int 0, .int 0, .ref q9, .ref q10, .ref q11, .ref q12])) ++ [(q1, .inl (cK 0, 450, .inl ia_cb_X12_16)), (q2, .inl (cK 0, 450, .inl (fun _ => 0))), (q3, .inl (cK 0, 116, .inl (fun _ => 0))), (q4, .inl (cK 0, 7, .inl (fun _ => 0))), (q5, .inl (cK 0, 124, .inl (fun _ => 0))), (q6, .inl (cK 0, 128, .inl (fun _ => 0))), (q7, .inl (cK 0, 64, .inl (fun _ => 0))), (q8, .inl (cK 0, 30, .inl (fun _ => 0))), (q9, .inl (cK 0, 4, .inl (fun _ => 0))), (q10, .inl (cK 0, 4, .inl (fun _ => 0))), (q11, .inl (cK 0, 96, .inl (fun _ => 0))), (q12, .inl (cK 0, 24, .inl (fun _ => 0)))]) (pc2 := 132) rfl dX12_init_131 (bb_gn.trans rfl) (by decide) (bb_sn.trans rfl) ?_
  refine bb_iinc (v := (15 : Int32)) (L2 := [some (.ref a), some (.int (15 : Int32))]) (pc2 := 135) rfl dX12_init_132 rfl (by decide) (by decide) rfl rfl ?_
  refine bb_goto (tgt := 110) dX12_init_135 (by decide) ?_
  refine bb_iload_n (pc2 := 111) rfl dX12_init_110 rfl ?_
  refine bb_bipush (pc2 := 113) rfl dX12_init_111 lt_b_16 ?_
  refine bb_icmp_ge (tgt := 138) (pc2 := 116) rfl dX12_init_113 (by decide) (fun hc => ?_) (fun hc => ?_)
  · exact absurd hc (by decide)
  refine bb_aload_n (pc2 := 117) rfl dX12_init_116 rfl ?_
  refine bb_get k 12 0 (v := .ref q1) (pc2 := 120) rfl dX12_init_117 (bb_gk hk) ff_12_0 wd_977 rfl ?_
  refine bb_bipush (pc2 := 122) rfl dX12_init_120 lt_b_12 ?_
  refine bb_iload_n (pc2 := 123) rfl dX12_init_122 rfl ?_
  refine bb_iaddl (z := (27 : Int32)) (pc2 := 124) rfl dX12_init_123 (by decide) ?_
  refine bb_bipush (pc2 := 126) rfl dX12_init_124 lt_b_7 ?_
  refine bb_iload_n (pc2 := 127) rfl dX12_init_126 rfl ?_
  refine bb_imull (z := (105 : Int32)) (pc2 := 128) rfl dX12_init_127 (by decide) ?_
  refine bb_bipush (pc2 := 130) rfl dX12_init_128 lt_b_10 ?_
  refine bb_ireml (z := (5 : Int32)) (pc2 := 131) rfl dX12_init_130 (by decide) (by decide) ?_
  refine bb_iast (ws0.length + 0) (ws2 := ws0.set k (a, .inr (12, [.ref q1, .ref q2, .ref q3, .int 0, .ref q4, .int 0, .int 0, .int 0, .int 0, .ref q5, .ref q6, .ref q7, .int 0, .ref q8, .int 0, .int 0, .ref q9, .ref q10, .ref q11, .ref q12])) ++ [(q1, .inl (cK 0, 450, .inl ia_cb_X12_17)), (q2, .inl (cK 0, 450, .inl (fun _ => 0))), (q3, .inl (cK 0, 116, .inl (fun _ => 0))), (q4, .inl (cK 0, 7, .inl (fun _ => 0))), (q5, .inl (cK 0, 124, .inl (fun _ => 0))), (q6, .inl (cK 0, 128, .inl (fun _ => 0))), (q7, .inl (cK 0, 64, .inl (fun _ => 0))), (q8, .inl (cK 0, 30, .inl (fun _ => 0))), (q9, .inl (cK 0, 4, .inl (fun _ => 0))), (q10, .inl (cK 0, 4, .inl (fun _ => 0))), (q11, .inl (cK 0, 96, .inl (fun _ => 0))), (q12, .inl (cK 0, 24, .inl (fun _ => 0)))]) (pc2 := 132) rfl dX12_init_131 (bb_gn.trans rfl) (by decide) (bb_sn.trans rfl) ?_
  refine bb_iinc (v := (16 : Int32)) (L2 := [some (.ref a), some (.int (16 : Int32))]) (pc2 := 135) rfl dX12_init_132 rfl (by decide) (by decide) rfl rfl ?_
  refine bb_goto (tgt := 110) dX12_init_135 (by decide) ?_
  refine bb_iload_n (pc2 := 111) rfl dX12_init_110 rfl ?_
  refine bb_bipush (pc2 := 113) rfl dX12_init_111 lt_b_16 ?_
  refine bb_icmp_ge (tgt := 138) (pc2 := 116) rfl dX12_init_113 (by decide) (fun hc => ?_) (fun hc => ?_)
  rotate_left
  · exact absurd (by decide) hc
  refine bb_iconst (pc2 := 139) rfl dX12_init_138 lt_i_0 ?_
  refine bb_istore_n (L2 := [some (.ref a), some (.int (0 : Int32))]) (pc2 := 140) rfl dX12_init_139 (by decide) rfl rfl ?_
  refine bb_iload_n (pc2 := 141) rfl dX12_init_140 rfl ?_
  refine bb_bipush (pc2 := 143) rfl dX12_init_141 lt_b_6 ?_
  refine bb_icmp_ge (tgt := 162) (pc2 := 146) rfl dX12_init_143 (by decide) (fun hc => ?_) (fun hc => ?_)
  · exact absurd hc (by decide)
  refine bb_aload_n (pc2 := 147) rfl dX12_init_146 rfl ?_
  refine bb_get k 12 0 (v := .ref q1) (pc2 := 150) rfl dX12_init_147 (bb_gk hk) ff_12_0 wd_977 rfl ?_
  refine bb_bipush (pc2 := 152) rfl dX12_init_150 lt_b_6 ?_
  refine bb_iload_n (pc2 := 153) rfl dX12_init_152 rfl ?_
  refine bb_iaddl (z := (6 : Int32)) (pc2 := 154) rfl dX12_init_153 (by decide) ?_
  refine bb_iload_n (pc2 := 155) rfl dX12_init_154 rfl ?_
  refine bb_iast (ws0.length + 0) (ws2 := ws0.set k (a, .inr (12, [.ref q1, .ref q2, .ref q3, .int 0, .ref q4, .int 0, .int 0, .int 0, .int 0, .ref q5, .ref q6, .ref q7, .int 0, .ref q8, .int 0, .int 0, .ref q9, .ref q10, .ref q11, .ref q12])) ++ [(q1, .inl (cK 0, 450, .inl ia_cb_X12_18)), (q2, .inl (cK 0, 450, .inl (fun _ => 0))), (q3, .inl (cK 0, 116, .inl (fun _ => 0))), (q4, .inl (cK 0, 7, .inl (fun _ => 0))), (q5, .inl (cK 0, 124, .inl (fun _ => 0))), (q6, .inl (cK 0, 128, .inl (fun _ => 0))), (q7, .inl (cK 0, 64, .inl (fun _ => 0))), (q8, .inl (cK 0, 30, .inl (fun _ => 0))), (q9, .inl (cK 0, 4, .inl (fun _ => 0))), (q10, .inl (cK 0, 4, .inl (fun _ => 0))), (q11, .inl (cK 0, 96, .inl (fun _ => 0))), (q12, .inl (cK 0, 24, .inl (fun _ => 0)))]) (pc2 := 156) rfl dX12_init_155 (bb_gn.trans rfl) (by decide) (bb_sn.trans rfl) ?_
  refine bb_iinc (v := (1 : Int32)) (L2 := [some (.ref a), some (.int (1 : Int32))]) (pc2 := 159) rfl dX12_init_156 rfl (by decide) (by decide) rfl rfl ?_
  refine bb_goto (tgt := 140) dX12_init_159 (by decide) ?_
  refine bb_iload_n (pc2 := 141) rfl dX12_init_140 rfl ?_
  refine bb_bipush (pc2 := 143) rfl dX12_init_141 lt_b_6 ?_
  refine bb_icmp_ge (tgt := 162) (pc2 := 146) rfl dX12_init_143 (by decide) (fun hc => ?_) (fun hc => ?_)
  · exact absurd hc (by decide)
  refine bb_aload_n (pc2 := 147) rfl dX12_init_146 rfl ?_
  refine bb_get k 12 0 (v := .ref q1) (pc2 := 150) rfl dX12_init_147 (bb_gk hk) ff_12_0 wd_977 rfl ?_
  refine bb_bipush (pc2 := 152) rfl dX12_init_150 lt_b_6 ?_
  refine bb_iload_n (pc2 := 153) rfl dX12_init_152 rfl ?_
  refine bb_iaddl (z := (7 : Int32)) (pc2 := 154) rfl dX12_init_153 (by decide) ?_
  refine bb_iload_n (pc2 := 155) rfl dX12_init_154 rfl ?_
  refine bb_iast (ws0.length + 0) (ws2 := ws0.set k (a, .inr (12, [.ref q1, .ref q2, .ref q3, .int 0, .ref q4, .int 0, .int 0, .int 0, .int 0, .ref q5, .ref q6, .ref q7, .int 0, .ref q8, .int 0, .int 0, .ref q9, .ref q10, .ref q11, .ref q12])) ++ [(q1, .inl (cK 0, 450, .inl ia_cb_X12_19)), (q2, .inl (cK 0, 450, .inl (fun _ => 0))), (q3, .inl (cK 0, 116, .inl (fun _ => 0))), (q4, .inl (cK 0, 7, .inl (fun _ => 0))), (q5, .inl (cK 0, 124, .inl (fun _ => 0))), (q6, .inl (cK 0, 128, .inl (fun _ => 0))), (q7, .inl (cK 0, 64, .inl (fun _ => 0))), (q8, .inl (cK 0, 30, .inl (fun _ => 0))), (q9, .inl (cK 0, 4, .inl (fun _ => 0))), (q10, .inl (cK 0, 4, .inl (fun _ => 0))), (q11, .inl (cK 0, 96, .inl (fun _ => 0))), (q12, .inl (cK 0, 24, .inl (fun _ => 0)))]) (pc2 := 156) rfl dX12_init_155 (bb_gn.trans rfl) (by decide) (bb_sn.trans rfl) ?_
  refine bb_iinc (v := (2 : Int32)) (L2 := [some (.ref a), some (.int (2 : Int32))]) (pc2 := 159) rfl dX12_init_156 rfl (by decide) (by decide) rfl rfl ?_
  refine bb_goto (tgt := 140) dX12_init_159 (by decide) ?_
  refine bb_iload_n (pc2 := 141) rfl dX12_init_140 rfl ?_
  refine bb_bipush (pc2 := 143) rfl dX12_init_141 lt_b_6 ?_
  refine bb_icmp_ge (tgt := 162) (pc2 := 146) rfl dX12_init_143 (by decide) (fun hc => ?_) (fun hc => ?_)
  · exact absurd hc (by decide)
  refine bb_aload_n (pc2 := 147) rfl dX12_init_146 rfl ?_
  refine bb_get k 12 0 (v := .ref q1) (pc2 := 150) rfl dX12_init_147 (bb_gk hk) ff_12_0 wd_977 rfl ?_
  refine bb_bipush (pc2 := 152) rfl dX12_init_150 lt_b_6 ?_
  refine bb_iload_n (pc2 := 153) rfl dX12_init_152 rfl ?_
  refine bb_iaddl (z := (8 : Int32)) (pc2 := 154) rfl dX12_init_153 (by decide) ?_
  refine bb_iload_n (pc2 := 155) rfl dX12_init_154 rfl ?_
  refine bb_iast (ws0.length + 0) (ws2 := ws0.set k (a, .inr (12, [.ref q1, .ref q2, .ref q3, .int 0, .ref q4, .int 0, .int 0, .int 0, .int 0, .ref q5, .ref q6, .ref q7, .int 0, .ref q8, .int 0, .int 0, .ref q9, .ref q10, .ref q11, .ref q12])) ++ [(q1, .inl (cK 0, 450, .inl ia_cb_X12_20)), (q2, .inl (cK 0, 450, .inl (fun _ => 0))), (q3, .inl (cK 0, 116, .inl (fun _ => 0))), (q4, .inl (cK 0, 7, .inl (fun _ => 0))), (q5, .inl (cK 0, 124, .inl (fun _ => 0))), (q6, .inl (cK 0, 128, .inl (fun _ => 0))), (q7, .inl (cK 0, 64, .inl (fun _ => 0))), (q8, .inl (cK 0, 30, .inl (fun _ => 0))), (q9, .inl (cK 0, 4, .inl (fun _ => 0))), (q10, .inl (cK 0, 4, .inl (fun _ => 0))), (q11, .inl (cK 0, 96, .inl (fun _ => 0))), (q12, .inl (cK 0, 24, .inl (fun _ => 0)))]) (pc2 := 156) rfl dX12_init_155 (bb_gn.trans rfl) (by decide) (bb_sn.trans rfl) ?_
  refine bb_iinc (v := (3 : Int32)) (L2 := [some (.ref a), some (.int (3 : Int32))]) (pc2 := 159) rfl dX12_init_156 rfl (by decide) (by decide) rfl rfl ?_
  refine bb_goto (tgt := 140) dX12_init_159 (by decide) ?_
  refine bb_iload_n (pc2 := 141) rfl dX12_init_140 rfl ?_
  refine bb_bipush (pc2 := 143) rfl dX12_init_141 lt_b_6 ?_
  refine bb_icmp_ge (tgt := 162) (pc2 := 146) rfl dX12_init_143 (by decide) (fun hc => ?_) (fun hc => ?_)
  · exact absurd hc (by decide)
  refine bb_aload_n (pc2 := 147) rfl dX12_init_146 rfl ?_
  refine bb_get k 12 0 (v := .ref q1) (pc2 := 150) rfl dX12_init_147 (bb_gk hk) ff_12_0 wd_977 rfl ?_
  refine bb_bipush (pc2 := 152) rfl dX12_init_150 lt_b_6 ?_
  refine bb_iload_n (pc2 := 153) rfl dX12_init_152 rfl ?_
  refine bb_iaddl (z := (9 : Int32)) (pc2 := 154) rfl dX12_init_153 (by decide) ?_
  refine bb_iload_n (pc2 := 155) rfl dX12_init_154 rfl ?_
  refine bb_iast (ws0.length + 0) (ws2 := ws0.set k (a, .inr (12, [.ref q1, .ref q2, .ref q3, .int 0, .ref q4, .int 0, .int 0, .int 0, .int 0, .ref q5, .ref q6, .ref q7, .int 0, .ref q8, .int 0, .int 0, .ref q9, .ref q10, .ref q11, .ref q12])) ++ [(q1, .inl (cK 0, 450, .inl ia_cb_X12_21)), (q2, .inl (cK 0, 450, .inl (fun _ => 0))), (q3, .inl (cK 0, 116, .inl (fun _ => 0))), (q4, .inl (cK 0, 7, .inl (fun _ => 0))), (q5, .inl (cK 0, 124, .inl (fun _ => 0))), (q6, .inl (cK 0, 128, .inl (fun _ => 0))), (q7, .inl (cK 0, 64, .inl (fun _ => 0))), (q8, .inl (cK 0, 30, .inl (fun _ => 0))), (q9, .inl (cK 0, 4, .inl (fun _ => 0))), (q10, .inl (cK 0, 4, .inl (fun _ => 0))), (q11, .inl (cK 0, 96, .inl (fun _ => 0))), (q12, .inl (cK 0, 24, .inl (fun _ => 0)))]) (pc2 := 156) rfl dX12_init_155 (bb_gn.trans rfl) (by decide) (bb_sn.trans rfl) ?_
  refine bb_iinc (v := (4 : Int32)) (L2 := [some (.ref a), some (.int (4 : Int32))]) (pc2 := 159) rfl dX12_init_156 rfl (by decide) (by decide) rfl rfl ?_
  refine bb_goto (tgt := 140) dX12_init_159 (by decide) ?_
  refine bb_iload_n (pc2 := 141) rfl dX12_init_140 rfl ?_
  refine bb_bipush (pc2 := 143) rfl dX12_init_141 lt_b_6 ?_
  refine bb_icmp_ge (tgt := 162) (pc2 := 146) rfl dX12_init_143 (by decide) (fun hc => ?_) (fun hc => ?_)
  · exact absurd hc (by decide)
  refine bb_aload_n (pc2 := 147) rfl dX12_init_146 rfl ?_
  refine bb_get k 12 0 (v := .ref q1) (pc2 := 150) rfl dX12_init_147 (bb_gk hk) ff_12_0 wd_977 rfl ?_
  refine bb_bipush (pc2 := 152) rfl dX12_init_150 lt_b_6 ?_
  refine bb_iload_n (pc2 := 153) rfl dX12_init_152 rfl ?_
  refine bb_iaddl (z := (10 : Int32)) (pc2 := 154) rfl dX12_init_153 (by decide) ?_
  refine bb_iload_n (pc2 := 155) rfl dX12_init_154 rfl ?_
  refine bb_iast (ws0.length + 0) (ws2 := ws0.set k (a, .inr (12, [.ref q1, .ref q2, .ref q3, .int 0, .ref q4, .int 0, .int 0, .int 0, .int 0, .ref q5, .ref q6, .ref q7, .int 0, .ref q8, .int 0, .int 0, .ref q9, .ref q10, .ref q11, .ref q12])) ++ [(q1, .inl (cK 0, 450, .inl ia_cb_X12_22)), (q2, .inl (cK 0, 450, .inl (fun _ => 0))), (q3, .inl (cK 0, 116, .inl (fun _ => 0))), (q4, .inl (cK 0, 7, .inl (fun _ => 0))), (q5, .inl (cK 0, 124, .inl (fun _ => 0))), (q6, .inl (cK 0, 128, .inl (fun _ => 0))), (q7, .inl (cK 0, 64, .inl (fun _ => 0))), (q8, .inl (cK 0, 30, .inl (fun _ => 0))), (q9, .inl (cK 0, 4, .inl (fun _ => 0))), (q10, .inl (cK 0, 4, .inl (fun _ => 0))), (q11, .inl (cK 0, 96, .inl (fun _ => 0))), (q12, .inl (cK 0, 24, .inl (fun _ => 0)))]) (pc2 := 156) rfl dX12_init_155 (bb_gn.trans rfl) (by decide) (bb_sn.trans rfl) ?_
  refine bb_iinc (v := (5 : Int32)) (L2 := [some (.ref a), some (.int (5 : Int32))]) (pc2 := 159) rfl dX12_init_156 rfl (by decide) (by decide) rfl rfl ?_
  refine bb_goto (tgt := 140) dX12_init_159 (by decide) ?_
  refine bb_iload_n (pc2 := 141) rfl dX12_init_140 rfl ?_
  refine bb_bipush (pc2 := 143) rfl dX12_init_141 lt_b_6 ?_
  refine bb_icmp_ge (tgt := 162) (pc2 := 146) rfl dX12_init_143 (by decide) (fun hc => ?_) (fun hc => ?_)
  · exact absurd hc (by decide)
  refine bb_aload_n (pc2 := 147) rfl dX12_init_146 rfl ?_
  refine bb_get k 12 0 (v := .ref q1) (pc2 := 150) rfl dX12_init_147 (bb_gk hk) ff_12_0 wd_977 rfl ?_
  refine bb_bipush (pc2 := 152) rfl dX12_init_150 lt_b_6 ?_
  refine bb_iload_n (pc2 := 153) rfl dX12_init_152 rfl ?_
  refine bb_iaddl (z := (11 : Int32)) (pc2 := 154) rfl dX12_init_153 (by decide) ?_
  refine bb_iload_n (pc2 := 155) rfl dX12_init_154 rfl ?_
  refine bb_iast (ws0.length + 0) (ws2 := ws0.set k (a, .inr (12, [.ref q1, .ref q2, .ref q3, .int 0, .ref q4, .int 0, .int 0, .int 0, .int 0, .ref q5, .ref q6, .ref q7, .int 0, .ref q8, .int 0, .int 0, .ref q9, .ref q10, .ref q11, .ref q12])) ++ [(q1, .inl (cK 0, 450, .inl ia_cb_X12_23)), (q2, .inl (cK 0, 450, .inl (fun _ => 0))), (q3, .inl (cK 0, 116, .inl (fun _ => 0))), (q4, .inl (cK 0, 7, .inl (fun _ => 0))), (q5, .inl (cK 0, 124, .inl (fun _ => 0))), (q6, .inl (cK 0, 128, .inl (fun _ => 0))), (q7, .inl (cK 0, 64, .inl (fun _ => 0))), (q8, .inl (cK 0, 30, .inl (fun _ => 0))), (q9, .inl (cK 0, 4, .inl (fun _ => 0))), (q10, .inl (cK 0, 4, .inl (fun _ => 0))), (q11, .inl (cK 0, 96, .inl (fun _ => 0))), (q12, .inl (cK 0, 24, .inl (fun _ => 0)))]) (pc2 := 156) rfl dX12_init_155 (bb_gn.trans rfl) (by decide) (bb_sn.trans rfl) ?_
  refine bb_iinc (v := (6 : Int32)) (L2 := [some (.ref a), some (.int (6 : Int32))]) (pc2 := 159) rfl dX12_init_156 rfl (by decide) (by decide) rfl rfl ?_
  refine bb_goto (tgt := 140) dX12_init_159 (by decide) ?_
  refine bb_iload_n (pc2 := 141) rfl dX12_init_140 rfl ?_
  refine bb_bipush (pc2 := 143) rfl dX12_init_141 lt_b_6 ?_
  refine bb_icmp_ge (tgt := 162) (pc2 := 146) rfl dX12_init_143 (by decide) (fun hc => ?_) (fun hc => ?_)
  rotate_left
  · exact absurd (by decide) hc
  exact bb_ret dX12_init_162 rfl rfl ⟨q1, q2, q3, q4, q5, q6, q7, q8, q9, q10, q11, q12, rfl⟩
