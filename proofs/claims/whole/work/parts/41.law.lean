/-! The law, whole. -/
def jl_law (L : Nat) (xs : Nat → Int32) : sf_M Int32 :=
  sf_bnd (sf_new 0 13) fun x1 =>
  sf_bnd (sf_rc 0 x1 (jx_SF_init x1)) fun _ =>
  sf_bnd (sf_new 11 53) fun x3 =>
  sf_bnd (sf_rc 11 x3 (jx_Mo_init x3)) fun _ =>
  sf_or (α := Int32) (β := (Unit)) (sf_loop (β := (Int32)) (γ := (Int32 ⊕ (Unit))) (fun b5 =>
  if ((Int32.ofNat L) - (6 : Int32)) < b5 then (
  sf_ret (.inr (.inr ()))
  ) else (
  sf_bnd (sf_scr L xs b5) fun x7 =>
  if (x7 &&& (63 : Int32)) = (0 : Int32) then jl_0 L xs b5 x1 x3 else (
  if (x7 &&& (63 : Int32)) = (1 : Int32) then jl_1 L xs b5 x1 x3 else (
  if (x7 &&& (63 : Int32)) = (2 : Int32) then jl_2 L xs b5 x1 x3 else (
  if (x7 &&& (63 : Int32)) = (3 : Int32) then jl_3 L xs b5 x1 x3 else (
  if (x7 &&& (63 : Int32)) = (4 : Int32) then jl_4 L xs b5 x1 x3 else (
  if (x7 &&& (63 : Int32)) = (5 : Int32) then jl_5 L xs b5 x1 x3 else (
  if (x7 &&& (63 : Int32)) = (6 : Int32) then jl_6 L xs b5 x1 x3 else (
  if (x7 &&& (63 : Int32)) = (7 : Int32) then jl_7 L xs b5 x1 x3 else (
  if (x7 &&& (63 : Int32)) = (8 : Int32) then jl_8 L xs b5 x1 x3 else (
  if (x7 &&& (63 : Int32)) = (9 : Int32) then jl_9 L xs b5 x1 x3 else (
  if (x7 &&& (63 : Int32)) = (10 : Int32) then jl_10 L xs b5 x1 x3 else (
  if (x7 &&& (63 : Int32)) = (11 : Int32) then jl_11 L xs b5 x1 x3 else (
  if (x7 &&& (63 : Int32)) = (12 : Int32) then jl_12 L xs b5 x1 x3 else (
  if (x7 &&& (63 : Int32)) = (13 : Int32) then jl_13 L xs b5 x1 x3 else (
  if (x7 &&& (63 : Int32)) = (14 : Int32) then jl_14 L xs b5 x1 x3 else (
  if (x7 &&& (63 : Int32)) = (15 : Int32) then jl_15 L xs b5 x1 x3 else (
  if (x7 &&& (63 : Int32)) = (16 : Int32) then jl_16 L xs b5 x1 x3 else (
  if (x7 &&& (63 : Int32)) = (17 : Int32) then jl_17 L xs b5 x1 x3 else (
  if (x7 &&& (63 : Int32)) = (18 : Int32) then jl_18 L xs b5 x1 x3 else (
  if (x7 &&& (63 : Int32)) = (19 : Int32) then jl_19 L xs b5 x1 x3 else (
  if (x7 &&& (63 : Int32)) = (20 : Int32) then jl_20 L xs b5 x1 x3 else (
  if (x7 &&& (63 : Int32)) = (21 : Int32) then jl_21 L xs b5 x1 x3 else (
  if (x7 &&& (63 : Int32)) = (22 : Int32) then jl_22 L xs b5 x1 x3 else (
  if (x7 &&& (63 : Int32)) = (23 : Int32) then jl_23 L xs b5 x1 x3 else (
  if (x7 &&& (63 : Int32)) = (24 : Int32) then jl_24 L xs b5 x1 x3 else (
  if (x7 &&& (63 : Int32)) = (25 : Int32) then jl_25 L xs b5 x1 x3 else (
  if (x7 &&& (63 : Int32)) = (26 : Int32) then jl_26 L xs b5 x1 x3 else (
  if (x7 &&& (63 : Int32)) = (27 : Int32) then jl_27 L xs b5 x1 x3 else (
  if (x7 &&& (63 : Int32)) = (28 : Int32) then jl_28 L xs b5 x1 x3 else (
  if (x7 &&& (63 : Int32)) = (29 : Int32) then jl_29 L xs b5 x1 x3 else (
  if (x7 &&& (63 : Int32)) = (30 : Int32) then jl_30 L xs b5 x1 x3 else (
  if (x7 &&& (63 : Int32)) = (31 : Int32) then jl_31 L xs b5 x1 x3 else (
  if (x7 &&& (63 : Int32)) = (32 : Int32) then jl_32 L xs b5 x1 x3 else (
  if (x7 &&& (63 : Int32)) = (33 : Int32) then jl_33 L xs b5 x1 x3 else (
  if (x7 &&& (63 : Int32)) = (34 : Int32) then jl_34 L xs b5 x1 x3 else (
  if (x7 &&& (63 : Int32)) = (35 : Int32) then jl_35 L xs b5 x1 x3 else (
  if (x7 &&& (63 : Int32)) = (36 : Int32) then jl_36 L xs b5 x1 x3 else (
  if (x7 &&& (63 : Int32)) = (37 : Int32) then jl_37 L xs b5 x1 x3 else (
  if (x7 &&& (63 : Int32)) = (38 : Int32) then jl_38 L xs b5 x1 x3 else (
  if (x7 &&& (63 : Int32)) = (39 : Int32) then jl_39 L xs b5 x1 x3 else (
  if (x7 &&& (63 : Int32)) = (40 : Int32) then jl_40 L xs b5 x1 x3 else (
  if (x7 &&& (63 : Int32)) = (41 : Int32) then jl_41 L xs b5 x1 x3 else (
  sf_bnd (sf_ret (b5 + (6 : Int32))) fun y8 =>
  sf_ret (.inl y8)
  )
  )
  )
  )
  )
  )
  )
  )
  )
  )
  )
  )
  )
  )
  )
  )
  )
  )
  )
  )
  )
  )
  )
  )
  )
  )
  )
  )
  )
  )
  )
  )
  )
  )
  )
  )
  )
  )
  )
  )
  )
  )
  )
  ) sf_fuel (0 : Int32)) (fun e9 =>
  sf_ret (1 : Int32)
  )
set_option maxRecDepth 20000 in
set_option maxHeartbeats 4000000 in
theorem fl_law (X : sf_X) (L : Nat) (xs : Nat → Int32) (hS : sf_Scr X L xs) : sf_Fr X sf_ZL (sf_p 0 [some (.double 60), none, none, none] []) (jl_law L xs) (fun r => .inr (some (.int r))) := by
  unfold jl_law
  refine fr_new cl_0 sw_21 sw_22 sw_1 dd_Law_law_0 (fun x1 => fr_pc (pc' := 3) rfl ?_)
  refine fp_dup_r dd_Law_law_3 (fr_pc (pc' := 4) rfl ?_)
  refine fr_callI (stk := [sf_rv x1]) (As := []) (ci := 0) (by decide) rfl (ok_SF_init x1) mt_SF_init rfl rfl sw_23 sw_24 (by decide) (Nat.le_of_ble_eq_true rfl) dd_Law_law_4 (fun u2 => fr_to (pc' := 7) (env' := [some (.double 60), none, none, none]) (stk' := [sf_rv x1]) rfl rfl rfl ?_)
  refine fp_astore_n (i := 1) dd_Law_law_7 rfl (Nat.le_of_ble_eq_true rfl) (fun _ => c1_d rfl) (fr_to (pc' := 8) (env' := [some (.double 60), some (sf_rv x1), none, none]) (stk' := []) rfl rfl rfl ?_)
  refine fr_new cl_11 sw_1066 sw_1067 sw_12 dd_Law_law_8 (fun x3 => fr_pc (pc' := 11) rfl ?_)
  refine fp_dup_r dd_Law_law_11 (fr_pc (pc' := 12) rfl ?_)
  refine fr_callI (stk := [sf_rv x3]) (As := []) (ci := 11) (by decide) rfl (ok_Mo_init x3) mt_Mo_init rfl rfl sw_1068 sw_1069 (by decide) (Nat.le_of_ble_eq_true rfl) dd_Law_law_12 (fun u4 => fr_to (pc' := 15) (env' := [some (.double 60), some (sf_rv x1), none, none]) (stk' := [sf_rv x3]) rfl rfl rfl ?_)
  refine fp_astore_n (i := 2) dd_Law_law_15 rfl (Nat.le_of_ble_eq_true rfl) (fun _ => c1_r rfl) (fr_to (pc' := 16) (env' := [some (.double 60), some (sf_rv x1), some (sf_rv x3), none]) (stk' := []) rfl rfl rfl ?_)
  refine fp_iconst (v := (0 : Int32)) dd_Law_law_16 (by decide) (fr_pc (pc' := 17) rfl ?_)
  refine fp_istore_n (i := 3) dd_Law_law_17 rfl (Nat.le_of_ble_eq_true rfl) (fun _ => c1_r rfl) (fr_to (pc' := 18) (env' := [some (.double 60), some (sf_rv x1), some (sf_rv x3), some (.int (0 : Int32))]) (stk' := []) rfl rfl rfl ?_)
  refine fr_to (pc' := 18) (env' := [some (.double 60), some (sf_rv x1), some (sf_rv x3), some (.int (0 : Int32))]) (stk' := []) rfl rfl rfl ?_
  refine fr_or (l1 := (fun (e9 : (Unit)) => sf_p 1489 [some (.double 60), some (sf_rv x1), some (sf_rv x3), none] [])) (fr_loop (Lb := (fun (b5 : (Int32)) => sf_p 18 [some (.double 60), some (sf_rv x1), some (sf_rv x3), some (.int b5)] [])) (fun b5 => ?_) _ _) (fun e9 => ?_)
  · refine fp_iload_n (i := 3) (x := b5) dd_Law_law_18 rfl rfl (fr_pc (pc' := 19) rfl ?_)
    refine fp_aload_nd (i := 0) (x := 60) dd_Law_law_19 rfl rfl (fr_pc (pc' := 20) rfl ?_)
    refine fp_scrlen hS dd_Law_law_20 (fr_pc (pc' := 21) rfl ?_)
    refine fp_bipush (v := (6 : Int32)) dd_Law_law_21 (by decide) (fr_pc (pc' := 23) rfl ?_)
    refine fp_isub dd_Law_law_23 (fr_pc (pc' := 24) rfl ?_)
    refine fr_icmp_gt (tgt := 1489) dd_Law_law_24 rfl (fun _ => ?_) (fun _ => ?_)
    · refine fr_wk [true, true, true, false] ?_
      exact fr_ret rfl
    · refine fr_pc (pc' := 27) rfl ?_
      refine fp_aload_nd (i := 0) (x := 60) dd_Law_law_27 rfl rfl (fr_pc (pc' := 28) rfl ?_)
      refine fp_iload_n (i := 3) (x := b5) dd_Law_law_28 rfl rfl (fr_pc (pc' := 29) rfl ?_)
      refine fr_scr hS dd_Law_law_29 (fun x7 => fr_pc (pc' := 30) rfl ?_)
      refine fp_bipush (v := (63 : Int32)) dd_Law_law_30 (by decide) (fr_pc (pc' := 32) rfl ?_)
      refine fp_iand dd_Law_law_32 (fr_pc (pc' := 33) rfl ?_)
      refine fp_tsw (ts := [216, 259, 292, 335, 388, 431, 464, 527, 550, 563, 576, 589, 602, 615, 628, 651, 694, 727, 750, 763, 776, 829, 882, 925, 968, 1021, 1064, 1097, 1130, 1143, 1186, 1219, 1232, 1245, 1268, 1302, 1345, 1378, 1401, 1424, 1447, 1470]) (t0 := 1483) (cs := [((0 : Int32), 216), ((1 : Int32), 259), ((2 : Int32), 292), ((3 : Int32), 335), ((4 : Int32), 388), ((5 : Int32), 431), ((6 : Int32), 464), ((7 : Int32), 527), ((8 : Int32), 550), ((9 : Int32), 563), ((10 : Int32), 576), ((11 : Int32), 589), ((12 : Int32), 602), ((13 : Int32), 615), ((14 : Int32), 628), ((15 : Int32), 651), ((16 : Int32), 694), ((17 : Int32), 727), ((18 : Int32), 750), ((19 : Int32), 763), ((20 : Int32), 776), ((21 : Int32), 829), ((22 : Int32), 882), ((23 : Int32), 925), ((24 : Int32), 968), ((25 : Int32), 1021), ((26 : Int32), 1064), ((27 : Int32), 1097), ((28 : Int32), 1130), ((29 : Int32), 1143), ((30 : Int32), 1186), ((31 : Int32), 1219), ((32 : Int32), 1232), ((33 : Int32), 1245), ((34 : Int32), 1268), ((35 : Int32), 1302), ((36 : Int32), 1345), ((37 : Int32), 1378), ((38 : Int32), 1401), ((39 : Int32), 1424), ((40 : Int32), 1447), ((41 : Int32), 1470)]) dd_Law_law_33 (by decide) rfl ?_
      refine fr_sw (fun _ => ?_) (fun _ => ?_)
      · refine fr_land (fun r => ?_) (fl_0 X L xs hS b5 x1 x3)
        cases r with
        | inl b => rfl
        | inr g => cases g <;> rfl
      · refine fr_sw (fun _ => ?_) (fun _ => ?_)
        · refine fr_land (fun r => ?_) (fl_1 X L xs hS b5 x1 x3)
          cases r with
          | inl b => rfl
          | inr g => cases g <;> rfl
        · refine fr_sw (fun _ => ?_) (fun _ => ?_)
          · refine fr_land (fun r => ?_) (fl_2 X L xs hS b5 x1 x3)
            cases r with
            | inl b => rfl
            | inr g => cases g <;> rfl
          · refine fr_sw (fun _ => ?_) (fun _ => ?_)
            · refine fr_land (fun r => ?_) (fl_3 X L xs hS b5 x1 x3)
              cases r with
              | inl b => rfl
              | inr g => cases g <;> rfl
            · refine fr_sw (fun _ => ?_) (fun _ => ?_)
              · refine fr_land (fun r => ?_) (fl_4 X L xs hS b5 x1 x3)
                cases r with
                | inl b => rfl
                | inr g => cases g <;> rfl
              · refine fr_sw (fun _ => ?_) (fun _ => ?_)
                · refine fr_land (fun r => ?_) (fl_5 X L xs hS b5 x1 x3)
                  cases r with
                  | inl b => rfl
                  | inr g => cases g <;> rfl
                · refine fr_sw (fun _ => ?_) (fun _ => ?_)
                  · refine fr_land (fun r => ?_) (fl_6 X L xs hS b5 x1 x3)
                    cases r with
                    | inl b => rfl
                    | inr g => cases g <;> rfl
                  · refine fr_sw (fun _ => ?_) (fun _ => ?_)
                    · refine fr_land (fun r => ?_) (fl_7 X L xs hS b5 x1 x3)
                      cases r with
                      | inl b => rfl
                      | inr g => cases g <;> rfl
                    · refine fr_sw (fun _ => ?_) (fun _ => ?_)
                      · refine fr_land (fun r => ?_) (fl_8 X L xs hS b5 x1 x3)
                        cases r with
                        | inl b => rfl
                        | inr g => cases g <;> rfl
                      · refine fr_sw (fun _ => ?_) (fun _ => ?_)
                        · refine fr_land (fun r => ?_) (fl_9 X L xs hS b5 x1 x3)
                          cases r with
                          | inl b => rfl
                          | inr g => cases g <;> rfl
                        · refine fr_sw (fun _ => ?_) (fun _ => ?_)
                          · refine fr_land (fun r => ?_) (fl_10 X L xs hS b5 x1 x3)
                            cases r with
                            | inl b => rfl
                            | inr g => cases g <;> rfl
                          · refine fr_sw (fun _ => ?_) (fun _ => ?_)
                            · refine fr_land (fun r => ?_) (fl_11 X L xs hS b5 x1 x3)
                              cases r with
                              | inl b => rfl
                              | inr g => cases g <;> rfl
                            · refine fr_sw (fun _ => ?_) (fun _ => ?_)
                              · refine fr_land (fun r => ?_) (fl_12 X L xs hS b5 x1 x3)
                                cases r with
                                | inl b => rfl
                                | inr g => cases g <;> rfl
                              · refine fr_sw (fun _ => ?_) (fun _ => ?_)
                                · refine fr_land (fun r => ?_) (fl_13 X L xs hS b5 x1 x3)
                                  cases r with
                                  | inl b => rfl
                                  | inr g => cases g <;> rfl
                                · refine fr_sw (fun _ => ?_) (fun _ => ?_)
                                  · refine fr_land (fun r => ?_) (fl_14 X L xs hS b5 x1 x3)
                                    cases r with
                                    | inl b => rfl
                                    | inr g => cases g <;> rfl
                                  · refine fr_sw (fun _ => ?_) (fun _ => ?_)
                                    · refine fr_land (fun r => ?_) (fl_15 X L xs hS b5 x1 x3)
                                      cases r with
                                      | inl b => rfl
                                      | inr g => cases g <;> rfl
                                    · refine fr_sw (fun _ => ?_) (fun _ => ?_)
                                      · refine fr_land (fun r => ?_) (fl_16 X L xs hS b5 x1 x3)
                                        cases r with
                                        | inl b => rfl
                                        | inr g => cases g <;> rfl
                                      · refine fr_sw (fun _ => ?_) (fun _ => ?_)
                                        · refine fr_land (fun r => ?_) (fl_17 X L xs hS b5 x1 x3)
                                          cases r with
                                          | inl b => rfl
                                          | inr g => cases g <;> rfl
                                        · refine fr_sw (fun _ => ?_) (fun _ => ?_)
                                          · refine fr_land (fun r => ?_) (fl_18 X L xs hS b5 x1 x3)
                                            cases r with
                                            | inl b => rfl
                                            | inr g => cases g <;> rfl
                                          · refine fr_sw (fun _ => ?_) (fun _ => ?_)
                                            · refine fr_land (fun r => ?_) (fl_19 X L xs hS b5 x1 x3)
                                              cases r with
                                              | inl b => rfl
                                              | inr g => cases g <;> rfl
                                            · refine fr_sw (fun _ => ?_) (fun _ => ?_)
                                              · refine fr_land (fun r => ?_) (fl_20 X L xs hS b5 x1 x3)
                                                cases r with
                                                | inl b => rfl
                                                | inr g => cases g <;> rfl
                                              · refine fr_sw (fun _ => ?_) (fun _ => ?_)
                                                · refine fr_land (fun r => ?_) (fl_21 X L xs hS b5 x1 x3)
                                                  cases r with
                                                  | inl b => rfl
                                                  | inr g => cases g <;> rfl
                                                · refine fr_sw (fun _ => ?_) (fun _ => ?_)
                                                  · refine fr_land (fun r => ?_) (fl_22 X L xs hS b5 x1 x3)
                                                    cases r with
                                                    | inl b => rfl
                                                    | inr g => cases g <;> rfl
                                                  · refine fr_sw (fun _ => ?_) (fun _ => ?_)
                                                    · refine fr_land (fun r => ?_) (fl_23 X L xs hS b5 x1 x3)
                                                      cases r with
                                                      | inl b => rfl
                                                      | inr g => cases g <;> rfl
                                                    · refine fr_sw (fun _ => ?_) (fun _ => ?_)
                                                      · refine fr_land (fun r => ?_) (fl_24 X L xs hS b5 x1 x3)
                                                        cases r with
                                                        | inl b => rfl
                                                        | inr g => cases g <;> rfl
                                                      · refine fr_sw (fun _ => ?_) (fun _ => ?_)
                                                        · refine fr_land (fun r => ?_) (fl_25 X L xs hS b5 x1 x3)
                                                          cases r with
                                                          | inl b => rfl
                                                          | inr g => cases g <;> rfl
                                                        · refine fr_sw (fun _ => ?_) (fun _ => ?_)
                                                          · refine fr_land (fun r => ?_) (fl_26 X L xs hS b5 x1 x3)
                                                            cases r with
                                                            | inl b => rfl
                                                            | inr g => cases g <;> rfl
                                                          · refine fr_sw (fun _ => ?_) (fun _ => ?_)
                                                            · refine fr_land (fun r => ?_) (fl_27 X L xs hS b5 x1 x3)
                                                              cases r with
                                                              | inl b => rfl
                                                              | inr g => cases g <;> rfl
                                                            · refine fr_sw (fun _ => ?_) (fun _ => ?_)
                                                              · refine fr_land (fun r => ?_) (fl_28 X L xs hS b5 x1 x3)
                                                                cases r with
                                                                | inl b => rfl
                                                                | inr g => cases g <;> rfl
                                                              · refine fr_sw (fun _ => ?_) (fun _ => ?_)
                                                                · refine fr_land (fun r => ?_) (fl_29 X L xs hS b5 x1 x3)
                                                                  cases r with
                                                                  | inl b => rfl
                                                                  | inr g => cases g <;> rfl
                                                                · refine fr_sw (fun _ => ?_) (fun _ => ?_)
                                                                  · refine fr_land (fun r => ?_) (fl_30 X L xs hS b5 x1 x3)
                                                                    cases r with
                                                                    | inl b => rfl
                                                                    | inr g => cases g <;> rfl
                                                                  · refine fr_sw (fun _ => ?_) (fun _ => ?_)
                                                                    · refine fr_land (fun r => ?_) (fl_31 X L xs hS b5 x1 x3)
                                                                      cases r with
                                                                      | inl b => rfl
                                                                      | inr g => cases g <;> rfl
                                                                    · refine fr_sw (fun _ => ?_) (fun _ => ?_)
                                                                      · refine fr_land (fun r => ?_) (fl_32 X L xs hS b5 x1 x3)
                                                                        cases r with
                                                                        | inl b => rfl
                                                                        | inr g => cases g <;> rfl
                                                                      · refine fr_sw (fun _ => ?_) (fun _ => ?_)
                                                                        · refine fr_land (fun r => ?_) (fl_33 X L xs hS b5 x1 x3)
                                                                          cases r with
                                                                          | inl b => rfl
                                                                          | inr g => cases g <;> rfl
                                                                        · refine fr_sw (fun _ => ?_) (fun _ => ?_)
                                                                          · refine fr_land (fun r => ?_) (fl_34 X L xs hS b5 x1 x3)
                                                                            cases r with
                                                                            | inl b => rfl
                                                                            | inr g => cases g <;> rfl
                                                                          · refine fr_sw (fun _ => ?_) (fun _ => ?_)
                                                                            · refine fr_land (fun r => ?_) (fl_35 X L xs hS b5 x1 x3)
                                                                              cases r with
                                                                              | inl b => rfl
                                                                              | inr g => cases g <;> rfl
                                                                            · refine fr_sw (fun _ => ?_) (fun _ => ?_)
                                                                              · refine fr_land (fun r => ?_) (fl_36 X L xs hS b5 x1 x3)
                                                                                cases r with
                                                                                | inl b => rfl
                                                                                | inr g => cases g <;> rfl
                                                                              · refine fr_sw (fun _ => ?_) (fun _ => ?_)
                                                                                · refine fr_land (fun r => ?_) (fl_37 X L xs hS b5 x1 x3)
                                                                                  cases r with
                                                                                  | inl b => rfl
                                                                                  | inr g => cases g <;> rfl
                                                                                · refine fr_sw (fun _ => ?_) (fun _ => ?_)
                                                                                  · refine fr_land (fun r => ?_) (fl_38 X L xs hS b5 x1 x3)
                                                                                    cases r with
                                                                                    | inl b => rfl
                                                                                    | inr g => cases g <;> rfl
                                                                                  · refine fr_sw (fun _ => ?_) (fun _ => ?_)
                                                                                    · refine fr_land (fun r => ?_) (fl_39 X L xs hS b5 x1 x3)
                                                                                      cases r with
                                                                                      | inl b => rfl
                                                                                      | inr g => cases g <;> rfl
                                                                                    · refine fr_sw (fun _ => ?_) (fun _ => ?_)
                                                                                      · refine fr_land (fun r => ?_) (fl_40 X L xs hS b5 x1 x3)
                                                                                        cases r with
                                                                                        | inl b => rfl
                                                                                        | inr g => cases g <;> rfl
                                                                                      · refine fr_sw (fun _ => ?_) (fun _ => ?_)
                                                                                        · refine fr_land (fun r => ?_) (fl_41 X L xs hS b5 x1 x3)
                                                                                          cases r with
                                                                                          | inl b => rfl
                                                                                          | inr g => cases g <;> rfl
                                                                                        · refine fr_pc (pc' := 1483) rfl ?_
                                                                                          refine fr_niinc (i := 3) (x := b5) (w := (6 : Int32)) dd_Law_law_1483 rfl (by decide) (Nat.le_of_ble_eq_true rfl) (fun _ => c1_r rfl) (fun y8 => fr_to (pc' := 1486) (env' := [some (.double 60), some (sf_rv x1), some (sf_rv x3), some (.int y8)]) (stk' := []) rfl rfl rfl ?_)
                                                                                          refine fp_goto (tgt := 18) dd_Law_law_1486 rfl ?_
                                                                                          exact fr_ret rfl
  · refine fp_iconst (v := (1 : Int32)) dd_Law_law_1489 (by decide) (fr_pc (pc' := 1490) rfl ?_)
    exact fr_zret0 (v := (1 : Int32)) (Or.inr rfl) rfl rfl dd_Law_law_1490
