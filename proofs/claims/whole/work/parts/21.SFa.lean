/-! SFa: its methods as plain functions, and that the bytecode runs them (printed by program). -/
theorem mt_SF_isStation : sf_Mt ({ cls := "SplitFares", name := "isStation", desc := "(I)Z" } : Jvm.MethodName) prog_1_method_44_code 1 (some .boolean) 1 := ⟨sw_402, sw_1, ⟨by decide, by decide, by decide +kernel⟩, by decide⟩
theorem dd_SF_isStation_0 : decode prog_1_method_44_code 0 = .ok (.iload_n 0, 1) := by decide +kernel
theorem dd_SF_isStation_1 : decode prog_1_method_44_code 1 = .ok (.ifCond .lt 13, 3) := by decide +kernel
theorem dd_SF_isStation_4 : decode prog_1_method_44_code 4 = .ok (.iload_n 0, 1) := by decide +kernel
theorem dd_SF_isStation_5 : decode prog_1_method_44_code 5 = .ok (.bipush 8, 2) := by decide +kernel
theorem dd_SF_isStation_7 : decode prog_1_method_44_code 7 = .ok (.if_icmp .ge 7, 3) := by decide +kernel
theorem dd_SF_isStation_10 : decode prog_1_method_44_code 10 = .ok (.iconst 1, 1) := by decide +kernel
theorem dd_SF_isStation_11 : decode prog_1_method_44_code 11 = .ok (.goto 4, 3) := by decide +kernel
theorem dd_SF_isStation_14 : decode prog_1_method_44_code 14 = .ok (.iconst 0, 1) := by decide +kernel
theorem dd_SF_isStation_15 : decode prog_1_method_44_code 15 = .ok (.ireturn, 1) := by decide +kernel
def jx_SF_isStation (p0 : Int32) : sf_M (Int32) :=
  if p0 < 0 then (
  sf_ret (0 : Int32)
  ) else (
  if (8 : Int32) ≤ p0 then (
  sf_ret (0 : Int32)
  ) else (
  sf_ret (1 : Int32)
  )
  )
set_option maxRecDepth 20000 in
set_option maxHeartbeats 4000000 in
theorem ok_SF_isStation (p0 : Int32) : sf_Ok ({ cls := "SplitFares", name := "isStation", desc := "(I)Z" } : Jvm.MethodName) prog_1_method_44_code 1 (some .boolean) 0 [.int p0] (jx_SF_isStation p0) (fun r => some (.int r)) := by
  refine sf_Ok.of (env := [some (.int p0)]) (plainFor_of_name (by decide)) [false] (fun G => ⟨pk_i, trivial⟩) (Nat.le_of_ble_eq_true rfl) rfl (fun X => ?_)
  unfold jx_SF_isStation
  refine fp_iload_n (i := 0) (x := p0) dd_SF_isStation_0 rfl rfl (fr_pc (pc' := 1) rfl ?_)
  refine fr_if_lt (tgt := 14) dd_SF_isStation_1 rfl (fun _ => ?_) (fun _ => ?_)
  · refine fp_iconst (v := (0 : Int32)) dd_SF_isStation_14 (by decide) (fr_pc (pc' := 15) rfl ?_)
    exact fr_zret0 (v := (0 : Int32)) (Or.inl rfl) rfl rfl dd_SF_isStation_15
  · refine fr_pc (pc' := 4) rfl ?_
    refine fp_iload_n (i := 0) (x := p0) dd_SF_isStation_4 rfl rfl (fr_pc (pc' := 5) rfl ?_)
    refine fp_bipush (v := (8 : Int32)) dd_SF_isStation_5 (by decide) (fr_pc (pc' := 7) rfl ?_)
    refine fr_icmp_ge (tgt := 14) dd_SF_isStation_7 rfl (fun _ => ?_) (fun _ => ?_)
    · refine fp_iconst (v := (0 : Int32)) dd_SF_isStation_14 (by decide) (fr_pc (pc' := 15) rfl ?_)
      exact fr_zret0 (v := (0 : Int32)) (Or.inl rfl) rfl rfl dd_SF_isStation_15
    · refine fr_pc (pc' := 10) rfl ?_
      refine fp_iconst (v := (1 : Int32)) dd_SF_isStation_10 (by decide) (fr_pc (pc' := 11) rfl ?_)
      refine fp_goto (tgt := 15) dd_SF_isStation_11 rfl ?_
      exact fr_zret0 (v := (1 : Int32)) (Or.inr rfl) rfl rfl dd_SF_isStation_15
theorem mt_SF_isLeg : sf_Mt ({ cls := "SplitFares", name := "isLeg", desc := "(II)Z" } : Jvm.MethodName) prog_1_method_45_code 2 (some .boolean) 2 := ⟨sw_399, sw_1, ⟨by decide, by decide, by decide +kernel⟩, by decide⟩
theorem dd_SF_isLeg_0 : decode prog_1_method_45_code 0 = .ok (.iload_n 0, 1) := by decide +kernel
theorem dd_SF_isLeg_1 : decode prog_1_method_45_code 1 = .ok (.invokestatic 310, 3) := by decide +kernel
theorem dd_SF_isLeg_4 : decode prog_1_method_45_code 4 = .ok (.ifCond .eq 19, 3) := by decide +kernel
theorem dd_SF_isLeg_7 : decode prog_1_method_45_code 7 = .ok (.iload_n 1, 1) := by decide +kernel
theorem dd_SF_isLeg_8 : decode prog_1_method_45_code 8 = .ok (.invokestatic 310, 3) := by decide +kernel
theorem dd_SF_isLeg_11 : decode prog_1_method_45_code 11 = .ok (.ifCond .eq 12, 3) := by decide +kernel
theorem dd_SF_isLeg_14 : decode prog_1_method_45_code 14 = .ok (.iload_n 0, 1) := by decide +kernel
theorem dd_SF_isLeg_15 : decode prog_1_method_45_code 15 = .ok (.iload_n 1, 1) := by decide +kernel
theorem dd_SF_isLeg_16 : decode prog_1_method_45_code 16 = .ok (.if_icmp .eq 7, 3) := by decide +kernel
theorem dd_SF_isLeg_19 : decode prog_1_method_45_code 19 = .ok (.iconst 1, 1) := by decide +kernel
theorem dd_SF_isLeg_20 : decode prog_1_method_45_code 20 = .ok (.goto 4, 3) := by decide +kernel
theorem dd_SF_isLeg_23 : decode prog_1_method_45_code 23 = .ok (.iconst 0, 1) := by decide +kernel
theorem dd_SF_isLeg_24 : decode prog_1_method_45_code 24 = .ok (.ireturn, 1) := by decide +kernel
def jx_SF_isLeg (p0 : Int32) (p1 : Int32) : sf_M (Int32) :=
  sf_bnd (jx_SF_isStation p0) fun x1 =>
  if x1 = 0 then (
  sf_ret (0 : Int32)
  ) else (
  sf_bnd (jx_SF_isStation p1) fun x3 =>
  if x3 = 0 then (
  sf_ret (0 : Int32)
  ) else (
  if p0 = p1 then (
  sf_ret (0 : Int32)
  ) else (
  sf_ret (1 : Int32)
  )
  )
  )
set_option maxRecDepth 20000 in
set_option maxHeartbeats 4000000 in
theorem ok_SF_isLeg (p0 : Int32) (p1 : Int32) : sf_Ok ({ cls := "SplitFares", name := "isLeg", desc := "(II)Z" } : Jvm.MethodName) prog_1_method_45_code 2 (some .boolean) 1 [.int p0, .int p1] (jx_SF_isLeg p0 p1) (fun r => some (.int r)) := by
  refine sf_Ok.of (env := [some (.int p0), some (.int p1)]) (plainFor_of_name (by decide)) [false, false] (fun G => ⟨pk_i, pk_i, trivial⟩) (Nat.le_of_ble_eq_true rfl) rfl (fun X => ?_)
  unfold jx_SF_isLeg
  refine fp_iload_n (i := 0) (x := p0) dd_SF_isLeg_0 rfl rfl (fr_pc (pc' := 1) rfl ?_)
  refine fr_callS (stk := []) (ok_SF_isStation p0) mt_SF_isStation rfl rfl sw_400 sw_401 (by decide) (Nat.le_of_ble_eq_true rfl) dd_SF_isLeg_1 (fun x1 => fr_to (pc' := 4) (env' := [some (.int p0), some (.int p1)]) (stk' := [.int x1]) rfl rfl rfl ?_)
  refine fr_if_eq (tgt := 23) dd_SF_isLeg_4 rfl (fun _ => ?_) (fun _ => ?_)
  · refine fp_iconst (v := (0 : Int32)) dd_SF_isLeg_23 (by decide) (fr_pc (pc' := 24) rfl ?_)
    exact fr_zret0 (v := (0 : Int32)) (Or.inl rfl) rfl rfl dd_SF_isLeg_24
  · refine fr_pc (pc' := 7) rfl ?_
    refine fp_iload_n (i := 1) (x := p1) dd_SF_isLeg_7 rfl rfl (fr_pc (pc' := 8) rfl ?_)
    refine fr_callS (stk := []) (ok_SF_isStation p1) mt_SF_isStation rfl rfl sw_400 sw_401 (by decide) (Nat.le_of_ble_eq_true rfl) dd_SF_isLeg_8 (fun x3 => fr_to (pc' := 11) (env' := [some (.int p0), some (.int p1)]) (stk' := [.int x3]) rfl rfl rfl ?_)
    refine fr_if_eq (tgt := 23) dd_SF_isLeg_11 rfl (fun _ => ?_) (fun _ => ?_)
    · refine fp_iconst (v := (0 : Int32)) dd_SF_isLeg_23 (by decide) (fr_pc (pc' := 24) rfl ?_)
      exact fr_zret0 (v := (0 : Int32)) (Or.inl rfl) rfl rfl dd_SF_isLeg_24
    · refine fr_pc (pc' := 14) rfl ?_
      refine fp_iload_n (i := 0) (x := p0) dd_SF_isLeg_14 rfl rfl (fr_pc (pc' := 15) rfl ?_)
      refine fp_iload_n (i := 1) (x := p1) dd_SF_isLeg_15 rfl rfl (fr_pc (pc' := 16) rfl ?_)
      refine fr_icmp_eq (tgt := 23) dd_SF_isLeg_16 rfl (fun _ => ?_) (fun _ => ?_)
      · refine fp_iconst (v := (0 : Int32)) dd_SF_isLeg_23 (by decide) (fr_pc (pc' := 24) rfl ?_)
        exact fr_zret0 (v := (0 : Int32)) (Or.inl rfl) rfl rfl dd_SF_isLeg_24
      · refine fr_pc (pc' := 19) rfl ?_
        refine fp_iconst (v := (1 : Int32)) dd_SF_isLeg_19 (by decide) (fr_pc (pc' := 20) rfl ?_)
        refine fp_goto (tgt := 24) dd_SF_isLeg_20 rfl ?_
        exact fr_zret0 (v := (1 : Int32)) (Or.inr rfl) rfl rfl dd_SF_isLeg_24
theorem mt_SF_isBought : sf_Mt ({ cls := "SplitFares", name := "isBought", desc := "(III)Z" } : Jvm.MethodName) prog_1_method_46_code 3 (some .boolean) 3 := ⟨sw_396, sw_1, ⟨by decide, by decide, by decide +kernel⟩, by decide⟩
theorem dd_SF_isBought_0 : decode prog_1_method_46_code 0 = .ok (.iload_n 0, 1) := by decide +kernel
theorem dd_SF_isBought_1 : decode prog_1_method_46_code 1 = .ok (.ifCond .eq 8, 3) := by decide +kernel
theorem dd_SF_isBought_4 : decode prog_1_method_46_code 4 = .ok (.iload_n 0, 1) := by decide +kernel
theorem dd_SF_isBought_5 : decode prog_1_method_46_code 5 = .ok (.iconst 1, 1) := by decide +kernel
theorem dd_SF_isBought_6 : decode prog_1_method_46_code 6 = .ok (.if_icmp .ne 15, 3) := by decide +kernel
theorem dd_SF_isBought_9 : decode prog_1_method_46_code 9 = .ok (.iload_n 1, 1) := by decide +kernel
theorem dd_SF_isBought_10 : decode prog_1_method_46_code 10 = .ok (.iload_n 2, 1) := by decide +kernel
theorem dd_SF_isBought_11 : decode prog_1_method_46_code 11 = .ok (.invokestatic 103, 3) := by decide +kernel
theorem dd_SF_isBought_14 : decode prog_1_method_46_code 14 = .ok (.ifCond .eq 7, 3) := by decide +kernel
theorem dd_SF_isBought_17 : decode prog_1_method_46_code 17 = .ok (.iconst 1, 1) := by decide +kernel
theorem dd_SF_isBought_18 : decode prog_1_method_46_code 18 = .ok (.goto 4, 3) := by decide +kernel
theorem dd_SF_isBought_21 : decode prog_1_method_46_code 21 = .ok (.iconst 0, 1) := by decide +kernel
theorem dd_SF_isBought_22 : decode prog_1_method_46_code 22 = .ok (.ireturn, 1) := by decide +kernel
def jx_SF_isBought (p0 : Int32) (p1 : Int32) (p2 : Int32) : sf_M (Int32) :=
  sf_or (α := Int32) (β := (Unit)) (
  if p0 = 0 then (
  sf_ret (.inr ())
  ) else (
  if p0 = (1 : Int32) then (
  sf_ret (.inr ())
  ) else (
  sf_ret (.inl (0 : Int32))
  )
  )
  ) (fun v3 =>
  sf_bnd (jx_SF_isLeg p1 p2) fun x4 =>
  if x4 = 0 then (
  sf_ret (0 : Int32)
  ) else (
  sf_ret (1 : Int32)
  )
  )
set_option maxRecDepth 20000 in
set_option maxHeartbeats 4000000 in
theorem ok_SF_isBought (p0 : Int32) (p1 : Int32) (p2 : Int32) : sf_Ok ({ cls := "SplitFares", name := "isBought", desc := "(III)Z" } : Jvm.MethodName) prog_1_method_46_code 3 (some .boolean) 2 [.int p0, .int p1, .int p2] (jx_SF_isBought p0 p1 p2) (fun r => some (.int r)) := by
  refine sf_Ok.of (env := [some (.int p0), some (.int p1), some (.int p2)]) (plainFor_of_name (by decide)) [false, false, false] (fun G => ⟨pk_i, pk_i, pk_i, trivial⟩) (Nat.le_of_ble_eq_true rfl) rfl (fun X => ?_)
  unfold jx_SF_isBought
  refine fp_iload_n (i := 0) (x := p0) dd_SF_isBought_0 rfl rfl (fr_pc (pc' := 1) rfl ?_)
  refine fr_or (l1 := (fun (v3 : (Unit)) => sf_p 9 [some (.int p0), some (.int p1), some (.int p2)] [])) ?_ (fun v3 => ?_)
  · refine fr_if_eq (tgt := 9) dd_SF_isBought_1 rfl (fun _ => ?_) (fun _ => ?_)
    · exact fr_ret rfl
    · refine fr_pc (pc' := 4) rfl ?_
      refine fp_iload_n (i := 0) (x := p0) dd_SF_isBought_4 rfl rfl (fr_pc (pc' := 5) rfl ?_)
      refine fp_iconst (v := (1 : Int32)) dd_SF_isBought_5 (by decide) (fr_pc (pc' := 6) rfl ?_)
      refine fr_icmp_ne (tgt := 21) dd_SF_isBought_6 rfl (fun _ => ?_) (fun _ => ?_)
      · refine fr_pc (pc' := 9) rfl ?_
        exact fr_ret rfl
      · refine fp_iconst (v := (0 : Int32)) dd_SF_isBought_21 (by decide) (fr_pc (pc' := 22) rfl ?_)
        exact fr_zret0 (v := (0 : Int32)) (Or.inl rfl) rfl rfl dd_SF_isBought_22
  · refine fp_iload_n (i := 1) (x := p1) dd_SF_isBought_9 rfl rfl (fr_pc (pc' := 10) rfl ?_)
    refine fp_iload_n (i := 2) (x := p2) dd_SF_isBought_10 rfl rfl (fr_pc (pc' := 11) rfl ?_)
    refine fr_callS (stk := []) (ok_SF_isLeg p1 p2) mt_SF_isLeg rfl rfl sw_397 sw_398 (by decide) (Nat.le_of_ble_eq_true rfl) dd_SF_isBought_11 (fun x4 => fr_to (pc' := 14) (env' := [some (.int p0), some (.int p1), some (.int p2)]) (stk' := [.int x4]) rfl rfl rfl ?_)
    refine fr_if_eq (tgt := 21) dd_SF_isBought_14 rfl (fun _ => ?_) (fun _ => ?_)
    · refine fp_iconst (v := (0 : Int32)) dd_SF_isBought_21 (by decide) (fr_pc (pc' := 22) rfl ?_)
      exact fr_zret0 (v := (0 : Int32)) (Or.inl rfl) rfl rfl dd_SF_isBought_22
    · refine fr_pc (pc' := 17) rfl ?_
      refine fp_iconst (v := (1 : Int32)) dd_SF_isBought_17 (by decide) (fr_pc (pc' := 18) rfl ?_)
      refine fp_goto (tgt := 22) dd_SF_isBought_18 rfl ?_
      exact fr_zret0 (v := (1 : Int32)) (Or.inr rfl) rfl rfl dd_SF_isBought_22
