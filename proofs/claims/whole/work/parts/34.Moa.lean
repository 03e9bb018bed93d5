/-! SplitFaresModel: its methods as plain functions, and that the bytecode runs them (printed by program). -/
theorem mt_Mo_lies : sf_Mt ({ cls := "SplitFaresModel", name := "lies", desc := "(III)Z" } : Jvm.MethodName) prog_13_method_1_code 3 (some .boolean) 3 := ⟨sw_1239, sw_12, ⟨by decide, by decide, by decide +kernel⟩, by decide⟩
theorem dd_Mo_lies_0 : decode prog_13_method_1_code 0 = .ok (.iload_n 0, 1) := by decide +kernel
theorem dd_Mo_lies_1 : decode prog_13_method_1_code 1 = .ok (.iload_n 1, 1) := by decide +kernel
theorem dd_Mo_lies_2 : decode prog_13_method_1_code 2 = .ok (.if_icmp .lt 12, 3) := by decide +kernel
theorem dd_Mo_lies_5 : decode prog_13_method_1_code 5 = .ok (.iload_n 0, 1) := by decide +kernel
theorem dd_Mo_lies_6 : decode prog_13_method_1_code 6 = .ok (.iload_n 2, 1) := by decide +kernel
theorem dd_Mo_lies_7 : decode prog_13_method_1_code 7 = .ok (.if_icmp .gt 7, 3) := by decide +kernel
theorem dd_Mo_lies_10 : decode prog_13_method_1_code 10 = .ok (.iconst 1, 1) := by decide +kernel
theorem dd_Mo_lies_11 : decode prog_13_method_1_code 11 = .ok (.goto 4, 3) := by decide +kernel
theorem dd_Mo_lies_14 : decode prog_13_method_1_code 14 = .ok (.iconst 0, 1) := by decide +kernel
theorem dd_Mo_lies_15 : decode prog_13_method_1_code 15 = .ok (.ireturn, 1) := by decide +kernel
def jx_Mo_lies (p0 : Int32) (p1 : Int32) (p2 : Int32) : sf_M (Int32) :=
  if p0 < p1 then (
  sf_ret (0 : Int32)
  ) else (
  if p2 < p0 then (
  sf_ret (0 : Int32)
  ) else (
  sf_ret (1 : Int32)
  )
  )
set_option maxRecDepth 20000 in
set_option maxHeartbeats 4000000 in
theorem ok_Mo_lies (p0 : Int32) (p1 : Int32) (p2 : Int32) : sf_Ok ({ cls := "SplitFaresModel", name := "lies", desc := "(III)Z" } : Jvm.MethodName) prog_13_method_1_code 3 (some .boolean) 0 [.int p0, .int p1, .int p2] (jx_Mo_lies p0 p1 p2) (fun r => some (.int r)) := by
  refine sf_Ok.of (env := [some (.int p0), some (.int p1), some (.int p2)]) (plainFor_of_name (by decide)) [false, false, false] (fun G => ⟨pk_i, pk_i, pk_i, trivial⟩) (Nat.le_of_ble_eq_true rfl) rfl (fun X => ?_)
  unfold jx_Mo_lies
  refine fp_iload_n (i := 0) (x := p0) dd_Mo_lies_0 rfl rfl (fr_pc (pc' := 1) rfl ?_)
  refine fp_iload_n (i := 1) (x := p1) dd_Mo_lies_1 rfl rfl (fr_pc (pc' := 2) rfl ?_)
  refine fr_icmp_lt (tgt := 14) dd_Mo_lies_2 rfl (fun _ => ?_) (fun _ => ?_)
  · refine fp_iconst (v := (0 : Int32)) dd_Mo_lies_14 (by decide) (fr_pc (pc' := 15) rfl ?_)
    exact fr_zret0 (v := (0 : Int32)) (Or.inl rfl) rfl rfl dd_Mo_lies_15
  · refine fr_pc (pc' := 5) rfl ?_
    refine fp_iload_n (i := 0) (x := p0) dd_Mo_lies_5 rfl rfl (fr_pc (pc' := 6) rfl ?_)
    refine fp_iload_n (i := 2) (x := p2) dd_Mo_lies_6 rfl rfl (fr_pc (pc' := 7) rfl ?_)
    refine fr_icmp_gt (tgt := 14) dd_Mo_lies_7 rfl (fun _ => ?_) (fun _ => ?_)
    · refine fp_iconst (v := (0 : Int32)) dd_Mo_lies_14 (by decide) (fr_pc (pc' := 15) rfl ?_)
      exact fr_zret0 (v := (0 : Int32)) (Or.inl rfl) rfl rfl dd_Mo_lies_15
    · refine fr_pc (pc' := 10) rfl ?_
      refine fp_iconst (v := (1 : Int32)) dd_Mo_lies_10 (by decide) (fr_pc (pc' := 11) rfl ?_)
      refine fp_goto (tgt := 15) dd_Mo_lies_11 rfl ?_
      exact fr_zret0 (v := (1 : Int32)) (Or.inr rfl) rfl rfl dd_Mo_lies_15
theorem mt_Mo_lesser : sf_Mt ({ cls := "SplitFaresModel", name := "lesser", desc := "(II)I" } : Jvm.MethodName) prog_13_method_2_code 2 (some .int) 2 := ⟨sw_1542, sw_12, ⟨by decide, by decide, by decide +kernel⟩, by decide⟩
theorem dd_Mo_lesser_0 : decode prog_13_method_2_code 0 = .ok (.iload_n 0, 1) := by decide +kernel
theorem dd_Mo_lesser_1 : decode prog_13_method_2_code 1 = .ok (.iload_n 1, 1) := by decide +kernel
theorem dd_Mo_lesser_2 : decode prog_13_method_2_code 2 = .ok (.if_icmp .ge 7, 3) := by decide +kernel
theorem dd_Mo_lesser_5 : decode prog_13_method_2_code 5 = .ok (.iload_n 0, 1) := by decide +kernel
theorem dd_Mo_lesser_6 : decode prog_13_method_2_code 6 = .ok (.goto 4, 3) := by decide +kernel
theorem dd_Mo_lesser_9 : decode prog_13_method_2_code 9 = .ok (.iload_n 1, 1) := by decide +kernel
theorem dd_Mo_lesser_10 : decode prog_13_method_2_code 10 = .ok (.ireturn, 1) := by decide +kernel
def jx_Mo_lesser (p0 : Int32) (p1 : Int32) : sf_M (Int32) :=
  if p1 ≤ p0 then (
  sf_ret p1
  ) else (
  sf_ret p0
  )
set_option maxRecDepth 20000 in
set_option maxHeartbeats 4000000 in
theorem ok_Mo_lesser (p0 : Int32) (p1 : Int32) : sf_Ok ({ cls := "SplitFaresModel", name := "lesser", desc := "(II)I" } : Jvm.MethodName) prog_13_method_2_code 2 (some .int) 0 [.int p0, .int p1] (jx_Mo_lesser p0 p1) (fun r => some (.int r)) := by
  refine sf_Ok.of (env := [some (.int p0), some (.int p1)]) (plainFor_of_name (by decide)) [false, false] (fun G => ⟨pk_i, pk_i, trivial⟩) (Nat.le_of_ble_eq_true rfl) rfl (fun X => ?_)
  unfold jx_Mo_lesser
  refine fp_iload_n (i := 0) (x := p0) dd_Mo_lesser_0 rfl rfl (fr_pc (pc' := 1) rfl ?_)
  refine fp_iload_n (i := 1) (x := p1) dd_Mo_lesser_1 rfl rfl (fr_pc (pc' := 2) rfl ?_)
  refine fr_icmp_ge (tgt := 9) dd_Mo_lesser_2 rfl (fun _ => ?_) (fun _ => ?_)
  · refine fp_iload_n (i := 1) (x := p1) dd_Mo_lesser_9 rfl rfl (fr_pc (pc' := 10) rfl ?_)
    exact fr_iret (v := p1) rfl rfl dd_Mo_lesser_10
  · refine fr_pc (pc' := 5) rfl ?_
    refine fp_iload_n (i := 0) (x := p0) dd_Mo_lesser_5 rfl rfl (fr_pc (pc' := 6) rfl ?_)
    refine fp_goto (tgt := 10) dd_Mo_lesser_6 rfl ?_
    exact fr_iret (v := p0) rfl rfl dd_Mo_lesser_10
theorem mt_Mo_greater : sf_Mt ({ cls := "SplitFaresModel", name := "greater", desc := "(II)I" } : Jvm.MethodName) prog_13_method_3_code 2 (some .int) 2 := ⟨sw_1584, sw_12, ⟨by decide, by decide, by decide +kernel⟩, by decide⟩
theorem dd_Mo_greater_0 : decode prog_13_method_3_code 0 = .ok (.iload_n 0, 1) := by decide +kernel
theorem dd_Mo_greater_1 : decode prog_13_method_3_code 1 = .ok (.iload_n 1, 1) := by decide +kernel
theorem dd_Mo_greater_2 : decode prog_13_method_3_code 2 = .ok (.if_icmp .le 7, 3) := by decide +kernel
theorem dd_Mo_greater_5 : decode prog_13_method_3_code 5 = .ok (.iload_n 0, 1) := by decide +kernel
theorem dd_Mo_greater_6 : decode prog_13_method_3_code 6 = .ok (.goto 4, 3) := by decide +kernel
theorem dd_Mo_greater_9 : decode prog_13_method_3_code 9 = .ok (.iload_n 1, 1) := by decide +kernel
theorem dd_Mo_greater_10 : decode prog_13_method_3_code 10 = .ok (.ireturn, 1) := by decide +kernel
def jx_Mo_greater (p0 : Int32) (p1 : Int32) : sf_M (Int32) :=
  if p0 ≤ p1 then (
  sf_ret p1
  ) else (
  sf_ret p0
  )
set_option maxRecDepth 20000 in
set_option maxHeartbeats 4000000 in
theorem ok_Mo_greater (p0 : Int32) (p1 : Int32) : sf_Ok ({ cls := "SplitFaresModel", name := "greater", desc := "(II)I" } : Jvm.MethodName) prog_13_method_3_code 2 (some .int) 0 [.int p0, .int p1] (jx_Mo_greater p0 p1) (fun r => some (.int r)) := by
  refine sf_Ok.of (env := [some (.int p0), some (.int p1)]) (plainFor_of_name (by decide)) [false, false] (fun G => ⟨pk_i, pk_i, trivial⟩) (Nat.le_of_ble_eq_true rfl) rfl (fun X => ?_)
  unfold jx_Mo_greater
  refine fp_iload_n (i := 0) (x := p0) dd_Mo_greater_0 rfl rfl (fr_pc (pc' := 1) rfl ?_)
  refine fp_iload_n (i := 1) (x := p1) dd_Mo_greater_1 rfl rfl (fr_pc (pc' := 2) rfl ?_)
  refine fr_icmp_le (tgt := 9) dd_Mo_greater_2 rfl (fun _ => ?_) (fun _ => ?_)
  · refine fp_iload_n (i := 1) (x := p1) dd_Mo_greater_9 rfl rfl (fr_pc (pc' := 10) rfl ?_)
    exact fr_iret (v := p1) rfl rfl dd_Mo_greater_10
  · refine fr_pc (pc' := 5) rfl ?_
    refine fp_iload_n (i := 0) (x := p0) dd_Mo_greater_5 rfl rfl (fr_pc (pc' := 6) rfl ?_)
    refine fp_goto (tgt := 10) dd_Mo_greater_6 rfl ?_
    exact fr_iret (v := p0) rfl rfl dd_Mo_greater_10
theorem mt_Mo_refuses : sf_Mt ({ cls := "SplitFaresModel", name := "refuses", desc := "(I)I" } : Jvm.MethodName) prog_13_method_4_code 2 (some .int) 1 := ⟨sw_1243, sw_12, ⟨by decide, by decide, by decide +kernel⟩, by decide⟩
theorem dd_Mo_refuses_0 : decode prog_13_method_4_code 0 = .ok (.aload_n 0, 1) := by decide +kernel
theorem dd_Mo_refuses_1 : decode prog_13_method_4_code 1 = .ok (.iload_n 1, 1) := by decide +kernel
theorem dd_Mo_refuses_2 : decode prog_13_method_4_code 2 = .ok (.putfield 3, 3) := by decide +kernel
theorem dd_Mo_refuses_5 : decode prog_13_method_4_code 5 = .ok (.aload_n 0, 1) := by decide +kernel
theorem dd_Mo_refuses_6 : decode prog_13_method_4_code 6 = .ok (.getfield 7, 3) := by decide +kernel
theorem dd_Mo_refuses_9 : decode prog_13_method_4_code 9 = .ok (.iload_n 1, 1) := by decide +kernel
theorem dd_Mo_refuses_10 : decode prog_13_method_4_code 10 = .ok (.ineg, 1) := by decide +kernel
theorem dd_Mo_refuses_11 : decode prog_13_method_4_code 11 = .ok (.dup2, 1) := by decide +kernel
theorem dd_Mo_refuses_12 : decode prog_13_method_4_code 12 = .ok (.iaload, 1) := by decide +kernel
theorem dd_Mo_refuses_13 : decode prog_13_method_4_code 13 = .ok (.iconst 1, 1) := by decide +kernel
theorem dd_Mo_refuses_14 : decode prog_13_method_4_code 14 = .ok (.iadd, 1) := by decide +kernel
theorem dd_Mo_refuses_15 : decode prog_13_method_4_code 15 = .ok (.iastore, 1) := by decide +kernel
theorem dd_Mo_refuses_16 : decode prog_13_method_4_code 16 = .ok (.iload_n 1, 1) := by decide +kernel
theorem dd_Mo_refuses_17 : decode prog_13_method_4_code 17 = .ok (.ireturn, 1) := by decide +kernel
def jx_Mo_refuses (p0 : Option Nat) (p1 : Int32) : sf_M (Int32) :=
  sf_bnd (sf_pI 11 0 p0 p1) fun _ =>
  sf_bnd (sf_gR 11 1 p0) fun x1 =>
  sf_bnd (sf_aI 0 x1 (-p1)) fun x2 =>
  sf_bnd (sf_sI 0 x1 (-p1) (x2 + (1 : Int32))) fun _ =>
  sf_ret p1
set_option maxRecDepth 20000 in
set_option maxHeartbeats 4000000 in
theorem ok_Mo_refuses (p0 : Option Nat) (p1 : Int32) : sf_Ok ({ cls := "SplitFaresModel", name := "refuses", desc := "(I)I" } : Jvm.MethodName) prog_13_method_4_code 2 (some .int) 0 [sf_rv p0, .int p1] (jx_Mo_refuses p0 p1) (fun r => some (.int r)) := by
  refine sf_Ok.of (env := [some (sf_rv p0), some (.int p1)]) (plainFor_of_name (by decide)) [false, false] (fun G => ⟨pk_r, pk_i, trivial⟩) (Nat.le_of_ble_eq_true rfl) rfl (fun X => ?_)
  unfold jx_Mo_refuses
  refine fp_aload_n (i := 0) (r := p0) dd_Mo_refuses_0 rfl rfl (fr_pc (pc' := 1) rfl ?_)
  refine fp_iload_n (i := 1) (x := p1) dd_Mo_refuses_1 rfl rfl (fr_pc (pc' := 2) rfl ?_)
  refine fr_pI cl_11 0 (by decide) rfl sw_1072 rfl ⟨rfl, rfl⟩ dd_Mo_refuses_2 (fr_pc (pc' := 5) rfl ?_)
  refine fp_aload_n (i := 0) (r := p0) dd_Mo_refuses_5 rfl rfl (fr_pc (pc' := 6) rfl ?_)
  refine fr_gR cl_11 1 (by decide) rfl sw_1073 dd_Mo_refuses_6 (fun x1 => fr_pc (pc' := 9) rfl ?_)
  refine fp_iload_n (i := 1) (x := p1) dd_Mo_refuses_9 rfl rfl (fr_pc (pc' := 10) rfl ?_)
  refine fp_ineg dd_Mo_refuses_10 (fr_pc (pc' := 11) rfl ?_)
  refine fp_dup2 dd_Mo_refuses_11 (fr_pc (pc' := 12) rfl ?_)
  refine fr_aI0 dd_Mo_refuses_12 (fun x2 => fr_pc (pc' := 13) rfl ?_)
  refine fp_iconst (v := (1 : Int32)) dd_Mo_refuses_13 (by decide) (fr_pc (pc' := 14) rfl ?_)
  refine fp_iadd dd_Mo_refuses_14 (fr_pc (pc' := 15) rfl ?_)
  refine fr_sI0 dd_Mo_refuses_15 (fr_pc (pc' := 16) rfl ?_)
  refine fp_iload_n (i := 1) (x := p1) dd_Mo_refuses_16 rfl rfl (fr_pc (pc' := 17) rfl ?_)
  exact fr_iret (v := p1) rfl rfl dd_Mo_refuses_17
theorem mt_Mo_good : sf_Mt ({ cls := "SplitFaresModel", name := "good", desc := "(I)I" } : Jvm.MethodName) prog_13_method_5_code 2 (some .int) 1 := ⟨sw_1247, sw_12, ⟨by decide, by decide, by decide +kernel⟩, by decide⟩
theorem dd_Mo_good_0 : decode prog_13_method_5_code 0 = .ok (.aload_n 0, 1) := by decide +kernel
theorem dd_Mo_good_1 : decode prog_13_method_5_code 1 = .ok (.iconst 0, 1) := by decide +kernel
theorem dd_Mo_good_2 : decode prog_13_method_5_code 2 = .ok (.putfield 3, 3) := by decide +kernel
theorem dd_Mo_good_5 : decode prog_13_method_5_code 5 = .ok (.iload_n 1, 1) := by decide +kernel
theorem dd_Mo_good_6 : decode prog_13_method_5_code 6 = .ok (.ireturn, 1) := by decide +kernel
def jx_Mo_good (p0 : Option Nat) (p1 : Int32) : sf_M (Int32) :=
  sf_bnd (sf_pI 11 0 p0 (0 : Int32)) fun _ =>
  sf_ret p1
set_option maxRecDepth 20000 in
set_option maxHeartbeats 4000000 in
theorem ok_Mo_good (p0 : Option Nat) (p1 : Int32) : sf_Ok ({ cls := "SplitFaresModel", name := "good", desc := "(I)I" } : Jvm.MethodName) prog_13_method_5_code 2 (some .int) 0 [sf_rv p0, .int p1] (jx_Mo_good p0 p1) (fun r => some (.int r)) := by
  refine sf_Ok.of (env := [some (sf_rv p0), some (.int p1)]) (plainFor_of_name (by decide)) [false, false] (fun G => ⟨pk_r, pk_i, trivial⟩) (Nat.le_of_ble_eq_true rfl) rfl (fun X => ?_)
  unfold jx_Mo_good
  refine fp_aload_n (i := 0) (r := p0) dd_Mo_good_0 rfl rfl (fr_pc (pc' := 1) rfl ?_)
  refine fp_iconst (v := (0 : Int32)) dd_Mo_good_1 (by decide) (fr_pc (pc' := 2) rfl ?_)
  refine fr_pI cl_11 0 (by decide) rfl sw_1072 rfl ⟨rfl, rfl⟩ dd_Mo_good_2 (fr_pc (pc' := 5) rfl ?_)
  refine fp_iload_n (i := 1) (x := p1) dd_Mo_good_5 rfl rfl (fr_pc (pc' := 6) rfl ?_)
  exact fr_iret (v := p1) rfl rfl dd_Mo_good_6
theorem mt_Mo_settled : sf_Mt ({ cls := "SplitFaresModel", name := "settled", desc := "(I)I" } : Jvm.MethodName) prog_13_method_6_code 2 (some .int) 1 := ⟨sw_1255, sw_12, ⟨by decide, by decide, by decide +kernel⟩, by decide⟩
theorem dd_Mo_settled_0 : decode prog_13_method_6_code 0 = .ok (.aload_n 0, 1) := by decide +kernel
theorem dd_Mo_settled_1 : decode prog_13_method_6_code 1 = .ok (.iconst 0, 1) := by decide +kernel
theorem dd_Mo_settled_2 : decode prog_13_method_6_code 2 = .ok (.putfield 11, 3) := by decide +kernel
theorem dd_Mo_settled_5 : decode prog_13_method_6_code 5 = .ok (.aload_n 0, 1) := by decide +kernel
theorem dd_Mo_settled_6 : decode prog_13_method_6_code 6 = .ok (.iload_n 1, 1) := by decide +kernel
theorem dd_Mo_settled_7 : decode prog_13_method_6_code 7 = .ok (.invokevirtual 14, 3) := by decide +kernel
theorem dd_Mo_settled_10 : decode prog_13_method_6_code 10 = .ok (.ireturn, 1) := by decide +kernel
def jx_Mo_settled (p0 : Option Nat) (p1 : Int32) : sf_M (Int32) :=
  sf_bnd (sf_pI 11 40 p0 (0 : Int32)) fun _ =>
  sf_bnd (sf_rc 11 p0 (jx_Mo_good p0 p1)) fun x1 =>
  sf_ret x1
set_option maxRecDepth 20000 in
set_option maxHeartbeats 4000000 in
theorem ok_Mo_settled (p0 : Option Nat) (p1 : Int32) : sf_Ok ({ cls := "SplitFaresModel", name := "settled", desc := "(I)I" } : Jvm.MethodName) prog_13_method_6_code 2 (some .int) 1 [sf_rv p0, .int p1] (jx_Mo_settled p0 p1) (fun r => some (.int r)) := by
  refine sf_Ok.of (env := [some (sf_rv p0), some (.int p1)]) (plainFor_of_name (by decide)) [false, false] (fun G => ⟨pk_r, pk_i, trivial⟩) (Nat.le_of_ble_eq_true rfl) rfl (fun X => ?_)
  unfold jx_Mo_settled
  refine fp_aload_n (i := 0) (r := p0) dd_Mo_settled_0 rfl rfl (fr_pc (pc' := 1) rfl ?_)
  refine fp_iconst (v := (0 : Int32)) dd_Mo_settled_1 (by decide) (fr_pc (pc' := 2) rfl ?_)
  refine fr_pI cl_11 40 (by decide) rfl sw_1112 rfl ⟨rfl, rfl⟩ dd_Mo_settled_2 (fr_pc (pc' := 5) rfl ?_)
  refine fp_aload_n (i := 0) (r := p0) dd_Mo_settled_5 rfl rfl (fr_pc (pc' := 6) rfl ?_)
  refine fp_iload_n (i := 1) (x := p1) dd_Mo_settled_6 rfl rfl (fr_pc (pc' := 7) rfl ?_)
  refine fr_callV (stk := []) (As := [.int p1]) cl_11 (ok_Mo_good p0 p1) mt_Mo_good rfl rfl sw_1244 sw_1246 sp_28 (by decide) (Nat.le_of_ble_eq_true rfl) dd_Mo_settled_7 (fun x1 => fr_to (pc' := 10) (env' := [some (sf_rv p0), some (.int p1)]) (stk' := [.int x1]) rfl rfl rfl ?_)
  exact fr_iret (v := x1) rfl rfl dd_Mo_settled_10
theorem mt_Mo_isIn : sf_Mt ({ cls := "SplitFaresModel", name := "isIn", desc := "(II)Z" } : Jvm.MethodName) prog_13_method_7_code 2 (some .boolean) 2 := ⟨sw_1522, sw_12, ⟨by decide, by decide, by decide +kernel⟩, by decide⟩
theorem dd_Mo_isIn_0 : decode prog_13_method_7_code 0 = .ok (.iload_n 0, 1) := by decide +kernel
theorem dd_Mo_isIn_1 : decode prog_13_method_7_code 1 = .ok (.iload_n 1, 1) := by decide +kernel
theorem dd_Mo_isIn_2 : decode prog_13_method_7_code 2 = .ok (.ishr, 1) := by decide +kernel
theorem dd_Mo_isIn_3 : decode prog_13_method_7_code 3 = .ok (.iconst 1, 1) := by decide +kernel
theorem dd_Mo_isIn_4 : decode prog_13_method_7_code 4 = .ok (.iand, 1) := by decide +kernel
theorem dd_Mo_isIn_5 : decode prog_13_method_7_code 5 = .ok (.iconst 1, 1) := by decide +kernel
theorem dd_Mo_isIn_6 : decode prog_13_method_7_code 6 = .ok (.if_icmp .ne 7, 3) := by decide +kernel
theorem dd_Mo_isIn_9 : decode prog_13_method_7_code 9 = .ok (.iconst 1, 1) := by decide +kernel
theorem dd_Mo_isIn_10 : decode prog_13_method_7_code 10 = .ok (.goto 4, 3) := by decide +kernel
theorem dd_Mo_isIn_13 : decode prog_13_method_7_code 13 = .ok (.iconst 0, 1) := by decide +kernel
theorem dd_Mo_isIn_14 : decode prog_13_method_7_code 14 = .ok (.ireturn, 1) := by decide +kernel
def jx_Mo_isIn (p0 : Int32) (p1 : Int32) : sf_M (Int32) :=
  if ((p0 >>> (p1 &&& 31)) &&& (1 : Int32)) = (1 : Int32) then (
  sf_ret (1 : Int32)
  ) else (
  sf_ret (0 : Int32)
  )
set_option maxRecDepth 20000 in
set_option maxHeartbeats 4000000 in
theorem ok_Mo_isIn (p0 : Int32) (p1 : Int32) : sf_Ok ({ cls := "SplitFaresModel", name := "isIn", desc := "(II)Z" } : Jvm.MethodName) prog_13_method_7_code 2 (some .boolean) 0 [.int p0, .int p1] (jx_Mo_isIn p0 p1) (fun r => some (.int r)) := by
  refine sf_Ok.of (env := [some (.int p0), some (.int p1)]) (plainFor_of_name (by decide)) [false, false] (fun G => ⟨pk_i, pk_i, trivial⟩) (Nat.le_of_ble_eq_true rfl) rfl (fun X => ?_)
  unfold jx_Mo_isIn
  refine fp_iload_n (i := 0) (x := p0) dd_Mo_isIn_0 rfl rfl (fr_pc (pc' := 1) rfl ?_)
  refine fp_iload_n (i := 1) (x := p1) dd_Mo_isIn_1 rfl rfl (fr_pc (pc' := 2) rfl ?_)
  refine fp_ishr dd_Mo_isIn_2 (fr_pc (pc' := 3) rfl ?_)
  refine fp_iconst (v := (1 : Int32)) dd_Mo_isIn_3 (by decide) (fr_pc (pc' := 4) rfl ?_)
  refine fp_iand dd_Mo_isIn_4 (fr_pc (pc' := 5) rfl ?_)
  refine fp_iconst (v := (1 : Int32)) dd_Mo_isIn_5 (by decide) (fr_pc (pc' := 6) rfl ?_)
  refine fr_icmp_ne (tgt := 13) dd_Mo_isIn_6 rfl (fun _ => ?_) (fun _ => ?_)
  · refine fr_pc (pc' := 9) rfl ?_
    refine fp_iconst (v := (1 : Int32)) dd_Mo_isIn_9 (by decide) (fr_pc (pc' := 10) rfl ?_)
    refine fp_goto (tgt := 14) dd_Mo_isIn_10 rfl ?_
    exact fr_zret0 (v := (1 : Int32)) (Or.inr rfl) rfl rfl dd_Mo_isIn_14
  · refine fp_iconst (v := (0 : Int32)) dd_Mo_isIn_13 (by decide) (fr_pc (pc' := 14) rfl ?_)
    exact fr_zret0 (v := (0 : Int32)) (Or.inl rfl) rfl rfl dd_Mo_isIn_14
theorem mt_Mo_ones : sf_Mt ({ cls := "SplitFaresModel", name := "ones", desc := "(I)I" } : Jvm.MethodName) prog_13_method_8_code 3 (some .int) 1 := ⟨sw_1265, sw_12, ⟨by decide, by decide, by decide +kernel⟩, by decide⟩
theorem dd_Mo_ones_0 : decode prog_13_method_8_code 0 = .ok (.iconst 0, 1) := by decide +kernel
theorem dd_Mo_ones_1 : decode prog_13_method_8_code 1 = .ok (.istore_n 1, 1) := by decide +kernel
theorem dd_Mo_ones_2 : decode prog_13_method_8_code 2 = .ok (.iconst 0, 1) := by decide +kernel
theorem dd_Mo_ones_3 : decode prog_13_method_8_code 3 = .ok (.istore_n 2, 1) := by decide +kernel
theorem dd_Mo_ones_4 : decode prog_13_method_8_code 4 = .ok (.iload_n 2, 1) := by decide +kernel
theorem dd_Mo_ones_5 : decode prog_13_method_8_code 5 = .ok (.bipush 8, 2) := by decide +kernel
theorem dd_Mo_ones_7 : decode prog_13_method_8_code 7 = .ok (.if_icmp .ge 17, 3) := by decide +kernel
theorem dd_Mo_ones_10 : decode prog_13_method_8_code 10 = .ok (.iload_n 1, 1) := by decide +kernel
theorem dd_Mo_ones_11 : decode prog_13_method_8_code 11 = .ok (.iload_n 0, 1) := by decide +kernel
theorem dd_Mo_ones_12 : decode prog_13_method_8_code 12 = .ok (.iload_n 2, 1) := by decide +kernel
theorem dd_Mo_ones_13 : decode prog_13_method_8_code 13 = .ok (.ishr, 1) := by decide +kernel
theorem dd_Mo_ones_14 : decode prog_13_method_8_code 14 = .ok (.iconst 1, 1) := by decide +kernel
theorem dd_Mo_ones_15 : decode prog_13_method_8_code 15 = .ok (.iand, 1) := by decide +kernel
theorem dd_Mo_ones_16 : decode prog_13_method_8_code 16 = .ok (.iadd, 1) := by decide +kernel
theorem dd_Mo_ones_17 : decode prog_13_method_8_code 17 = .ok (.istore_n 1, 1) := by decide +kernel
theorem dd_Mo_ones_18 : decode prog_13_method_8_code 18 = .ok (.iinc 2 1, 3) := by decide +kernel
theorem dd_Mo_ones_21 : decode prog_13_method_8_code 21 = .ok (.goto (-17), 3) := by decide +kernel
theorem dd_Mo_ones_24 : decode prog_13_method_8_code 24 = .ok (.iload_n 1, 1) := by decide +kernel
theorem dd_Mo_ones_25 : decode prog_13_method_8_code 25 = .ok (.ireturn, 1) := by decide +kernel
def jx_Mo_ones (p0 : Int32) : sf_M (Int32) :=
  sf_bnd (sf_loop (β := (Int32 × Int32)) (γ := (Int32)) (fun b1 =>
  if (8 : Int32) ≤ b1.2 then (
  sf_ret (.inr b1.1)
  ) else (
  sf_bnd (sf_ret ((b1.1 + ((p0 >>> (b1.2 &&& 31)) &&& (1 : Int32))))) fun y3 =>
  sf_bnd (sf_ret (b1.2 + (1 : Int32))) fun y4 =>
  sf_ret (.inl (y3, y4))
  )
  ) sf_fuel ((0 : Int32), (0 : Int32))) (fun e5 =>
  sf_ret e5
  )
set_option maxRecDepth 20000 in
set_option maxHeartbeats 4000000 in
theorem ok_Mo_ones (p0 : Int32) : sf_Ok ({ cls := "SplitFaresModel", name := "ones", desc := "(I)I" } : Jvm.MethodName) prog_13_method_8_code 3 (some .int) 0 [.int p0] (jx_Mo_ones p0) (fun r => some (.int r)) := by
  refine sf_Ok.of (env := [some (.int p0), none, none]) (plainFor_of_name (by decide)) [false] (fun G => ⟨pk_i, trivial⟩) (Nat.le_of_ble_eq_true rfl) rfl (fun X => ?_)
  unfold jx_Mo_ones
  refine fp_iconst (v := (0 : Int32)) dd_Mo_ones_0 (by decide) (fr_pc (pc' := 1) rfl ?_)
  refine fp_istore_n (i := 1) dd_Mo_ones_1 rfl (Nat.le_of_ble_eq_true rfl) (fun _ => c1_i rfl) (fr_to (pc' := 2) (env' := [some (.int p0), some (.int (0 : Int32)), none]) (stk' := []) rfl rfl rfl ?_)
  refine fp_iconst (v := (0 : Int32)) dd_Mo_ones_2 (by decide) (fr_pc (pc' := 3) rfl ?_)
  refine fp_istore_n (i := 2) dd_Mo_ones_3 rfl (Nat.le_of_ble_eq_true rfl) (fun _ => c1_i rfl) (fr_to (pc' := 4) (env' := [some (.int p0), some (.int (0 : Int32)), some (.int (0 : Int32))]) (stk' := []) rfl rfl rfl ?_)
  refine fr_to (pc' := 4) (env' := [some (.int p0), some (.int (0 : Int32)), some (.int (0 : Int32))]) (stk' := []) rfl rfl rfl ?_
  refine fr_bnd (l1 := (fun (e5 : (Int32)) => sf_p 24 [some (.int p0), some (.int e5), none] [])) (fr_loop (Lb := (fun (b1 : (Int32 × Int32)) => sf_p 4 [some (.int p0), some (.int b1.1), some (.int b1.2)] [])) (fun b1 => ?_) _ _) (fun e5 => ?_)
  · refine fp_iload_n (i := 2) (x := b1.2) dd_Mo_ones_4 rfl rfl (fr_pc (pc' := 5) rfl ?_)
    refine fp_bipush (v := (8 : Int32)) dd_Mo_ones_5 (by decide) (fr_pc (pc' := 7) rfl ?_)
    refine fr_icmp_ge (tgt := 24) dd_Mo_ones_7 rfl (fun _ => ?_) (fun _ => ?_)
    · refine fr_wk [true, true, false] ?_
      exact fr_ret rfl
    · refine fr_pc (pc' := 10) rfl ?_
      refine fp_iload_n (i := 1) (x := b1.1) dd_Mo_ones_10 rfl rfl (fr_pc (pc' := 11) rfl ?_)
      refine fp_iload_n (i := 0) (x := p0) dd_Mo_ones_11 rfl rfl (fr_pc (pc' := 12) rfl ?_)
      refine fp_iload_n (i := 2) (x := b1.2) dd_Mo_ones_12 rfl rfl (fr_pc (pc' := 13) rfl ?_)
      refine fp_ishr dd_Mo_ones_13 (fr_pc (pc' := 14) rfl ?_)
      refine fp_iconst (v := (1 : Int32)) dd_Mo_ones_14 (by decide) (fr_pc (pc' := 15) rfl ?_)
      refine fp_iand dd_Mo_ones_15 (fr_pc (pc' := 16) rfl ?_)
      refine fp_iadd dd_Mo_ones_16 (fr_pc (pc' := 17) rfl ?_)
      refine fr_nistore_n (i := 1) dd_Mo_ones_17 rfl (Nat.le_of_ble_eq_true rfl) (fun _ => c1_i rfl) (fun y3 => fr_to (pc' := 18) (env' := [some (.int p0), some (.int y3), some (.int b1.2)]) (stk' := []) rfl rfl rfl ?_)
      refine fr_niinc (i := 2) (x := b1.2) (w := (1 : Int32)) dd_Mo_ones_18 rfl (by decide) (Nat.le_of_ble_eq_true rfl) (fun _ => c1_i rfl) (fun y4 => fr_to (pc' := 21) (env' := [some (.int p0), some (.int y3), some (.int y4)]) (stk' := []) rfl rfl rfl ?_)
      refine fp_goto (tgt := 4) dd_Mo_ones_21 rfl ?_
      exact fr_ret rfl
  · refine fp_iload_n (i := 1) (x := e5) dd_Mo_ones_24 rfl rfl (fr_pc (pc' := 25) rfl ?_)
    exact fr_iret (v := e5) rfl rfl dd_Mo_ones_25
theorem mt_Mo_isStation : sf_Mt ({ cls := "SplitFaresModel", name := "isStation", desc := "(I)Z" } : Jvm.MethodName) prog_13_method_9_code 1 (some .boolean) 1 := ⟨sw_1287, sw_12, ⟨by decide, by decide, by decide +kernel⟩, by decide⟩
theorem dd_Mo_isStation_0 : decode prog_13_method_9_code 0 = .ok (.iload_n 0, 1) := by decide +kernel
theorem dd_Mo_isStation_1 : decode prog_13_method_9_code 1 = .ok (.iconst 0, 1) := by decide +kernel
theorem dd_Mo_isStation_2 : decode prog_13_method_9_code 2 = .ok (.bipush 7, 2) := by decide +kernel
theorem dd_Mo_isStation_4 : decode prog_13_method_9_code 4 = .ok (.invokestatic 18, 3) := by decide +kernel
theorem dd_Mo_isStation_7 : decode prog_13_method_9_code 7 = .ok (.ireturn, 1) := by decide +kernel
def jx_Mo_isStation (p0 : Int32) : sf_M (Int32) :=
  sf_bnd (jx_Mo_lies p0 (0 : Int32) (7 : Int32)) fun x1 =>
  sf_bnd (sf_rz x1) fun x2 =>
  sf_ret x2
set_option maxRecDepth 20000 in
set_option maxHeartbeats 4000000 in
theorem ok_Mo_isStation (p0 : Int32) : sf_Ok ({ cls := "SplitFaresModel", name := "isStation", desc := "(I)Z" } : Jvm.MethodName) prog_13_method_9_code 1 (some .boolean) 1 [.int p0] (jx_Mo_isStation p0) (fun r => some (.int r)) := by
  refine sf_Ok.of (env := [some (.int p0)]) (plainFor_of_name (by decide)) [false] (fun G => ⟨pk_i, trivial⟩) (Nat.le_of_ble_eq_true rfl) rfl (fun X => ?_)
  unfold jx_Mo_isStation
  refine fp_iload_n (i := 0) (x := p0) dd_Mo_isStation_0 rfl rfl (fr_pc (pc' := 1) rfl ?_)
  refine fp_iconst (v := (0 : Int32)) dd_Mo_isStation_1 (by decide) (fr_pc (pc' := 2) rfl ?_)
  refine fp_bipush (v := (7 : Int32)) dd_Mo_isStation_2 (by decide) (fr_pc (pc' := 4) rfl ?_)
  refine fr_callS (stk := []) (ok_Mo_lies p0 (0 : Int32) (7 : Int32)) mt_Mo_lies rfl rfl sw_1237 sw_1238 (by decide) (Nat.le_of_ble_eq_true rfl) dd_Mo_isStation_4 (fun x1 => fr_to (pc' := 7) (env' := [some (.int p0)]) (stk' := [.int x1]) rfl rfl rfl ?_)
  exact fr_zret (r := fun x2 => x2) (fun _ => rfl) rfl dd_Mo_isStation_7
theorem mt_Mo_areTwo : sf_Mt ({ cls := "SplitFaresModel", name := "areTwo", desc := "(II)Z" } : Jvm.MethodName) prog_13_method_10_code 2 (some .boolean) 2 := ⟨sw_1284, sw_12, ⟨by decide, by decide, by decide +kernel⟩, by decide⟩
theorem dd_Mo_areTwo_0 : decode prog_13_method_10_code 0 = .ok (.iload_n 0, 1) := by decide +kernel
theorem dd_Mo_areTwo_1 : decode prog_13_method_10_code 1 = .ok (.invokestatic 22, 3) := by decide +kernel
theorem dd_Mo_areTwo_4 : decode prog_13_method_10_code 4 = .ok (.ifCond .eq 19, 3) := by decide +kernel
theorem dd_Mo_areTwo_7 : decode prog_13_method_10_code 7 = .ok (.iload_n 1, 1) := by decide +kernel
theorem dd_Mo_areTwo_8 : decode prog_13_method_10_code 8 = .ok (.invokestatic 22, 3) := by decide +kernel
theorem dd_Mo_areTwo_11 : decode prog_13_method_10_code 11 = .ok (.ifCond .eq 12, 3) := by decide +kernel
theorem dd_Mo_areTwo_14 : decode prog_13_method_10_code 14 = .ok (.iload_n 0, 1) := by decide +kernel
theorem dd_Mo_areTwo_15 : decode prog_13_method_10_code 15 = .ok (.iload_n 1, 1) := by decide +kernel
theorem dd_Mo_areTwo_16 : decode prog_13_method_10_code 16 = .ok (.if_icmp .eq 7, 3) := by decide +kernel
theorem dd_Mo_areTwo_19 : decode prog_13_method_10_code 19 = .ok (.iconst 1, 1) := by decide +kernel
theorem dd_Mo_areTwo_20 : decode prog_13_method_10_code 20 = .ok (.goto 4, 3) := by decide +kernel
theorem dd_Mo_areTwo_23 : decode prog_13_method_10_code 23 = .ok (.iconst 0, 1) := by decide +kernel
theorem dd_Mo_areTwo_24 : decode prog_13_method_10_code 24 = .ok (.ireturn, 1) := by decide +kernel
def jx_Mo_areTwo (p0 : Int32) (p1 : Int32) : sf_M (Int32) :=
  sf_bnd (jx_Mo_isStation p0) fun x1 =>
  if x1 = 0 then (
  sf_ret (0 : Int32)
  ) else (
  sf_bnd (jx_Mo_isStation p1) fun x3 =>
  if x3 = 0 then (
  sf_ret (0 : Int32)
  ) else (
  if p0 = p1 then (
  sf_ret (0 : Int32)
  ) else (
  sf_ret (1 : Int32)
  )
  )
  )
set_option maxRecDepth 20000 in
set_option maxHeartbeats 4000000 in
theorem ok_Mo_areTwo (p0 : Int32) (p1 : Int32) : sf_Ok ({ cls := "SplitFaresModel", name := "areTwo", desc := "(II)Z" } : Jvm.MethodName) prog_13_method_10_code 2 (some .boolean) 2 [.int p0, .int p1] (jx_Mo_areTwo p0 p1) (fun r => some (.int r)) := by
  refine sf_Ok.of (env := [some (.int p0), some (.int p1)]) (plainFor_of_name (by decide)) [false, false] (fun G => ⟨pk_i, pk_i, trivial⟩) (Nat.le_of_ble_eq_true rfl) rfl (fun X => ?_)
  unfold jx_Mo_areTwo
  refine fp_iload_n (i := 0) (x := p0) dd_Mo_areTwo_0 rfl rfl (fr_pc (pc' := 1) rfl ?_)
  refine fr_callS (stk := []) (ok_Mo_isStation p0) mt_Mo_isStation rfl rfl sw_1285 sw_1286 (by decide) (Nat.le_of_ble_eq_true rfl) dd_Mo_areTwo_1 (fun x1 => fr_to (pc' := 4) (env' := [some (.int p0), some (.int p1)]) (stk' := [.int x1]) rfl rfl rfl ?_)
  refine fr_if_eq (tgt := 23) dd_Mo_areTwo_4 rfl (fun _ => ?_) (fun _ => ?_)
  · refine fp_iconst (v := (0 : Int32)) dd_Mo_areTwo_23 (by decide) (fr_pc (pc' := 24) rfl ?_)
    exact fr_zret0 (v := (0 : Int32)) (Or.inl rfl) rfl rfl dd_Mo_areTwo_24
  · refine fr_pc (pc' := 7) rfl ?_
    refine fp_iload_n (i := 1) (x := p1) dd_Mo_areTwo_7 rfl rfl (fr_pc (pc' := 8) rfl ?_)
    refine fr_callS (stk := []) (ok_Mo_isStation p1) mt_Mo_isStation rfl rfl sw_1285 sw_1286 (by decide) (Nat.le_of_ble_eq_true rfl) dd_Mo_areTwo_8 (fun x3 => fr_to (pc' := 11) (env' := [some (.int p0), some (.int p1)]) (stk' := [.int x3]) rfl rfl rfl ?_)
    refine fr_if_eq (tgt := 23) dd_Mo_areTwo_11 rfl (fun _ => ?_) (fun _ => ?_)
    · refine fp_iconst (v := (0 : Int32)) dd_Mo_areTwo_23 (by decide) (fr_pc (pc' := 24) rfl ?_)
      exact fr_zret0 (v := (0 : Int32)) (Or.inl rfl) rfl rfl dd_Mo_areTwo_24
    · refine fr_pc (pc' := 14) rfl ?_
      refine fp_iload_n (i := 0) (x := p0) dd_Mo_areTwo_14 rfl rfl (fr_pc (pc' := 15) rfl ?_)
      refine fp_iload_n (i := 1) (x := p1) dd_Mo_areTwo_15 rfl rfl (fr_pc (pc' := 16) rfl ?_)
      refine fr_icmp_eq (tgt := 23) dd_Mo_areTwo_16 rfl (fun _ => ?_) (fun _ => ?_)
      · refine fp_iconst (v := (0 : Int32)) dd_Mo_areTwo_23 (by decide) (fr_pc (pc' := 24) rfl ?_)
        exact fr_zret0 (v := (0 : Int32)) (Or.inl rfl) rfl rfl dd_Mo_areTwo_24
      · refine fr_pc (pc' := 19) rfl ?_
        refine fp_iconst (v := (1 : Int32)) dd_Mo_areTwo_19 (by decide) (fr_pc (pc' := 20) rfl ?_)
        refine fp_goto (tgt := 24) dd_Mo_areTwo_20 rfl ?_
        exact fr_zret0 (v := (1 : Int32)) (Or.inr rfl) rfl rfl dd_Mo_areTwo_24
theorem mt_Mo_pairAt : sf_Mt ({ cls := "SplitFaresModel", name := "pairAt", desc := "(II)I" } : Jvm.MethodName) prog_13_method_11_code 2 (some .int) 2 := ⟨sw_1293, sw_12, ⟨by decide, by decide, by decide +kernel⟩, by decide⟩
theorem dd_Mo_pairAt_0 : decode prog_13_method_11_code 0 = .ok (.bipush 8, 2) := by decide +kernel
theorem dd_Mo_pairAt_2 : decode prog_13_method_11_code 2 = .ok (.iload_n 0, 1) := by decide +kernel
theorem dd_Mo_pairAt_3 : decode prog_13_method_11_code 3 = .ok (.imul, 1) := by decide +kernel
theorem dd_Mo_pairAt_4 : decode prog_13_method_11_code 4 = .ok (.iload_n 1, 1) := by decide +kernel
theorem dd_Mo_pairAt_5 : decode prog_13_method_11_code 5 = .ok (.iadd, 1) := by decide +kernel
theorem dd_Mo_pairAt_6 : decode prog_13_method_11_code 6 = .ok (.ireturn, 1) := by decide +kernel
def jx_Mo_pairAt (p0 : Int32) (p1 : Int32) : sf_M (Int32) :=
  sf_ret (((8 : Int32) * p0) + p1)
set_option maxRecDepth 20000 in
set_option maxHeartbeats 4000000 in
theorem ok_Mo_pairAt (p0 : Int32) (p1 : Int32) : sf_Ok ({ cls := "SplitFaresModel", name := "pairAt", desc := "(II)I" } : Jvm.MethodName) prog_13_method_11_code 2 (some .int) 0 [.int p0, .int p1] (jx_Mo_pairAt p0 p1) (fun r => some (.int r)) := by
  refine sf_Ok.of (env := [some (.int p0), some (.int p1)]) (plainFor_of_name (by decide)) [false, false] (fun G => ⟨pk_i, pk_i, trivial⟩) (Nat.le_of_ble_eq_true rfl) rfl (fun X => ?_)
  unfold jx_Mo_pairAt
  refine fp_bipush (v := (8 : Int32)) dd_Mo_pairAt_0 (by decide) (fr_pc (pc' := 2) rfl ?_)
  refine fp_iload_n (i := 0) (x := p0) dd_Mo_pairAt_2 rfl rfl (fr_pc (pc' := 3) rfl ?_)
  refine fp_imul dd_Mo_pairAt_3 (fr_pc (pc' := 4) rfl ?_)
  refine fp_iload_n (i := 1) (x := p1) dd_Mo_pairAt_4 rfl rfl (fr_pc (pc' := 5) rfl ?_)
  refine fp_iadd dd_Mo_pairAt_5 (fr_pc (pc' := 6) rfl ?_)
  exact fr_iret (v := (((8 : Int32) * p0) + p1)) rfl rfl dd_Mo_pairAt_6
theorem mt_Mo_init : sf_Mt ({ cls := "SplitFaresModel", name := "<init>", desc := "()V" } : Jvm.MethodName) prog_13_method_12_code 1 none 0 := ⟨sw_1070, sw_12, ⟨by decide, by decide, by decide +kernel⟩, by decide⟩
theorem dd_Mo_init_0 : decode prog_13_method_12_code 0 = .ok (.aload_n 0, 1) := by decide +kernel
theorem dd_Mo_init_1 : decode prog_13_method_12_code 1 = .ok (.invokespecial 26, 3) := by decide +kernel
theorem dd_Mo_init_4 : decode prog_13_method_12_code 4 = .ok (.aload_n 0, 1) := by decide +kernel
theorem dd_Mo_init_5 : decode prog_13_method_12_code 5 = .ok (.bipush 7, 2) := by decide +kernel
theorem dd_Mo_init_7 : decode prog_13_method_12_code 7 = .ok (.newarray .int, 2) := by decide +kernel
theorem dd_Mo_init_9 : decode prog_13_method_12_code 9 = .ok (.putfield 7, 3) := by decide +kernel
theorem dd_Mo_init_12 : decode prog_13_method_12_code 12 = .ok (.aload_n 0, 1) := by decide +kernel
theorem dd_Mo_init_13 : decode prog_13_method_12_code 13 = .ok (.sipush 5838, 3) := by decide +kernel
theorem dd_Mo_init_16 : decode prog_13_method_12_code 16 = .ok (.newarray .int, 2) := by decide +kernel
theorem dd_Mo_init_18 : decode prog_13_method_12_code 18 = .ok (.putfield 32, 3) := by decide +kernel
theorem dd_Mo_init_21 : decode prog_13_method_12_code 21 = .ok (.aload_n 0, 1) := by decide +kernel
theorem dd_Mo_init_22 : decode prog_13_method_12_code 22 = .ok (.sipush 11676, 3) := by decide +kernel
theorem dd_Mo_init_25 : decode prog_13_method_12_code 25 = .ok (.newarray .int, 2) := by decide +kernel
theorem dd_Mo_init_27 : decode prog_13_method_12_code 27 = .ok (.putfield 35, 3) := by decide +kernel
theorem dd_Mo_init_30 : decode prog_13_method_12_code 30 = .ok (.aload_n 0, 1) := by decide +kernel
theorem dd_Mo_init_31 : decode prog_13_method_12_code 31 = .ok (.iconst 2, 1) := by decide +kernel
theorem dd_Mo_init_32 : decode prog_13_method_12_code 32 = .ok (.newarray .boolean, 2) := by decide +kernel
theorem dd_Mo_init_34 : decode prog_13_method_12_code 34 = .ok (.putfield 38, 3) := by decide +kernel
theorem dd_Mo_init_37 : decode prog_13_method_12_code 37 = .ok (.aload_n 0, 1) := by decide +kernel
theorem dd_Mo_init_38 : decode prog_13_method_12_code 38 = .ok (.sipush 390, 3) := by decide +kernel
theorem dd_Mo_init_41 : decode prog_13_method_12_code 41 = .ok (.newarray .int, 2) := by decide +kernel
theorem dd_Mo_init_43 : decode prog_13_method_12_code 43 = .ok (.putfield 42, 3) := by decide +kernel
theorem dd_Mo_init_46 : decode prog_13_method_12_code 46 = .ok (.aload_n 0, 1) := by decide +kernel
theorem dd_Mo_init_47 : decode prog_13_method_12_code 47 = .ok (.bipush 118, 2) := by decide +kernel
theorem dd_Mo_init_49 : decode prog_13_method_12_code 49 = .ok (.newarray .byte, 2) := by decide +kernel
theorem dd_Mo_init_51 : decode prog_13_method_12_code 51 = .ok (.dup, 1) := by decide +kernel
theorem dd_Mo_init_52 : decode prog_13_method_12_code 52 = .ok (.iconst 0, 1) := by decide +kernel
theorem dd_Mo_init_53 : decode prog_13_method_12_code 53 = .ok (.bipush 99, 2) := by decide +kernel
theorem dd_Mo_init_55 : decode prog_13_method_12_code 55 = .ok (.bastore, 1) := by decide +kernel
theorem dd_Mo_init_56 : decode prog_13_method_12_code 56 = .ok (.dup, 1) := by decide +kernel
theorem dd_Mo_init_57 : decode prog_13_method_12_code 57 = .ok (.iconst 1, 1) := by decide +kernel
theorem dd_Mo_init_58 : decode prog_13_method_12_code 58 = .ok (.bipush 111, 2) := by decide +kernel
theorem dd_Mo_init_60 : decode prog_13_method_12_code 60 = .ok (.bastore, 1) := by decide +kernel
theorem dd_Mo_init_61 : decode prog_13_method_12_code 61 = .ok (.dup, 1) := by decide +kernel
theorem dd_Mo_init_62 : decode prog_13_method_12_code 62 = .ok (.iconst 2, 1) := by decide +kernel
theorem dd_Mo_init_63 : decode prog_13_method_12_code 63 = .ok (.bipush 115, 2) := by decide +kernel
theorem dd_Mo_init_65 : decode prog_13_method_12_code 65 = .ok (.bastore, 1) := by decide +kernel
theorem dd_Mo_init_66 : decode prog_13_method_12_code 66 = .ok (.dup, 1) := by decide +kernel
theorem dd_Mo_init_67 : decode prog_13_method_12_code 67 = .ok (.iconst 3, 1) := by decide +kernel
theorem dd_Mo_init_68 : decode prog_13_method_12_code 68 = .ok (.bipush 116, 2) := by decide +kernel
theorem dd_Mo_init_70 : decode prog_13_method_12_code 70 = .ok (.bastore, 1) := by decide +kernel
theorem dd_Mo_init_71 : decode prog_13_method_12_code 71 = .ok (.dup, 1) := by decide +kernel
theorem dd_Mo_init_72 : decode prog_13_method_12_code 72 = .ok (.iconst 4, 1) := by decide +kernel
theorem dd_Mo_init_73 : decode prog_13_method_12_code 73 = .ok (.bipush 115, 2) := by decide +kernel
theorem dd_Mo_init_75 : decode prog_13_method_12_code 75 = .ok (.bastore, 1) := by decide +kernel
theorem dd_Mo_init_76 : decode prog_13_method_12_code 76 = .ok (.dup, 1) := by decide +kernel
theorem dd_Mo_init_77 : decode prog_13_method_12_code 77 = .ok (.iconst 5, 1) := by decide +kernel
theorem dd_Mo_init_78 : decode prog_13_method_12_code 78 = .ok (.bipush 32, 2) := by decide +kernel
theorem dd_Mo_init_80 : decode prog_13_method_12_code 80 = .ok (.bastore, 1) := by decide +kernel
theorem dd_Mo_init_81 : decode prog_13_method_12_code 81 = .ok (.dup, 1) := by decide +kernel
theorem dd_Mo_init_82 : decode prog_13_method_12_code 82 = .ok (.bipush 6, 2) := by decide +kernel
theorem dd_Mo_init_84 : decode prog_13_method_12_code 84 = .ok (.bipush 98, 2) := by decide +kernel
theorem dd_Mo_init_86 : decode prog_13_method_12_code 86 = .ok (.bastore, 1) := by decide +kernel
theorem dd_Mo_init_87 : decode prog_13_method_12_code 87 = .ok (.dup, 1) := by decide +kernel
theorem dd_Mo_init_88 : decode prog_13_method_12_code 88 = .ok (.bipush 7, 2) := by decide +kernel
theorem dd_Mo_init_90 : decode prog_13_method_12_code 90 = .ok (.bipush 97, 2) := by decide +kernel
theorem dd_Mo_init_92 : decode prog_13_method_12_code 92 = .ok (.bastore, 1) := by decide +kernel
theorem dd_Mo_init_93 : decode prog_13_method_12_code 93 = .ok (.dup, 1) := by decide +kernel
theorem dd_Mo_init_94 : decode prog_13_method_12_code 94 = .ok (.bipush 8, 2) := by decide +kernel
theorem dd_Mo_init_96 : decode prog_13_method_12_code 96 = .ok (.bipush 114, 2) := by decide +kernel
theorem dd_Mo_init_98 : decode prog_13_method_12_code 98 = .ok (.bastore, 1) := by decide +kernel
theorem dd_Mo_init_99 : decode prog_13_method_12_code 99 = .ok (.dup, 1) := by decide +kernel
theorem dd_Mo_init_100 : decode prog_13_method_12_code 100 = .ok (.bipush 9, 2) := by decide +kernel
theorem dd_Mo_init_102 : decode prog_13_method_12_code 102 = .ok (.bipush 115, 2) := by decide +kernel
theorem dd_Mo_init_104 : decode prog_13_method_12_code 104 = .ok (.bastore, 1) := by decide +kernel
theorem dd_Mo_init_105 : decode prog_13_method_12_code 105 = .ok (.dup, 1) := by decide +kernel
theorem dd_Mo_init_106 : decode prog_13_method_12_code 106 = .ok (.bipush 10, 2) := by decide +kernel
theorem dd_Mo_init_108 : decode prog_13_method_12_code 108 = .ok (.bipush 32, 2) := by decide +kernel
theorem dd_Mo_init_110 : decode prog_13_method_12_code 110 = .ok (.bastore, 1) := by decide +kernel
theorem dd_Mo_init_111 : decode prog_13_method_12_code 111 = .ok (.dup, 1) := by decide +kernel
theorem dd_Mo_init_112 : decode prog_13_method_12_code 112 = .ok (.bipush 11, 2) := by decide +kernel
theorem dd_Mo_init_114 : decode prog_13_method_12_code 114 = .ok (.bipush 105, 2) := by decide +kernel
theorem dd_Mo_init_116 : decode prog_13_method_12_code 116 = .ok (.bastore, 1) := by decide +kernel
theorem dd_Mo_init_117 : decode prog_13_method_12_code 117 = .ok (.dup, 1) := by decide +kernel
theorem dd_Mo_init_118 : decode prog_13_method_12_code 118 = .ok (.bipush 12, 2) := by decide +kernel
theorem dd_Mo_init_120 : decode prog_13_method_12_code 120 = .ok (.bipush 102, 2) := by decide +kernel
theorem dd_Mo_init_122 : decode prog_13_method_12_code 122 = .ok (.bastore, 1) := by decide +kernel
theorem dd_Mo_init_123 : decode prog_13_method_12_code 123 = .ok (.dup, 1) := by decide +kernel
theorem dd_Mo_init_124 : decode prog_13_method_12_code 124 = .ok (.bipush 13, 2) := by decide +kernel
theorem dd_Mo_init_126 : decode prog_13_method_12_code 126 = .ok (.bipush 32, 2) := by decide +kernel
theorem dd_Mo_init_128 : decode prog_13_method_12_code 128 = .ok (.bastore, 1) := by decide +kernel
theorem dd_Mo_init_129 : decode prog_13_method_12_code 129 = .ok (.dup, 1) := by decide +kernel
theorem dd_Mo_init_130 : decode prog_13_method_12_code 130 = .ok (.bipush 14, 2) := by decide +kernel
theorem dd_Mo_init_132 : decode prog_13_method_12_code 132 = .ok (.bipush 111, 2) := by decide +kernel
theorem dd_Mo_init_134 : decode prog_13_method_12_code 134 = .ok (.bastore, 1) := by decide +kernel
theorem dd_Mo_init_135 : decode prog_13_method_12_code 135 = .ok (.dup, 1) := by decide +kernel
theorem dd_Mo_init_136 : decode prog_13_method_12_code 136 = .ok (.bipush 15, 2) := by decide +kernel
theorem dd_Mo_init_138 : decode prog_13_method_12_code 138 = .ok (.bipush 114, 2) := by decide +kernel
theorem dd_Mo_init_140 : decode prog_13_method_12_code 140 = .ok (.bastore, 1) := by decide +kernel
theorem dd_Mo_init_141 : decode prog_13_method_12_code 141 = .ok (.dup, 1) := by decide +kernel
theorem dd_Mo_init_142 : decode prog_13_method_12_code 142 = .ok (.bipush 16, 2) := by decide +kernel
theorem dd_Mo_init_144 : decode prog_13_method_12_code 144 = .ok (.bipush 32, 2) := by decide +kernel
theorem dd_Mo_init_146 : decode prog_13_method_12_code 146 = .ok (.bastore, 1) := by decide +kernel
theorem dd_Mo_init_147 : decode prog_13_method_12_code 147 = .ok (.dup, 1) := by decide +kernel
theorem dd_Mo_init_148 : decode prog_13_method_12_code 148 = .ok (.bipush 17, 2) := by decide +kernel
theorem dd_Mo_init_150 : decode prog_13_method_12_code 150 = .ok (.bipush 97, 2) := by decide +kernel
theorem dd_Mo_init_152 : decode prog_13_method_12_code 152 = .ok (.bastore, 1) := by decide +kernel
theorem dd_Mo_init_153 : decode prog_13_method_12_code 153 = .ok (.dup, 1) := by decide +kernel
theorem dd_Mo_init_154 : decode prog_13_method_12_code 154 = .ok (.bipush 18, 2) := by decide +kernel
theorem dd_Mo_init_156 : decode prog_13_method_12_code 156 = .ok (.bipush 110, 2) := by decide +kernel
theorem dd_Mo_init_158 : decode prog_13_method_12_code 158 = .ok (.bastore, 1) := by decide +kernel
theorem dd_Mo_init_159 : decode prog_13_method_12_code 159 = .ok (.dup, 1) := by decide +kernel
theorem dd_Mo_init_160 : decode prog_13_method_12_code 160 = .ok (.bipush 19, 2) := by decide +kernel
theorem dd_Mo_init_162 : decode prog_13_method_12_code 162 = .ok (.bipush 100, 2) := by decide +kernel
theorem dd_Mo_init_164 : decode prog_13_method_12_code 164 = .ok (.bastore, 1) := by decide +kernel
theorem dd_Mo_init_165 : decode prog_13_method_12_code 165 = .ok (.dup, 1) := by decide +kernel
theorem dd_Mo_init_166 : decode prog_13_method_12_code 166 = .ok (.bipush 20, 2) := by decide +kernel
theorem dd_Mo_init_168 : decode prog_13_method_12_code 168 = .ok (.bipush 32, 2) := by decide +kernel
theorem dd_Mo_init_170 : decode prog_13_method_12_code 170 = .ok (.bastore, 1) := by decide +kernel
theorem dd_Mo_init_171 : decode prog_13_method_12_code 171 = .ok (.dup, 1) := by decide +kernel
theorem dd_Mo_init_172 : decode prog_13_method_12_code 172 = .ok (.bipush 21, 2) := by decide +kernel
theorem dd_Mo_init_174 : decode prog_13_method_12_code 174 = .ok (.bipush 110, 2) := by decide +kernel
theorem dd_Mo_init_176 : decode prog_13_method_12_code 176 = .ok (.bastore, 1) := by decide +kernel
theorem dd_Mo_init_177 : decode prog_13_method_12_code 177 = .ok (.dup, 1) := by decide +kernel
theorem dd_Mo_init_178 : decode prog_13_method_12_code 178 = .ok (.bipush 22, 2) := by decide +kernel
theorem dd_Mo_init_180 : decode prog_13_method_12_code 180 = .ok (.bipush 111, 2) := by decide +kernel
theorem dd_Mo_init_182 : decode prog_13_method_12_code 182 = .ok (.bastore, 1) := by decide +kernel
theorem dd_Mo_init_183 : decode prog_13_method_12_code 183 = .ok (.dup, 1) := by decide +kernel
theorem dd_Mo_init_184 : decode prog_13_method_12_code 184 = .ok (.bipush 23, 2) := by decide +kernel
theorem dd_Mo_init_186 : decode prog_13_method_12_code 186 = .ok (.bipush 116, 2) := by decide +kernel
theorem dd_Mo_init_188 : decode prog_13_method_12_code 188 = .ok (.bastore, 1) := by decide +kernel
theorem dd_Mo_init_189 : decode prog_13_method_12_code 189 = .ok (.dup, 1) := by decide +kernel
theorem dd_Mo_init_190 : decode prog_13_method_12_code 190 = .ok (.bipush 24, 2) := by decide +kernel
theorem dd_Mo_init_192 : decode prog_13_method_12_code 192 = .ok (.bipush 32, 2) := by decide +kernel
theorem dd_Mo_init_194 : decode prog_13_method_12_code 194 = .ok (.bastore, 1) := by decide +kernel
theorem dd_Mo_init_195 : decode prog_13_method_12_code 195 = .ok (.dup, 1) := by decide +kernel
theorem dd_Mo_init_196 : decode prog_13_method_12_code 196 = .ok (.bipush 25, 2) := by decide +kernel
theorem dd_Mo_init_198 : decode prog_13_method_12_code 198 = .ok (.bipush 102, 2) := by decide +kernel
theorem dd_Mo_init_200 : decode prog_13_method_12_code 200 = .ok (.bastore, 1) := by decide +kernel
theorem dd_Mo_init_201 : decode prog_13_method_12_code 201 = .ok (.dup, 1) := by decide +kernel
theorem dd_Mo_init_202 : decode prog_13_method_12_code 202 = .ok (.bipush 26, 2) := by decide +kernel
theorem dd_Mo_init_204 : decode prog_13_method_12_code 204 = .ok (.bipush 114, 2) := by decide +kernel
theorem dd_Mo_init_206 : decode prog_13_method_12_code 206 = .ok (.bastore, 1) := by decide +kernel
theorem dd_Mo_init_207 : decode prog_13_method_12_code 207 = .ok (.dup, 1) := by decide +kernel
theorem dd_Mo_init_208 : decode prog_13_method_12_code 208 = .ok (.bipush 27, 2) := by decide +kernel
theorem dd_Mo_init_210 : decode prog_13_method_12_code 210 = .ok (.bipush 111, 2) := by decide +kernel
theorem dd_Mo_init_212 : decode prog_13_method_12_code 212 = .ok (.bastore, 1) := by decide +kernel
theorem dd_Mo_init_213 : decode prog_13_method_12_code 213 = .ok (.dup, 1) := by decide +kernel
theorem dd_Mo_init_214 : decode prog_13_method_12_code 214 = .ok (.bipush 28, 2) := by decide +kernel
theorem dd_Mo_init_216 : decode prog_13_method_12_code 216 = .ok (.bipush 109, 2) := by decide +kernel
theorem dd_Mo_init_218 : decode prog_13_method_12_code 218 = .ok (.bastore, 1) := by decide +kernel
theorem dd_Mo_init_219 : decode prog_13_method_12_code 219 = .ok (.dup, 1) := by decide +kernel
theorem dd_Mo_init_220 : decode prog_13_method_12_code 220 = .ok (.bipush 29, 2) := by decide +kernel
theorem dd_Mo_init_222 : decode prog_13_method_12_code 222 = .ok (.bipush 32, 2) := by decide +kernel
theorem dd_Mo_init_224 : decode prog_13_method_12_code 224 = .ok (.bastore, 1) := by decide +kernel
theorem dd_Mo_init_225 : decode prog_13_method_12_code 225 = .ok (.dup, 1) := by decide +kernel
theorem dd_Mo_init_226 : decode prog_13_method_12_code 226 = .ok (.bipush 30, 2) := by decide +kernel
theorem dd_Mo_init_228 : decode prog_13_method_12_code 228 = .ok (.bipush 102, 2) := by decide +kernel
theorem dd_Mo_init_230 : decode prog_13_method_12_code 230 = .ok (.bastore, 1) := by decide +kernel
theorem dd_Mo_init_231 : decode prog_13_method_12_code 231 = .ok (.dup, 1) := by decide +kernel
theorem dd_Mo_init_232 : decode prog_13_method_12_code 232 = .ok (.bipush 31, 2) := by decide +kernel
theorem dd_Mo_init_234 : decode prog_13_method_12_code 234 = .ok (.bipush 97, 2) := by decide +kernel
theorem dd_Mo_init_236 : decode prog_13_method_12_code 236 = .ok (.bastore, 1) := by decide +kernel
theorem dd_Mo_init_237 : decode prog_13_method_12_code 237 = .ok (.dup, 1) := by decide +kernel
theorem dd_Mo_init_238 : decode prog_13_method_12_code 238 = .ok (.bipush 32, 2) := by decide +kernel
theorem dd_Mo_init_240 : decode prog_13_method_12_code 240 = .ok (.bipush 114, 2) := by decide +kernel
theorem dd_Mo_init_242 : decode prog_13_method_12_code 242 = .ok (.bastore, 1) := by decide +kernel
theorem dd_Mo_init_243 : decode prog_13_method_12_code 243 = .ok (.dup, 1) := by decide +kernel
theorem dd_Mo_init_244 : decode prog_13_method_12_code 244 = .ok (.bipush 33, 2) := by decide +kernel
theorem dd_Mo_init_246 : decode prog_13_method_12_code 246 = .ok (.bipush 32, 2) := by decide +kernel
theorem dd_Mo_init_248 : decode prog_13_method_12_code 248 = .ok (.bastore, 1) := by decide +kernel
theorem dd_Mo_init_249 : decode prog_13_method_12_code 249 = .ok (.dup, 1) := by decide +kernel
theorem dd_Mo_init_250 : decode prog_13_method_12_code 250 = .ok (.bipush 34, 2) := by decide +kernel
theorem dd_Mo_init_252 : decode prog_13_method_12_code 252 = .ok (.bipush 104, 2) := by decide +kernel
theorem dd_Mo_init_254 : decode prog_13_method_12_code 254 = .ok (.bastore, 1) := by decide +kernel
theorem dd_Mo_init_255 : decode prog_13_method_12_code 255 = .ok (.dup, 1) := by decide +kernel
theorem dd_Mo_init_256 : decode prog_13_method_12_code 256 = .ok (.bipush 35, 2) := by decide +kernel
theorem dd_Mo_init_258 : decode prog_13_method_12_code 258 = .ok (.bipush 111, 2) := by decide +kernel
theorem dd_Mo_init_260 : decode prog_13_method_12_code 260 = .ok (.bastore, 1) := by decide +kernel
theorem dd_Mo_init_261 : decode prog_13_method_12_code 261 = .ok (.dup, 1) := by decide +kernel
theorem dd_Mo_init_262 : decode prog_13_method_12_code 262 = .ok (.bipush 36, 2) := by decide +kernel
theorem dd_Mo_init_264 : decode prog_13_method_12_code 264 = .ok (.bipush 117, 2) := by decide +kernel
theorem dd_Mo_init_266 : decode prog_13_method_12_code 266 = .ok (.bastore, 1) := by decide +kernel
theorem dd_Mo_init_267 : decode prog_13_method_12_code 267 = .ok (.dup, 1) := by decide +kernel
theorem dd_Mo_init_268 : decode prog_13_method_12_code 268 = .ok (.bipush 37, 2) := by decide +kernel
theorem dd_Mo_init_270 : decode prog_13_method_12_code 270 = .ok (.bipush 114, 2) := by decide +kernel
theorem dd_Mo_init_272 : decode prog_13_method_12_code 272 = .ok (.bastore, 1) := by decide +kernel
theorem dd_Mo_init_273 : decode prog_13_method_12_code 273 = .ok (.dup, 1) := by decide +kernel
theorem dd_Mo_init_274 : decode prog_13_method_12_code 274 = .ok (.bipush 38, 2) := by decide +kernel
theorem dd_Mo_init_276 : decode prog_13_method_12_code 276 = .ok (.bipush 32, 2) := by decide +kernel
theorem dd_Mo_init_278 : decode prog_13_method_12_code 278 = .ok (.bastore, 1) := by decide +kernel
theorem dd_Mo_init_279 : decode prog_13_method_12_code 279 = .ok (.dup, 1) := by decide +kernel
theorem dd_Mo_init_280 : decode prog_13_method_12_code 280 = .ok (.bipush 39, 2) := by decide +kernel
theorem dd_Mo_init_282 : decode prog_13_method_12_code 282 = .ok (.bipush 109, 2) := by decide +kernel
theorem dd_Mo_init_284 : decode prog_13_method_12_code 284 = .ok (.bastore, 1) := by decide +kernel
theorem dd_Mo_init_285 : decode prog_13_method_12_code 285 = .ok (.dup, 1) := by decide +kernel
theorem dd_Mo_init_286 : decode prog_13_method_12_code 286 = .ok (.bipush 40, 2) := by decide +kernel
theorem dd_Mo_init_288 : decode prog_13_method_12_code 288 = .ok (.bipush 111, 2) := by decide +kernel
theorem dd_Mo_init_290 : decode prog_13_method_12_code 290 = .ok (.bastore, 1) := by decide +kernel
theorem dd_Mo_init_291 : decode prog_13_method_12_code 291 = .ok (.dup, 1) := by decide +kernel
theorem dd_Mo_init_292 : decode prog_13_method_12_code 292 = .ok (.bipush 41, 2) := by decide +kernel
theorem dd_Mo_init_294 : decode prog_13_method_12_code 294 = .ok (.bipush 111, 2) := by decide +kernel
theorem dd_Mo_init_296 : decode prog_13_method_12_code 296 = .ok (.bastore, 1) := by decide +kernel
theorem dd_Mo_init_297 : decode prog_13_method_12_code 297 = .ok (.dup, 1) := by decide +kernel
theorem dd_Mo_init_298 : decode prog_13_method_12_code 298 = .ok (.bipush 42, 2) := by decide +kernel
theorem dd_Mo_init_300 : decode prog_13_method_12_code 300 = .ok (.bipush 100, 2) := by decide +kernel
theorem dd_Mo_init_302 : decode prog_13_method_12_code 302 = .ok (.bastore, 1) := by decide +kernel
theorem dd_Mo_init_303 : decode prog_13_method_12_code 303 = .ok (.dup, 1) := by decide +kernel
theorem dd_Mo_init_304 : decode prog_13_method_12_code 304 = .ok (.bipush 43, 2) := by decide +kernel
theorem dd_Mo_init_306 : decode prog_13_method_12_code 306 = .ok (.bipush 32, 2) := by decide +kernel
theorem dd_Mo_init_308 : decode prog_13_method_12_code 308 = .ok (.bastore, 1) := by decide +kernel
theorem dd_Mo_init_309 : decode prog_13_method_12_code 309 = .ok (.dup, 1) := by decide +kernel
theorem dd_Mo_init_310 : decode prog_13_method_12_code 310 = .ok (.bipush 44, 2) := by decide +kernel
theorem dd_Mo_init_312 : decode prog_13_method_12_code 312 = .ok (.bipush 114, 2) := by decide +kernel
theorem dd_Mo_init_314 : decode prog_13_method_12_code 314 = .ok (.bastore, 1) := by decide +kernel
theorem dd_Mo_init_315 : decode prog_13_method_12_code 315 = .ok (.dup, 1) := by decide +kernel
theorem dd_Mo_init_316 : decode prog_13_method_12_code 316 = .ok (.bipush 45, 2) := by decide +kernel
theorem dd_Mo_init_318 : decode prog_13_method_12_code 318 = .ok (.bipush 101, 2) := by decide +kernel
theorem dd_Mo_init_320 : decode prog_13_method_12_code 320 = .ok (.bastore, 1) := by decide +kernel
theorem dd_Mo_init_321 : decode prog_13_method_12_code 321 = .ok (.dup, 1) := by decide +kernel
theorem dd_Mo_init_322 : decode prog_13_method_12_code 322 = .ok (.bipush 46, 2) := by decide +kernel
theorem dd_Mo_init_324 : decode prog_13_method_12_code 324 = .ok (.bipush 116, 2) := by decide +kernel
theorem dd_Mo_init_326 : decode prog_13_method_12_code 326 = .ok (.bastore, 1) := by decide +kernel
theorem dd_Mo_init_327 : decode prog_13_method_12_code 327 = .ok (.dup, 1) := by decide +kernel
theorem dd_Mo_init_328 : decode prog_13_method_12_code 328 = .ok (.bipush 47, 2) := by decide +kernel
theorem dd_Mo_init_330 : decode prog_13_method_12_code 330 = .ok (.bipush 117, 2) := by decide +kernel
theorem dd_Mo_init_332 : decode prog_13_method_12_code 332 = .ok (.bastore, 1) := by decide +kernel
theorem dd_Mo_init_333 : decode prog_13_method_12_code 333 = .ok (.dup, 1) := by decide +kernel
theorem dd_Mo_init_334 : decode prog_13_method_12_code 334 = .ok (.bipush 48, 2) := by decide +kernel
theorem dd_Mo_init_336 : decode prog_13_method_12_code 336 = .ok (.bipush 114, 2) := by decide +kernel
theorem dd_Mo_init_338 : decode prog_13_method_12_code 338 = .ok (.bastore, 1) := by decide +kernel
theorem dd_Mo_init_339 : decode prog_13_method_12_code 339 = .ok (.dup, 1) := by decide +kernel
theorem dd_Mo_init_340 : decode prog_13_method_12_code 340 = .ok (.bipush 49, 2) := by decide +kernel
theorem dd_Mo_init_342 : decode prog_13_method_12_code 342 = .ok (.bipush 110, 2) := by decide +kernel
theorem dd_Mo_init_344 : decode prog_13_method_12_code 344 = .ok (.bastore, 1) := by decide +kernel
theorem dd_Mo_init_345 : decode prog_13_method_12_code 345 = .ok (.dup, 1) := by decide +kernel
theorem dd_Mo_init_346 : decode prog_13_method_12_code 346 = .ok (.bipush 50, 2) := by decide +kernel
theorem dd_Mo_init_348 : decode prog_13_method_12_code 348 = .ok (.bipush 32, 2) := by decide +kernel
theorem dd_Mo_init_350 : decode prog_13_method_12_code 350 = .ok (.bastore, 1) := by decide +kernel
theorem dd_Mo_init_351 : decode prog_13_method_12_code 351 = .ok (.dup, 1) := by decide +kernel
theorem dd_Mo_init_352 : decode prog_13_method_12_code 352 = .ok (.bipush 51, 2) := by decide +kernel
theorem dd_Mo_init_354 : decode prog_13_method_12_code 354 = .ok (.bipush 116, 2) := by decide +kernel
theorem dd_Mo_init_356 : decode prog_13_method_12_code 356 = .ok (.bastore, 1) := by decide +kernel
theorem dd_Mo_init_357 : decode prog_13_method_12_code 357 = .ok (.dup, 1) := by decide +kernel
theorem dd_Mo_init_358 : decode prog_13_method_12_code 358 = .ok (.bipush 52, 2) := by decide +kernel
theorem dd_Mo_init_360 : decode prog_13_method_12_code 360 = .ok (.bipush 111, 2) := by decide +kernel
theorem dd_Mo_init_362 : decode prog_13_method_12_code 362 = .ok (.bastore, 1) := by decide +kernel
theorem dd_Mo_init_363 : decode prog_13_method_12_code 363 = .ok (.dup, 1) := by decide +kernel
theorem dd_Mo_init_364 : decode prog_13_method_12_code 364 = .ok (.bipush 53, 2) := by decide +kernel
theorem dd_Mo_init_366 : decode prog_13_method_12_code 366 = .ok (.bipush 32, 2) := by decide +kernel
theorem dd_Mo_init_368 : decode prog_13_method_12_code 368 = .ok (.bastore, 1) := by decide +kernel
theorem dd_Mo_init_369 : decode prog_13_method_12_code 369 = .ok (.dup, 1) := by decide +kernel
theorem dd_Mo_init_370 : decode prog_13_method_12_code 370 = .ok (.bipush 54, 2) := by decide +kernel
theorem dd_Mo_init_372 : decode prog_13_method_12_code 372 = .ok (.bipush 100, 2) := by decide +kernel
theorem dd_Mo_init_374 : decode prog_13_method_12_code 374 = .ok (.bastore, 1) := by decide +kernel
theorem dd_Mo_init_375 : decode prog_13_method_12_code 375 = .ok (.dup, 1) := by decide +kernel
theorem dd_Mo_init_376 : decode prog_13_method_12_code 376 = .ok (.bipush 55, 2) := by decide +kernel
theorem dd_Mo_init_378 : decode prog_13_method_12_code 378 = .ok (.bipush 97, 2) := by decide +kernel
theorem dd_Mo_init_380 : decode prog_13_method_12_code 380 = .ok (.bastore, 1) := by decide +kernel
theorem dd_Mo_init_381 : decode prog_13_method_12_code 381 = .ok (.dup, 1) := by decide +kernel
theorem dd_Mo_init_382 : decode prog_13_method_12_code 382 = .ok (.bipush 56, 2) := by decide +kernel
theorem dd_Mo_init_384 : decode prog_13_method_12_code 384 = .ok (.bipush 121, 2) := by decide +kernel
theorem dd_Mo_init_386 : decode prog_13_method_12_code 386 = .ok (.bastore, 1) := by decide +kernel
theorem dd_Mo_init_387 : decode prog_13_method_12_code 387 = .ok (.dup, 1) := by decide +kernel
theorem dd_Mo_init_388 : decode prog_13_method_12_code 388 = .ok (.bipush 57, 2) := by decide +kernel
theorem dd_Mo_init_390 : decode prog_13_method_12_code 390 = .ok (.bipush 32, 2) := by decide +kernel
theorem dd_Mo_init_392 : decode prog_13_method_12_code 392 = .ok (.bastore, 1) := by decide +kernel
theorem dd_Mo_init_393 : decode prog_13_method_12_code 393 = .ok (.dup, 1) := by decide +kernel
theorem dd_Mo_init_394 : decode prog_13_method_12_code 394 = .ok (.bipush 58, 2) := by decide +kernel
theorem dd_Mo_init_396 : decode prog_13_method_12_code 396 = .ok (.bipush 100, 2) := by decide +kernel
theorem dd_Mo_init_398 : decode prog_13_method_12_code 398 = .ok (.bastore, 1) := by decide +kernel
theorem dd_Mo_init_399 : decode prog_13_method_12_code 399 = .ok (.dup, 1) := by decide +kernel
theorem dd_Mo_init_400 : decode prog_13_method_12_code 400 = .ok (.bipush 59, 2) := by decide +kernel
theorem dd_Mo_init_402 : decode prog_13_method_12_code 402 = .ok (.bipush 111, 2) := by decide +kernel
theorem dd_Mo_init_404 : decode prog_13_method_12_code 404 = .ok (.bastore, 1) := by decide +kernel
theorem dd_Mo_init_405 : decode prog_13_method_12_code 405 = .ok (.dup, 1) := by decide +kernel
theorem dd_Mo_init_406 : decode prog_13_method_12_code 406 = .ok (.bipush 60, 2) := by decide +kernel
theorem dd_Mo_init_408 : decode prog_13_method_12_code 408 = .ok (.bipush 110, 2) := by decide +kernel
theorem dd_Mo_init_410 : decode prog_13_method_12_code 410 = .ok (.bastore, 1) := by decide +kernel
theorem dd_Mo_init_411 : decode prog_13_method_12_code 411 = .ok (.dup, 1) := by decide +kernel
theorem dd_Mo_init_412 : decode prog_13_method_12_code 412 = .ok (.bipush 61, 2) := by decide +kernel
theorem dd_Mo_init_414 : decode prog_13_method_12_code 414 = .ok (.bipush 101, 2) := by decide +kernel
theorem dd_Mo_init_416 : decode prog_13_method_12_code 416 = .ok (.bastore, 1) := by decide +kernel
theorem dd_Mo_init_417 : decode prog_13_method_12_code 417 = .ok (.dup, 1) := by decide +kernel
theorem dd_Mo_init_418 : decode prog_13_method_12_code 418 = .ok (.bipush 62, 2) := by decide +kernel
theorem dd_Mo_init_420 : decode prog_13_method_12_code 420 = .ok (.bipush 32, 2) := by decide +kernel
theorem dd_Mo_init_422 : decode prog_13_method_12_code 422 = .ok (.bastore, 1) := by decide +kernel
theorem dd_Mo_init_423 : decode prog_13_method_12_code 423 = .ok (.dup, 1) := by decide +kernel
theorem dd_Mo_init_424 : decode prog_13_method_12_code 424 = .ok (.bipush 63, 2) := by decide +kernel
theorem dd_Mo_init_426 : decode prog_13_method_12_code 426 = .ok (.bipush 108, 2) := by decide +kernel
theorem dd_Mo_init_428 : decode prog_13_method_12_code 428 = .ok (.bastore, 1) := by decide +kernel
theorem dd_Mo_init_429 : decode prog_13_method_12_code 429 = .ok (.dup, 1) := by decide +kernel
theorem dd_Mo_init_430 : decode prog_13_method_12_code 430 = .ok (.bipush 64, 2) := by decide +kernel
theorem dd_Mo_init_432 : decode prog_13_method_12_code 432 = .ok (.bipush 97, 2) := by decide +kernel
theorem dd_Mo_init_434 : decode prog_13_method_12_code 434 = .ok (.bastore, 1) := by decide +kernel
theorem dd_Mo_init_435 : decode prog_13_method_12_code 435 = .ok (.dup, 1) := by decide +kernel
theorem dd_Mo_init_436 : decode prog_13_method_12_code 436 = .ok (.bipush 65, 2) := by decide +kernel
theorem dd_Mo_init_438 : decode prog_13_method_12_code 438 = .ok (.bipush 116, 2) := by decide +kernel
theorem dd_Mo_init_440 : decode prog_13_method_12_code 440 = .ok (.bastore, 1) := by decide +kernel
theorem dd_Mo_init_441 : decode prog_13_method_12_code 441 = .ok (.dup, 1) := by decide +kernel
theorem dd_Mo_init_442 : decode prog_13_method_12_code 442 = .ok (.bipush 66, 2) := by decide +kernel
theorem dd_Mo_init_444 : decode prog_13_method_12_code 444 = .ok (.bipush 101, 2) := by decide +kernel
theorem dd_Mo_init_446 : decode prog_13_method_12_code 446 = .ok (.bastore, 1) := by decide +kernel
theorem dd_Mo_init_447 : decode prog_13_method_12_code 447 = .ok (.dup, 1) := by decide +kernel
theorem dd_Mo_init_448 : decode prog_13_method_12_code 448 = .ok (.bipush 67, 2) := by decide +kernel
theorem dd_Mo_init_450 : decode prog_13_method_12_code 450 = .ok (.bipush 115, 2) := by decide +kernel
theorem dd_Mo_init_452 : decode prog_13_method_12_code 452 = .ok (.bastore, 1) := by decide +kernel
theorem dd_Mo_init_453 : decode prog_13_method_12_code 453 = .ok (.dup, 1) := by decide +kernel
theorem dd_Mo_init_454 : decode prog_13_method_12_code 454 = .ok (.bipush 68, 2) := by decide +kernel
theorem dd_Mo_init_456 : decode prog_13_method_12_code 456 = .ok (.bipush 116, 2) := by decide +kernel
theorem dd_Mo_init_458 : decode prog_13_method_12_code 458 = .ok (.bastore, 1) := by decide +kernel
theorem dd_Mo_init_459 : decode prog_13_method_12_code 459 = .ok (.dup, 1) := by decide +kernel
theorem dd_Mo_init_460 : decode prog_13_method_12_code 460 = .ok (.bipush 69, 2) := by decide +kernel
theorem dd_Mo_init_462 : decode prog_13_method_12_code 462 = .ok (.bipush 32, 2) := by decide +kernel
theorem dd_Mo_init_464 : decode prog_13_method_12_code 464 = .ok (.bastore, 1) := by decide +kernel
theorem dd_Mo_init_465 : decode prog_13_method_12_code 465 = .ok (.dup, 1) := by decide +kernel
theorem dd_Mo_init_466 : decode prog_13_method_12_code 466 = .ok (.bipush 70, 2) := by decide +kernel
theorem dd_Mo_init_468 : decode prog_13_method_12_code 468 = .ok (.bipush 97, 2) := by decide +kernel
theorem dd_Mo_init_470 : decode prog_13_method_12_code 470 = .ok (.bastore, 1) := by decide +kernel
theorem dd_Mo_init_471 : decode prog_13_method_12_code 471 = .ok (.dup, 1) := by decide +kernel
theorem dd_Mo_init_472 : decode prog_13_method_12_code 472 = .ok (.bipush 71, 2) := by decide +kernel
theorem dd_Mo_init_474 : decode prog_13_method_12_code 474 = .ok (.bipush 116, 2) := by decide +kernel
theorem dd_Mo_init_476 : decode prog_13_method_12_code 476 = .ok (.bastore, 1) := by decide +kernel
theorem dd_Mo_init_477 : decode prog_13_method_12_code 477 = .ok (.dup, 1) := by decide +kernel
theorem dd_Mo_init_478 : decode prog_13_method_12_code 478 = .ok (.bipush 72, 2) := by decide +kernel
theorem dd_Mo_init_480 : decode prog_13_method_12_code 480 = .ok (.bipush 32, 2) := by decide +kernel
theorem dd_Mo_init_482 : decode prog_13_method_12_code 482 = .ok (.bastore, 1) := by decide +kernel
theorem dd_Mo_init_483 : decode prog_13_method_12_code 483 = .ok (.dup, 1) := by decide +kernel
theorem dd_Mo_init_484 : decode prog_13_method_12_code 484 = .ok (.bipush 73, 2) := by decide +kernel
theorem dd_Mo_init_486 : decode prog_13_method_12_code 486 = .ok (.bipush 112, 2) := by decide +kernel
theorem dd_Mo_init_488 : decode prog_13_method_12_code 488 = .ok (.bastore, 1) := by decide +kernel
theorem dd_Mo_init_489 : decode prog_13_method_12_code 489 = .ok (.dup, 1) := by decide +kernel
theorem dd_Mo_init_490 : decode prog_13_method_12_code 490 = .ok (.bipush 74, 2) := by decide +kernel
theorem dd_Mo_init_492 : decode prog_13_method_12_code 492 = .ok (.bipush 117, 2) := by decide +kernel
theorem dd_Mo_init_494 : decode prog_13_method_12_code 494 = .ok (.bastore, 1) := by decide +kernel
theorem dd_Mo_init_495 : decode prog_13_method_12_code 495 = .ok (.dup, 1) := by decide +kernel
theorem dd_Mo_init_496 : decode prog_13_method_12_code 496 = .ok (.bipush 75, 2) := by decide +kernel
theorem dd_Mo_init_498 : decode prog_13_method_12_code 498 = .ok (.bipush 114, 2) := by decide +kernel
theorem dd_Mo_init_500 : decode prog_13_method_12_code 500 = .ok (.bastore, 1) := by decide +kernel
theorem dd_Mo_init_501 : decode prog_13_method_12_code 501 = .ok (.dup, 1) := by decide +kernel
theorem dd_Mo_init_502 : decode prog_13_method_12_code 502 = .ok (.bipush 76, 2) := by decide +kernel
theorem dd_Mo_init_504 : decode prog_13_method_12_code 504 = .ok (.bipush 115, 2) := by decide +kernel
theorem dd_Mo_init_506 : decode prog_13_method_12_code 506 = .ok (.bastore, 1) := by decide +kernel
theorem dd_Mo_init_507 : decode prog_13_method_12_code 507 = .ok (.dup, 1) := by decide +kernel
theorem dd_Mo_init_508 : decode prog_13_method_12_code 508 = .ok (.bipush 77, 2) := by decide +kernel
theorem dd_Mo_init_510 : decode prog_13_method_12_code 510 = .ok (.bipush 101, 2) := by decide +kernel
theorem dd_Mo_init_512 : decode prog_13_method_12_code 512 = .ok (.bastore, 1) := by decide +kernel
theorem dd_Mo_init_513 : decode prog_13_method_12_code 513 = .ok (.dup, 1) := by decide +kernel
theorem dd_Mo_init_514 : decode prog_13_method_12_code 514 = .ok (.bipush 78, 2) := by decide +kernel
theorem dd_Mo_init_516 : decode prog_13_method_12_code 516 = .ok (.bipush 32, 2) := by decide +kernel
theorem dd_Mo_init_518 : decode prog_13_method_12_code 518 = .ok (.bastore, 1) := by decide +kernel
theorem dd_Mo_init_519 : decode prog_13_method_12_code 519 = .ok (.dup, 1) := by decide +kernel
theorem dd_Mo_init_520 : decode prog_13_method_12_code 520 = .ok (.bipush 79, 2) := by decide +kernel
theorem dd_Mo_init_522 : decode prog_13_method_12_code 522 = .ok (.bipush 104, 2) := by decide +kernel
theorem dd_Mo_init_524 : decode prog_13_method_12_code 524 = .ok (.bastore, 1) := by decide +kernel
theorem dd_Mo_init_525 : decode prog_13_method_12_code 525 = .ok (.dup, 1) := by decide +kernel
theorem dd_Mo_init_526 : decode prog_13_method_12_code 526 = .ok (.bipush 80, 2) := by decide +kernel
theorem dd_Mo_init_528 : decode prog_13_method_12_code 528 = .ok (.bipush 101, 2) := by decide +kernel
theorem dd_Mo_init_530 : decode prog_13_method_12_code 530 = .ok (.bastore, 1) := by decide +kernel
theorem dd_Mo_init_531 : decode prog_13_method_12_code 531 = .ok (.dup, 1) := by decide +kernel
theorem dd_Mo_init_532 : decode prog_13_method_12_code 532 = .ok (.bipush 81, 2) := by decide +kernel
theorem dd_Mo_init_534 : decode prog_13_method_12_code 534 = .ok (.bipush 108, 2) := by decide +kernel
theorem dd_Mo_init_536 : decode prog_13_method_12_code 536 = .ok (.bastore, 1) := by decide +kernel
theorem dd_Mo_init_537 : decode prog_13_method_12_code 537 = .ok (.dup, 1) := by decide +kernel
theorem dd_Mo_init_538 : decode prog_13_method_12_code 538 = .ok (.bipush 82, 2) := by decide +kernel
theorem dd_Mo_init_540 : decode prog_13_method_12_code 540 = .ok (.bipush 100, 2) := by decide +kernel
theorem dd_Mo_init_542 : decode prog_13_method_12_code 542 = .ok (.bastore, 1) := by decide +kernel
theorem dd_Mo_init_543 : decode prog_13_method_12_code 543 = .ok (.dup, 1) := by decide +kernel
theorem dd_Mo_init_544 : decode prog_13_method_12_code 544 = .ok (.bipush 83, 2) := by decide +kernel
theorem dd_Mo_init_546 : decode prog_13_method_12_code 546 = .ok (.bipush 32, 2) := by decide +kernel
theorem dd_Mo_init_548 : decode prog_13_method_12_code 548 = .ok (.bastore, 1) := by decide +kernel
theorem dd_Mo_init_549 : decode prog_13_method_12_code 549 = .ok (.dup, 1) := by decide +kernel
theorem dd_Mo_init_550 : decode prog_13_method_12_code 550 = .ok (.bipush 84, 2) := by decide +kernel
theorem dd_Mo_init_552 : decode prog_13_method_12_code 552 = .ok (.bipush 115, 2) := by decide +kernel
theorem dd_Mo_init_554 : decode prog_13_method_12_code 554 = .ok (.bastore, 1) := by decide +kernel
theorem dd_Mo_init_555 : decode prog_13_method_12_code 555 = .ok (.dup, 1) := by decide +kernel
theorem dd_Mo_init_556 : decode prog_13_method_12_code 556 = .ok (.bipush 85, 2) := by decide +kernel
theorem dd_Mo_init_558 : decode prog_13_method_12_code 558 = .ok (.bipush 116, 2) := by decide +kernel
theorem dd_Mo_init_560 : decode prog_13_method_12_code 560 = .ok (.bastore, 1) := by decide +kernel
theorem dd_Mo_init_561 : decode prog_13_method_12_code 561 = .ok (.dup, 1) := by decide +kernel
theorem dd_Mo_init_562 : decode prog_13_method_12_code 562 = .ok (.bipush 86, 2) := by decide +kernel
theorem dd_Mo_init_564 : decode prog_13_method_12_code 564 = .ok (.bipush 111, 2) := by decide +kernel
theorem dd_Mo_init_566 : decode prog_13_method_12_code 566 = .ok (.bastore, 1) := by decide +kernel
theorem dd_Mo_init_567 : decode prog_13_method_12_code 567 = .ok (.dup, 1) := by decide +kernel
theorem dd_Mo_init_568 : decode prog_13_method_12_code 568 = .ok (.bipush 87, 2) := by decide +kernel
theorem dd_Mo_init_570 : decode prog_13_method_12_code 570 = .ok (.bipush 112, 2) := by decide +kernel
theorem dd_Mo_init_572 : decode prog_13_method_12_code 572 = .ok (.bastore, 1) := by decide +kernel
theorem dd_Mo_init_573 : decode prog_13_method_12_code 573 = .ok (.dup, 1) := by decide +kernel
theorem dd_Mo_init_574 : decode prog_13_method_12_code 574 = .ok (.bipush 88, 2) := by decide +kernel
theorem dd_Mo_init_576 : decode prog_13_method_12_code 576 = .ok (.bipush 115, 2) := by decide +kernel
theorem dd_Mo_init_578 : decode prog_13_method_12_code 578 = .ok (.bastore, 1) := by decide +kernel
theorem dd_Mo_init_579 : decode prog_13_method_12_code 579 = .ok (.dup, 1) := by decide +kernel
theorem dd_Mo_init_580 : decode prog_13_method_12_code 580 = .ok (.bipush 89, 2) := by decide +kernel
theorem dd_Mo_init_582 : decode prog_13_method_12_code 582 = .ok (.bipush 32, 2) := by decide +kernel
theorem dd_Mo_init_584 : decode prog_13_method_12_code 584 = .ok (.bastore, 1) := by decide +kernel
theorem dd_Mo_init_585 : decode prog_13_method_12_code 585 = .ok (.dup, 1) := by decide +kernel
theorem dd_Mo_init_586 : decode prog_13_method_12_code 586 = .ok (.bipush 90, 2) := by decide +kernel
theorem dd_Mo_init_588 : decode prog_13_method_12_code 588 = .ok (.bipush 115, 2) := by decide +kernel
theorem dd_Mo_init_590 : decode prog_13_method_12_code 590 = .ok (.bastore, 1) := by decide +kernel
theorem dd_Mo_init_591 : decode prog_13_method_12_code 591 = .ok (.dup, 1) := by decide +kernel
theorem dd_Mo_init_592 : decode prog_13_method_12_code 592 = .ok (.bipush 91, 2) := by decide +kernel
theorem dd_Mo_init_594 : decode prog_13_method_12_code 594 = .ok (.bipush 105, 2) := by decide +kernel
theorem dd_Mo_init_596 : decode prog_13_method_12_code 596 = .ok (.bastore, 1) := by decide +kernel
theorem dd_Mo_init_597 : decode prog_13_method_12_code 597 = .ok (.dup, 1) := by decide +kernel
theorem dd_Mo_init_598 : decode prog_13_method_12_code 598 = .ok (.bipush 92, 2) := by decide +kernel
theorem dd_Mo_init_600 : decode prog_13_method_12_code 600 = .ok (.bipush 110, 2) := by decide +kernel
theorem dd_Mo_init_602 : decode prog_13_method_12_code 602 = .ok (.bastore, 1) := by decide +kernel
theorem dd_Mo_init_603 : decode prog_13_method_12_code 603 = .ok (.dup, 1) := by decide +kernel
theorem dd_Mo_init_604 : decode prog_13_method_12_code 604 = .ok (.bipush 93, 2) := by decide +kernel
theorem dd_Mo_init_606 : decode prog_13_method_12_code 606 = .ok (.bipush 103, 2) := by decide +kernel
theorem dd_Mo_init_608 : decode prog_13_method_12_code 608 = .ok (.bastore, 1) := by decide +kernel
theorem dd_Mo_init_609 : decode prog_13_method_12_code 609 = .ok (.dup, 1) := by decide +kernel
theorem dd_Mo_init_610 : decode prog_13_method_12_code 610 = .ok (.bipush 94, 2) := by decide +kernel
theorem dd_Mo_init_612 : decode prog_13_method_12_code 612 = .ok (.bipush 108, 2) := by decide +kernel
theorem dd_Mo_init_614 : decode prog_13_method_12_code 614 = .ok (.bastore, 1) := by decide +kernel
theorem dd_Mo_init_615 : decode prog_13_method_12_code 615 = .ok (.dup, 1) := by decide +kernel
theorem dd_Mo_init_616 : decode prog_13_method_12_code 616 = .ok (.bipush 95, 2) := by decide +kernel
theorem dd_Mo_init_618 : decode prog_13_method_12_code 618 = .ok (.bipush 101, 2) := by decide +kernel
theorem dd_Mo_init_620 : decode prog_13_method_12_code 620 = .ok (.bastore, 1) := by decide +kernel
theorem dd_Mo_init_621 : decode prog_13_method_12_code 621 = .ok (.dup, 1) := by decide +kernel
theorem dd_Mo_init_622 : decode prog_13_method_12_code 622 = .ok (.bipush 96, 2) := by decide +kernel
theorem dd_Mo_init_624 : decode prog_13_method_12_code 624 = .ok (.bipush 32, 2) := by decide +kernel
theorem dd_Mo_init_626 : decode prog_13_method_12_code 626 = .ok (.bastore, 1) := by decide +kernel
theorem dd_Mo_init_627 : decode prog_13_method_12_code 627 = .ok (.dup, 1) := by decide +kernel
theorem dd_Mo_init_628 : decode prog_13_method_12_code 628 = .ok (.bipush 97, 2) := by decide +kernel
theorem dd_Mo_init_630 : decode prog_13_method_12_code 630 = .ok (.bipush 114, 2) := by decide +kernel
theorem dd_Mo_init_632 : decode prog_13_method_12_code 632 = .ok (.bastore, 1) := by decide +kernel
theorem dd_Mo_init_633 : decode prog_13_method_12_code 633 = .ok (.dup, 1) := by decide +kernel
theorem dd_Mo_init_634 : decode prog_13_method_12_code 634 = .ok (.bipush 98, 2) := by decide +kernel
theorem dd_Mo_init_636 : decode prog_13_method_12_code 636 = .ok (.bipush 105, 2) := by decide +kernel
theorem dd_Mo_init_638 : decode prog_13_method_12_code 638 = .ok (.bastore, 1) := by decide +kernel
theorem dd_Mo_init_639 : decode prog_13_method_12_code 639 = .ok (.dup, 1) := by decide +kernel
theorem dd_Mo_init_640 : decode prog_13_method_12_code 640 = .ok (.bipush 99, 2) := by decide +kernel
theorem dd_Mo_init_642 : decode prog_13_method_12_code 642 = .ok (.bipush 100, 2) := by decide +kernel
theorem dd_Mo_init_644 : decode prog_13_method_12_code 644 = .ok (.bastore, 1) := by decide +kernel
theorem dd_Mo_init_645 : decode prog_13_method_12_code 645 = .ok (.dup, 1) := by decide +kernel
theorem dd_Mo_init_646 : decode prog_13_method_12_code 646 = .ok (.bipush 100, 2) := by decide +kernel
theorem dd_Mo_init_648 : decode prog_13_method_12_code 648 = .ok (.bipush 101, 2) := by decide +kernel
theorem dd_Mo_init_650 : decode prog_13_method_12_code 650 = .ok (.bastore, 1) := by decide +kernel
theorem dd_Mo_init_651 : decode prog_13_method_12_code 651 = .ok (.dup, 1) := by decide +kernel
theorem dd_Mo_init_652 : decode prog_13_method_12_code 652 = .ok (.bipush 101, 2) := by decide +kernel
theorem dd_Mo_init_654 : decode prog_13_method_12_code 654 = .ok (.bipush 32, 2) := by decide +kernel
theorem dd_Mo_init_656 : decode prog_13_method_12_code 656 = .ok (.bastore, 1) := by decide +kernel
theorem dd_Mo_init_657 : decode prog_13_method_12_code 657 = .ok (.dup, 1) := by decide +kernel
theorem dd_Mo_init_658 : decode prog_13_method_12_code 658 = .ok (.bipush 102, 2) := by decide +kernel
theorem dd_Mo_init_660 : decode prog_13_method_12_code 660 = .ok (.bipush 115, 2) := by decide +kernel
theorem dd_Mo_init_662 : decode prog_13_method_12_code 662 = .ok (.bastore, 1) := by decide +kernel
theorem dd_Mo_init_663 : decode prog_13_method_12_code 663 = .ok (.dup, 1) := by decide +kernel
theorem dd_Mo_init_664 : decode prog_13_method_12_code 664 = .ok (.bipush 103, 2) := by decide +kernel
theorem dd_Mo_init_666 : decode prog_13_method_12_code 666 = .ok (.bipush 97, 2) := by decide +kernel
theorem dd_Mo_init_668 : decode prog_13_method_12_code 668 = .ok (.bastore, 1) := by decide +kernel
theorem dd_Mo_init_669 : decode prog_13_method_12_code 669 = .ok (.dup, 1) := by decide +kernel
theorem dd_Mo_init_670 : decode prog_13_method_12_code 670 = .ok (.bipush 104, 2) := by decide +kernel
theorem dd_Mo_init_672 : decode prog_13_method_12_code 672 = .ok (.bipush 118, 2) := by decide +kernel
theorem dd_Mo_init_674 : decode prog_13_method_12_code 674 = .ok (.bastore, 1) := by decide +kernel
theorem dd_Mo_init_675 : decode prog_13_method_12_code 675 = .ok (.dup, 1) := by decide +kernel
theorem dd_Mo_init_676 : decode prog_13_method_12_code 676 = .ok (.bipush 105, 2) := by decide +kernel
theorem dd_Mo_init_678 : decode prog_13_method_12_code 678 = .ok (.bipush 101, 2) := by decide +kernel
theorem dd_Mo_init_680 : decode prog_13_method_12_code 680 = .ok (.bastore, 1) := by decide +kernel
theorem dd_Mo_init_681 : decode prog_13_method_12_code 681 = .ok (.dup, 1) := by decide +kernel
theorem dd_Mo_init_682 : decode prog_13_method_12_code 682 = .ok (.bipush 106, 2) := by decide +kernel
theorem dd_Mo_init_684 : decode prog_13_method_12_code 684 = .ok (.bipush 32, 2) := by decide +kernel
theorem dd_Mo_init_686 : decode prog_13_method_12_code 686 = .ok (.bastore, 1) := by decide +kernel
theorem dd_Mo_init_687 : decode prog_13_method_12_code 687 = .ok (.dup, 1) := by decide +kernel
theorem dd_Mo_init_688 : decode prog_13_method_12_code 688 = .ok (.bipush 107, 2) := by decide +kernel
theorem dd_Mo_init_690 : decode prog_13_method_12_code 690 = .ok (.bipush 112, 2) := by decide +kernel
theorem dd_Mo_init_692 : decode prog_13_method_12_code 692 = .ok (.bastore, 1) := by decide +kernel
theorem dd_Mo_init_693 : decode prog_13_method_12_code 693 = .ok (.dup, 1) := by decide +kernel
theorem dd_Mo_init_694 : decode prog_13_method_12_code 694 = .ok (.bipush 108, 2) := by decide +kernel
theorem dd_Mo_init_696 : decode prog_13_method_12_code 696 = .ok (.bipush 97, 2) := by decide +kernel
theorem dd_Mo_init_698 : decode prog_13_method_12_code 698 = .ok (.bastore, 1) := by decide +kernel
theorem dd_Mo_init_699 : decode prog_13_method_12_code 699 = .ok (.dup, 1) := by decide +kernel
theorem dd_Mo_init_700 : decode prog_13_method_12_code 700 = .ok (.bipush 109, 2) := by decide +kernel
theorem dd_Mo_init_702 : decode prog_13_method_12_code 702 = .ok (.bipush 115, 2) := by decide +kernel
theorem dd_Mo_init_704 : decode prog_13_method_12_code 704 = .ok (.bastore, 1) := by decide +kernel
theorem dd_Mo_init_705 : decode prog_13_method_12_code 705 = .ok (.dup, 1) := by decide +kernel
theorem dd_Mo_init_706 : decode prog_13_method_12_code 706 = .ok (.bipush 110, 2) := by decide +kernel
theorem dd_Mo_init_708 : decode prog_13_method_12_code 708 = .ok (.bipush 115, 2) := by decide +kernel
theorem dd_Mo_init_710 : decode prog_13_method_12_code 710 = .ok (.bastore, 1) := by decide +kernel
theorem dd_Mo_init_711 : decode prog_13_method_12_code 711 = .ok (.dup, 1) := by decide +kernel
theorem dd_Mo_init_712 : decode prog_13_method_12_code 712 = .ok (.bipush 111, 2) := by decide +kernel
theorem dd_Mo_init_714 : decode prog_13_method_12_code 714 = .ok (.bipush 32, 2) := by decide +kernel
theorem dd_Mo_init_716 : decode prog_13_method_12_code 716 = .ok (.bastore, 1) := by decide +kernel
theorem dd_Mo_init_717 : decode prog_13_method_12_code 717 = .ok (.dup, 1) := by decide +kernel
theorem dd_Mo_init_718 : decode prog_13_method_12_code 718 = .ok (.bipush 112, 2) := by decide +kernel
theorem dd_Mo_init_720 : decode prog_13_method_12_code 720 = .ok (.bipush 116, 2) := by decide +kernel
theorem dd_Mo_init_722 : decode prog_13_method_12_code 722 = .ok (.bastore, 1) := by decide +kernel
theorem dd_Mo_init_723 : decode prog_13_method_12_code 723 = .ok (.dup, 1) := by decide +kernel
theorem dd_Mo_init_724 : decode prog_13_method_12_code 724 = .ok (.bipush 113, 2) := by decide +kernel
theorem dd_Mo_init_726 : decode prog_13_method_12_code 726 = .ok (.bipush 105, 2) := by decide +kernel
theorem dd_Mo_init_728 : decode prog_13_method_12_code 728 = .ok (.bastore, 1) := by decide +kernel
theorem dd_Mo_init_729 : decode prog_13_method_12_code 729 = .ok (.dup, 1) := by decide +kernel
theorem dd_Mo_init_730 : decode prog_13_method_12_code 730 = .ok (.bipush 114, 2) := by decide +kernel
theorem dd_Mo_init_732 : decode prog_13_method_12_code 732 = .ok (.bipush 109, 2) := by decide +kernel
theorem dd_Mo_init_734 : decode prog_13_method_12_code 734 = .ok (.bastore, 1) := by decide +kernel
theorem dd_Mo_init_735 : decode prog_13_method_12_code 735 = .ok (.dup, 1) := by decide +kernel
theorem dd_Mo_init_736 : decode prog_13_method_12_code 736 = .ok (.bipush 115, 2) := by decide +kernel
theorem dd_Mo_init_738 : decode prog_13_method_12_code 738 = .ok (.bipush 101, 2) := by decide +kernel
theorem dd_Mo_init_740 : decode prog_13_method_12_code 740 = .ok (.bastore, 1) := by decide +kernel
theorem dd_Mo_init_741 : decode prog_13_method_12_code 741 = .ok (.dup, 1) := by decide +kernel
theorem dd_Mo_init_742 : decode prog_13_method_12_code 742 = .ok (.bipush 116, 2) := by decide +kernel
theorem dd_Mo_init_744 : decode prog_13_method_12_code 744 = .ok (.bipush 115, 2) := by decide +kernel
theorem dd_Mo_init_746 : decode prog_13_method_12_code 746 = .ok (.bastore, 1) := by decide +kernel
theorem dd_Mo_init_747 : decode prog_13_method_12_code 747 = .ok (.dup, 1) := by decide +kernel
theorem dd_Mo_init_748 : decode prog_13_method_12_code 748 = .ok (.bipush 117, 2) := by decide +kernel
theorem dd_Mo_init_750 : decode prog_13_method_12_code 750 = .ok (.bipush 32, 2) := by decide +kernel
theorem dd_Mo_init_752 : decode prog_13_method_12_code 752 = .ok (.bastore, 1) := by decide +kernel
theorem dd_Mo_init_753 : decode prog_13_method_12_code 753 = .ok (.putfield 45, 3) := by decide +kernel
theorem dd_Mo_init_756 : decode prog_13_method_12_code 756 = .ok (.aload_n 0, 1) := by decide +kernel
theorem dd_Mo_init_757 : decode prog_13_method_12_code 757 = .ok (.sipush 400, 3) := by decide +kernel
theorem dd_Mo_init_760 : decode prog_13_method_12_code 760 = .ok (.newarray .byte, 2) := by decide +kernel
theorem dd_Mo_init_762 : decode prog_13_method_12_code 762 = .ok (.putfield 49, 3) := by decide +kernel
theorem dd_Mo_init_765 : decode prog_13_method_12_code 765 = .ok (.aload_n 0, 1) := by decide +kernel
theorem dd_Mo_init_766 : decode prog_13_method_12_code 766 = .ok (.iconst 5, 1) := by decide +kernel
theorem dd_Mo_init_767 : decode prog_13_method_12_code 767 = .ok (.newarray .int, 2) := by decide +kernel
theorem dd_Mo_init_769 : decode prog_13_method_12_code 769 = .ok (.putfield 52, 3) := by decide +kernel
theorem dd_Mo_init_772 : decode prog_13_method_12_code 772 = .ok (.aload_n 0, 1) := by decide +kernel
theorem dd_Mo_init_773 : decode prog_13_method_12_code 773 = .ok (.iconst (-1), 1) := by decide +kernel
theorem dd_Mo_init_774 : decode prog_13_method_12_code 774 = .ok (.putfield 55, 3) := by decide +kernel
theorem dd_Mo_init_777 : decode prog_13_method_12_code 777 = .ok (.aload_n 0, 1) := by decide +kernel
theorem dd_Mo_init_778 : decode prog_13_method_12_code 778 = .ok (.sipush 401, 3) := by decide +kernel
theorem dd_Mo_init_781 : decode prog_13_method_12_code 781 = .ok (.newarray .int, 2) := by decide +kernel
theorem dd_Mo_init_783 : decode prog_13_method_12_code 783 = .ok (.putfield 58, 3) := by decide +kernel
theorem dd_Mo_init_786 : decode prog_13_method_12_code 786 = .ok (.aload_n 0, 1) := by decide +kernel
theorem dd_Mo_init_787 : decode prog_13_method_12_code 787 = .ok (.sipush 401, 3) := by decide +kernel
theorem dd_Mo_init_790 : decode prog_13_method_12_code 790 = .ok (.newarray .int, 2) := by decide +kernel
theorem dd_Mo_init_792 : decode prog_13_method_12_code 792 = .ok (.putfield 61, 3) := by decide +kernel
theorem dd_Mo_init_795 : decode prog_13_method_12_code 795 = .ok (.aload_n 0, 1) := by decide +kernel
theorem dd_Mo_init_796 : decode prog_13_method_12_code 796 = .ok (.sipush 401, 3) := by decide +kernel
theorem dd_Mo_init_799 : decode prog_13_method_12_code 799 = .ok (.newarray .int, 2) := by decide +kernel
theorem dd_Mo_init_801 : decode prog_13_method_12_code 801 = .ok (.putfield 64, 3) := by decide +kernel
theorem dd_Mo_init_804 : decode prog_13_method_12_code 804 = .ok (.aload_n 0, 1) := by decide +kernel
theorem dd_Mo_init_805 : decode prog_13_method_12_code 805 = .ok (.bipush 7, 2) := by decide +kernel
theorem dd_Mo_init_807 : decode prog_13_method_12_code 807 = .ok (.newarray .int, 2) := by decide +kernel
theorem dd_Mo_init_809 : decode prog_13_method_12_code 809 = .ok (.putfield 67, 3) := by decide +kernel
theorem dd_Mo_init_812 : decode prog_13_method_12_code 812 = .ok (.aload_n 0, 1) := by decide +kernel
theorem dd_Mo_init_813 : decode prog_13_method_12_code 813 = .ok (.bipush 8, 2) := by decide +kernel
theorem dd_Mo_init_815 : decode prog_13_method_12_code 815 = .ok (.newarray .int, 2) := by decide +kernel
theorem dd_Mo_init_817 : decode prog_13_method_12_code 817 = .ok (.putfield 70, 3) := by decide +kernel
theorem dd_Mo_init_820 : decode prog_13_method_12_code 820 = .ok (.aload_n 0, 1) := by decide +kernel
theorem dd_Mo_init_821 : decode prog_13_method_12_code 821 = .ok (.bipush 64, 2) := by decide +kernel
theorem dd_Mo_init_823 : decode prog_13_method_12_code 823 = .ok (.newarray .int, 2) := by decide +kernel
theorem dd_Mo_init_825 : decode prog_13_method_12_code 825 = .ok (.putfield 73, 3) := by decide +kernel
theorem dd_Mo_init_828 : decode prog_13_method_12_code 828 = .ok (.aload_n 0, 1) := by decide +kernel
theorem dd_Mo_init_829 : decode prog_13_method_12_code 829 = .ok (.bipush 8, 2) := by decide +kernel
theorem dd_Mo_init_831 : decode prog_13_method_12_code 831 = .ok (.newarray .int, 2) := by decide +kernel
theorem dd_Mo_init_833 : decode prog_13_method_12_code 833 = .ok (.putfield 76, 3) := by decide +kernel
theorem dd_Mo_init_836 : decode prog_13_method_12_code 836 = .ok (.aload_n 0, 1) := by decide +kernel
theorem dd_Mo_init_837 : decode prog_13_method_12_code 837 = .ok (.bipush 64, 2) := by decide +kernel
theorem dd_Mo_init_839 : decode prog_13_method_12_code 839 = .ok (.newarray .int, 2) := by decide +kernel
theorem dd_Mo_init_841 : decode prog_13_method_12_code 841 = .ok (.putfield 79, 3) := by decide +kernel
theorem dd_Mo_init_844 : decode prog_13_method_12_code 844 = .ok (.aload_n 0, 1) := by decide +kernel
theorem dd_Mo_init_845 : decode prog_13_method_12_code 845 = .ok (.bipush 8, 2) := by decide +kernel
theorem dd_Mo_init_847 : decode prog_13_method_12_code 847 = .ok (.newarray .int, 2) := by decide +kernel
theorem dd_Mo_init_849 : decode prog_13_method_12_code 849 = .ok (.putfield 82, 3) := by decide +kernel
theorem dd_Mo_init_852 : decode prog_13_method_12_code 852 = .ok (.aload_n 0, 1) := by decide +kernel
theorem dd_Mo_init_853 : decode prog_13_method_12_code 853 = .ok (.bipush 64, 2) := by decide +kernel
theorem dd_Mo_init_855 : decode prog_13_method_12_code 855 = .ok (.newarray .int, 2) := by decide +kernel
theorem dd_Mo_init_857 : decode prog_13_method_12_code 857 = .ok (.putfield 85, 3) := by decide +kernel
theorem dd_Mo_init_860 : decode prog_13_method_12_code 860 = .ok (.aload_n 0, 1) := by decide +kernel
theorem dd_Mo_init_861 : decode prog_13_method_12_code 861 = .ok (.bipush 64, 2) := by decide +kernel
theorem dd_Mo_init_863 : decode prog_13_method_12_code 863 = .ok (.newarray .int, 2) := by decide +kernel
theorem dd_Mo_init_865 : decode prog_13_method_12_code 865 = .ok (.putfield 88, 3) := by decide +kernel
theorem dd_Mo_init_868 : decode prog_13_method_12_code 868 = .ok (.aload_n 0, 1) := by decide +kernel
theorem dd_Mo_init_869 : decode prog_13_method_12_code 869 = .ok (.bipush 64, 2) := by decide +kernel
theorem dd_Mo_init_871 : decode prog_13_method_12_code 871 = .ok (.newarray .int, 2) := by decide +kernel
theorem dd_Mo_init_873 : decode prog_13_method_12_code 873 = .ok (.putfield 91, 3) := by decide +kernel
theorem dd_Mo_init_876 : decode prog_13_method_12_code 876 = .ok (.aload_n 0, 1) := by decide +kernel
theorem dd_Mo_init_877 : decode prog_13_method_12_code 877 = .ok (.sipush 3136, 3) := by decide +kernel
theorem dd_Mo_init_880 : decode prog_13_method_12_code 880 = .ok (.newarray .int, 2) := by decide +kernel
theorem dd_Mo_init_882 : decode prog_13_method_12_code 882 = .ok (.putfield 94, 3) := by decide +kernel
theorem dd_Mo_init_885 : decode prog_13_method_12_code 885 = .ok (.aload_n 0, 1) := by decide +kernel
theorem dd_Mo_init_886 : decode prog_13_method_12_code 886 = .ok (.sipush 3136, 3) := by decide +kernel
theorem dd_Mo_init_889 : decode prog_13_method_12_code 889 = .ok (.newarray .int, 2) := by decide +kernel
theorem dd_Mo_init_891 : decode prog_13_method_12_code 891 = .ok (.putfield 97, 3) := by decide +kernel
theorem dd_Mo_init_894 : decode prog_13_method_12_code 894 = .ok (.aload_n 0, 1) := by decide +kernel
theorem dd_Mo_init_895 : decode prog_13_method_12_code 895 = .ok (.bipush 48, 2) := by decide +kernel
theorem dd_Mo_init_897 : decode prog_13_method_12_code 897 = .ok (.newarray .int, 2) := by decide +kernel
theorem dd_Mo_init_899 : decode prog_13_method_12_code 899 = .ok (.putfield 100, 3) := by decide +kernel
theorem dd_Mo_init_902 : decode prog_13_method_12_code 902 = .ok (.aload_n 0, 1) := by decide +kernel
theorem dd_Mo_init_903 : decode prog_13_method_12_code 903 = .ok (.bipush 21, 2) := by decide +kernel
theorem dd_Mo_init_905 : decode prog_13_method_12_code 905 = .ok (.newarray .long, 2) := by decide +kernel
theorem dd_Mo_init_907 : decode prog_13_method_12_code 907 = .ok (.putfield 103, 3) := by decide +kernel
theorem dd_Mo_init_910 : decode prog_13_method_12_code 910 = .ok (.aload_n 0, 1) := by decide +kernel
theorem dd_Mo_init_911 : decode prog_13_method_12_code 911 = .ok (.iconst (-1), 1) := by decide +kernel
theorem dd_Mo_init_912 : decode prog_13_method_12_code 912 = .ok (.putfield 107, 3) := by decide +kernel
theorem dd_Mo_init_915 : decode prog_13_method_12_code 915 = .ok (.aload_n 0, 1) := by decide +kernel
theorem dd_Mo_init_916 : decode prog_13_method_12_code 916 = .ok (.iconst 2, 1) := by decide +kernel
theorem dd_Mo_init_917 : decode prog_13_method_12_code 917 = .ok (.newarray .long, 2) := by decide +kernel
theorem dd_Mo_init_919 : decode prog_13_method_12_code 919 = .ok (.putfield 110, 3) := by decide +kernel
theorem dd_Mo_init_922 : decode prog_13_method_12_code 922 = .ok (.aload_n 0, 1) := by decide +kernel
theorem dd_Mo_init_923 : decode prog_13_method_12_code 923 = .ok (.iconst 4, 1) := by decide +kernel
theorem dd_Mo_init_924 : decode prog_13_method_12_code 924 = .ok (.newarray .int, 2) := by decide +kernel
theorem dd_Mo_init_926 : decode prog_13_method_12_code 926 = .ok (.putfield 113, 3) := by decide +kernel
theorem dd_Mo_init_929 : decode prog_13_method_12_code 929 = .ok (.aload_n 0, 1) := by decide +kernel
theorem dd_Mo_init_930 : decode prog_13_method_12_code 930 = .ok (.getfield 32, 3) := by decide +kernel
theorem dd_Mo_init_933 : decode prog_13_method_12_code 933 = .ok (.sipush 225, 3) := by decide +kernel
theorem dd_Mo_init_936 : decode prog_13_method_12_code 936 = .ok (.iconst 1, 1) := by decide +kernel
theorem dd_Mo_init_937 : decode prog_13_method_12_code 937 = .ok (.iastore, 1) := by decide +kernel
theorem dd_Mo_init_938 : decode prog_13_method_12_code 938 = .ok (.aload_n 0, 1) := by decide +kernel
theorem dd_Mo_init_939 : decode prog_13_method_12_code 939 = .ok (.getfield 32, 3) := by decide +kernel
theorem dd_Mo_init_942 : decode prog_13_method_12_code 942 = .ok (.sipush 193, 3) := by decide +kernel
theorem dd_Mo_init_945 : decode prog_13_method_12_code 945 = .ok (.sipush 1000, 3) := by decide +kernel
theorem dd_Mo_init_948 : decode prog_13_method_12_code 948 = .ok (.iastore, 1) := by decide +kernel
theorem dd_Mo_init_949 : decode prog_13_method_12_code 949 = .ok (.aload_n 0, 1) := by decide +kernel
theorem dd_Mo_init_950 : decode prog_13_method_12_code 950 = .ok (.getfield 32, 3) := by decide +kernel
theorem dd_Mo_init_953 : decode prog_13_method_12_code 953 = .ok (.sipush 230, 3) := by decide +kernel
theorem dd_Mo_init_956 : decode prog_13_method_12_code 956 = .ok (.iconst (-1), 1) := by decide +kernel
theorem dd_Mo_init_957 : decode prog_13_method_12_code 957 = .ok (.iastore, 1) := by decide +kernel
theorem dd_Mo_init_958 : decode prog_13_method_12_code 958 = .ok (.return_, 1) := by decide +kernel
def jx_Mo_init (p0 : Option Nat) : sf_M (Unit) :=
  sf_bnd (sf_rc 11 p0 (sf_ret ())) fun _ =>
  sf_bnd (sf_newA 0 (7 : Int32)) fun x1 =>
  sf_bnd (sf_pR 11 1 p0 x1) fun _ =>
  sf_bnd (sf_newA 0 (5838 : Int32)) fun x2 =>
  sf_bnd (sf_pR 11 2 p0 x2) fun _ =>
  sf_bnd (sf_newA 0 (11676 : Int32)) fun x3 =>
  sf_bnd (sf_pR 11 3 p0 x3) fun _ =>
  sf_bnd (sf_newA 3 (2 : Int32)) fun x4 =>
  sf_bnd (sf_pR 11 4 p0 x4) fun _ =>
  sf_bnd (sf_newA 0 (390 : Int32)) fun x5 =>
  sf_bnd (sf_pR 11 5 p0 x5) fun _ =>
  sf_bnd (sf_newA 2 (118 : Int32)) fun x6 =>
  sf_bnd (sf_sI 2 x6 (0 : Int32) (99 : Int32)) fun _ =>
  sf_bnd (sf_sI 2 x6 (1 : Int32) (111 : Int32)) fun _ =>
  sf_bnd (sf_sI 2 x6 (2 : Int32) (115 : Int32)) fun _ =>
  sf_bnd (sf_sI 2 x6 (3 : Int32) (116 : Int32)) fun _ =>
  sf_bnd (sf_sI 2 x6 (4 : Int32) (115 : Int32)) fun _ =>
  sf_bnd (sf_sI 2 x6 (5 : Int32) (32 : Int32)) fun _ =>
  sf_bnd (sf_sI 2 x6 (6 : Int32) (98 : Int32)) fun _ =>
  sf_bnd (sf_sI 2 x6 (7 : Int32) (97 : Int32)) fun _ =>
  sf_bnd (sf_sI 2 x6 (8 : Int32) (114 : Int32)) fun _ =>
  sf_bnd (sf_sI 2 x6 (9 : Int32) (115 : Int32)) fun _ =>
  sf_bnd (sf_sI 2 x6 (10 : Int32) (32 : Int32)) fun _ =>
  sf_bnd (sf_sI 2 x6 (11 : Int32) (105 : Int32)) fun _ =>
  sf_bnd (sf_sI 2 x6 (12 : Int32) (102 : Int32)) fun _ =>
  sf_bnd (sf_sI 2 x6 (13 : Int32) (32 : Int32)) fun _ =>
  sf_bnd (sf_sI 2 x6 (14 : Int32) (111 : Int32)) fun _ =>
  sf_bnd (sf_sI 2 x6 (15 : Int32) (114 : Int32)) fun _ =>
  sf_bnd (sf_sI 2 x6 (16 : Int32) (32 : Int32)) fun _ =>
  sf_bnd (sf_sI 2 x6 (17 : Int32) (97 : Int32)) fun _ =>
  sf_bnd (sf_sI 2 x6 (18 : Int32) (110 : Int32)) fun _ =>
  sf_bnd (sf_sI 2 x6 (19 : Int32) (100 : Int32)) fun _ =>
  sf_bnd (sf_sI 2 x6 (20 : Int32) (32 : Int32)) fun _ =>
  sf_bnd (sf_sI 2 x6 (21 : Int32) (110 : Int32)) fun _ =>
  sf_bnd (sf_sI 2 x6 (22 : Int32) (111 : Int32)) fun _ =>
  sf_bnd (sf_sI 2 x6 (23 : Int32) (116 : Int32)) fun _ =>
  sf_bnd (sf_sI 2 x6 (24 : Int32) (32 : Int32)) fun _ =>
  sf_bnd (sf_sI 2 x6 (25 : Int32) (102 : Int32)) fun _ =>
  sf_bnd (sf_sI 2 x6 (26 : Int32) (114 : Int32)) fun _ =>
  sf_bnd (sf_sI 2 x6 (27 : Int32) (111 : Int32)) fun _ =>
  sf_bnd (sf_sI 2 x6 (28 : Int32) (109 : Int32)) fun _ =>
  sf_bnd (sf_sI 2 x6 (29 : Int32) (32 : Int32)) fun _ =>
  sf_bnd (sf_sI 2 x6 (30 : Int32) (102 : Int32)) fun _ =>
  sf_bnd (sf_sI 2 x6 (31 : Int32) (97 : Int32)) fun _ =>
  sf_bnd (sf_sI 2 x6 (32 : Int32) (114 : Int32)) fun _ =>
  sf_bnd (sf_sI 2 x6 (33 : Int32) (32 : Int32)) fun _ =>
  sf_bnd (sf_sI 2 x6 (34 : Int32) (104 : Int32)) fun _ =>
  sf_bnd (sf_sI 2 x6 (35 : Int32) (111 : Int32)) fun _ =>
  sf_bnd (sf_sI 2 x6 (36 : Int32) (117 : Int32)) fun _ =>
  sf_bnd (sf_sI 2 x6 (37 : Int32) (114 : Int32)) fun _ =>
  sf_bnd (sf_sI 2 x6 (38 : Int32) (32 : Int32)) fun _ =>
  sf_bnd (sf_sI 2 x6 (39 : Int32) (109 : Int32)) fun _ =>
  sf_bnd (sf_sI 2 x6 (40 : Int32) (111 : Int32)) fun _ =>
  sf_bnd (sf_sI 2 x6 (41 : Int32) (111 : Int32)) fun _ =>
  sf_bnd (sf_sI 2 x6 (42 : Int32) (100 : Int32)) fun _ =>
  sf_bnd (sf_sI 2 x6 (43 : Int32) (32 : Int32)) fun _ =>
  sf_bnd (sf_sI 2 x6 (44 : Int32) (114 : Int32)) fun _ =>
  sf_bnd (sf_sI 2 x6 (45 : Int32) (101 : Int32)) fun _ =>
  sf_bnd (sf_sI 2 x6 (46 : Int32) (116 : Int32)) fun _ =>
  sf_bnd (sf_sI 2 x6 (47 : Int32) (117 : Int32)) fun _ =>
  sf_bnd (sf_sI 2 x6 (48 : Int32) (114 : Int32)) fun _ =>
  sf_bnd (sf_sI 2 x6 (49 : Int32) (110 : Int32)) fun _ =>
  sf_bnd (sf_sI 2 x6 (50 : Int32) (32 : Int32)) fun _ =>
  sf_bnd (sf_sI 2 x6 (51 : Int32) (116 : Int32)) fun _ =>
  sf_bnd (sf_sI 2 x6 (52 : Int32) (111 : Int32)) fun _ =>
  sf_bnd (sf_sI 2 x6 (53 : Int32) (32 : Int32)) fun _ =>
  sf_bnd (sf_sI 2 x6 (54 : Int32) (100 : Int32)) fun _ =>
  sf_bnd (sf_sI 2 x6 (55 : Int32) (97 : Int32)) fun _ =>
  sf_bnd (sf_sI 2 x6 (56 : Int32) (121 : Int32)) fun _ =>
  sf_bnd (sf_sI 2 x6 (57 : Int32) (32 : Int32)) fun _ =>
  sf_bnd (sf_sI 2 x6 (58 : Int32) (100 : Int32)) fun _ =>
  sf_bnd (sf_sI 2 x6 (59 : Int32) (111 : Int32)) fun _ =>
  sf_bnd (sf_sI 2 x6 (60 : Int32) (110 : Int32)) fun _ =>
  sf_bnd (sf_sI 2 x6 (61 : Int32) (101 : Int32)) fun _ =>
  sf_bnd (sf_sI 2 x6 (62 : Int32) (32 : Int32)) fun _ =>
  sf_bnd (sf_sI 2 x6 (63 : Int32) (108 : Int32)) fun _ =>
  sf_bnd (sf_sI 2 x6 (64 : Int32) (97 : Int32)) fun _ =>
  sf_bnd (sf_sI 2 x6 (65 : Int32) (116 : Int32)) fun _ =>
  sf_bnd (sf_sI 2 x6 (66 : Int32) (101 : Int32)) fun _ =>
  sf_bnd (sf_sI 2 x6 (67 : Int32) (115 : Int32)) fun _ =>
  sf_bnd (sf_sI 2 x6 (68 : Int32) (116 : Int32)) fun _ =>
  sf_bnd (sf_sI 2 x6 (69 : Int32) (32 : Int32)) fun _ =>
  sf_bnd (sf_sI 2 x6 (70 : Int32) (97 : Int32)) fun _ =>
  sf_bnd (sf_sI 2 x6 (71 : Int32) (116 : Int32)) fun _ =>
  sf_bnd (sf_sI 2 x6 (72 : Int32) (32 : Int32)) fun _ =>
  sf_bnd (sf_sI 2 x6 (73 : Int32) (112 : Int32)) fun _ =>
  sf_bnd (sf_sI 2 x6 (74 : Int32) (117 : Int32)) fun _ =>
  sf_bnd (sf_sI 2 x6 (75 : Int32) (114 : Int32)) fun _ =>
  sf_bnd (sf_sI 2 x6 (76 : Int32) (115 : Int32)) fun _ =>
  sf_bnd (sf_sI 2 x6 (77 : Int32) (101 : Int32)) fun _ =>
  sf_bnd (sf_sI 2 x6 (78 : Int32) (32 : Int32)) fun _ =>
  sf_bnd (sf_sI 2 x6 (79 : Int32) (104 : Int32)) fun _ =>
  sf_bnd (sf_sI 2 x6 (80 : Int32) (101 : Int32)) fun _ =>
  sf_bnd (sf_sI 2 x6 (81 : Int32) (108 : Int32)) fun _ =>
  sf_bnd (sf_sI 2 x6 (82 : Int32) (100 : Int32)) fun _ =>
  sf_bnd (sf_sI 2 x6 (83 : Int32) (32 : Int32)) fun _ =>
  sf_bnd (sf_sI 2 x6 (84 : Int32) (115 : Int32)) fun _ =>
  sf_bnd (sf_sI 2 x6 (85 : Int32) (116 : Int32)) fun _ =>
  sf_bnd (sf_sI 2 x6 (86 : Int32) (111 : Int32)) fun _ =>
  sf_bnd (sf_sI 2 x6 (87 : Int32) (112 : Int32)) fun _ =>
  sf_bnd (sf_sI 2 x6 (88 : Int32) (115 : Int32)) fun _ =>
  sf_bnd (sf_sI 2 x6 (89 : Int32) (32 : Int32)) fun _ =>
  sf_bnd (sf_sI 2 x6 (90 : Int32) (115 : Int32)) fun _ =>
  sf_bnd (sf_sI 2 x6 (91 : Int32) (105 : Int32)) fun _ =>
  sf_bnd (sf_sI 2 x6 (92 : Int32) (110 : Int32)) fun _ =>
  sf_bnd (sf_sI 2 x6 (93 : Int32) (103 : Int32)) fun _ =>
  sf_bnd (sf_sI 2 x6 (94 : Int32) (108 : Int32)) fun _ =>
  sf_bnd (sf_sI 2 x6 (95 : Int32) (101 : Int32)) fun _ =>
  sf_bnd (sf_sI 2 x6 (96 : Int32) (32 : Int32)) fun _ =>
  sf_bnd (sf_sI 2 x6 (97 : Int32) (114 : Int32)) fun _ =>
  sf_bnd (sf_sI 2 x6 (98 : Int32) (105 : Int32)) fun _ =>
  sf_bnd (sf_sI 2 x6 (99 : Int32) (100 : Int32)) fun _ =>
  sf_bnd (sf_sI 2 x6 (100 : Int32) (101 : Int32)) fun _ =>
  sf_bnd (sf_sI 2 x6 (101 : Int32) (32 : Int32)) fun _ =>
  sf_bnd (sf_sI 2 x6 (102 : Int32) (115 : Int32)) fun _ =>
  sf_bnd (sf_sI 2 x6 (103 : Int32) (97 : Int32)) fun _ =>
  sf_bnd (sf_sI 2 x6 (104 : Int32) (118 : Int32)) fun _ =>
  sf_bnd (sf_sI 2 x6 (105 : Int32) (101 : Int32)) fun _ =>
  sf_bnd (sf_sI 2 x6 (106 : Int32) (32 : Int32)) fun _ =>
  sf_bnd (sf_sI 2 x6 (107 : Int32) (112 : Int32)) fun _ =>
  sf_bnd (sf_sI 2 x6 (108 : Int32) (97 : Int32)) fun _ =>
  sf_bnd (sf_sI 2 x6 (109 : Int32) (115 : Int32)) fun _ =>
  sf_bnd (sf_sI 2 x6 (110 : Int32) (115 : Int32)) fun _ =>
  sf_bnd (sf_sI 2 x6 (111 : Int32) (32 : Int32)) fun _ =>
  sf_bnd (sf_sI 2 x6 (112 : Int32) (116 : Int32)) fun _ =>
  sf_bnd (sf_sI 2 x6 (113 : Int32) (105 : Int32)) fun _ =>
  sf_bnd (sf_sI 2 x6 (114 : Int32) (109 : Int32)) fun _ =>
  sf_bnd (sf_sI 2 x6 (115 : Int32) (101 : Int32)) fun _ =>
  sf_bnd (sf_sI 2 x6 (116 : Int32) (115 : Int32)) fun _ =>
  sf_bnd (sf_sI 2 x6 (117 : Int32) (32 : Int32)) fun _ =>
  sf_bnd (sf_pR 11 7 p0 x6) fun _ =>
  sf_bnd (sf_newA 2 (400 : Int32)) fun x7 =>
  sf_bnd (sf_pR 11 11 p0 x7) fun _ =>
  sf_bnd (sf_newA 0 (5 : Int32)) fun x8 =>
  sf_bnd (sf_pR 11 12 p0 x8) fun _ =>
  sf_bnd (sf_pI 11 14 p0 (-1 : Int32)) fun _ =>
  sf_bnd (sf_newA 0 (401 : Int32)) fun x9 =>
  sf_bnd (sf_pR 11 15 p0 x9) fun _ =>
  sf_bnd (sf_newA 0 (401 : Int32)) fun x10 =>
  sf_bnd (sf_pR 11 16 p0 x10) fun _ =>
  sf_bnd (sf_newA 0 (401 : Int32)) fun x11 =>
  sf_bnd (sf_pR 11 17 p0 x11) fun _ =>
  sf_bnd (sf_newA 0 (7 : Int32)) fun x12 =>
  sf_bnd (sf_pR 11 26 p0 x12) fun _ =>
  sf_bnd (sf_newA 0 (8 : Int32)) fun x13 =>
  sf_bnd (sf_pR 11 29 p0 x13) fun _ =>
  sf_bnd (sf_newA 0 (64 : Int32)) fun x14 =>
  sf_bnd (sf_pR 11 31 p0 x14) fun _ =>
  sf_bnd (sf_newA 0 (8 : Int32)) fun x15 =>
  sf_bnd (sf_pR 11 32 p0 x15) fun _ =>
  sf_bnd (sf_newA 0 (64 : Int32)) fun x16 =>
  sf_bnd (sf_pR 11 33 p0 x16) fun _ =>
  sf_bnd (sf_newA 0 (8 : Int32)) fun x17 =>
  sf_bnd (sf_pR 11 34 p0 x17) fun _ =>
  sf_bnd (sf_newA 0 (64 : Int32)) fun x18 =>
  sf_bnd (sf_pR 11 35 p0 x18) fun _ =>
  sf_bnd (sf_newA 0 (64 : Int32)) fun x19 =>
  sf_bnd (sf_pR 11 36 p0 x19) fun _ =>
  sf_bnd (sf_newA 0 (64 : Int32)) fun x20 =>
  sf_bnd (sf_pR 11 37 p0 x20) fun _ =>
  sf_bnd (sf_newA 0 (3136 : Int32)) fun x21 =>
  sf_bnd (sf_pR 11 38 p0 x21) fun _ =>
  sf_bnd (sf_newA 0 (3136 : Int32)) fun x22 =>
  sf_bnd (sf_pR 11 39 p0 x22) fun _ =>
  sf_bnd (sf_newA 0 (48 : Int32)) fun x23 =>
  sf_bnd (sf_pR 11 41 p0 x23) fun _ =>
  sf_bnd (sf_newA 1 (21 : Int32)) fun x24 =>
  sf_bnd (sf_pR 11 42 p0 x24) fun _ =>
  sf_bnd (sf_pI 11 43 p0 (-1 : Int32)) fun _ =>
  sf_bnd (sf_newA 1 (2 : Int32)) fun x25 =>
  sf_bnd (sf_pR 11 49 p0 x25) fun _ =>
  sf_bnd (sf_newA 0 (4 : Int32)) fun x26 =>
  sf_bnd (sf_pR 11 50 p0 x26) fun _ =>
  sf_bnd (sf_gR 11 2 p0) fun x27 =>
  sf_bnd (sf_sI 0 x27 (225 : Int32) (1 : Int32)) fun _ =>
  sf_bnd (sf_gR 11 2 p0) fun x28 =>
  sf_bnd (sf_sI 0 x28 (193 : Int32) (1000 : Int32)) fun _ =>
  sf_bnd (sf_gR 11 2 p0) fun x29 =>
  sf_bnd (sf_sI 0 x29 (230 : Int32) (-1 : Int32)) fun _ =>
  sf_ret ()
set_option maxRecDepth 20000 in
set_option maxHeartbeats 4000000 in
theorem ok_Mo_init (p0 : Option Nat) : sf_Ok ({ cls := "SplitFaresModel", name := "<init>", desc := "()V" } : Jvm.MethodName) prog_13_method_12_code 1 none 1 [sf_rv p0] (jx_Mo_init p0) (fun _ => none) := by
  refine sf_Ok.of (env := [some (sf_rv p0)]) (plainFor_of_name (by decide)) [false] (fun G => ⟨pk_r, trivial⟩) (Nat.le_of_ble_eq_true rfl) rfl (fun X => ?_)
  unfold jx_Mo_init
  refine fp_aload_n (i := 0) (r := p0) dd_Mo_init_0 rfl rfl (fr_pc (pc' := 1) rfl ?_)
  refine fr_obj (ci := 11) (by decide) sw_1071 sw_27 sw_28 (Nat.le_of_ble_eq_true rfl) (Nat.le_of_ble_eq_true rfl) dd_Mo_init_1 (fr_pc (pc' := 4) rfl ?_)
  refine fp_aload_n (i := 0) (r := p0) dd_Mo_init_4 rfl rfl (fr_pc (pc' := 5) rfl ?_)
  refine fp_bipush (v := (7 : Int32)) dd_Mo_init_5 (by decide) (fr_pc (pc' := 7) rfl ?_)
  refine fr_newI dd_Mo_init_7 (fun x1 => fr_pc (pc' := 9) rfl ?_)
  refine fr_pRg cl_11 1 (by decide) rfl sw_1073 (Or.inr ⟨rfl, rfl, rfl⟩) (Or.inr ⟨_, rfl⟩) dd_Mo_init_9 (fr_pc (pc' := 12) rfl ?_)
  refine fp_aload_n (i := 0) (r := p0) dd_Mo_init_12 rfl rfl (fr_pc (pc' := 13) rfl ?_)
  refine fp_sipush (v := (5838 : Int32)) dd_Mo_init_13 (by decide) (fr_pc (pc' := 16) rfl ?_)
  refine fr_newI dd_Mo_init_16 (fun x2 => fr_pc (pc' := 18) rfl ?_)
  refine fr_pRg cl_11 2 (by decide) rfl sw_1074 (Or.inr ⟨rfl, rfl, rfl⟩) (Or.inr ⟨_, rfl⟩) dd_Mo_init_18 (fr_pc (pc' := 21) rfl ?_)
  refine fp_aload_n (i := 0) (r := p0) dd_Mo_init_21 rfl rfl (fr_pc (pc' := 22) rfl ?_)
  refine fp_sipush (v := (11676 : Int32)) dd_Mo_init_22 (by decide) (fr_pc (pc' := 25) rfl ?_)
  refine fr_newI dd_Mo_init_25 (fun x3 => fr_pc (pc' := 27) rfl ?_)
  refine fr_pRg cl_11 3 (by decide) rfl sw_1075 (Or.inr ⟨rfl, rfl, rfl⟩) (Or.inr ⟨_, rfl⟩) dd_Mo_init_27 (fr_pc (pc' := 30) rfl ?_)
  refine fp_aload_n (i := 0) (r := p0) dd_Mo_init_30 rfl rfl (fr_pc (pc' := 31) rfl ?_)
  refine fp_iconst (v := (2 : Int32)) dd_Mo_init_31 (by decide) (fr_pc (pc' := 32) rfl ?_)
  refine fr_newZ dd_Mo_init_32 (fun x4 => fr_pc (pc' := 34) rfl ?_)
  refine fr_pRg cl_11 4 (by decide) rfl sw_1076 (Or.inr ⟨rfl, rfl, rfl⟩) (Or.inr ⟨_, rfl⟩) dd_Mo_init_34 (fr_pc (pc' := 37) rfl ?_)
  refine fp_aload_n (i := 0) (r := p0) dd_Mo_init_37 rfl rfl (fr_pc (pc' := 38) rfl ?_)
  refine fp_sipush (v := (390 : Int32)) dd_Mo_init_38 (by decide) (fr_pc (pc' := 41) rfl ?_)
  refine fr_newI dd_Mo_init_41 (fun x5 => fr_pc (pc' := 43) rfl ?_)
  refine fr_pRg cl_11 5 (by decide) rfl sw_1077 (Or.inr ⟨rfl, rfl, rfl⟩) (Or.inr ⟨_, rfl⟩) dd_Mo_init_43 (fr_pc (pc' := 46) rfl ?_)
  refine fp_aload_n (i := 0) (r := p0) dd_Mo_init_46 rfl rfl (fr_pc (pc' := 47) rfl ?_)
  refine fp_bipush (v := (118 : Int32)) dd_Mo_init_47 (by decide) (fr_pc (pc' := 49) rfl ?_)
  refine fr_newB dd_Mo_init_49 (fun x6 => fr_pc (pc' := 51) rfl ?_)
  refine fp_dup_r dd_Mo_init_51 (fr_pc (pc' := 52) rfl ?_)
  refine fp_iconst (v := (0 : Int32)) dd_Mo_init_52 (by decide) (fr_pc (pc' := 53) rfl ?_)
  refine fp_bipush (v := (99 : Int32)) dd_Mo_init_53 (by decide) (fr_pc (pc' := 55) rfl ?_)
  refine fr_sI2 dd_Mo_init_55 (fr_pc (pc' := 56) rfl ?_)
  refine fp_dup_r dd_Mo_init_56 (fr_pc (pc' := 57) rfl ?_)
  refine fp_iconst (v := (1 : Int32)) dd_Mo_init_57 (by decide) (fr_pc (pc' := 58) rfl ?_)
  refine fp_bipush (v := (111 : Int32)) dd_Mo_init_58 (by decide) (fr_pc (pc' := 60) rfl ?_)
  refine fr_sI2 dd_Mo_init_60 (fr_pc (pc' := 61) rfl ?_)
  refine fp_dup_r dd_Mo_init_61 (fr_pc (pc' := 62) rfl ?_)
  refine fp_iconst (v := (2 : Int32)) dd_Mo_init_62 (by decide) (fr_pc (pc' := 63) rfl ?_)
  refine fp_bipush (v := (115 : Int32)) dd_Mo_init_63 (by decide) (fr_pc (pc' := 65) rfl ?_)
  refine fr_sI2 dd_Mo_init_65 (fr_pc (pc' := 66) rfl ?_)
  refine fp_dup_r dd_Mo_init_66 (fr_pc (pc' := 67) rfl ?_)
  refine fp_iconst (v := (3 : Int32)) dd_Mo_init_67 (by decide) (fr_pc (pc' := 68) rfl ?_)
  refine fp_bipush (v := (116 : Int32)) dd_Mo_init_68 (by decide) (fr_pc (pc' := 70) rfl ?_)
  refine fr_sI2 dd_Mo_init_70 (fr_pc (pc' := 71) rfl ?_)
  refine fp_dup_r dd_Mo_init_71 (fr_pc (pc' := 72) rfl ?_)
  refine fp_iconst (v := (4 : Int32)) dd_Mo_init_72 (by decide) (fr_pc (pc' := 73) rfl ?_)
  refine fp_bipush (v := (115 : Int32)) dd_Mo_init_73 (by decide) (fr_pc (pc' := 75) rfl ?_)
  refine fr_sI2 dd_Mo_init_75 (fr_pc (pc' := 76) rfl ?_)
  refine fp_dup_r dd_Mo_init_76 (fr_pc (pc' := 77) rfl ?_)
  refine fp_iconst (v := (5 : Int32)) dd_Mo_init_77 (by decide) (fr_pc (pc' := 78) rfl ?_)
  refine fp_bipush (v := (32 : Int32)) dd_Mo_init_78 (by decide) (fr_pc (pc' := 80) rfl ?_)
  refine fr_sI2 dd_Mo_init_80 (fr_pc (pc' := 81) rfl ?_)
  refine fp_dup_r dd_Mo_init_81 (fr_pc (pc' := 82) rfl ?_)
  refine fp_bipush (v := (6 : Int32)) dd_Mo_init_82 (by decide) (fr_pc (pc' := 84) rfl ?_)
  refine fp_bipush (v := (98 : Int32)) dd_Mo_init_84 (by decide) (fr_pc (pc' := 86) rfl ?_)
  refine fr_sI2 dd_Mo_init_86 (fr_pc (pc' := 87) rfl ?_)
  refine fp_dup_r dd_Mo_init_87 (fr_pc (pc' := 88) rfl ?_)
  refine fp_bipush (v := (7 : Int32)) dd_Mo_init_88 (by decide) (fr_pc (pc' := 90) rfl ?_)
  refine fp_bipush (v := (97 : Int32)) dd_Mo_init_90 (by decide) (fr_pc (pc' := 92) rfl ?_)
  refine fr_sI2 dd_Mo_init_92 (fr_pc (pc' := 93) rfl ?_)
  refine fp_dup_r dd_Mo_init_93 (fr_pc (pc' := 94) rfl ?_)
  refine fp_bipush (v := (8 : Int32)) dd_Mo_init_94 (by decide) (fr_pc (pc' := 96) rfl ?_)
  refine fp_bipush (v := (114 : Int32)) dd_Mo_init_96 (by decide) (fr_pc (pc' := 98) rfl ?_)
  refine fr_sI2 dd_Mo_init_98 (fr_pc (pc' := 99) rfl ?_)
  refine fp_dup_r dd_Mo_init_99 (fr_pc (pc' := 100) rfl ?_)
  refine fp_bipush (v := (9 : Int32)) dd_Mo_init_100 (by decide) (fr_pc (pc' := 102) rfl ?_)
  refine fp_bipush (v := (115 : Int32)) dd_Mo_init_102 (by decide) (fr_pc (pc' := 104) rfl ?_)
  refine fr_sI2 dd_Mo_init_104 (fr_pc (pc' := 105) rfl ?_)
  refine fp_dup_r dd_Mo_init_105 (fr_pc (pc' := 106) rfl ?_)
  refine fp_bipush (v := (10 : Int32)) dd_Mo_init_106 (by decide) (fr_pc (pc' := 108) rfl ?_)
  refine fp_bipush (v := (32 : Int32)) dd_Mo_init_108 (by decide) (fr_pc (pc' := 110) rfl ?_)
  refine fr_sI2 dd_Mo_init_110 (fr_pc (pc' := 111) rfl ?_)
  refine fp_dup_r dd_Mo_init_111 (fr_pc (pc' := 112) rfl ?_)
  refine fp_bipush (v := (11 : Int32)) dd_Mo_init_112 (by decide) (fr_pc (pc' := 114) rfl ?_)
  refine fp_bipush (v := (105 : Int32)) dd_Mo_init_114 (by decide) (fr_pc (pc' := 116) rfl ?_)
  refine fr_sI2 dd_Mo_init_116 (fr_pc (pc' := 117) rfl ?_)
  refine fp_dup_r dd_Mo_init_117 (fr_pc (pc' := 118) rfl ?_)
  refine fp_bipush (v := (12 : Int32)) dd_Mo_init_118 (by decide) (fr_pc (pc' := 120) rfl ?_)
  refine fp_bipush (v := (102 : Int32)) dd_Mo_init_120 (by decide) (fr_pc (pc' := 122) rfl ?_)
  refine fr_sI2 dd_Mo_init_122 (fr_pc (pc' := 123) rfl ?_)
  refine fp_dup_r dd_Mo_init_123 (fr_pc (pc' := 124) rfl ?_)
  refine fp_bipush (v := (13 : Int32)) dd_Mo_init_124 (by decide) (fr_pc (pc' := 126) rfl ?_)
  refine fp_bipush (v := (32 : Int32)) dd_Mo_init_126 (by decide) (fr_pc (pc' := 128) rfl ?_)
  refine fr_sI2 dd_Mo_init_128 (fr_pc (pc' := 129) rfl ?_)
  refine fp_dup_r dd_Mo_init_129 (fr_pc (pc' := 130) rfl ?_)
  refine fp_bipush (v := (14 : Int32)) dd_Mo_init_130 (by decide) (fr_pc (pc' := 132) rfl ?_)
  refine fp_bipush (v := (111 : Int32)) dd_Mo_init_132 (by decide) (fr_pc (pc' := 134) rfl ?_)
  refine fr_sI2 dd_Mo_init_134 (fr_pc (pc' := 135) rfl ?_)
  refine fp_dup_r dd_Mo_init_135 (fr_pc (pc' := 136) rfl ?_)
  refine fp_bipush (v := (15 : Int32)) dd_Mo_init_136 (by decide) (fr_pc (pc' := 138) rfl ?_)
  refine fp_bipush (v := (114 : Int32)) dd_Mo_init_138 (by decide) (fr_pc (pc' := 140) rfl ?_)
  refine fr_sI2 dd_Mo_init_140 (fr_pc (pc' := 141) rfl ?_)
  refine fp_dup_r dd_Mo_init_141 (fr_pc (pc' := 142) rfl ?_)
  refine fp_bipush (v := (16 : Int32)) dd_Mo_init_142 (by decide) (fr_pc (pc' := 144) rfl ?_)
  refine fp_bipush (v := (32 : Int32)) dd_Mo_init_144 (by decide) (fr_pc (pc' := 146) rfl ?_)
  refine fr_sI2 dd_Mo_init_146 (fr_pc (pc' := 147) rfl ?_)
  refine fp_dup_r dd_Mo_init_147 (fr_pc (pc' := 148) rfl ?_)
  refine fp_bipush (v := (17 : Int32)) dd_Mo_init_148 (by decide) (fr_pc (pc' := 150) rfl ?_)
  refine fp_bipush (v := (97 : Int32)) dd_Mo_init_150 (by decide) (fr_pc (pc' := 152) rfl ?_)
  refine fr_sI2 dd_Mo_init_152 (fr_pc (pc' := 153) rfl ?_)
  refine fp_dup_r dd_Mo_init_153 (fr_pc (pc' := 154) rfl ?_)
  refine fp_bipush (v := (18 : Int32)) dd_Mo_init_154 (by decide) (fr_pc (pc' := 156) rfl ?_)
  refine fp_bipush (v := (110 : Int32)) dd_Mo_init_156 (by decide) (fr_pc (pc' := 158) rfl ?_)
  refine fr_sI2 dd_Mo_init_158 (fr_pc (pc' := 159) rfl ?_)
  refine fp_dup_r dd_Mo_init_159 (fr_pc (pc' := 160) rfl ?_)
  refine fp_bipush (v := (19 : Int32)) dd_Mo_init_160 (by decide) (fr_pc (pc' := 162) rfl ?_)
  refine fp_bipush (v := (100 : Int32)) dd_Mo_init_162 (by decide) (fr_pc (pc' := 164) rfl ?_)
  refine fr_sI2 dd_Mo_init_164 (fr_pc (pc' := 165) rfl ?_)
  refine fp_dup_r dd_Mo_init_165 (fr_pc (pc' := 166) rfl ?_)
  refine fp_bipush (v := (20 : Int32)) dd_Mo_init_166 (by decide) (fr_pc (pc' := 168) rfl ?_)
  refine fp_bipush (v := (32 : Int32)) dd_Mo_init_168 (by decide) (fr_pc (pc' := 170) rfl ?_)
  refine fr_sI2 dd_Mo_init_170 (fr_pc (pc' := 171) rfl ?_)
  refine fp_dup_r dd_Mo_init_171 (fr_pc (pc' := 172) rfl ?_)
  refine fp_bipush (v := (21 : Int32)) dd_Mo_init_172 (by decide) (fr_pc (pc' := 174) rfl ?_)
  refine fp_bipush (v := (110 : Int32)) dd_Mo_init_174 (by decide) (fr_pc (pc' := 176) rfl ?_)
  refine fr_sI2 dd_Mo_init_176 (fr_pc (pc' := 177) rfl ?_)
  refine fp_dup_r dd_Mo_init_177 (fr_pc (pc' := 178) rfl ?_)
  refine fp_bipush (v := (22 : Int32)) dd_Mo_init_178 (by decide) (fr_pc (pc' := 180) rfl ?_)
  refine fp_bipush (v := (111 : Int32)) dd_Mo_init_180 (by decide) (fr_pc (pc' := 182) rfl ?_)
  refine fr_sI2 dd_Mo_init_182 (fr_pc (pc' := 183) rfl ?_)
  refine fp_dup_r dd_Mo_init_183 (fr_pc (pc' := 184) rfl ?_)
  refine fp_bipush (v := (23 : Int32)) dd_Mo_init_184 (by decide) (fr_pc (pc' := 186) rfl ?_)
  refine fp_bipush (v := (116 : Int32)) dd_Mo_init_186 (by decide) (fr_pc (pc' := 188) rfl ?_)
  refine fr_sI2 dd_Mo_init_188 (fr_pc (pc' := 189) rfl ?_)
  refine fp_dup_r dd_Mo_init_189 (fr_pc (pc' := 190) rfl ?_)
  refine fp_bipush (v := (24 : Int32)) dd_Mo_init_190 (by decide) (fr_pc (pc' := 192) rfl ?_)
  refine fp_bipush (v := (32 : Int32)) dd_Mo_init_192 (by decide) (fr_pc (pc' := 194) rfl ?_)
  refine fr_sI2 dd_Mo_init_194 (fr_pc (pc' := 195) rfl ?_)
  refine fp_dup_r dd_Mo_init_195 (fr_pc (pc' := 196) rfl ?_)
  refine fp_bipush (v := (25 : Int32)) dd_Mo_init_196 (by decide) (fr_pc (pc' := 198) rfl ?_)
  refine fp_bipush (v := (102 : Int32)) dd_Mo_init_198 (by decide) (fr_pc (pc' := 200) rfl ?_)
  refine fr_sI2 dd_Mo_init_200 (fr_pc (pc' := 201) rfl ?_)
  refine fp_dup_r dd_Mo_init_201 (fr_pc (pc' := 202) rfl ?_)
  refine fp_bipush (v := (26 : Int32)) dd_Mo_init_202 (by decide) (fr_pc (pc' := 204) rfl ?_)
  refine fp_bipush (v := (114 : Int32)) dd_Mo_init_204 (by decide) (fr_pc (pc' := 206) rfl ?_)
  refine fr_sI2 dd_Mo_init_206 (fr_pc (pc' := 207) rfl ?_)
  refine fp_dup_r dd_Mo_init_207 (fr_pc (pc' := 208) rfl ?_)
  refine fp_bipush (v := (27 : Int32)) dd_Mo_init_208 (by decide) (fr_pc (pc' := 210) rfl ?_)
  refine fp_bipush (v := (111 : Int32)) dd_Mo_init_210 (by decide) (fr_pc (pc' := 212) rfl ?_)
  refine fr_sI2 dd_Mo_init_212 (fr_pc (pc' := 213) rfl ?_)
  refine fp_dup_r dd_Mo_init_213 (fr_pc (pc' := 214) rfl ?_)
  refine fp_bipush (v := (28 : Int32)) dd_Mo_init_214 (by decide) (fr_pc (pc' := 216) rfl ?_)
  refine fp_bipush (v := (109 : Int32)) dd_Mo_init_216 (by decide) (fr_pc (pc' := 218) rfl ?_)
  refine fr_sI2 dd_Mo_init_218 (fr_pc (pc' := 219) rfl ?_)
  refine fp_dup_r dd_Mo_init_219 (fr_pc (pc' := 220) rfl ?_)
  refine fp_bipush (v := (29 : Int32)) dd_Mo_init_220 (by decide) (fr_pc (pc' := 222) rfl ?_)
  refine fp_bipush (v := (32 : Int32)) dd_Mo_init_222 (by decide) (fr_pc (pc' := 224) rfl ?_)
  refine fr_sI2 dd_Mo_init_224 (fr_pc (pc' := 225) rfl ?_)
  refine fp_dup_r dd_Mo_init_225 (fr_pc (pc' := 226) rfl ?_)
  refine fp_bipush (v := (30 : Int32)) dd_Mo_init_226 (by decide) (fr_pc (pc' := 228) rfl ?_)
  refine fp_bipush (v := (102 : Int32)) dd_Mo_init_228 (by decide) (fr_pc (pc' := 230) rfl ?_)
  refine fr_sI2 dd_Mo_init_230 (fr_pc (pc' := 231) rfl ?_)
  refine fp_dup_r dd_Mo_init_231 (fr_pc (pc' := 232) rfl ?_)
  refine fp_bipush (v := (31 : Int32)) dd_Mo_init_232 (by decide) (fr_pc (pc' := 234) rfl ?_)
  refine fp_bipush (v := (97 : Int32)) dd_Mo_init_234 (by decide) (fr_pc (pc' := 236) rfl ?_)
  refine fr_sI2 dd_Mo_init_236 (fr_pc (pc' := 237) rfl ?_)
  refine fp_dup_r dd_Mo_init_237 (fr_pc (pc' := 238) rfl ?_)
  refine fp_bipush (v := (32 : Int32)) dd_Mo_init_238 (by decide) (fr_pc (pc' := 240) rfl ?_)
  refine fp_bipush (v := (114 : Int32)) dd_Mo_init_240 (by decide) (fr_pc (pc' := 242) rfl ?_)
  refine fr_sI2 dd_Mo_init_242 (fr_pc (pc' := 243) rfl ?_)
  refine fp_dup_r dd_Mo_init_243 (fr_pc (pc' := 244) rfl ?_)
  refine fp_bipush (v := (33 : Int32)) dd_Mo_init_244 (by decide) (fr_pc (pc' := 246) rfl ?_)
  refine fp_bipush (v := (32 : Int32)) dd_Mo_init_246 (by decide) (fr_pc (pc' := 248) rfl ?_)
  refine fr_sI2 dd_Mo_init_248 (fr_pc (pc' := 249) rfl ?_)
  refine fp_dup_r dd_Mo_init_249 (fr_pc (pc' := 250) rfl ?_)
  refine fp_bipush (v := (34 : Int32)) dd_Mo_init_250 (by decide) (fr_pc (pc' := 252) rfl ?_)
  refine fp_bipush (v := (104 : Int32)) dd_Mo_init_252 (by decide) (fr_pc (pc' := 254) rfl ?_)
  refine fr_sI2 dd_Mo_init_254 (fr_pc (pc' := 255) rfl ?_)
  refine fp_dup_r dd_Mo_init_255 (fr_pc (pc' := 256) rfl ?_)
  refine fp_bipush (v := (35 : Int32)) dd_Mo_init_256 (by decide) (fr_pc (pc' := 258) rfl ?_)
  refine fp_bipush (v := (111 : Int32)) dd_Mo_init_258 (by decide) (fr_pc (pc' := 260) rfl ?_)
  refine fr_sI2 dd_Mo_init_260 (fr_pc (pc' := 261) rfl ?_)
  refine fp_dup_r dd_Mo_init_261 (fr_pc (pc' := 262) rfl ?_)
  refine fp_bipush (v := (36 : Int32)) dd_Mo_init_262 (by decide) (fr_pc (pc' := 264) rfl ?_)
  refine fp_bipush (v := (117 : Int32)) dd_Mo_init_264 (by decide) (fr_pc (pc' := 266) rfl ?_)
  refine fr_sI2 dd_Mo_init_266 (fr_pc (pc' := 267) rfl ?_)
  refine fp_dup_r dd_Mo_init_267 (fr_pc (pc' := 268) rfl ?_)
  refine fp_bipush (v := (37 : Int32)) dd_Mo_init_268 (by decide) (fr_pc (pc' := 270) rfl ?_)
  refine fp_bipush (v := (114 : Int32)) dd_Mo_init_270 (by decide) (fr_pc (pc' := 272) rfl ?_)
  refine fr_sI2 dd_Mo_init_272 (fr_pc (pc' := 273) rfl ?_)
  refine fp_dup_r dd_Mo_init_273 (fr_pc (pc' := 274) rfl ?_)
  refine fp_bipush (v := (38 : Int32)) dd_Mo_init_274 (by decide) (fr_pc (pc' := 276) rfl ?_)
  refine fp_bipush (v := (32 : Int32)) dd_Mo_init_276 (by decide) (fr_pc (pc' := 278) rfl ?_)
  refine fr_sI2 dd_Mo_init_278 (fr_pc (pc' := 279) rfl ?_)
  refine fp_dup_r dd_Mo_init_279 (fr_pc (pc' := 280) rfl ?_)
  refine fp_bipush (v := (39 : Int32)) dd_Mo_init_280 (by decide) (fr_pc (pc' := 282) rfl ?_)
  refine fp_bipush (v := (109 : Int32)) dd_Mo_init_282 (by decide) (fr_pc (pc' := 284) rfl ?_)
  refine fr_sI2 dd_Mo_init_284 (fr_pc (pc' := 285) rfl ?_)
  refine fp_dup_r dd_Mo_init_285 (fr_pc (pc' := 286) rfl ?_)
  refine fp_bipush (v := (40 : Int32)) dd_Mo_init_286 (by decide) (fr_pc (pc' := 288) rfl ?_)
  refine fp_bipush (v := (111 : Int32)) dd_Mo_init_288 (by decide) (fr_pc (pc' := 290) rfl ?_)
  refine fr_sI2 dd_Mo_init_290 (fr_pc (pc' := 291) rfl ?_)
  refine fp_dup_r dd_Mo_init_291 (fr_pc (pc' := 292) rfl ?_)
  refine fp_bipush (v := (41 : Int32)) dd_Mo_init_292 (by decide) (fr_pc (pc' := 294) rfl ?_)
  refine fp_bipush (v := (111 : Int32)) dd_Mo_init_294 (by decide) (fr_pc (pc' := 296) rfl ?_)
  refine fr_sI2 dd_Mo_init_296 (fr_pc (pc' := 297) rfl ?_)
  refine fp_dup_r dd_Mo_init_297 (fr_pc (pc' := 298) rfl ?_)
  refine fp_bipush (v := (42 : Int32)) dd_Mo_init_298 (by decide) (fr_pc (pc' := 300) rfl ?_)
  refine fp_bipush (v := (100 : Int32)) dd_Mo_init_300 (by decide) (fr_pc (pc' := 302) rfl ?_)
  refine fr_sI2 dd_Mo_init_302 (fr_pc (pc' := 303) rfl ?_)
  refine fp_dup_r dd_Mo_init_303 (fr_pc (pc' := 304) rfl ?_)
  refine fp_bipush (v := (43 : Int32)) dd_Mo_init_304 (by decide) (fr_pc (pc' := 306) rfl ?_)
  refine fp_bipush (v := (32 : Int32)) dd_Mo_init_306 (by decide) (fr_pc (pc' := 308) rfl ?_)
  refine fr_sI2 dd_Mo_init_308 (fr_pc (pc' := 309) rfl ?_)
  refine fp_dup_r dd_Mo_init_309 (fr_pc (pc' := 310) rfl ?_)
  refine fp_bipush (v := (44 : Int32)) dd_Mo_init_310 (by decide) (fr_pc (pc' := 312) rfl ?_)
  refine fp_bipush (v := (114 : Int32)) dd_Mo_init_312 (by decide) (fr_pc (pc' := 314) rfl ?_)
  refine fr_sI2 dd_Mo_init_314 (fr_pc (pc' := 315) rfl ?_)
  refine fp_dup_r dd_Mo_init_315 (fr_pc (pc' := 316) rfl ?_)
  refine fp_bipush (v := (45 : Int32)) dd_Mo_init_316 (by decide) (fr_pc (pc' := 318) rfl ?_)
  refine fp_bipush (v := (101 : Int32)) dd_Mo_init_318 (by decide) (fr_pc (pc' := 320) rfl ?_)
  refine fr_sI2 dd_Mo_init_320 (fr_pc (pc' := 321) rfl ?_)
  refine fp_dup_r dd_Mo_init_321 (fr_pc (pc' := 322) rfl ?_)
  refine fp_bipush (v := (46 : Int32)) dd_Mo_init_322 (by decide) (fr_pc (pc' := 324) rfl ?_)
  refine fp_bipush (v := (116 : Int32)) dd_Mo_init_324 (by decide) (fr_pc (pc' := 326) rfl ?_)
  refine fr_sI2 dd_Mo_init_326 (fr_pc (pc' := 327) rfl ?_)
  refine fp_dup_r dd_Mo_init_327 (fr_pc (pc' := 328) rfl ?_)
  refine fp_bipush (v := (47 : Int32)) dd_Mo_init_328 (by decide) (fr_pc (pc' := 330) rfl ?_)
  refine fp_bipush (v := (117 : Int32)) dd_Mo_init_330 (by decide) (fr_pc (pc' := 332) rfl ?_)
  refine fr_sI2 dd_Mo_init_332 (fr_pc (pc' := 333) rfl ?_)
  refine fp_dup_r dd_Mo_init_333 (fr_pc (pc' := 334) rfl ?_)
  refine fp_bipush (v := (48 : Int32)) dd_Mo_init_334 (by decide) (fr_pc (pc' := 336) rfl ?_)
  refine fp_bipush (v := (114 : Int32)) dd_Mo_init_336 (by decide) (fr_pc (pc' := 338) rfl ?_)
  refine fr_sI2 dd_Mo_init_338 (fr_pc (pc' := 339) rfl ?_)
  refine fp_dup_r dd_Mo_init_339 (fr_pc (pc' := 340) rfl ?_)
  refine fp_bipush (v := (49 : Int32)) dd_Mo_init_340 (by decide) (fr_pc (pc' := 342) rfl ?_)
  refine fp_bipush (v := (110 : Int32)) dd_Mo_init_342 (by decide) (fr_pc (pc' := 344) rfl ?_)
  refine fr_sI2 dd_Mo_init_344 (fr_pc (pc' := 345) rfl ?_)
  refine fp_dup_r dd_Mo_init_345 (fr_pc (pc' := 346) rfl ?_)
  refine fp_bipush (v := (50 : Int32)) dd_Mo_init_346 (by decide) (fr_pc (pc' := 348) rfl ?_)
  refine fp_bipush (v := (32 : Int32)) dd_Mo_init_348 (by decide) (fr_pc (pc' := 350) rfl ?_)
  refine fr_sI2 dd_Mo_init_350 (fr_pc (pc' := 351) rfl ?_)
  refine fp_dup_r dd_Mo_init_351 (fr_pc (pc' := 352) rfl ?_)
  refine fp_bipush (v := (51 : Int32)) dd_Mo_init_352 (by decide) (fr_pc (pc' := 354) rfl ?_)
  refine fp_bipush (v := (116 : Int32)) dd_Mo_init_354 (by decide) (fr_pc (pc' := 356) rfl ?_)
  refine fr_sI2 dd_Mo_init_356 (fr_pc (pc' := 357) rfl ?_)
  refine fp_dup_r dd_Mo_init_357 (fr_pc (pc' := 358) rfl ?_)
  refine fp_bipush (v := (52 : Int32)) dd_Mo_init_358 (by decide) (fr_pc (pc' := 360) rfl ?_)
  refine fp_bipush (v := (111 : Int32)) dd_Mo_init_360 (by decide) (fr_pc (pc' := 362) rfl ?_)
  refine fr_sI2 dd_Mo_init_362 (fr_pc (pc' := 363) rfl ?_)
  refine fp_dup_r dd_Mo_init_363 (fr_pc (pc' := 364) rfl ?_)
  refine fp_bipush (v := (53 : Int32)) dd_Mo_init_364 (by decide) (fr_pc (pc' := 366) rfl ?_)
  refine fp_bipush (v := (32 : Int32)) dd_Mo_init_366 (by decide) (fr_pc (pc' := 368) rfl ?_)
  refine fr_sI2 dd_Mo_init_368 (fr_pc (pc' := 369) rfl ?_)
  refine fp_dup_r dd_Mo_init_369 (fr_pc (pc' := 370) rfl ?_)
  refine fp_bipush (v := (54 : Int32)) dd_Mo_init_370 (by decide) (fr_pc (pc' := 372) rfl ?_)
  refine fp_bipush (v := (100 : Int32)) dd_Mo_init_372 (by decide) (fr_pc (pc' := 374) rfl ?_)
  refine fr_sI2 dd_Mo_init_374 (fr_pc (pc' := 375) rfl ?_)
  refine fp_dup_r dd_Mo_init_375 (fr_pc (pc' := 376) rfl ?_)
  refine fp_bipush (v := (55 : Int32)) dd_Mo_init_376 (by decide) (fr_pc (pc' := 378) rfl ?_)
  refine fp_bipush (v := (97 : Int32)) dd_Mo_init_378 (by decide) (fr_pc (pc' := 380) rfl ?_)
  refine fr_sI2 dd_Mo_init_380 (fr_pc (pc' := 381) rfl ?_)
  refine fp_dup_r dd_Mo_init_381 (fr_pc (pc' := 382) rfl ?_)
  refine fp_bipush (v := (56 : Int32)) dd_Mo_init_382 (by decide) (fr_pc (pc' := 384) rfl ?_)
  refine fp_bipush (v := (121 : Int32)) dd_Mo_init_384 (by decide) (fr_pc (pc' := 386) rfl ?_)
  refine fr_sI2 dd_Mo_init_386 (fr_pc (pc' := 387) rfl ?_)
  refine fp_dup_r dd_Mo_init_387 (fr_pc (pc' := 388) rfl ?_)
  refine fp_bipush (v := (57 : Int32)) dd_Mo_init_388 (by decide) (fr_pc (pc' := 390) rfl ?_)
  refine fp_bipush (v := (32 : Int32)) dd_Mo_init_390 (by decide) (fr_pc (pc' := 392) rfl ?_)
  refine fr_sI2 dd_Mo_init_392 (fr_pc (pc' := 393) rfl ?_)
  refine fp_dup_r dd_Mo_init_393 (fr_pc (pc' := 394) rfl ?_)
  refine fp_bipush (v := (58 : Int32)) dd_Mo_init_394 (by decide) (fr_pc (pc' := 396) rfl ?_)
  refine fp_bipush (v := (100 : Int32)) dd_Mo_init_396 (by decide) (fr_pc (pc' := 398) rfl ?_)
  refine fr_sI2 dd_Mo_init_398 (fr_pc (pc' := 399) rfl ?_)
  refine fp_dup_r dd_Mo_init_399 (fr_pc (pc' := 400) rfl ?_)
  refine fp_bipush (v := (59 : Int32)) dd_Mo_init_400 (by decide) (fr_pc (pc' := 402) rfl ?_)
  refine fp_bipush (v := (111 : Int32)) dd_Mo_init_402 (by decide) (fr_pc (pc' := 404) rfl ?_)
  refine fr_sI2 dd_Mo_init_404 (fr_pc (pc' := 405) rfl ?_)
  refine fp_dup_r dd_Mo_init_405 (fr_pc (pc' := 406) rfl ?_)
  refine fp_bipush (v := (60 : Int32)) dd_Mo_init_406 (by decide) (fr_pc (pc' := 408) rfl ?_)
  refine fp_bipush (v := (110 : Int32)) dd_Mo_init_408 (by decide) (fr_pc (pc' := 410) rfl ?_)
  refine fr_sI2 dd_Mo_init_410 (fr_pc (pc' := 411) rfl ?_)
  refine fp_dup_r dd_Mo_init_411 (fr_pc (pc' := 412) rfl ?_)
  refine fp_bipush (v := (61 : Int32)) dd_Mo_init_412 (by decide) (fr_pc (pc' := 414) rfl ?_)
  refine fp_bipush (v := (101 : Int32)) dd_Mo_init_414 (by decide) (fr_pc (pc' := 416) rfl ?_)
  refine fr_sI2 dd_Mo_init_416 (fr_pc (pc' := 417) rfl ?_)
  refine fp_dup_r dd_Mo_init_417 (fr_pc (pc' := 418) rfl ?_)
  refine fp_bipush (v := (62 : Int32)) dd_Mo_init_418 (by decide) (fr_pc (pc' := 420) rfl ?_)
  refine fp_bipush (v := (32 : Int32)) dd_Mo_init_420 (by decide) (fr_pc (pc' := 422) rfl ?_)
  refine fr_sI2 dd_Mo_init_422 (fr_pc (pc' := 423) rfl ?_)
  refine fp_dup_r dd_Mo_init_423 (fr_pc (pc' := 424) rfl ?_)
  refine fp_bipush (v := (63 : Int32)) dd_Mo_init_424 (by decide) (fr_pc (pc' := 426) rfl ?_)
  refine fp_bipush (v := (108 : Int32)) dd_Mo_init_426 (by decide) (fr_pc (pc' := 428) rfl ?_)
  refine fr_sI2 dd_Mo_init_428 (fr_pc (pc' := 429) rfl ?_)
  refine fp_dup_r dd_Mo_init_429 (fr_pc (pc' := 430) rfl ?_)
  refine fp_bipush (v := (64 : Int32)) dd_Mo_init_430 (by decide) (fr_pc (pc' := 432) rfl ?_)
  refine fp_bipush (v := (97 : Int32)) dd_Mo_init_432 (by decide) (fr_pc (pc' := 434) rfl ?_)
  refine fr_sI2 dd_Mo_init_434 (fr_pc (pc' := 435) rfl ?_)
  refine fp_dup_r dd_Mo_init_435 (fr_pc (pc' := 436) rfl ?_)
  refine fp_bipush (v := (65 : Int32)) dd_Mo_init_436 (by decide) (fr_pc (pc' := 438) rfl ?_)
  refine fp_bipush (v := (116 : Int32)) dd_Mo_init_438 (by decide) (fr_pc (pc' := 440) rfl ?_)
  refine fr_sI2 dd_Mo_init_440 (fr_pc (pc' := 441) rfl ?_)
  refine fp_dup_r dd_Mo_init_441 (fr_pc (pc' := 442) rfl ?_)
  refine fp_bipush (v := (66 : Int32)) dd_Mo_init_442 (by decide) (fr_pc (pc' := 444) rfl ?_)
  refine fp_bipush (v := (101 : Int32)) dd_Mo_init_444 (by decide) (fr_pc (pc' := 446) rfl ?_)
  refine fr_sI2 dd_Mo_init_446 (fr_pc (pc' := 447) rfl ?_)
  refine fp_dup_r dd_Mo_init_447 (fr_pc (pc' := 448) rfl ?_)
  refine fp_bipush (v := (67 : Int32)) dd_Mo_init_448 (by decide) (fr_pc (pc' := 450) rfl ?_)
  refine fp_bipush (v := (115 : Int32)) dd_Mo_init_450 (by decide) (fr_pc (pc' := 452) rfl ?_)
  refine fr_sI2 dd_Mo_init_452 (fr_pc (pc' := 453) rfl ?_)
  refine fp_dup_r dd_Mo_init_453 (fr_pc (pc' := 454) rfl ?_)
  refine fp_bipush (v := (68 : Int32)) dd_Mo_init_454 (by decide) (fr_pc (pc' := 456) rfl ?_)
  refine fp_bipush (v := (116 : Int32)) dd_Mo_init_456 (by decide) (fr_pc (pc' := 458) rfl ?_)
  refine fr_sI2 dd_Mo_init_458 (fr_pc (pc' := 459) rfl ?_)
  refine fp_dup_r dd_Mo_init_459 (fr_pc (pc' := 460) rfl ?_)
  refine fp_bipush (v := (69 : Int32)) dd_Mo_init_460 (by decide) (fr_pc (pc' := 462) rfl ?_)
  refine fp_bipush (v := (32 : Int32)) dd_Mo_init_462 (by decide) (fr_pc (pc' := 464) rfl ?_)
  refine fr_sI2 dd_Mo_init_464 (fr_pc (pc' := 465) rfl ?_)
  refine fp_dup_r dd_Mo_init_465 (fr_pc (pc' := 466) rfl ?_)
  refine fp_bipush (v := (70 : Int32)) dd_Mo_init_466 (by decide) (fr_pc (pc' := 468) rfl ?_)
  refine fp_bipush (v := (97 : Int32)) dd_Mo_init_468 (by decide) (fr_pc (pc' := 470) rfl ?_)
  refine fr_sI2 dd_Mo_init_470 (fr_pc (pc' := 471) rfl ?_)
  refine fp_dup_r dd_Mo_init_471 (fr_pc (pc' := 472) rfl ?_)
  refine fp_bipush (v := (71 : Int32)) dd_Mo_init_472 (by decide) (fr_pc (pc' := 474) rfl ?_)
  refine fp_bipush (v := (116 : Int32)) dd_Mo_init_474 (by decide) (fr_pc (pc' := 476) rfl ?_)
  refine fr_sI2 dd_Mo_init_476 (fr_pc (pc' := 477) rfl ?_)
  refine fp_dup_r dd_Mo_init_477 (fr_pc (pc' := 478) rfl ?_)
  refine fp_bipush (v := (72 : Int32)) dd_Mo_init_478 (by decide) (fr_pc (pc' := 480) rfl ?_)
  refine fp_bipush (v := (32 : Int32)) dd_Mo_init_480 (by decide) (fr_pc (pc' := 482) rfl ?_)
  refine fr_sI2 dd_Mo_init_482 (fr_pc (pc' := 483) rfl ?_)
  refine fp_dup_r dd_Mo_init_483 (fr_pc (pc' := 484) rfl ?_)
  refine fp_bipush (v := (73 : Int32)) dd_Mo_init_484 (by decide) (fr_pc (pc' := 486) rfl ?_)
  refine fp_bipush (v := (112 : Int32)) dd_Mo_init_486 (by decide) (fr_pc (pc' := 488) rfl ?_)
  refine fr_sI2 dd_Mo_init_488 (fr_pc (pc' := 489) rfl ?_)
  refine fp_dup_r dd_Mo_init_489 (fr_pc (pc' := 490) rfl ?_)
  refine fp_bipush (v := (74 : Int32)) dd_Mo_init_490 (by decide) (fr_pc (pc' := 492) rfl ?_)
  refine fp_bipush (v := (117 : Int32)) dd_Mo_init_492 (by decide) (fr_pc (pc' := 494) rfl ?_)
  refine fr_sI2 dd_Mo_init_494 (fr_pc (pc' := 495) rfl ?_)
  refine fp_dup_r dd_Mo_init_495 (fr_pc (pc' := 496) rfl ?_)
  refine fp_bipush (v := (75 : Int32)) dd_Mo_init_496 (by decide) (fr_pc (pc' := 498) rfl ?_)
  refine fp_bipush (v := (114 : Int32)) dd_Mo_init_498 (by decide) (fr_pc (pc' := 500) rfl ?_)
  refine fr_sI2 dd_Mo_init_500 (fr_pc (pc' := 501) rfl ?_)
  refine fp_dup_r dd_Mo_init_501 (fr_pc (pc' := 502) rfl ?_)
  refine fp_bipush (v := (76 : Int32)) dd_Mo_init_502 (by decide) (fr_pc (pc' := 504) rfl ?_)
  refine fp_bipush (v := (115 : Int32)) dd_Mo_init_504 (by decide) (fr_pc (pc' := 506) rfl ?_)
  refine fr_sI2 dd_Mo_init_506 (fr_pc (pc' := 507) rfl ?_)
  refine fp_dup_r dd_Mo_init_507 (fr_pc (pc' := 508) rfl ?_)
  refine fp_bipush (v := (77 : Int32)) dd_Mo_init_508 (by decide) (fr_pc (pc' := 510) rfl ?_)
  refine fp_bipush (v := (101 : Int32)) dd_Mo_init_510 (by decide) (fr_pc (pc' := 512) rfl ?_)
  refine fr_sI2 dd_Mo_init_512 (fr_pc (pc' := 513) rfl ?_)
  refine fp_dup_r dd_Mo_init_513 (fr_pc (pc' := 514) rfl ?_)
  refine fp_bipush (v := (78 : Int32)) dd_Mo_init_514 (by decide) (fr_pc (pc' := 516) rfl ?_)
  refine fp_bipush (v := (32 : Int32)) dd_Mo_init_516 (by decide) (fr_pc (pc' := 518) rfl ?_)
  refine fr_sI2 dd_Mo_init_518 (fr_pc (pc' := 519) rfl ?_)
  refine fp_dup_r dd_Mo_init_519 (fr_pc (pc' := 520) rfl ?_)
  refine fp_bipush (v := (79 : Int32)) dd_Mo_init_520 (by decide) (fr_pc (pc' := 522) rfl ?_)
  refine fp_bipush (v := (104 : Int32)) dd_Mo_init_522 (by decide) (fr_pc (pc' := 524) rfl ?_)
  refine fr_sI2 dd_Mo_init_524 (fr_pc (pc' := 525) rfl ?_)
  refine fp_dup_r dd_Mo_init_525 (fr_pc (pc' := 526) rfl ?_)
  refine fp_bipush (v := (80 : Int32)) dd_Mo_init_526 (by decide) (fr_pc (pc' := 528) rfl ?_)
  refine fp_bipush (v := (101 : Int32)) dd_Mo_init_528 (by decide) (fr_pc (pc' := 530) rfl ?_)
  refine fr_sI2 dd_Mo_init_530 (fr_pc (pc' := 531) rfl ?_)
  refine fp_dup_r dd_Mo_init_531 (fr_pc (pc' := 532) rfl ?_)
  refine fp_bipush (v := (81 : Int32)) dd_Mo_init_532 (by decide) (fr_pc (pc' := 534) rfl ?_)
  refine fp_bipush (v := (108 : Int32)) dd_Mo_init_534 (by decide) (fr_pc (pc' := 536) rfl ?_)
  refine fr_sI2 dd_Mo_init_536 (fr_pc (pc' := 537) rfl ?_)
  refine fp_dup_r dd_Mo_init_537 (fr_pc (pc' := 538) rfl ?_)
  refine fp_bipush (v := (82 : Int32)) dd_Mo_init_538 (by decide) (fr_pc (pc' := 540) rfl ?_)
  refine fp_bipush (v := (100 : Int32)) dd_Mo_init_540 (by decide) (fr_pc (pc' := 542) rfl ?_)
  refine fr_sI2 dd_Mo_init_542 (fr_pc (pc' := 543) rfl ?_)
  refine fp_dup_r dd_Mo_init_543 (fr_pc (pc' := 544) rfl ?_)
  refine fp_bipush (v := (83 : Int32)) dd_Mo_init_544 (by decide) (fr_pc (pc' := 546) rfl ?_)
  refine fp_bipush (v := (32 : Int32)) dd_Mo_init_546 (by decide) (fr_pc (pc' := 548) rfl ?_)
  refine fr_sI2 dd_Mo_init_548 (fr_pc (pc' := 549) rfl ?_)
  refine fp_dup_r dd_Mo_init_549 (fr_pc (pc' := 550) rfl ?_)
  refine fp_bipush (v := (84 : Int32)) dd_Mo_init_550 (by decide) (fr_pc (pc' := 552) rfl ?_)
  refine fp_bipush (v := (115 : Int32)) dd_Mo_init_552 (by decide) (fr_pc (pc' := 554) rfl ?_)
  refine fr_sI2 dd_Mo_init_554 (fr_pc (pc' := 555) rfl ?_)
  refine fp_dup_r dd_Mo_init_555 (fr_pc (pc' := 556) rfl ?_)
  refine fp_bipush (v := (85 : Int32)) dd_Mo_init_556 (by decide) (fr_pc (pc' := 558) rfl ?_)
  refine fp_bipush (v := (116 : Int32)) dd_Mo_init_558 (by decide) (fr_pc (pc' := 560) rfl ?_)
  refine fr_sI2 dd_Mo_init_560 (fr_pc (pc' := 561) rfl ?_)
  refine fp_dup_r dd_Mo_init_561 (fr_pc (pc' := 562) rfl ?_)
  refine fp_bipush (v := (86 : Int32)) dd_Mo_init_562 (by decide) (fr_pc (pc' := 564) rfl ?_)
  refine fp_bipush (v := (111 : Int32)) dd_Mo_init_564 (by decide) (fr_pc (pc' := 566) rfl ?_)
  refine fr_sI2 dd_Mo_init_566 (fr_pc (pc' := 567) rfl ?_)
  refine fp_dup_r dd_Mo_init_567 (fr_pc (pc' := 568) rfl ?_)
  refine fp_bipush (v := (87 : Int32)) dd_Mo_init_568 (by decide) (fr_pc (pc' := 570) rfl ?_)
  refine fp_bipush (v := (112 : Int32)) dd_Mo_init_570 (by decide) (fr_pc (pc' := 572) rfl ?_)
  refine fr_sI2 dd_Mo_init_572 (fr_pc (pc' := 573) rfl ?_)
  refine fp_dup_r dd_Mo_init_573 (fr_pc (pc' := 574) rfl ?_)
  refine fp_bipush (v := (88 : Int32)) dd_Mo_init_574 (by decide) (fr_pc (pc' := 576) rfl ?_)
  refine fp_bipush (v := (115 : Int32)) dd_Mo_init_576 (by decide) (fr_pc (pc' := 578) rfl ?_)
  refine fr_sI2 dd_Mo_init_578 (fr_pc (pc' := 579) rfl ?_)
  refine fp_dup_r dd_Mo_init_579 (fr_pc (pc' := 580) rfl ?_)
  refine fp_bipush (v := (89 : Int32)) dd_Mo_init_580 (by decide) (fr_pc (pc' := 582) rfl ?_)
  refine fp_bipush (v := (32 : Int32)) dd_Mo_init_582 (by decide) (fr_pc (pc' := 584) rfl ?_)
  refine fr_sI2 dd_Mo_init_584 (fr_pc (pc' := 585) rfl ?_)
  refine fp_dup_r dd_Mo_init_585 (fr_pc (pc' := 586) rfl ?_)
  refine fp_bipush (v := (90 : Int32)) dd_Mo_init_586 (by decide) (fr_pc (pc' := 588) rfl ?_)
  refine fp_bipush (v := (115 : Int32)) dd_Mo_init_588 (by decide) (fr_pc (pc' := 590) rfl ?_)
  refine fr_sI2 dd_Mo_init_590 (fr_pc (pc' := 591) rfl ?_)
  refine fp_dup_r dd_Mo_init_591 (fr_pc (pc' := 592) rfl ?_)
  refine fp_bipush (v := (91 : Int32)) dd_Mo_init_592 (by decide) (fr_pc (pc' := 594) rfl ?_)
  refine fp_bipush (v := (105 : Int32)) dd_Mo_init_594 (by decide) (fr_pc (pc' := 596) rfl ?_)
  refine fr_sI2 dd_Mo_init_596 (fr_pc (pc' := 597) rfl ?_)
  refine fp_dup_r dd_Mo_init_597 (fr_pc (pc' := 598) rfl ?_)
  refine fp_bipush (v := (92 : Int32)) dd_Mo_init_598 (by decide) (fr_pc (pc' := 600) rfl ?_)
  refine fp_bipush (v := (110 : Int32)) dd_Mo_init_600 (by decide) (fr_pc (pc' := 602) rfl ?_)
  refine fr_sI2 dd_Mo_init_602 (fr_pc (pc' := 603) rfl ?_)
  refine fp_dup_r dd_Mo_init_603 (fr_pc (pc' := 604) rfl ?_)
  refine fp_bipush (v := (93 : Int32)) dd_Mo_init_604 (by decide) (fr_pc (pc' := 606) rfl ?_)
  refine fp_bipush (v := (103 : Int32)) dd_Mo_init_606 (by decide) (fr_pc (pc' := 608) rfl ?_)
  refine fr_sI2 dd_Mo_init_608 (fr_pc (pc' := 609) rfl ?_)
  refine fp_dup_r dd_Mo_init_609 (fr_pc (pc' := 610) rfl ?_)
  refine fp_bipush (v := (94 : Int32)) dd_Mo_init_610 (by decide) (fr_pc (pc' := 612) rfl ?_)
  refine fp_bipush (v := (108 : Int32)) dd_Mo_init_612 (by decide) (fr_pc (pc' := 614) rfl ?_)
  refine fr_sI2 dd_Mo_init_614 (fr_pc (pc' := 615) rfl ?_)
  refine fp_dup_r dd_Mo_init_615 (fr_pc (pc' := 616) rfl ?_)
  refine fp_bipush (v := (95 : Int32)) dd_Mo_init_616 (by decide) (fr_pc (pc' := 618) rfl ?_)
  refine fp_bipush (v := (101 : Int32)) dd_Mo_init_618 (by decide) (fr_pc (pc' := 620) rfl ?_)
  refine fr_sI2 dd_Mo_init_620 (fr_pc (pc' := 621) rfl ?_)
  refine fp_dup_r dd_Mo_init_621 (fr_pc (pc' := 622) rfl ?_)
  refine fp_bipush (v := (96 : Int32)) dd_Mo_init_622 (by decide) (fr_pc (pc' := 624) rfl ?_)
  refine fp_bipush (v := (32 : Int32)) dd_Mo_init_624 (by decide) (fr_pc (pc' := 626) rfl ?_)
  refine fr_sI2 dd_Mo_init_626 (fr_pc (pc' := 627) rfl ?_)
  refine fp_dup_r dd_Mo_init_627 (fr_pc (pc' := 628) rfl ?_)
  refine fp_bipush (v := (97 : Int32)) dd_Mo_init_628 (by decide) (fr_pc (pc' := 630) rfl ?_)
  refine fp_bipush (v := (114 : Int32)) dd_Mo_init_630 (by decide) (fr_pc (pc' := 632) rfl ?_)
  refine fr_sI2 dd_Mo_init_632 (fr_pc (pc' := 633) rfl ?_)
  refine fp_dup_r dd_Mo_init_633 (fr_pc (pc' := 634) rfl ?_)
  refine fp_bipush (v := (98 : Int32)) dd_Mo_init_634 (by decide) (fr_pc (pc' := 636) rfl ?_)
  refine fp_bipush (v := (105 : Int32)) dd_Mo_init_636 (by decide) (fr_pc (pc' := 638) rfl ?_)
  refine fr_sI2 dd_Mo_init_638 (fr_pc (pc' := 639) rfl ?_)
  refine fp_dup_r dd_Mo_init_639 (fr_pc (pc' := 640) rfl ?_)
  refine fp_bipush (v := (99 : Int32)) dd_Mo_init_640 (by decide) (fr_pc (pc' := 642) rfl ?_)
  refine fp_bipush (v := (100 : Int32)) dd_Mo_init_642 (by decide) (fr_pc (pc' := 644) rfl ?_)
  refine fr_sI2 dd_Mo_init_644 (fr_pc (pc' := 645) rfl ?_)
  refine fp_dup_r dd_Mo_init_645 (fr_pc (pc' := 646) rfl ?_)
  refine fp_bipush (v := (100 : Int32)) dd_Mo_init_646 (by decide) (fr_pc (pc' := 648) rfl ?_)
  refine fp_bipush (v := (101 : Int32)) dd_Mo_init_648 (by decide) (fr_pc (pc' := 650) rfl ?_)
  refine fr_sI2 dd_Mo_init_650 (fr_pc (pc' := 651) rfl ?_)
  refine fp_dup_r dd_Mo_init_651 (fr_pc (pc' := 652) rfl ?_)
  refine fp_bipush (v := (101 : Int32)) dd_Mo_init_652 (by decide) (fr_pc (pc' := 654) rfl ?_)
  refine fp_bipush (v := (32 : Int32)) dd_Mo_init_654 (by decide) (fr_pc (pc' := 656) rfl ?_)
  refine fr_sI2 dd_Mo_init_656 (fr_pc (pc' := 657) rfl ?_)
  refine fp_dup_r dd_Mo_init_657 (fr_pc (pc' := 658) rfl ?_)
  refine fp_bipush (v := (102 : Int32)) dd_Mo_init_658 (by decide) (fr_pc (pc' := 660) rfl ?_)
  refine fp_bipush (v := (115 : Int32)) dd_Mo_init_660 (by decide) (fr_pc (pc' := 662) rfl ?_)
  refine fr_sI2 dd_Mo_init_662 (fr_pc (pc' := 663) rfl ?_)
  refine fp_dup_r dd_Mo_init_663 (fr_pc (pc' := 664) rfl ?_)
  refine fp_bipush (v := (103 : Int32)) dd_Mo_init_664 (by decide) (fr_pc (pc' := 666) rfl ?_)
  refine fp_bipush (v := (97 : Int32)) dd_Mo_init_666 (by decide) (fr_pc (pc' := 668) rfl ?_)
  refine fr_sI2 dd_Mo_init_668 (fr_pc (pc' := 669) rfl ?_)
  refine fp_dup_r dd_Mo_init_669 (fr_pc (pc' := 670) rfl ?_)
  refine fp_bipush (v := (104 : Int32)) dd_Mo_init_670 (by decide) (fr_pc (pc' := 672) rfl ?_)
  refine fp_bipush (v := (118 : Int32)) dd_Mo_init_672 (by decide) (fr_pc (pc' := 674) rfl ?_)
  refine fr_sI2 dd_Mo_init_674 (fr_pc (pc' := 675) rfl ?_)
  refine fp_dup_r dd_Mo_init_675 (fr_pc (pc' := 676) rfl ?_)
  refine fp_bipush (v := (105 : Int32)) dd_Mo_init_676 (by decide) (fr_pc (pc' := 678) rfl ?_)
  refine fp_bipush (v := (101 : Int32)) dd_Mo_init_678 (by decide) (fr_pc (pc' := 680) rfl ?_)
  refine fr_sI2 dd_Mo_init_680 (fr_pc (pc' := 681) rfl ?_)
  refine fp_dup_r dd_Mo_init_681 (fr_pc (pc' := 682) rfl ?_)
  refine fp_bipush (v := (106 : Int32)) dd_Mo_init_682 (by decide) (fr_pc (pc' := 684) rfl ?_)
  refine fp_bipush (v := (32 : Int32)) dd_Mo_init_684 (by decide) (fr_pc (pc' := 686) rfl ?_)
  refine fr_sI2 dd_Mo_init_686 (fr_pc (pc' := 687) rfl ?_)
  refine fp_dup_r dd_Mo_init_687 (fr_pc (pc' := 688) rfl ?_)
  refine fp_bipush (v := (107 : Int32)) dd_Mo_init_688 (by decide) (fr_pc (pc' := 690) rfl ?_)
  refine fp_bipush (v := (112 : Int32)) dd_Mo_init_690 (by decide) (fr_pc (pc' := 692) rfl ?_)
  refine fr_sI2 dd_Mo_init_692 (fr_pc (pc' := 693) rfl ?_)
  refine fp_dup_r dd_Mo_init_693 (fr_pc (pc' := 694) rfl ?_)
  refine fp_bipush (v := (108 : Int32)) dd_Mo_init_694 (by decide) (fr_pc (pc' := 696) rfl ?_)
  refine fp_bipush (v := (97 : Int32)) dd_Mo_init_696 (by decide) (fr_pc (pc' := 698) rfl ?_)
  refine fr_sI2 dd_Mo_init_698 (fr_pc (pc' := 699) rfl ?_)
  refine fp_dup_r dd_Mo_init_699 (fr_pc (pc' := 700) rfl ?_)
  refine fp_bipush (v := (109 : Int32)) dd_Mo_init_700 (by decide) (fr_pc (pc' := 702) rfl ?_)
  refine fp_bipush (v := (115 : Int32)) dd_Mo_init_702 (by decide) (fr_pc (pc' := 704) rfl ?_)
  refine fr_sI2 dd_Mo_init_704 (fr_pc (pc' := 705) rfl ?_)
  refine fp_dup_r dd_Mo_init_705 (fr_pc (pc' := 706) rfl ?_)
  refine fp_bipush (v := (110 : Int32)) dd_Mo_init_706 (by decide) (fr_pc (pc' := 708) rfl ?_)
  refine fp_bipush (v := (115 : Int32)) dd_Mo_init_708 (by decide) (fr_pc (pc' := 710) rfl ?_)
  refine fr_sI2 dd_Mo_init_710 (fr_pc (pc' := 711) rfl ?_)
  refine fp_dup_r dd_Mo_init_711 (fr_pc (pc' := 712) rfl ?_)
  refine fp_bipush (v := (111 : Int32)) dd_Mo_init_712 (by decide) (fr_pc (pc' := 714) rfl ?_)
  refine fp_bipush (v := (32 : Int32)) dd_Mo_init_714 (by decide) (fr_pc (pc' := 716) rfl ?_)
  refine fr_sI2 dd_Mo_init_716 (fr_pc (pc' := 717) rfl ?_)
  refine fp_dup_r dd_Mo_init_717 (fr_pc (pc' := 718) rfl ?_)
  refine fp_bipush (v := (112 : Int32)) dd_Mo_init_718 (by decide) (fr_pc (pc' := 720) rfl ?_)
  refine fp_bipush (v := (116 : Int32)) dd_Mo_init_720 (by decide) (fr_pc (pc' := 722) rfl ?_)
  refine fr_sI2 dd_Mo_init_722 (fr_pc (pc' := 723) rfl ?_)
  refine fp_dup_r dd_Mo_init_723 (fr_pc (pc' := 724) rfl ?_)
  refine fp_bipush (v := (113 : Int32)) dd_Mo_init_724 (by decide) (fr_pc (pc' := 726) rfl ?_)
  refine fp_bipush (v := (105 : Int32)) dd_Mo_init_726 (by decide) (fr_pc (pc' := 728) rfl ?_)
  refine fr_sI2 dd_Mo_init_728 (fr_pc (pc' := 729) rfl ?_)
  refine fp_dup_r dd_Mo_init_729 (fr_pc (pc' := 730) rfl ?_)
  refine fp_bipush (v := (114 : Int32)) dd_Mo_init_730 (by decide) (fr_pc (pc' := 732) rfl ?_)
  refine fp_bipush (v := (109 : Int32)) dd_Mo_init_732 (by decide) (fr_pc (pc' := 734) rfl ?_)
  refine fr_sI2 dd_Mo_init_734 (fr_pc (pc' := 735) rfl ?_)
  refine fp_dup_r dd_Mo_init_735 (fr_pc (pc' := 736) rfl ?_)
  refine fp_bipush (v := (115 : Int32)) dd_Mo_init_736 (by decide) (fr_pc (pc' := 738) rfl ?_)
  refine fp_bipush (v := (101 : Int32)) dd_Mo_init_738 (by decide) (fr_pc (pc' := 740) rfl ?_)
  refine fr_sI2 dd_Mo_init_740 (fr_pc (pc' := 741) rfl ?_)
  refine fp_dup_r dd_Mo_init_741 (fr_pc (pc' := 742) rfl ?_)
  refine fp_bipush (v := (116 : Int32)) dd_Mo_init_742 (by decide) (fr_pc (pc' := 744) rfl ?_)
  refine fp_bipush (v := (115 : Int32)) dd_Mo_init_744 (by decide) (fr_pc (pc' := 746) rfl ?_)
  refine fr_sI2 dd_Mo_init_746 (fr_pc (pc' := 747) rfl ?_)
  refine fp_dup_r dd_Mo_init_747 (fr_pc (pc' := 748) rfl ?_)
  refine fp_bipush (v := (117 : Int32)) dd_Mo_init_748 (by decide) (fr_pc (pc' := 750) rfl ?_)
  refine fp_bipush (v := (32 : Int32)) dd_Mo_init_750 (by decide) (fr_pc (pc' := 752) rfl ?_)
  refine fr_sI2 dd_Mo_init_752 (fr_pc (pc' := 753) rfl ?_)
  refine fr_pRg cl_11 7 (by decide) rfl sw_1079 (Or.inr ⟨rfl, rfl, rfl⟩) (Or.inr ⟨_, rfl⟩) dd_Mo_init_753 (fr_pc (pc' := 756) rfl ?_)
  refine fp_aload_n (i := 0) (r := p0) dd_Mo_init_756 rfl rfl (fr_pc (pc' := 757) rfl ?_)
  refine fp_sipush (v := (400 : Int32)) dd_Mo_init_757 (by decide) (fr_pc (pc' := 760) rfl ?_)
  refine fr_newB dd_Mo_init_760 (fun x7 => fr_pc (pc' := 762) rfl ?_)
  refine fr_pRg cl_11 11 (by decide) rfl sw_1083 (Or.inr ⟨rfl, rfl, rfl⟩) (Or.inr ⟨_, rfl⟩) dd_Mo_init_762 (fr_pc (pc' := 765) rfl ?_)
  refine fp_aload_n (i := 0) (r := p0) dd_Mo_init_765 rfl rfl (fr_pc (pc' := 766) rfl ?_)
  refine fp_iconst (v := (5 : Int32)) dd_Mo_init_766 (by decide) (fr_pc (pc' := 767) rfl ?_)
  refine fr_newI dd_Mo_init_767 (fun x8 => fr_pc (pc' := 769) rfl ?_)
  refine fr_pRg cl_11 12 (by decide) rfl sw_1084 (Or.inr ⟨rfl, rfl, rfl⟩) (Or.inr ⟨_, rfl⟩) dd_Mo_init_769 (fr_pc (pc' := 772) rfl ?_)
  refine fp_aload_n (i := 0) (r := p0) dd_Mo_init_772 rfl rfl (fr_pc (pc' := 773) rfl ?_)
  refine fp_iconst (v := (-1 : Int32)) dd_Mo_init_773 (by decide) (fr_pc (pc' := 774) rfl ?_)
  refine fr_pI cl_11 14 (by decide) rfl sw_1086 rfl ⟨rfl, rfl⟩ dd_Mo_init_774 (fr_pc (pc' := 777) rfl ?_)
  refine fp_aload_n (i := 0) (r := p0) dd_Mo_init_777 rfl rfl (fr_pc (pc' := 778) rfl ?_)
  refine fp_sipush (v := (401 : Int32)) dd_Mo_init_778 (by decide) (fr_pc (pc' := 781) rfl ?_)
  refine fr_newI dd_Mo_init_781 (fun x9 => fr_pc (pc' := 783) rfl ?_)
  refine fr_pRg cl_11 15 (by decide) rfl sw_1087 (Or.inr ⟨rfl, rfl, rfl⟩) (Or.inr ⟨_, rfl⟩) dd_Mo_init_783 (fr_pc (pc' := 786) rfl ?_)
  refine fp_aload_n (i := 0) (r := p0) dd_Mo_init_786 rfl rfl (fr_pc (pc' := 787) rfl ?_)
  refine fp_sipush (v := (401 : Int32)) dd_Mo_init_787 (by decide) (fr_pc (pc' := 790) rfl ?_)
  refine fr_newI dd_Mo_init_790 (fun x10 => fr_pc (pc' := 792) rfl ?_)
  refine fr_pRg cl_11 16 (by decide) rfl sw_1088 (Or.inr ⟨rfl, rfl, rfl⟩) (Or.inr ⟨_, rfl⟩) dd_Mo_init_792 (fr_pc (pc' := 795) rfl ?_)
  refine fp_aload_n (i := 0) (r := p0) dd_Mo_init_795 rfl rfl (fr_pc (pc' := 796) rfl ?_)
  refine fp_sipush (v := (401 : Int32)) dd_Mo_init_796 (by decide) (fr_pc (pc' := 799) rfl ?_)
  refine fr_newI dd_Mo_init_799 (fun x11 => fr_pc (pc' := 801) rfl ?_)
  refine fr_pRg cl_11 17 (by decide) rfl sw_1089 (Or.inr ⟨rfl, rfl, rfl⟩) (Or.inr ⟨_, rfl⟩) dd_Mo_init_801 (fr_pc (pc' := 804) rfl ?_)
  refine fp_aload_n (i := 0) (r := p0) dd_Mo_init_804 rfl rfl (fr_pc (pc' := 805) rfl ?_)
  refine fp_bipush (v := (7 : Int32)) dd_Mo_init_805 (by decide) (fr_pc (pc' := 807) rfl ?_)
  refine fr_newI dd_Mo_init_807 (fun x12 => fr_pc (pc' := 809) rfl ?_)
  refine fr_pRg cl_11 26 (by decide) rfl sw_1098 (Or.inr ⟨rfl, rfl, rfl⟩) (Or.inr ⟨_, rfl⟩) dd_Mo_init_809 (fr_pc (pc' := 812) rfl ?_)
  refine fp_aload_n (i := 0) (r := p0) dd_Mo_init_812 rfl rfl (fr_pc (pc' := 813) rfl ?_)
  refine fp_bipush (v := (8 : Int32)) dd_Mo_init_813 (by decide) (fr_pc (pc' := 815) rfl ?_)
  refine fr_newI dd_Mo_init_815 (fun x13 => fr_pc (pc' := 817) rfl ?_)
  refine fr_pRg cl_11 29 (by decide) rfl sw_1101 (Or.inr ⟨rfl, rfl, rfl⟩) (Or.inr ⟨_, rfl⟩) dd_Mo_init_817 (fr_pc (pc' := 820) rfl ?_)
  refine fp_aload_n (i := 0) (r := p0) dd_Mo_init_820 rfl rfl (fr_pc (pc' := 821) rfl ?_)
  refine fp_bipush (v := (64 : Int32)) dd_Mo_init_821 (by decide) (fr_pc (pc' := 823) rfl ?_)
  refine fr_newI dd_Mo_init_823 (fun x14 => fr_pc (pc' := 825) rfl ?_)
  refine fr_pRg cl_11 31 (by decide) rfl sw_1103 (Or.inr ⟨rfl, rfl, rfl⟩) (Or.inr ⟨_, rfl⟩) dd_Mo_init_825 (fr_pc (pc' := 828) rfl ?_)
  refine fp_aload_n (i := 0) (r := p0) dd_Mo_init_828 rfl rfl (fr_pc (pc' := 829) rfl ?_)
  refine fp_bipush (v := (8 : Int32)) dd_Mo_init_829 (by decide) (fr_pc (pc' := 831) rfl ?_)
  refine fr_newI dd_Mo_init_831 (fun x15 => fr_pc (pc' := 833) rfl ?_)
  refine fr_pRg cl_11 32 (by decide) rfl sw_1104 (Or.inr ⟨rfl, rfl, rfl⟩) (Or.inr ⟨_, rfl⟩) dd_Mo_init_833 (fr_pc (pc' := 836) rfl ?_)
  refine fp_aload_n (i := 0) (r := p0) dd_Mo_init_836 rfl rfl (fr_pc (pc' := 837) rfl ?_)
  refine fp_bipush (v := (64 : Int32)) dd_Mo_init_837 (by decide) (fr_pc (pc' := 839) rfl ?_)
  refine fr_newI dd_Mo_init_839 (fun x16 => fr_pc (pc' := 841) rfl ?_)
  refine fr_pRg cl_11 33 (by decide) rfl sw_1105 (Or.inr ⟨rfl, rfl, rfl⟩) (Or.inr ⟨_, rfl⟩) dd_Mo_init_841 (fr_pc (pc' := 844) rfl ?_)
  refine fp_aload_n (i := 0) (r := p0) dd_Mo_init_844 rfl rfl (fr_pc (pc' := 845) rfl ?_)
  refine fp_bipush (v := (8 : Int32)) dd_Mo_init_845 (by decide) (fr_pc (pc' := 847) rfl ?_)
  refine fr_newI dd_Mo_init_847 (fun x17 => fr_pc (pc' := 849) rfl ?_)
  refine fr_pRg cl_11 34 (by decide) rfl sw_1106 (Or.inr ⟨rfl, rfl, rfl⟩) (Or.inr ⟨_, rfl⟩) dd_Mo_init_849 (fr_pc (pc' := 852) rfl ?_)
  refine fp_aload_n (i := 0) (r := p0) dd_Mo_init_852 rfl rfl (fr_pc (pc' := 853) rfl ?_)
  refine fp_bipush (v := (64 : Int32)) dd_Mo_init_853 (by decide) (fr_pc (pc' := 855) rfl ?_)
  refine fr_newI dd_Mo_init_855 (fun x18 => fr_pc (pc' := 857) rfl ?_)
  refine fr_pRg cl_11 35 (by decide) rfl sw_1107 (Or.inr ⟨rfl, rfl, rfl⟩) (Or.inr ⟨_, rfl⟩) dd_Mo_init_857 (fr_pc (pc' := 860) rfl ?_)
  refine fp_aload_n (i := 0) (r := p0) dd_Mo_init_860 rfl rfl (fr_pc (pc' := 861) rfl ?_)
  refine fp_bipush (v := (64 : Int32)) dd_Mo_init_861 (by decide) (fr_pc (pc' := 863) rfl ?_)
  refine fr_newI dd_Mo_init_863 (fun x19 => fr_pc (pc' := 865) rfl ?_)
  refine fr_pRg cl_11 36 (by decide) rfl sw_1108 (Or.inr ⟨rfl, rfl, rfl⟩) (Or.inr ⟨_, rfl⟩) dd_Mo_init_865 (fr_pc (pc' := 868) rfl ?_)
  refine fp_aload_n (i := 0) (r := p0) dd_Mo_init_868 rfl rfl (fr_pc (pc' := 869) rfl ?_)
  refine fp_bipush (v := (64 : Int32)) dd_Mo_init_869 (by decide) (fr_pc (pc' := 871) rfl ?_)
  refine fr_newI dd_Mo_init_871 (fun x20 => fr_pc (pc' := 873) rfl ?_)
  refine fr_pRg cl_11 37 (by decide) rfl sw_1109 (Or.inr ⟨rfl, rfl, rfl⟩) (Or.inr ⟨_, rfl⟩) dd_Mo_init_873 (fr_pc (pc' := 876) rfl ?_)
  refine fp_aload_n (i := 0) (r := p0) dd_Mo_init_876 rfl rfl (fr_pc (pc' := 877) rfl ?_)
  refine fp_sipush (v := (3136 : Int32)) dd_Mo_init_877 (by decide) (fr_pc (pc' := 880) rfl ?_)
  refine fr_newI dd_Mo_init_880 (fun x21 => fr_pc (pc' := 882) rfl ?_)
  refine fr_pRg cl_11 38 (by decide) rfl sw_1110 (Or.inr ⟨rfl, rfl, rfl⟩) (Or.inr ⟨_, rfl⟩) dd_Mo_init_882 (fr_pc (pc' := 885) rfl ?_)
  refine fp_aload_n (i := 0) (r := p0) dd_Mo_init_885 rfl rfl (fr_pc (pc' := 886) rfl ?_)
  refine fp_sipush (v := (3136 : Int32)) dd_Mo_init_886 (by decide) (fr_pc (pc' := 889) rfl ?_)
  refine fr_newI dd_Mo_init_889 (fun x22 => fr_pc (pc' := 891) rfl ?_)
  refine fr_pRg cl_11 39 (by decide) rfl sw_1111 (Or.inr ⟨rfl, rfl, rfl⟩) (Or.inr ⟨_, rfl⟩) dd_Mo_init_891 (fr_pc (pc' := 894) rfl ?_)
  refine fp_aload_n (i := 0) (r := p0) dd_Mo_init_894 rfl rfl (fr_pc (pc' := 895) rfl ?_)
  refine fp_bipush (v := (48 : Int32)) dd_Mo_init_895 (by decide) (fr_pc (pc' := 897) rfl ?_)
  refine fr_newI dd_Mo_init_897 (fun x23 => fr_pc (pc' := 899) rfl ?_)
  refine fr_pRg cl_11 41 (by decide) rfl sw_1113 (Or.inr ⟨rfl, rfl, rfl⟩) (Or.inr ⟨_, rfl⟩) dd_Mo_init_899 (fr_pc (pc' := 902) rfl ?_)
  refine fp_aload_n (i := 0) (r := p0) dd_Mo_init_902 rfl rfl (fr_pc (pc' := 903) rfl ?_)
  refine fp_bipush (v := (21 : Int32)) dd_Mo_init_903 (by decide) (fr_pc (pc' := 905) rfl ?_)
  refine fr_newL dd_Mo_init_905 (fun x24 => fr_pc (pc' := 907) rfl ?_)
  refine fr_pRg cl_11 42 (by decide) rfl sw_1114 (Or.inr ⟨rfl, rfl, rfl⟩) (Or.inr ⟨_, rfl⟩) dd_Mo_init_907 (fr_pc (pc' := 910) rfl ?_)
  refine fp_aload_n (i := 0) (r := p0) dd_Mo_init_910 rfl rfl (fr_pc (pc' := 911) rfl ?_)
  refine fp_iconst (v := (-1 : Int32)) dd_Mo_init_911 (by decide) (fr_pc (pc' := 912) rfl ?_)
  refine fr_pI cl_11 43 (by decide) rfl sw_1115 rfl ⟨rfl, rfl⟩ dd_Mo_init_912 (fr_pc (pc' := 915) rfl ?_)
  refine fp_aload_n (i := 0) (r := p0) dd_Mo_init_915 rfl rfl (fr_pc (pc' := 916) rfl ?_)
  refine fp_iconst (v := (2 : Int32)) dd_Mo_init_916 (by decide) (fr_pc (pc' := 917) rfl ?_)
  refine fr_newL dd_Mo_init_917 (fun x25 => fr_pc (pc' := 919) rfl ?_)
  refine fr_pRg cl_11 49 (by decide) rfl sw_1121 (Or.inr ⟨rfl, rfl, rfl⟩) (Or.inr ⟨_, rfl⟩) dd_Mo_init_919 (fr_pc (pc' := 922) rfl ?_)
  refine fp_aload_n (i := 0) (r := p0) dd_Mo_init_922 rfl rfl (fr_pc (pc' := 923) rfl ?_)
  refine fp_iconst (v := (4 : Int32)) dd_Mo_init_923 (by decide) (fr_pc (pc' := 924) rfl ?_)
  refine fr_newI dd_Mo_init_924 (fun x26 => fr_pc (pc' := 926) rfl ?_)
  refine fr_pRg cl_11 50 (by decide) rfl sw_1122 (Or.inr ⟨rfl, rfl, rfl⟩) (Or.inr ⟨_, rfl⟩) dd_Mo_init_926 (fr_pc (pc' := 929) rfl ?_)
  refine fp_aload_n (i := 0) (r := p0) dd_Mo_init_929 rfl rfl (fr_pc (pc' := 930) rfl ?_)
  refine fr_gR cl_11 2 (by decide) rfl sw_1074 dd_Mo_init_930 (fun x27 => fr_pc (pc' := 933) rfl ?_)
  refine fp_sipush (v := (225 : Int32)) dd_Mo_init_933 (by decide) (fr_pc (pc' := 936) rfl ?_)
  refine fp_iconst (v := (1 : Int32)) dd_Mo_init_936 (by decide) (fr_pc (pc' := 937) rfl ?_)
  refine fr_sI0 dd_Mo_init_937 (fr_pc (pc' := 938) rfl ?_)
  refine fp_aload_n (i := 0) (r := p0) dd_Mo_init_938 rfl rfl (fr_pc (pc' := 939) rfl ?_)
  refine fr_gR cl_11 2 (by decide) rfl sw_1074 dd_Mo_init_939 (fun x28 => fr_pc (pc' := 942) rfl ?_)
  refine fp_sipush (v := (193 : Int32)) dd_Mo_init_942 (by decide) (fr_pc (pc' := 945) rfl ?_)
  refine fp_sipush (v := (1000 : Int32)) dd_Mo_init_945 (by decide) (fr_pc (pc' := 948) rfl ?_)
  refine fr_sI0 dd_Mo_init_948 (fr_pc (pc' := 949) rfl ?_)
  refine fp_aload_n (i := 0) (r := p0) dd_Mo_init_949 rfl rfl (fr_pc (pc' := 950) rfl ?_)
  refine fr_gR cl_11 2 (by decide) rfl sw_1074 dd_Mo_init_950 (fun x29 => fr_pc (pc' := 953) rfl ?_)
  refine fp_sipush (v := (230 : Int32)) dd_Mo_init_953 (by decide) (fr_pc (pc' := 956) rfl ?_)
  refine fp_iconst (v := (-1 : Int32)) dd_Mo_init_956 (by decide) (fr_pc (pc' := 957) rfl ?_)
  refine fr_sI0 dd_Mo_init_957 (fr_pc (pc' := 958) rfl ?_)
  exact fr_vret rfl rfl dd_Mo_init_958
theorem mt_Mo_laysAside : sf_Mt ({ cls := "SplitFaresModel", name := "laysAside", desc := "(I)V" } : Jvm.MethodName) prog_13_method_13_code 3 none 1 := ⟨sw_1748, sw_12, ⟨by decide, by decide, by decide +kernel⟩, by decide⟩
theorem dd_Mo_laysAside_0 : decode prog_13_method_13_code 0 = .ok (.iconst 0, 1) := by decide +kernel
theorem dd_Mo_laysAside_1 : decode prog_13_method_13_code 1 = .ok (.istore_n 2, 1) := by decide +kernel
theorem dd_Mo_laysAside_2 : decode prog_13_method_13_code 2 = .ok (.iload_n 2, 1) := by decide +kernel
theorem dd_Mo_laysAside_3 : decode prog_13_method_13_code 3 = .ok (.sipush 195, 3) := by decide +kernel
theorem dd_Mo_laysAside_6 : decode prog_13_method_13_code 6 = .ok (.if_icmp .ge 27, 3) := by decide +kernel
theorem dd_Mo_laysAside_9 : decode prog_13_method_13_code 9 = .ok (.aload_n 0, 1) := by decide +kernel
theorem dd_Mo_laysAside_10 : decode prog_13_method_13_code 10 = .ok (.getfield 42, 3) := by decide +kernel
theorem dd_Mo_laysAside_13 : decode prog_13_method_13_code 13 = .ok (.sipush 195, 3) := by decide +kernel
theorem dd_Mo_laysAside_16 : decode prog_13_method_13_code 16 = .ok (.iload_n 1, 1) := by decide +kernel
theorem dd_Mo_laysAside_17 : decode prog_13_method_13_code 17 = .ok (.imul, 1) := by decide +kernel
theorem dd_Mo_laysAside_18 : decode prog_13_method_13_code 18 = .ok (.iload_n 2, 1) := by decide +kernel
theorem dd_Mo_laysAside_19 : decode prog_13_method_13_code 19 = .ok (.iadd, 1) := by decide +kernel
theorem dd_Mo_laysAside_20 : decode prog_13_method_13_code 20 = .ok (.aload_n 0, 1) := by decide +kernel
theorem dd_Mo_laysAside_21 : decode prog_13_method_13_code 21 = .ok (.getfield 32, 3) := by decide +kernel
theorem dd_Mo_laysAside_24 : decode prog_13_method_13_code 24 = .ok (.iload_n 2, 1) := by decide +kernel
theorem dd_Mo_laysAside_25 : decode prog_13_method_13_code 25 = .ok (.iaload, 1) := by decide +kernel
theorem dd_Mo_laysAside_26 : decode prog_13_method_13_code 26 = .ok (.iastore, 1) := by decide +kernel
theorem dd_Mo_laysAside_27 : decode prog_13_method_13_code 27 = .ok (.iinc 2 1, 3) := by decide +kernel
theorem dd_Mo_laysAside_30 : decode prog_13_method_13_code 30 = .ok (.goto (-28), 3) := by decide +kernel
theorem dd_Mo_laysAside_33 : decode prog_13_method_13_code 33 = .ok (.return_, 1) := by decide +kernel
def jx_Mo_laysAside (p0 : Option Nat) (p1 : Int32) : sf_M (Unit) :=
  sf_bnd (sf_loop (β := (Int32)) (γ := (Unit)) (fun b1 =>
  if (195 : Int32) ≤ b1 then (
  sf_ret (.inr ())
  ) else (
  sf_bnd (sf_gR 11 5 p0) fun x3 =>
  sf_bnd (sf_gR 11 2 p0) fun x4 =>
  sf_bnd (sf_aI 0 x4 b1) fun x5 =>
  sf_bnd (sf_sI 0 x3 (((195 : Int32) * p1) + b1) x5) fun _ =>
  sf_bnd (sf_ret (b1 + (1 : Int32))) fun y6 =>
  sf_ret (.inl y6)
  )
  ) sf_fuel (0 : Int32)) (fun e7 =>
  sf_ret ()
  )
set_option maxRecDepth 20000 in
set_option maxHeartbeats 4000000 in
theorem ok_Mo_laysAside (p0 : Option Nat) (p1 : Int32) : sf_Ok ({ cls := "SplitFaresModel", name := "laysAside", desc := "(I)V" } : Jvm.MethodName) prog_13_method_13_code 3 none 0 [sf_rv p0, .int p1] (jx_Mo_laysAside p0 p1) (fun _ => none) := by
  refine sf_Ok.of (env := [some (sf_rv p0), some (.int p1), none]) (plainFor_of_name (by decide)) [false, false] (fun G => ⟨pk_r, pk_i, trivial⟩) (Nat.le_of_ble_eq_true rfl) rfl (fun X => ?_)
  unfold jx_Mo_laysAside
  refine fp_iconst (v := (0 : Int32)) dd_Mo_laysAside_0 (by decide) (fr_pc (pc' := 1) rfl ?_)
  refine fp_istore_n (i := 2) dd_Mo_laysAside_1 rfl (Nat.le_of_ble_eq_true rfl) (fun _ => c1_i rfl) (fr_to (pc' := 2) (env' := [some (sf_rv p0), some (.int p1), some (.int (0 : Int32))]) (stk' := []) rfl rfl rfl ?_)
  refine fr_to (pc' := 2) (env' := [some (sf_rv p0), some (.int p1), some (.int (0 : Int32))]) (stk' := []) rfl rfl rfl ?_
  refine fr_bnd (l1 := (fun (e7 : (Unit)) => sf_p 33 [some (sf_rv p0), some (.int p1), none] [])) (fr_loop (Lb := (fun (b1 : (Int32)) => sf_p 2 [some (sf_rv p0), some (.int p1), some (.int b1)] [])) (fun b1 => ?_) _ _) (fun e7 => ?_)
  · refine fp_iload_n (i := 2) (x := b1) dd_Mo_laysAside_2 rfl rfl (fr_pc (pc' := 3) rfl ?_)
    refine fp_sipush (v := (195 : Int32)) dd_Mo_laysAside_3 (by decide) (fr_pc (pc' := 6) rfl ?_)
    refine fr_icmp_ge (tgt := 33) dd_Mo_laysAside_6 rfl (fun _ => ?_) (fun _ => ?_)
    · refine fr_wk [true, true, false] ?_
      exact fr_ret rfl
    · refine fr_pc (pc' := 9) rfl ?_
      refine fp_aload_n (i := 0) (r := p0) dd_Mo_laysAside_9 rfl rfl (fr_pc (pc' := 10) rfl ?_)
      refine fr_gR cl_11 5 (by decide) rfl sw_1077 dd_Mo_laysAside_10 (fun x3 => fr_pc (pc' := 13) rfl ?_)
      refine fp_sipush (v := (195 : Int32)) dd_Mo_laysAside_13 (by decide) (fr_pc (pc' := 16) rfl ?_)
      refine fp_iload_n (i := 1) (x := p1) dd_Mo_laysAside_16 rfl rfl (fr_pc (pc' := 17) rfl ?_)
      refine fp_imul dd_Mo_laysAside_17 (fr_pc (pc' := 18) rfl ?_)
      refine fp_iload_n (i := 2) (x := b1) dd_Mo_laysAside_18 rfl rfl (fr_pc (pc' := 19) rfl ?_)
      refine fp_iadd dd_Mo_laysAside_19 (fr_pc (pc' := 20) rfl ?_)
      refine fp_aload_n (i := 0) (r := p0) dd_Mo_laysAside_20 rfl rfl (fr_pc (pc' := 21) rfl ?_)
      refine fr_gR cl_11 2 (by decide) rfl sw_1074 dd_Mo_laysAside_21 (fun x4 => fr_pc (pc' := 24) rfl ?_)
      refine fp_iload_n (i := 2) (x := b1) dd_Mo_laysAside_24 rfl rfl (fr_pc (pc' := 25) rfl ?_)
      refine fr_aI0 dd_Mo_laysAside_25 (fun x5 => fr_pc (pc' := 26) rfl ?_)
      refine fr_sI0 dd_Mo_laysAside_26 (fr_pc (pc' := 27) rfl ?_)
      refine fr_niinc (i := 2) (x := b1) (w := (1 : Int32)) dd_Mo_laysAside_27 rfl (by decide) (Nat.le_of_ble_eq_true rfl) (fun _ => c1_i rfl) (fun y6 => fr_to (pc' := 30) (env' := [some (sf_rv p0), some (.int p1), some (.int y6)]) (stk' := []) rfl rfl rfl ?_)
      refine fp_goto (tgt := 2) dd_Mo_laysAside_30 rfl ?_
      exact fr_ret rfl
  · exact fr_vret rfl rfl dd_Mo_laysAside_33
theorem mt_Mo_takesBack : sf_Mt ({ cls := "SplitFaresModel", name := "takesBack", desc := "(I)V" } : Jvm.MethodName) prog_13_method_14_code 3 none 1 := ⟨sw_1768, sw_12, ⟨by decide, by decide, by decide +kernel⟩, by decide⟩
theorem dd_Mo_takesBack_0 : decode prog_13_method_14_code 0 = .ok (.iconst 0, 1) := by decide +kernel
theorem dd_Mo_takesBack_1 : decode prog_13_method_14_code 1 = .ok (.istore_n 2, 1) := by decide +kernel
theorem dd_Mo_takesBack_2 : decode prog_13_method_14_code 2 = .ok (.iload_n 2, 1) := by decide +kernel
theorem dd_Mo_takesBack_3 : decode prog_13_method_14_code 3 = .ok (.sipush 195, 3) := by decide +kernel
theorem dd_Mo_takesBack_6 : decode prog_13_method_14_code 6 = .ok (.if_icmp .ge 27, 3) := by decide +kernel
theorem dd_Mo_takesBack_9 : decode prog_13_method_14_code 9 = .ok (.aload_n 0, 1) := by decide +kernel
theorem dd_Mo_takesBack_10 : decode prog_13_method_14_code 10 = .ok (.getfield 32, 3) := by decide +kernel
theorem dd_Mo_takesBack_13 : decode prog_13_method_14_code 13 = .ok (.iload_n 2, 1) := by decide +kernel
theorem dd_Mo_takesBack_14 : decode prog_13_method_14_code 14 = .ok (.aload_n 0, 1) := by decide +kernel
theorem dd_Mo_takesBack_15 : decode prog_13_method_14_code 15 = .ok (.getfield 42, 3) := by decide +kernel
theorem dd_Mo_takesBack_18 : decode prog_13_method_14_code 18 = .ok (.sipush 195, 3) := by decide +kernel
theorem dd_Mo_takesBack_21 : decode prog_13_method_14_code 21 = .ok (.iload_n 1, 1) := by decide +kernel
theorem dd_Mo_takesBack_22 : decode prog_13_method_14_code 22 = .ok (.imul, 1) := by decide +kernel
theorem dd_Mo_takesBack_23 : decode prog_13_method_14_code 23 = .ok (.iload_n 2, 1) := by decide +kernel
theorem dd_Mo_takesBack_24 : decode prog_13_method_14_code 24 = .ok (.iadd, 1) := by decide +kernel
theorem dd_Mo_takesBack_25 : decode prog_13_method_14_code 25 = .ok (.iaload, 1) := by decide +kernel
theorem dd_Mo_takesBack_26 : decode prog_13_method_14_code 26 = .ok (.iastore, 1) := by decide +kernel
theorem dd_Mo_takesBack_27 : decode prog_13_method_14_code 27 = .ok (.iinc 2 1, 3) := by decide +kernel
theorem dd_Mo_takesBack_30 : decode prog_13_method_14_code 30 = .ok (.goto (-28), 3) := by decide +kernel
theorem dd_Mo_takesBack_33 : decode prog_13_method_14_code 33 = .ok (.return_, 1) := by decide +kernel
def jx_Mo_takesBack (p0 : Option Nat) (p1 : Int32) : sf_M (Unit) :=
  sf_bnd (sf_loop (β := (Int32)) (γ := (Unit)) (fun b1 =>
  if (195 : Int32) ≤ b1 then (
  sf_ret (.inr ())
  ) else (
  sf_bnd (sf_gR 11 2 p0) fun x3 =>
  sf_bnd (sf_gR 11 5 p0) fun x4 =>
  sf_bnd (sf_aI 0 x4 (((195 : Int32) * p1) + b1)) fun x5 =>
  sf_bnd (sf_sI 0 x3 b1 x5) fun _ =>
  sf_bnd (sf_ret (b1 + (1 : Int32))) fun y6 =>
  sf_ret (.inl y6)
  )
  ) sf_fuel (0 : Int32)) (fun e7 =>
  sf_ret ()
  )
set_option maxRecDepth 20000 in
set_option maxHeartbeats 4000000 in
theorem ok_Mo_takesBack (p0 : Option Nat) (p1 : Int32) : sf_Ok ({ cls := "SplitFaresModel", name := "takesBack", desc := "(I)V" } : Jvm.MethodName) prog_13_method_14_code 3 none 0 [sf_rv p0, .int p1] (jx_Mo_takesBack p0 p1) (fun _ => none) := by
  refine sf_Ok.of (env := [some (sf_rv p0), some (.int p1), none]) (plainFor_of_name (by decide)) [false, false] (fun G => ⟨pk_r, pk_i, trivial⟩) (Nat.le_of_ble_eq_true rfl) rfl (fun X => ?_)
  unfold jx_Mo_takesBack
  refine fp_iconst (v := (0 : Int32)) dd_Mo_takesBack_0 (by decide) (fr_pc (pc' := 1) rfl ?_)
  refine fp_istore_n (i := 2) dd_Mo_takesBack_1 rfl (Nat.le_of_ble_eq_true rfl) (fun _ => c1_i rfl) (fr_to (pc' := 2) (env' := [some (sf_rv p0), some (.int p1), some (.int (0 : Int32))]) (stk' := []) rfl rfl rfl ?_)
  refine fr_to (pc' := 2) (env' := [some (sf_rv p0), some (.int p1), some (.int (0 : Int32))]) (stk' := []) rfl rfl rfl ?_
  refine fr_bnd (l1 := (fun (e7 : (Unit)) => sf_p 33 [some (sf_rv p0), some (.int p1), none] [])) (fr_loop (Lb := (fun (b1 : (Int32)) => sf_p 2 [some (sf_rv p0), some (.int p1), some (.int b1)] [])) (fun b1 => ?_) _ _) (fun e7 => ?_)
  · refine fp_iload_n (i := 2) (x := b1) dd_Mo_takesBack_2 rfl rfl (fr_pc (pc' := 3) rfl ?_)
    refine fp_sipush (v := (195 : Int32)) dd_Mo_takesBack_3 (by decide) (fr_pc (pc' := 6) rfl ?_)
    refine fr_icmp_ge (tgt := 33) dd_Mo_takesBack_6 rfl (fun _ => ?_) (fun _ => ?_)
    · refine fr_wk [true, true, false] ?_
      exact fr_ret rfl
    · refine fr_pc (pc' := 9) rfl ?_
      refine fp_aload_n (i := 0) (r := p0) dd_Mo_takesBack_9 rfl rfl (fr_pc (pc' := 10) rfl ?_)
      refine fr_gR cl_11 2 (by decide) rfl sw_1074 dd_Mo_takesBack_10 (fun x3 => fr_pc (pc' := 13) rfl ?_)
      refine fp_iload_n (i := 2) (x := b1) dd_Mo_takesBack_13 rfl rfl (fr_pc (pc' := 14) rfl ?_)
      refine fp_aload_n (i := 0) (r := p0) dd_Mo_takesBack_14 rfl rfl (fr_pc (pc' := 15) rfl ?_)
      refine fr_gR cl_11 5 (by decide) rfl sw_1077 dd_Mo_takesBack_15 (fun x4 => fr_pc (pc' := 18) rfl ?_)
      refine fp_sipush (v := (195 : Int32)) dd_Mo_takesBack_18 (by decide) (fr_pc (pc' := 21) rfl ?_)
      refine fp_iload_n (i := 1) (x := p1) dd_Mo_takesBack_21 rfl rfl (fr_pc (pc' := 22) rfl ?_)
      refine fp_imul dd_Mo_takesBack_22 (fr_pc (pc' := 23) rfl ?_)
      refine fp_iload_n (i := 2) (x := b1) dd_Mo_takesBack_23 rfl rfl (fr_pc (pc' := 24) rfl ?_)
      refine fp_iadd dd_Mo_takesBack_24 (fr_pc (pc' := 25) rfl ?_)
      refine fr_aI0 dd_Mo_takesBack_25 (fun x5 => fr_pc (pc' := 26) rfl ?_)
      refine fr_sI0 dd_Mo_takesBack_26 (fr_pc (pc' := 27) rfl ?_)
      refine fr_niinc (i := 2) (x := b1) (w := (1 : Int32)) dd_Mo_takesBack_27 rfl (by decide) (Nat.le_of_ble_eq_true rfl) (fun _ => c1_i rfl) (fun y6 => fr_to (pc' := 30) (env' := [some (sf_rv p0), some (.int p1), some (.int y6)]) (stk' := []) rfl rfl rfl ?_)
      refine fp_goto (tgt := 2) dd_Mo_takesBack_30 rfl ?_
      exact fr_ret rfl
  · exact fr_vret rfl rfl dd_Mo_takesBack_33
theorem mt_Mo_image : sf_Mt ({ cls := "SplitFaresModel", name := "image", desc := "(I)I" } : Jvm.MethodName) prog_13_method_15_code 3 (some .int) 1 := ⟨sw_1236, sw_12, ⟨by decide, by decide, by decide +kernel⟩, by decide⟩
theorem dd_Mo_image_0 : decode prog_13_method_15_code 0 = .ok (.iload_n 1, 1) := by decide +kernel
theorem dd_Mo_image_1 : decode prog_13_method_15_code 1 = .ok (.iconst 0, 1) := by decide +kernel
theorem dd_Mo_image_2 : decode prog_13_method_15_code 2 = .ok (.iconst 1, 1) := by decide +kernel
theorem dd_Mo_image_3 : decode prog_13_method_15_code 3 = .ok (.invokestatic 18, 3) := by decide +kernel
theorem dd_Mo_image_6 : decode prog_13_method_15_code 6 = .ok (.ifCond .ne 9, 3) := by decide +kernel
theorem dd_Mo_image_9 : decode prog_13_method_15_code 9 = .ok (.aload_n 0, 1) := by decide +kernel
theorem dd_Mo_image_10 : decode prog_13_method_15_code 10 = .ok (.iconst (-1), 1) := by decide +kernel
theorem dd_Mo_image_11 : decode prog_13_method_15_code 11 = .ok (.invokevirtual 116, 3) := by decide +kernel
theorem dd_Mo_image_14 : decode prog_13_method_15_code 14 = .ok (.ireturn, 1) := by decide +kernel
theorem dd_Mo_image_15 : decode prog_13_method_15_code 15 = .ok (.iconst 0, 1) := by decide +kernel
theorem dd_Mo_image_16 : decode prog_13_method_15_code 16 = .ok (.istore_n 2, 1) := by decide +kernel
theorem dd_Mo_image_17 : decode prog_13_method_15_code 17 = .ok (.iload_n 2, 1) := by decide +kernel
theorem dd_Mo_image_18 : decode prog_13_method_15_code 18 = .ok (.sipush 5838, 3) := by decide +kernel
theorem dd_Mo_image_21 : decode prog_13_method_15_code 21 = .ok (.if_icmp .ge 27, 3) := by decide +kernel
theorem dd_Mo_image_24 : decode prog_13_method_15_code 24 = .ok (.aload_n 0, 1) := by decide +kernel
theorem dd_Mo_image_25 : decode prog_13_method_15_code 25 = .ok (.getfield 35, 3) := by decide +kernel
theorem dd_Mo_image_28 : decode prog_13_method_15_code 28 = .ok (.sipush 5838, 3) := by decide +kernel
theorem dd_Mo_image_31 : decode prog_13_method_15_code 31 = .ok (.iload_n 1, 1) := by decide +kernel
theorem dd_Mo_image_32 : decode prog_13_method_15_code 32 = .ok (.imul, 1) := by decide +kernel
theorem dd_Mo_image_33 : decode prog_13_method_15_code 33 = .ok (.iload_n 2, 1) := by decide +kernel
theorem dd_Mo_image_34 : decode prog_13_method_15_code 34 = .ok (.iadd, 1) := by decide +kernel
theorem dd_Mo_image_35 : decode prog_13_method_15_code 35 = .ok (.aload_n 0, 1) := by decide +kernel
theorem dd_Mo_image_36 : decode prog_13_method_15_code 36 = .ok (.getfield 32, 3) := by decide +kernel
theorem dd_Mo_image_39 : decode prog_13_method_15_code 39 = .ok (.iload_n 2, 1) := by decide +kernel
theorem dd_Mo_image_40 : decode prog_13_method_15_code 40 = .ok (.iaload, 1) := by decide +kernel
theorem dd_Mo_image_41 : decode prog_13_method_15_code 41 = .ok (.iastore, 1) := by decide +kernel
theorem dd_Mo_image_42 : decode prog_13_method_15_code 42 = .ok (.iinc 2 1, 3) := by decide +kernel
theorem dd_Mo_image_45 : decode prog_13_method_15_code 45 = .ok (.goto (-28), 3) := by decide +kernel
theorem dd_Mo_image_48 : decode prog_13_method_15_code 48 = .ok (.aload_n 0, 1) := by decide +kernel
theorem dd_Mo_image_49 : decode prog_13_method_15_code 49 = .ok (.getfield 38, 3) := by decide +kernel
theorem dd_Mo_image_52 : decode prog_13_method_15_code 52 = .ok (.iload_n 1, 1) := by decide +kernel
theorem dd_Mo_image_53 : decode prog_13_method_15_code 53 = .ok (.iconst 1, 1) := by decide +kernel
theorem dd_Mo_image_54 : decode prog_13_method_15_code 54 = .ok (.bastore, 1) := by decide +kernel
theorem dd_Mo_image_55 : decode prog_13_method_15_code 55 = .ok (.aload_n 0, 1) := by decide +kernel
theorem dd_Mo_image_56 : decode prog_13_method_15_code 56 = .ok (.iconst 0, 1) := by decide +kernel
theorem dd_Mo_image_57 : decode prog_13_method_15_code 57 = .ok (.invokevirtual 14, 3) := by decide +kernel
theorem dd_Mo_image_60 : decode prog_13_method_15_code 60 = .ok (.ireturn, 1) := by decide +kernel
def jx_Mo_image (p0 : Option Nat) (p1 : Int32) : sf_M (Int32) :=
  sf_bnd (jx_Mo_lies p1 (0 : Int32) (1 : Int32)) fun x1 =>
  if x1 = 0 then (
  sf_bnd (sf_rc 11 p0 (jx_Mo_refuses p0 (-1 : Int32))) fun x3 =>
  sf_ret x3
  ) else (
  sf_bnd (sf_loop (β := (Int32)) (γ := (Unit)) (fun b4 =>
  if (5838 : Int32) ≤ b4 then (
  sf_ret (.inr ())
  ) else (
  sf_bnd (sf_gR 11 3 p0) fun x6 =>
  sf_bnd (sf_gR 11 2 p0) fun x7 =>
  sf_bnd (sf_aI 0 x7 b4) fun x8 =>
  sf_bnd (sf_sI 0 x6 (((5838 : Int32) * p1) + b4) x8) fun _ =>
  sf_bnd (sf_ret (b4 + (1 : Int32))) fun y9 =>
  sf_ret (.inl y9)
  )
  ) sf_fuel (0 : Int32)) (fun e10 =>
  sf_bnd (sf_gR 11 4 p0) fun x11 =>
  sf_bnd (sf_sI 3 x11 p1 (1 : Int32)) fun _ =>
  sf_bnd (sf_rc 11 p0 (jx_Mo_good p0 (0 : Int32))) fun x12 =>
  sf_ret x12
  )
  )
set_option maxRecDepth 20000 in
set_option maxHeartbeats 4000000 in
theorem ok_Mo_image (p0 : Option Nat) (p1 : Int32) : sf_Ok ({ cls := "SplitFaresModel", name := "image", desc := "(I)I" } : Jvm.MethodName) prog_13_method_15_code 3 (some .int) 1 [sf_rv p0, .int p1] (jx_Mo_image p0 p1) (fun r => some (.int r)) := by
  refine sf_Ok.of (env := [some (sf_rv p0), some (.int p1), none]) (plainFor_of_name (by decide)) [false, false] (fun G => ⟨pk_r, pk_i, trivial⟩) (Nat.le_of_ble_eq_true rfl) rfl (fun X => ?_)
  unfold jx_Mo_image
  refine fp_iload_n (i := 1) (x := p1) dd_Mo_image_0 rfl rfl (fr_pc (pc' := 1) rfl ?_)
  refine fp_iconst (v := (0 : Int32)) dd_Mo_image_1 (by decide) (fr_pc (pc' := 2) rfl ?_)
  refine fp_iconst (v := (1 : Int32)) dd_Mo_image_2 (by decide) (fr_pc (pc' := 3) rfl ?_)
  refine fr_callS (stk := []) (ok_Mo_lies p1 (0 : Int32) (1 : Int32)) mt_Mo_lies rfl rfl sw_1237 sw_1238 (by decide) (Nat.le_of_ble_eq_true rfl) dd_Mo_image_3 (fun x1 => fr_to (pc' := 6) (env' := [some (sf_rv p0), some (.int p1), none]) (stk' := [.int x1]) rfl rfl rfl ?_)
  refine fr_if_ne (tgt := 15) dd_Mo_image_6 rfl (fun _ => ?_) (fun _ => ?_)
  · refine fr_pc (pc' := 9) rfl ?_
    refine fp_aload_n (i := 0) (r := p0) dd_Mo_image_9 rfl rfl (fr_pc (pc' := 10) rfl ?_)
    refine fp_iconst (v := (-1 : Int32)) dd_Mo_image_10 (by decide) (fr_pc (pc' := 11) rfl ?_)
    refine fr_callV (stk := []) (As := [.int (-1 : Int32)]) cl_11 (ok_Mo_refuses p0 (-1 : Int32)) mt_Mo_refuses rfl rfl sw_1240 sw_1242 sp_27 (by decide) (Nat.le_of_ble_eq_true rfl) dd_Mo_image_11 (fun x3 => fr_to (pc' := 14) (env' := [some (sf_rv p0), some (.int p1), none]) (stk' := [.int x3]) rfl rfl rfl ?_)
    exact fr_iret (v := x3) rfl rfl dd_Mo_image_14
  · refine fp_iconst (v := (0 : Int32)) dd_Mo_image_15 (by decide) (fr_pc (pc' := 16) rfl ?_)
    refine fp_istore_n (i := 2) dd_Mo_image_16 rfl (Nat.le_of_ble_eq_true rfl) (fun _ => c1_i rfl) (fr_to (pc' := 17) (env' := [some (sf_rv p0), some (.int p1), some (.int (0 : Int32))]) (stk' := []) rfl rfl rfl ?_)
    refine fr_to (pc' := 17) (env' := [some (sf_rv p0), some (.int p1), some (.int (0 : Int32))]) (stk' := []) rfl rfl rfl ?_
    refine fr_bnd (l1 := (fun (e10 : (Unit)) => sf_p 48 [some (sf_rv p0), some (.int p1), none] [])) (fr_loop (Lb := (fun (b4 : (Int32)) => sf_p 17 [some (sf_rv p0), some (.int p1), some (.int b4)] [])) (fun b4 => ?_) _ _) (fun e10 => ?_)
    · refine fp_iload_n (i := 2) (x := b4) dd_Mo_image_17 rfl rfl (fr_pc (pc' := 18) rfl ?_)
      refine fp_sipush (v := (5838 : Int32)) dd_Mo_image_18 (by decide) (fr_pc (pc' := 21) rfl ?_)
      refine fr_icmp_ge (tgt := 48) dd_Mo_image_21 rfl (fun _ => ?_) (fun _ => ?_)
      · refine fr_wk [true, true, false] ?_
        exact fr_ret rfl
      · refine fr_pc (pc' := 24) rfl ?_
        refine fp_aload_n (i := 0) (r := p0) dd_Mo_image_24 rfl rfl (fr_pc (pc' := 25) rfl ?_)
        refine fr_gR cl_11 3 (by decide) rfl sw_1075 dd_Mo_image_25 (fun x6 => fr_pc (pc' := 28) rfl ?_)
        refine fp_sipush (v := (5838 : Int32)) dd_Mo_image_28 (by decide) (fr_pc (pc' := 31) rfl ?_)
        refine fp_iload_n (i := 1) (x := p1) dd_Mo_image_31 rfl rfl (fr_pc (pc' := 32) rfl ?_)
        refine fp_imul dd_Mo_image_32 (fr_pc (pc' := 33) rfl ?_)
        refine fp_iload_n (i := 2) (x := b4) dd_Mo_image_33 rfl rfl (fr_pc (pc' := 34) rfl ?_)
        refine fp_iadd dd_Mo_image_34 (fr_pc (pc' := 35) rfl ?_)
        refine fp_aload_n (i := 0) (r := p0) dd_Mo_image_35 rfl rfl (fr_pc (pc' := 36) rfl ?_)
        refine fr_gR cl_11 2 (by decide) rfl sw_1074 dd_Mo_image_36 (fun x7 => fr_pc (pc' := 39) rfl ?_)
        refine fp_iload_n (i := 2) (x := b4) dd_Mo_image_39 rfl rfl (fr_pc (pc' := 40) rfl ?_)
        refine fr_aI0 dd_Mo_image_40 (fun x8 => fr_pc (pc' := 41) rfl ?_)
        refine fr_sI0 dd_Mo_image_41 (fr_pc (pc' := 42) rfl ?_)
        refine fr_niinc (i := 2) (x := b4) (w := (1 : Int32)) dd_Mo_image_42 rfl (by decide) (Nat.le_of_ble_eq_true rfl) (fun _ => c1_i rfl) (fun y9 => fr_to (pc' := 45) (env' := [some (sf_rv p0), some (.int p1), some (.int y9)]) (stk' := []) rfl rfl rfl ?_)
        refine fp_goto (tgt := 17) dd_Mo_image_45 rfl ?_
        exact fr_ret rfl
    · refine fp_aload_n (i := 0) (r := p0) dd_Mo_image_48 rfl rfl (fr_pc (pc' := 49) rfl ?_)
      refine fr_gR cl_11 4 (by decide) rfl sw_1076 dd_Mo_image_49 (fun x11 => fr_pc (pc' := 52) rfl ?_)
      refine fp_iload_n (i := 1) (x := p1) dd_Mo_image_52 rfl rfl (fr_pc (pc' := 53) rfl ?_)
      refine fp_iconst (v := (1 : Int32)) dd_Mo_image_53 (by decide) (fr_pc (pc' := 54) rfl ?_)
      refine fr_sI3 dd_Mo_image_54 (fr_pc (pc' := 55) rfl ?_)
      refine fp_aload_n (i := 0) (r := p0) dd_Mo_image_55 rfl rfl (fr_pc (pc' := 56) rfl ?_)
      refine fp_iconst (v := (0 : Int32)) dd_Mo_image_56 (by decide) (fr_pc (pc' := 57) rfl ?_)
      refine fr_callV (stk := []) (As := [.int (0 : Int32)]) cl_11 (ok_Mo_good p0 (0 : Int32)) mt_Mo_good rfl rfl sw_1244 sw_1246 sp_28 (by decide) (Nat.le_of_ble_eq_true rfl) dd_Mo_image_57 (fun x12 => fr_to (pc' := 60) (env' := [some (sf_rv p0), some (.int p1), none]) (stk' := [.int x12]) rfl rfl rfl ?_)
      exact fr_iret (v := x12) rfl rfl dd_Mo_image_60
theorem mt_Mo_back : sf_Mt ({ cls := "SplitFaresModel", name := "back", desc := "(I)I" } : Jvm.MethodName) prog_13_method_16_code 3 (some .int) 1 := ⟨sw_1251, sw_12, ⟨by decide, by decide, by decide +kernel⟩, by decide⟩
theorem dd_Mo_back_0 : decode prog_13_method_16_code 0 = .ok (.iload_n 1, 1) := by decide +kernel
theorem dd_Mo_back_1 : decode prog_13_method_16_code 1 = .ok (.iconst 0, 1) := by decide +kernel
theorem dd_Mo_back_2 : decode prog_13_method_16_code 2 = .ok (.iconst 1, 1) := by decide +kernel
theorem dd_Mo_back_3 : decode prog_13_method_16_code 3 = .ok (.invokestatic 18, 3) := by decide +kernel
theorem dd_Mo_back_6 : decode prog_13_method_16_code 6 = .ok (.ifCond .ne 9, 3) := by decide +kernel
theorem dd_Mo_back_9 : decode prog_13_method_16_code 9 = .ok (.aload_n 0, 1) := by decide +kernel
theorem dd_Mo_back_10 : decode prog_13_method_16_code 10 = .ok (.iconst (-1), 1) := by decide +kernel
theorem dd_Mo_back_11 : decode prog_13_method_16_code 11 = .ok (.invokevirtual 116, 3) := by decide +kernel
theorem dd_Mo_back_14 : decode prog_13_method_16_code 14 = .ok (.ireturn, 1) := by decide +kernel
theorem dd_Mo_back_15 : decode prog_13_method_16_code 15 = .ok (.aload_n 0, 1) := by decide +kernel
theorem dd_Mo_back_16 : decode prog_13_method_16_code 16 = .ok (.getfield 38, 3) := by decide +kernel
theorem dd_Mo_back_19 : decode prog_13_method_16_code 19 = .ok (.iload_n 1, 1) := by decide +kernel
theorem dd_Mo_back_20 : decode prog_13_method_16_code 20 = .ok (.baload, 1) := by decide +kernel
theorem dd_Mo_back_21 : decode prog_13_method_16_code 21 = .ok (.ifCond .ne 10, 3) := by decide +kernel
theorem dd_Mo_back_24 : decode prog_13_method_16_code 24 = .ok (.aload_n 0, 1) := by decide +kernel
theorem dd_Mo_back_25 : decode prog_13_method_16_code 25 = .ok (.bipush (-2), 2) := by decide +kernel
theorem dd_Mo_back_27 : decode prog_13_method_16_code 27 = .ok (.invokevirtual 116, 3) := by decide +kernel
theorem dd_Mo_back_30 : decode prog_13_method_16_code 30 = .ok (.ireturn, 1) := by decide +kernel
theorem dd_Mo_back_31 : decode prog_13_method_16_code 31 = .ok (.iconst 0, 1) := by decide +kernel
theorem dd_Mo_back_32 : decode prog_13_method_16_code 32 = .ok (.istore_n 2, 1) := by decide +kernel
theorem dd_Mo_back_33 : decode prog_13_method_16_code 33 = .ok (.iload_n 2, 1) := by decide +kernel
theorem dd_Mo_back_34 : decode prog_13_method_16_code 34 = .ok (.sipush 5838, 3) := by decide +kernel
theorem dd_Mo_back_37 : decode prog_13_method_16_code 37 = .ok (.if_icmp .ge 27, 3) := by decide +kernel
theorem dd_Mo_back_40 : decode prog_13_method_16_code 40 = .ok (.aload_n 0, 1) := by decide +kernel
theorem dd_Mo_back_41 : decode prog_13_method_16_code 41 = .ok (.getfield 32, 3) := by decide +kernel
theorem dd_Mo_back_44 : decode prog_13_method_16_code 44 = .ok (.iload_n 2, 1) := by decide +kernel
theorem dd_Mo_back_45 : decode prog_13_method_16_code 45 = .ok (.aload_n 0, 1) := by decide +kernel
theorem dd_Mo_back_46 : decode prog_13_method_16_code 46 = .ok (.getfield 35, 3) := by decide +kernel
theorem dd_Mo_back_49 : decode prog_13_method_16_code 49 = .ok (.sipush 5838, 3) := by decide +kernel
theorem dd_Mo_back_52 : decode prog_13_method_16_code 52 = .ok (.iload_n 1, 1) := by decide +kernel
theorem dd_Mo_back_53 : decode prog_13_method_16_code 53 = .ok (.imul, 1) := by decide +kernel
theorem dd_Mo_back_54 : decode prog_13_method_16_code 54 = .ok (.iload_n 2, 1) := by decide +kernel
theorem dd_Mo_back_55 : decode prog_13_method_16_code 55 = .ok (.iadd, 1) := by decide +kernel
theorem dd_Mo_back_56 : decode prog_13_method_16_code 56 = .ok (.iaload, 1) := by decide +kernel
theorem dd_Mo_back_57 : decode prog_13_method_16_code 57 = .ok (.iastore, 1) := by decide +kernel
theorem dd_Mo_back_58 : decode prog_13_method_16_code 58 = .ok (.iinc 2 1, 3) := by decide +kernel
theorem dd_Mo_back_61 : decode prog_13_method_16_code 61 = .ok (.goto (-28), 3) := by decide +kernel
theorem dd_Mo_back_64 : decode prog_13_method_16_code 64 = .ok (.aload_n 0, 1) := by decide +kernel
theorem dd_Mo_back_65 : decode prog_13_method_16_code 65 = .ok (.iconst 0, 1) := by decide +kernel
theorem dd_Mo_back_66 : decode prog_13_method_16_code 66 = .ok (.invokevirtual 119, 3) := by decide +kernel
theorem dd_Mo_back_69 : decode prog_13_method_16_code 69 = .ok (.ireturn, 1) := by decide +kernel
def jx_Mo_back (p0 : Option Nat) (p1 : Int32) : sf_M (Int32) :=
  sf_bnd (jx_Mo_lies p1 (0 : Int32) (1 : Int32)) fun x1 =>
  if x1 = 0 then (
  sf_bnd (sf_rc 11 p0 (jx_Mo_refuses p0 (-1 : Int32))) fun x3 =>
  sf_ret x3
  ) else (
  sf_bnd (sf_gR 11 4 p0) fun x4 =>
  sf_bnd (sf_aI 3 x4 p1) fun x5 =>
  if x5 = 0 then (
  sf_bnd (sf_rc 11 p0 (jx_Mo_refuses p0 (-2 : Int32))) fun x7 =>
  sf_ret x7
  ) else (
  sf_bnd (sf_loop (β := (Int32)) (γ := (Unit)) (fun b8 =>
  if (5838 : Int32) ≤ b8 then (
  sf_ret (.inr ())
  ) else (
  sf_bnd (sf_gR 11 2 p0) fun x10 =>
  sf_bnd (sf_gR 11 3 p0) fun x11 =>
  sf_bnd (sf_aI 0 x11 (((5838 : Int32) * p1) + b8)) fun x12 =>
  sf_bnd (sf_sI 0 x10 b8 x12) fun _ =>
  sf_bnd (sf_ret (b8 + (1 : Int32))) fun y13 =>
  sf_ret (.inl y13)
  )
  ) sf_fuel (0 : Int32)) (fun e14 =>
  sf_bnd (sf_rc 11 p0 (jx_Mo_settled p0 (0 : Int32))) fun x15 =>
  sf_ret x15
  )
  )
  )
set_option maxRecDepth 20000 in
set_option maxHeartbeats 4000000 in
theorem ok_Mo_back (p0 : Option Nat) (p1 : Int32) : sf_Ok ({ cls := "SplitFaresModel", name := "back", desc := "(I)I" } : Jvm.MethodName) prog_13_method_16_code 3 (some .int) 2 [sf_rv p0, .int p1] (jx_Mo_back p0 p1) (fun r => some (.int r)) := by
  refine sf_Ok.of (env := [some (sf_rv p0), some (.int p1), none]) (plainFor_of_name (by decide)) [false, false] (fun G => ⟨pk_r, pk_i, trivial⟩) (Nat.le_of_ble_eq_true rfl) rfl (fun X => ?_)
  unfold jx_Mo_back
  refine fp_iload_n (i := 1) (x := p1) dd_Mo_back_0 rfl rfl (fr_pc (pc' := 1) rfl ?_)
  refine fp_iconst (v := (0 : Int32)) dd_Mo_back_1 (by decide) (fr_pc (pc' := 2) rfl ?_)
  refine fp_iconst (v := (1 : Int32)) dd_Mo_back_2 (by decide) (fr_pc (pc' := 3) rfl ?_)
  refine fr_callS (stk := []) (ok_Mo_lies p1 (0 : Int32) (1 : Int32)) mt_Mo_lies rfl rfl sw_1237 sw_1238 (by decide) (Nat.le_of_ble_eq_true rfl) dd_Mo_back_3 (fun x1 => fr_to (pc' := 6) (env' := [some (sf_rv p0), some (.int p1), none]) (stk' := [.int x1]) rfl rfl rfl ?_)
  refine fr_if_ne (tgt := 15) dd_Mo_back_6 rfl (fun _ => ?_) (fun _ => ?_)
  · refine fr_pc (pc' := 9) rfl ?_
    refine fp_aload_n (i := 0) (r := p0) dd_Mo_back_9 rfl rfl (fr_pc (pc' := 10) rfl ?_)
    refine fp_iconst (v := (-1 : Int32)) dd_Mo_back_10 (by decide) (fr_pc (pc' := 11) rfl ?_)
    refine fr_callV (stk := []) (As := [.int (-1 : Int32)]) cl_11 (ok_Mo_refuses p0 (-1 : Int32)) mt_Mo_refuses rfl rfl sw_1240 sw_1242 sp_27 (by decide) (Nat.le_of_ble_eq_true rfl) dd_Mo_back_11 (fun x3 => fr_to (pc' := 14) (env' := [some (sf_rv p0), some (.int p1), none]) (stk' := [.int x3]) rfl rfl rfl ?_)
    exact fr_iret (v := x3) rfl rfl dd_Mo_back_14
  · refine fp_aload_n (i := 0) (r := p0) dd_Mo_back_15 rfl rfl (fr_pc (pc' := 16) rfl ?_)
    refine fr_gR cl_11 4 (by decide) rfl sw_1076 dd_Mo_back_16 (fun x4 => fr_pc (pc' := 19) rfl ?_)
    refine fp_iload_n (i := 1) (x := p1) dd_Mo_back_19 rfl rfl (fr_pc (pc' := 20) rfl ?_)
    refine fr_aI3 dd_Mo_back_20 (fun x5 => fr_pc (pc' := 21) rfl ?_)
    refine fr_if_ne (tgt := 31) dd_Mo_back_21 rfl (fun _ => ?_) (fun _ => ?_)
    · refine fr_pc (pc' := 24) rfl ?_
      refine fp_aload_n (i := 0) (r := p0) dd_Mo_back_24 rfl rfl (fr_pc (pc' := 25) rfl ?_)
      refine fp_bipush (v := (-2 : Int32)) dd_Mo_back_25 (by decide) (fr_pc (pc' := 27) rfl ?_)
      refine fr_callV (stk := []) (As := [.int (-2 : Int32)]) cl_11 (ok_Mo_refuses p0 (-2 : Int32)) mt_Mo_refuses rfl rfl sw_1240 sw_1242 sp_27 (by decide) (Nat.le_of_ble_eq_true rfl) dd_Mo_back_27 (fun x7 => fr_to (pc' := 30) (env' := [some (sf_rv p0), some (.int p1), none]) (stk' := [.int x7]) rfl rfl rfl ?_)
      exact fr_iret (v := x7) rfl rfl dd_Mo_back_30
    · refine fp_iconst (v := (0 : Int32)) dd_Mo_back_31 (by decide) (fr_pc (pc' := 32) rfl ?_)
      refine fp_istore_n (i := 2) dd_Mo_back_32 rfl (Nat.le_of_ble_eq_true rfl) (fun _ => c1_i rfl) (fr_to (pc' := 33) (env' := [some (sf_rv p0), some (.int p1), some (.int (0 : Int32))]) (stk' := []) rfl rfl rfl ?_)
      refine fr_to (pc' := 33) (env' := [some (sf_rv p0), some (.int p1), some (.int (0 : Int32))]) (stk' := []) rfl rfl rfl ?_
      refine fr_bnd (l1 := (fun (e14 : (Unit)) => sf_p 64 [some (sf_rv p0), some (.int p1), none] [])) (fr_loop (Lb := (fun (b8 : (Int32)) => sf_p 33 [some (sf_rv p0), some (.int p1), some (.int b8)] [])) (fun b8 => ?_) _ _) (fun e14 => ?_)
      · refine fp_iload_n (i := 2) (x := b8) dd_Mo_back_33 rfl rfl (fr_pc (pc' := 34) rfl ?_)
        refine fp_sipush (v := (5838 : Int32)) dd_Mo_back_34 (by decide) (fr_pc (pc' := 37) rfl ?_)
        refine fr_icmp_ge (tgt := 64) dd_Mo_back_37 rfl (fun _ => ?_) (fun _ => ?_)
        · refine fr_wk [true, true, false] ?_
          exact fr_ret rfl
        · refine fr_pc (pc' := 40) rfl ?_
          refine fp_aload_n (i := 0) (r := p0) dd_Mo_back_40 rfl rfl (fr_pc (pc' := 41) rfl ?_)
          refine fr_gR cl_11 2 (by decide) rfl sw_1074 dd_Mo_back_41 (fun x10 => fr_pc (pc' := 44) rfl ?_)
          refine fp_iload_n (i := 2) (x := b8) dd_Mo_back_44 rfl rfl (fr_pc (pc' := 45) rfl ?_)
          refine fp_aload_n (i := 0) (r := p0) dd_Mo_back_45 rfl rfl (fr_pc (pc' := 46) rfl ?_)
          refine fr_gR cl_11 3 (by decide) rfl sw_1075 dd_Mo_back_46 (fun x11 => fr_pc (pc' := 49) rfl ?_)
          refine fp_sipush (v := (5838 : Int32)) dd_Mo_back_49 (by decide) (fr_pc (pc' := 52) rfl ?_)
          refine fp_iload_n (i := 1) (x := p1) dd_Mo_back_52 rfl rfl (fr_pc (pc' := 53) rfl ?_)
          refine fp_imul dd_Mo_back_53 (fr_pc (pc' := 54) rfl ?_)
          refine fp_iload_n (i := 2) (x := b8) dd_Mo_back_54 rfl rfl (fr_pc (pc' := 55) rfl ?_)
          refine fp_iadd dd_Mo_back_55 (fr_pc (pc' := 56) rfl ?_)
          refine fr_aI0 dd_Mo_back_56 (fun x12 => fr_pc (pc' := 57) rfl ?_)
          refine fr_sI0 dd_Mo_back_57 (fr_pc (pc' := 58) rfl ?_)
          refine fr_niinc (i := 2) (x := b8) (w := (1 : Int32)) dd_Mo_back_58 rfl (by decide) (Nat.le_of_ble_eq_true rfl) (fun _ => c1_i rfl) (fun y13 => fr_to (pc' := 61) (env' := [some (sf_rv p0), some (.int p1), some (.int y13)]) (stk' := []) rfl rfl rfl ?_)
          refine fp_goto (tgt := 33) dd_Mo_back_61 rfl ?_
          exact fr_ret rfl
      · refine fp_aload_n (i := 0) (r := p0) dd_Mo_back_64 rfl rfl (fr_pc (pc' := 65) rfl ?_)
        refine fp_iconst (v := (0 : Int32)) dd_Mo_back_65 (by decide) (fr_pc (pc' := 66) rfl ?_)
        refine fr_callV (stk := []) (As := [.int (0 : Int32)]) cl_11 (ok_Mo_settled p0 (0 : Int32)) mt_Mo_settled rfl rfl sw_1252 sw_1254 sp_29 (by decide) (Nat.le_of_ble_eq_true rfl) dd_Mo_back_66 (fun x15 => fr_to (pc' := 69) (env' := [some (sf_rv p0), some (.int p1), none]) (stk' := [.int x15]) rfl rfl rfl ?_)
        exact fr_iret (v := x15) rfl rfl dd_Mo_back_69
theorem mt_Mo_isTrain : sf_Mt ({ cls := "SplitFaresModel", name := "isTrain", desc := "(I)Z" } : Jvm.MethodName) prog_13_method_17_code 2 (some .boolean) 1 := ⟨sw_1277, sw_12, ⟨by decide, by decide, by decide +kernel⟩, by decide⟩
theorem dd_Mo_isTrain_0 : decode prog_13_method_17_code 0 = .ok (.iload_n 1, 1) := by decide +kernel
theorem dd_Mo_isTrain_1 : decode prog_13_method_17_code 1 = .ok (.iconst 0, 1) := by decide +kernel
theorem dd_Mo_isTrain_2 : decode prog_13_method_17_code 2 = .ok (.aload_n 0, 1) := by decide +kernel
theorem dd_Mo_isTrain_3 : decode prog_13_method_17_code 3 = .ok (.getfield 32, 3) := by decide +kernel
theorem dd_Mo_isTrain_6 : decode prog_13_method_17_code 6 = .ok (.sipush 227, 3) := by decide +kernel
theorem dd_Mo_isTrain_9 : decode prog_13_method_17_code 9 = .ok (.iaload, 1) := by decide +kernel
theorem dd_Mo_isTrain_10 : decode prog_13_method_17_code 10 = .ok (.iconst 1, 1) := by decide +kernel
theorem dd_Mo_isTrain_11 : decode prog_13_method_17_code 11 = .ok (.isub, 1) := by decide +kernel
theorem dd_Mo_isTrain_12 : decode prog_13_method_17_code 12 = .ok (.invokestatic 18, 3) := by decide +kernel
theorem dd_Mo_isTrain_15 : decode prog_13_method_17_code 15 = .ok (.ireturn, 1) := by decide +kernel
def jx_Mo_isTrain (p0 : Option Nat) (p1 : Int32) : sf_M (Int32) :=
  sf_bnd (sf_gR 11 2 p0) fun x1 =>
  sf_bnd (sf_aI 0 x1 (227 : Int32)) fun x2 =>
  sf_bnd (jx_Mo_lies p1 (0 : Int32) (x2 - (1 : Int32))) fun x3 =>
  sf_bnd (sf_rz x3) fun x4 =>
  sf_ret x4
set_option maxRecDepth 20000 in
set_option maxHeartbeats 4000000 in
theorem ok_Mo_isTrain (p0 : Option Nat) (p1 : Int32) : sf_Ok ({ cls := "SplitFaresModel", name := "isTrain", desc := "(I)Z" } : Jvm.MethodName) prog_13_method_17_code 2 (some .boolean) 1 [sf_rv p0, .int p1] (jx_Mo_isTrain p0 p1) (fun r => some (.int r)) := by
  refine sf_Ok.of (env := [some (sf_rv p0), some (.int p1)]) (plainFor_of_name (by decide)) [false, false] (fun G => ⟨pk_r, pk_i, trivial⟩) (Nat.le_of_ble_eq_true rfl) rfl (fun X => ?_)
  unfold jx_Mo_isTrain
  refine fp_iload_n (i := 1) (x := p1) dd_Mo_isTrain_0 rfl rfl (fr_pc (pc' := 1) rfl ?_)
  refine fp_iconst (v := (0 : Int32)) dd_Mo_isTrain_1 (by decide) (fr_pc (pc' := 2) rfl ?_)
  refine fp_aload_n (i := 0) (r := p0) dd_Mo_isTrain_2 rfl rfl (fr_pc (pc' := 3) rfl ?_)
  refine fr_gR cl_11 2 (by decide) rfl sw_1074 dd_Mo_isTrain_3 (fun x1 => fr_pc (pc' := 6) rfl ?_)
  refine fp_sipush (v := (227 : Int32)) dd_Mo_isTrain_6 (by decide) (fr_pc (pc' := 9) rfl ?_)
  refine fr_aI0 dd_Mo_isTrain_9 (fun x2 => fr_pc (pc' := 10) rfl ?_)
  refine fp_iconst (v := (1 : Int32)) dd_Mo_isTrain_10 (by decide) (fr_pc (pc' := 11) rfl ?_)
  refine fp_isub dd_Mo_isTrain_11 (fr_pc (pc' := 12) rfl ?_)
  refine fr_callS (stk := []) (ok_Mo_lies p1 (0 : Int32) (x2 - (1 : Int32))) mt_Mo_lies rfl rfl sw_1237 sw_1238 (by decide) (Nat.le_of_ble_eq_true rfl) dd_Mo_isTrain_12 (fun x3 => fr_to (pc' := 15) (env' := [some (sf_rv p0), some (.int p1)]) (stk' := [.int x3]) rfl rfl rfl ?_)
  exact fr_zret (r := fun x4 => x4) (fun _ => rfl) rfl dd_Mo_isTrain_15
theorem mt_Mo_canTrain : sf_Mt ({ cls := "SplitFaresModel", name := "canTrain", desc := "(III)Z" } : Jvm.MethodName) prog_13_method_18_code 3 (some .boolean) 3 := ⟨sw_1262, sw_12, ⟨by decide, by decide, by decide +kernel⟩, by decide⟩
theorem dd_Mo_canTrain_0 : decode prog_13_method_18_code 0 = .ok (.iload_n 0, 1) := by decide +kernel
theorem dd_Mo_canTrain_1 : decode prog_13_method_18_code 1 = .ok (.iconst 0, 1) := by decide +kernel
theorem dd_Mo_canTrain_2 : decode prog_13_method_18_code 2 = .ok (.sipush 255, 3) := by decide +kernel
theorem dd_Mo_canTrain_5 : decode prog_13_method_18_code 5 = .ok (.invokestatic 18, 3) := by decide +kernel
theorem dd_Mo_canTrain_8 : decode prog_13_method_18_code 8 = .ok (.ifCond .eq 34, 3) := by decide +kernel
theorem dd_Mo_canTrain_11 : decode prog_13_method_18_code 11 = .ok (.iload_n 0, 1) := by decide +kernel
theorem dd_Mo_canTrain_12 : decode prog_13_method_18_code 12 = .ok (.invokestatic 122, 3) := by decide +kernel
theorem dd_Mo_canTrain_15 : decode prog_13_method_18_code 15 = .ok (.iconst 1, 1) := by decide +kernel
theorem dd_Mo_canTrain_16 : decode prog_13_method_18_code 16 = .ok (.if_icmp .le 26, 3) := by decide +kernel
theorem dd_Mo_canTrain_19 : decode prog_13_method_18_code 19 = .ok (.iload_n 1, 1) := by decide +kernel
theorem dd_Mo_canTrain_20 : decode prog_13_method_18_code 20 = .ok (.iconst 0, 1) := by decide +kernel
theorem dd_Mo_canTrain_21 : decode prog_13_method_18_code 21 = .ok (.iconst 1, 1) := by decide +kernel
theorem dd_Mo_canTrain_22 : decode prog_13_method_18_code 22 = .ok (.invokestatic 18, 3) := by decide +kernel
theorem dd_Mo_canTrain_25 : decode prog_13_method_18_code 25 = .ok (.ifCond .eq 17, 3) := by decide +kernel
theorem dd_Mo_canTrain_28 : decode prog_13_method_18_code 28 = .ok (.iload_n 2, 1) := by decide +kernel
theorem dd_Mo_canTrain_29 : decode prog_13_method_18_code 29 = .ok (.iconst 0, 1) := by decide +kernel
theorem dd_Mo_canTrain_30 : decode prog_13_method_18_code 30 = .ok (.bipush 23, 2) := by decide +kernel
theorem dd_Mo_canTrain_32 : decode prog_13_method_18_code 32 = .ok (.invokestatic 18, 3) := by decide +kernel
theorem dd_Mo_canTrain_35 : decode prog_13_method_18_code 35 = .ok (.ifCond .eq 7, 3) := by decide +kernel
theorem dd_Mo_canTrain_38 : decode prog_13_method_18_code 38 = .ok (.iconst 1, 1) := by decide +kernel
theorem dd_Mo_canTrain_39 : decode prog_13_method_18_code 39 = .ok (.goto 4, 3) := by decide +kernel
theorem dd_Mo_canTrain_42 : decode prog_13_method_18_code 42 = .ok (.iconst 0, 1) := by decide +kernel
theorem dd_Mo_canTrain_43 : decode prog_13_method_18_code 43 = .ok (.ireturn, 1) := by decide +kernel
def jx_Mo_canTrain (p0 : Int32) (p1 : Int32) (p2 : Int32) : sf_M (Int32) :=
  sf_bnd (jx_Mo_lies p0 (0 : Int32) (255 : Int32)) fun x1 =>
  if x1 = 0 then (
  sf_ret (0 : Int32)
  ) else (
  sf_bnd (jx_Mo_ones p0) fun x3 =>
  if x3 ≤ (1 : Int32) then (
  sf_ret (0 : Int32)
  ) else (
  sf_bnd (jx_Mo_lies p1 (0 : Int32) (1 : Int32)) fun x5 =>
  if x5 = 0 then (
  sf_ret (0 : Int32)
  ) else (
  sf_bnd (jx_Mo_lies p2 (0 : Int32) (23 : Int32)) fun x7 =>
  if x7 = 0 then (
  sf_ret (0 : Int32)
  ) else (
  sf_ret (1 : Int32)
  )
  )
  )
  )
set_option maxRecDepth 20000 in
set_option maxHeartbeats 4000000 in
theorem ok_Mo_canTrain (p0 : Int32) (p1 : Int32) (p2 : Int32) : sf_Ok ({ cls := "SplitFaresModel", name := "canTrain", desc := "(III)Z" } : Jvm.MethodName) prog_13_method_18_code 3 (some .boolean) 1 [.int p0, .int p1, .int p2] (jx_Mo_canTrain p0 p1 p2) (fun r => some (.int r)) := by
  refine sf_Ok.of (env := [some (.int p0), some (.int p1), some (.int p2)]) (plainFor_of_name (by decide)) [false, false, false] (fun G => ⟨pk_i, pk_i, pk_i, trivial⟩) (Nat.le_of_ble_eq_true rfl) rfl (fun X => ?_)
  unfold jx_Mo_canTrain
  refine fp_iload_n (i := 0) (x := p0) dd_Mo_canTrain_0 rfl rfl (fr_pc (pc' := 1) rfl ?_)
  refine fp_iconst (v := (0 : Int32)) dd_Mo_canTrain_1 (by decide) (fr_pc (pc' := 2) rfl ?_)
  refine fp_sipush (v := (255 : Int32)) dd_Mo_canTrain_2 (by decide) (fr_pc (pc' := 5) rfl ?_)
  refine fr_callS (stk := []) (ok_Mo_lies p0 (0 : Int32) (255 : Int32)) mt_Mo_lies rfl rfl sw_1237 sw_1238 (by decide) (Nat.le_of_ble_eq_true rfl) dd_Mo_canTrain_5 (fun x1 => fr_to (pc' := 8) (env' := [some (.int p0), some (.int p1), some (.int p2)]) (stk' := [.int x1]) rfl rfl rfl ?_)
  refine fr_if_eq (tgt := 42) dd_Mo_canTrain_8 rfl (fun _ => ?_) (fun _ => ?_)
  · refine fp_iconst (v := (0 : Int32)) dd_Mo_canTrain_42 (by decide) (fr_pc (pc' := 43) rfl ?_)
    exact fr_zret0 (v := (0 : Int32)) (Or.inl rfl) rfl rfl dd_Mo_canTrain_43
  · refine fr_pc (pc' := 11) rfl ?_
    refine fp_iload_n (i := 0) (x := p0) dd_Mo_canTrain_11 rfl rfl (fr_pc (pc' := 12) rfl ?_)
    refine fr_callS (stk := []) (ok_Mo_ones p0) mt_Mo_ones rfl rfl sw_1263 sw_1264 (by decide) (Nat.le_of_ble_eq_true rfl) dd_Mo_canTrain_12 (fun x3 => fr_to (pc' := 15) (env' := [some (.int p0), some (.int p1), some (.int p2)]) (stk' := [.int x3]) rfl rfl rfl ?_)
    refine fp_iconst (v := (1 : Int32)) dd_Mo_canTrain_15 (by decide) (fr_pc (pc' := 16) rfl ?_)
    refine fr_icmp_le (tgt := 42) dd_Mo_canTrain_16 rfl (fun _ => ?_) (fun _ => ?_)
    · refine fp_iconst (v := (0 : Int32)) dd_Mo_canTrain_42 (by decide) (fr_pc (pc' := 43) rfl ?_)
      exact fr_zret0 (v := (0 : Int32)) (Or.inl rfl) rfl rfl dd_Mo_canTrain_43
    · refine fr_pc (pc' := 19) rfl ?_
      refine fp_iload_n (i := 1) (x := p1) dd_Mo_canTrain_19 rfl rfl (fr_pc (pc' := 20) rfl ?_)
      refine fp_iconst (v := (0 : Int32)) dd_Mo_canTrain_20 (by decide) (fr_pc (pc' := 21) rfl ?_)
      refine fp_iconst (v := (1 : Int32)) dd_Mo_canTrain_21 (by decide) (fr_pc (pc' := 22) rfl ?_)
      refine fr_callS (stk := []) (ok_Mo_lies p1 (0 : Int32) (1 : Int32)) mt_Mo_lies rfl rfl sw_1237 sw_1238 (by decide) (Nat.le_of_ble_eq_true rfl) dd_Mo_canTrain_22 (fun x5 => fr_to (pc' := 25) (env' := [some (.int p0), some (.int p1), some (.int p2)]) (stk' := [.int x5]) rfl rfl rfl ?_)
      refine fr_if_eq (tgt := 42) dd_Mo_canTrain_25 rfl (fun _ => ?_) (fun _ => ?_)
      · refine fp_iconst (v := (0 : Int32)) dd_Mo_canTrain_42 (by decide) (fr_pc (pc' := 43) rfl ?_)
        exact fr_zret0 (v := (0 : Int32)) (Or.inl rfl) rfl rfl dd_Mo_canTrain_43
      · refine fr_pc (pc' := 28) rfl ?_
        refine fp_iload_n (i := 2) (x := p2) dd_Mo_canTrain_28 rfl rfl (fr_pc (pc' := 29) rfl ?_)
        refine fp_iconst (v := (0 : Int32)) dd_Mo_canTrain_29 (by decide) (fr_pc (pc' := 30) rfl ?_)
        refine fp_bipush (v := (23 : Int32)) dd_Mo_canTrain_30 (by decide) (fr_pc (pc' := 32) rfl ?_)
        refine fr_callS (stk := []) (ok_Mo_lies p2 (0 : Int32) (23 : Int32)) mt_Mo_lies rfl rfl sw_1237 sw_1238 (by decide) (Nat.le_of_ble_eq_true rfl) dd_Mo_canTrain_32 (fun x7 => fr_to (pc' := 35) (env' := [some (.int p0), some (.int p1), some (.int p2)]) (stk' := [.int x7]) rfl rfl rfl ?_)
        refine fr_if_eq (tgt := 42) dd_Mo_canTrain_35 rfl (fun _ => ?_) (fun _ => ?_)
        · refine fp_iconst (v := (0 : Int32)) dd_Mo_canTrain_42 (by decide) (fr_pc (pc' := 43) rfl ?_)
          exact fr_zret0 (v := (0 : Int32)) (Or.inl rfl) rfl rfl dd_Mo_canTrain_43
        · refine fr_pc (pc' := 38) rfl ?_
          refine fp_iconst (v := (1 : Int32)) dd_Mo_canTrain_38 (by decide) (fr_pc (pc' := 39) rfl ?_)
          refine fp_goto (tgt := 43) dd_Mo_canTrain_39 rfl ?_
          exact fr_zret0 (v := (1 : Int32)) (Or.inr rfl) rfl rfl dd_Mo_canTrain_43
theorem mt_Mo_adds : sf_Mt ({ cls := "SplitFaresModel", name := "adds", desc := "(III)V" } : Jvm.MethodName) prog_13_method_19_code 5 none 3 := ⟨sw_1269, sw_12, ⟨by decide, by decide, by decide +kernel⟩, by decide⟩
theorem dd_Mo_adds_0 : decode prog_13_method_19_code 0 = .ok (.aload_n 0, 1) := by decide +kernel
theorem dd_Mo_adds_1 : decode prog_13_method_19_code 1 = .ok (.getfield 32, 3) := by decide +kernel
theorem dd_Mo_adds_4 : decode prog_13_method_19_code 4 = .ok (.sipush 227, 3) := by decide +kernel
theorem dd_Mo_adds_7 : decode prog_13_method_19_code 7 = .ok (.iaload, 1) := by decide +kernel
theorem dd_Mo_adds_8 : decode prog_13_method_19_code 8 = .ok (.istore 4, 2) := by decide +kernel
theorem dd_Mo_adds_10 : decode prog_13_method_19_code 10 = .ok (.aload_n 0, 1) := by decide +kernel
theorem dd_Mo_adds_11 : decode prog_13_method_19_code 11 = .ok (.getfield 32, 3) := by decide +kernel
theorem dd_Mo_adds_14 : decode prog_13_method_19_code 14 = .ok (.sipush 195, 3) := by decide +kernel
theorem dd_Mo_adds_17 : decode prog_13_method_19_code 17 = .ok (.iload 4, 2) := by decide +kernel
theorem dd_Mo_adds_19 : decode prog_13_method_19_code 19 = .ok (.iadd, 1) := by decide +kernel
theorem dd_Mo_adds_20 : decode prog_13_method_19_code 20 = .ok (.iload_n 1, 1) := by decide +kernel
theorem dd_Mo_adds_21 : decode prog_13_method_19_code 21 = .ok (.iastore, 1) := by decide +kernel
theorem dd_Mo_adds_22 : decode prog_13_method_19_code 22 = .ok (.aload_n 0, 1) := by decide +kernel
theorem dd_Mo_adds_23 : decode prog_13_method_19_code 23 = .ok (.getfield 32, 3) := by decide +kernel
theorem dd_Mo_adds_26 : decode prog_13_method_19_code 26 = .ok (.sipush 201, 3) := by decide +kernel
theorem dd_Mo_adds_29 : decode prog_13_method_19_code 29 = .ok (.iload 4, 2) := by decide +kernel
theorem dd_Mo_adds_31 : decode prog_13_method_19_code 31 = .ok (.iadd, 1) := by decide +kernel
theorem dd_Mo_adds_32 : decode prog_13_method_19_code 32 = .ok (.iload_n 2, 1) := by decide +kernel
theorem dd_Mo_adds_33 : decode prog_13_method_19_code 33 = .ok (.iastore, 1) := by decide +kernel
theorem dd_Mo_adds_34 : decode prog_13_method_19_code 34 = .ok (.aload_n 0, 1) := by decide +kernel
theorem dd_Mo_adds_35 : decode prog_13_method_19_code 35 = .ok (.getfield 32, 3) := by decide +kernel
theorem dd_Mo_adds_38 : decode prog_13_method_19_code 38 = .ok (.sipush 207, 3) := by decide +kernel
theorem dd_Mo_adds_41 : decode prog_13_method_19_code 41 = .ok (.iload 4, 2) := by decide +kernel
theorem dd_Mo_adds_43 : decode prog_13_method_19_code 43 = .ok (.iadd, 1) := by decide +kernel
theorem dd_Mo_adds_44 : decode prog_13_method_19_code 44 = .ok (.iload_n 3, 1) := by decide +kernel
theorem dd_Mo_adds_45 : decode prog_13_method_19_code 45 = .ok (.iastore, 1) := by decide +kernel
theorem dd_Mo_adds_46 : decode prog_13_method_19_code 46 = .ok (.aload_n 0, 1) := by decide +kernel
theorem dd_Mo_adds_47 : decode prog_13_method_19_code 47 = .ok (.getfield 32, 3) := by decide +kernel
theorem dd_Mo_adds_50 : decode prog_13_method_19_code 50 = .ok (.sipush 227, 3) := by decide +kernel
theorem dd_Mo_adds_53 : decode prog_13_method_19_code 53 = .ok (.dup2, 1) := by decide +kernel
theorem dd_Mo_adds_54 : decode prog_13_method_19_code 54 = .ok (.iaload, 1) := by decide +kernel
theorem dd_Mo_adds_55 : decode prog_13_method_19_code 55 = .ok (.iconst 1, 1) := by decide +kernel
theorem dd_Mo_adds_56 : decode prog_13_method_19_code 56 = .ok (.iadd, 1) := by decide +kernel
theorem dd_Mo_adds_57 : decode prog_13_method_19_code 57 = .ok (.iastore, 1) := by decide +kernel
theorem dd_Mo_adds_58 : decode prog_13_method_19_code 58 = .ok (.return_, 1) := by decide +kernel
def jx_Mo_adds (p0 : Option Nat) (p1 : Int32) (p2 : Int32) (p3 : Int32) : sf_M (Unit) :=
  sf_bnd (sf_gR 11 2 p0) fun x1 =>
  sf_bnd (sf_aI 0 x1 (227 : Int32)) fun x2 =>
  sf_bnd (sf_gR 11 2 p0) fun x3 =>
  sf_bnd (sf_sI 0 x3 ((195 : Int32) + x2) p1) fun _ =>
  sf_bnd (sf_gR 11 2 p0) fun x4 =>
  sf_bnd (sf_sI 0 x4 ((201 : Int32) + x2) p2) fun _ =>
  sf_bnd (sf_gR 11 2 p0) fun x5 =>
  sf_bnd (sf_sI 0 x5 ((207 : Int32) + x2) p3) fun _ =>
  sf_bnd (sf_gR 11 2 p0) fun x6 =>
  sf_bnd (sf_aI 0 x6 (227 : Int32)) fun x7 =>
  sf_bnd (sf_sI 0 x6 (227 : Int32) (x7 + (1 : Int32))) fun _ =>
  sf_ret ()
set_option maxRecDepth 20000 in
set_option maxHeartbeats 4000000 in
theorem ok_Mo_adds (p0 : Option Nat) (p1 : Int32) (p2 : Int32) (p3 : Int32) : sf_Ok ({ cls := "SplitFaresModel", name := "adds", desc := "(III)V" } : Jvm.MethodName) prog_13_method_19_code 5 none 0 [sf_rv p0, .int p1, .int p2, .int p3] (jx_Mo_adds p0 p1 p2 p3) (fun _ => none) := by
  refine sf_Ok.of (env := [some (sf_rv p0), some (.int p1), some (.int p2), some (.int p3), none]) (plainFor_of_name (by decide)) [false, false, false, false] (fun G => ⟨pk_r, pk_i, pk_i, pk_i, trivial⟩) (Nat.le_of_ble_eq_true rfl) rfl (fun X => ?_)
  unfold jx_Mo_adds
  refine fp_aload_n (i := 0) (r := p0) dd_Mo_adds_0 rfl rfl (fr_pc (pc' := 1) rfl ?_)
  refine fr_gR cl_11 2 (by decide) rfl sw_1074 dd_Mo_adds_1 (fun x1 => fr_pc (pc' := 4) rfl ?_)
  refine fp_sipush (v := (227 : Int32)) dd_Mo_adds_4 (by decide) (fr_pc (pc' := 7) rfl ?_)
  refine fr_aI0 dd_Mo_adds_7 (fun x2 => fr_pc (pc' := 8) rfl ?_)
  refine fp_istore (i := 4) dd_Mo_adds_8 (Nat.le_of_ble_eq_true rfl) (fun _ => c1_i rfl) (fr_to (pc' := 10) (env' := [some (sf_rv p0), some (.int p1), some (.int p2), some (.int p3), some (.int x2)]) (stk' := []) rfl rfl rfl ?_)
  refine fp_aload_n (i := 0) (r := p0) dd_Mo_adds_10 rfl rfl (fr_pc (pc' := 11) rfl ?_)
  refine fr_gR cl_11 2 (by decide) rfl sw_1074 dd_Mo_adds_11 (fun x3 => fr_pc (pc' := 14) rfl ?_)
  refine fp_sipush (v := (195 : Int32)) dd_Mo_adds_14 (by decide) (fr_pc (pc' := 17) rfl ?_)
  refine fp_iload (i := 4) (x := x2) dd_Mo_adds_17 rfl (fr_pc (pc' := 19) rfl ?_)
  refine fp_iadd dd_Mo_adds_19 (fr_pc (pc' := 20) rfl ?_)
  refine fp_iload_n (i := 1) (x := p1) dd_Mo_adds_20 rfl rfl (fr_pc (pc' := 21) rfl ?_)
  refine fr_sI0 dd_Mo_adds_21 (fr_pc (pc' := 22) rfl ?_)
  refine fp_aload_n (i := 0) (r := p0) dd_Mo_adds_22 rfl rfl (fr_pc (pc' := 23) rfl ?_)
  refine fr_gR cl_11 2 (by decide) rfl sw_1074 dd_Mo_adds_23 (fun x4 => fr_pc (pc' := 26) rfl ?_)
  refine fp_sipush (v := (201 : Int32)) dd_Mo_adds_26 (by decide) (fr_pc (pc' := 29) rfl ?_)
  refine fp_iload (i := 4) (x := x2) dd_Mo_adds_29 rfl (fr_pc (pc' := 31) rfl ?_)
  refine fp_iadd dd_Mo_adds_31 (fr_pc (pc' := 32) rfl ?_)
  refine fp_iload_n (i := 2) (x := p2) dd_Mo_adds_32 rfl rfl (fr_pc (pc' := 33) rfl ?_)
  refine fr_sI0 dd_Mo_adds_33 (fr_pc (pc' := 34) rfl ?_)
  refine fp_aload_n (i := 0) (r := p0) dd_Mo_adds_34 rfl rfl (fr_pc (pc' := 35) rfl ?_)
  refine fr_gR cl_11 2 (by decide) rfl sw_1074 dd_Mo_adds_35 (fun x5 => fr_pc (pc' := 38) rfl ?_)
  refine fp_sipush (v := (207 : Int32)) dd_Mo_adds_38 (by decide) (fr_pc (pc' := 41) rfl ?_)
  refine fp_iload (i := 4) (x := x2) dd_Mo_adds_41 rfl (fr_pc (pc' := 43) rfl ?_)
  refine fp_iadd dd_Mo_adds_43 (fr_pc (pc' := 44) rfl ?_)
  refine fp_iload_n (i := 3) (x := p3) dd_Mo_adds_44 rfl rfl (fr_pc (pc' := 45) rfl ?_)
  refine fr_sI0 dd_Mo_adds_45 (fr_pc (pc' := 46) rfl ?_)
  refine fp_aload_n (i := 0) (r := p0) dd_Mo_adds_46 rfl rfl (fr_pc (pc' := 47) rfl ?_)
  refine fr_gR cl_11 2 (by decide) rfl sw_1074 dd_Mo_adds_47 (fun x6 => fr_pc (pc' := 50) rfl ?_)
  refine fp_sipush (v := (227 : Int32)) dd_Mo_adds_50 (by decide) (fr_pc (pc' := 53) rfl ?_)
  refine fp_dup2 dd_Mo_adds_53 (fr_pc (pc' := 54) rfl ?_)
  refine fr_aI0 dd_Mo_adds_54 (fun x7 => fr_pc (pc' := 55) rfl ?_)
  refine fp_iconst (v := (1 : Int32)) dd_Mo_adds_55 (by decide) (fr_pc (pc' := 56) rfl ?_)
  refine fp_iadd dd_Mo_adds_56 (fr_pc (pc' := 57) rfl ?_)
  refine fr_sI0 dd_Mo_adds_57 (fr_pc (pc' := 58) rfl ?_)
  exact fr_vret rfl rfl dd_Mo_adds_58
theorem mt_Mo_train : sf_Mt ({ cls := "SplitFaresModel", name := "train", desc := "(III)I" } : Jvm.MethodName) prog_13_method_20_code 4 (some .int) 3 := ⟨sw_1259, sw_12, ⟨by decide, by decide, by decide +kernel⟩, by decide⟩
theorem dd_Mo_train_0 : decode prog_13_method_20_code 0 = .ok (.iload_n 1, 1) := by decide +kernel
theorem dd_Mo_train_1 : decode prog_13_method_20_code 1 = .ok (.iload_n 2, 1) := by decide +kernel
theorem dd_Mo_train_2 : decode prog_13_method_20_code 2 = .ok (.iload_n 3, 1) := by decide +kernel
theorem dd_Mo_train_3 : decode prog_13_method_20_code 3 = .ok (.invokestatic 125, 3) := by decide +kernel
theorem dd_Mo_train_6 : decode prog_13_method_20_code 6 = .ok (.ifCond .ne 9, 3) := by decide +kernel
theorem dd_Mo_train_9 : decode prog_13_method_20_code 9 = .ok (.aload_n 0, 1) := by decide +kernel
theorem dd_Mo_train_10 : decode prog_13_method_20_code 10 = .ok (.iconst (-1), 1) := by decide +kernel
theorem dd_Mo_train_11 : decode prog_13_method_20_code 11 = .ok (.invokevirtual 116, 3) := by decide +kernel
theorem dd_Mo_train_14 : decode prog_13_method_20_code 14 = .ok (.ireturn, 1) := by decide +kernel
theorem dd_Mo_train_15 : decode prog_13_method_20_code 15 = .ok (.aload_n 0, 1) := by decide +kernel
theorem dd_Mo_train_16 : decode prog_13_method_20_code 16 = .ok (.getfield 32, 3) := by decide +kernel
theorem dd_Mo_train_19 : decode prog_13_method_20_code 19 = .ok (.sipush 227, 3) := by decide +kernel
theorem dd_Mo_train_22 : decode prog_13_method_20_code 22 = .ok (.iaload, 1) := by decide +kernel
theorem dd_Mo_train_23 : decode prog_13_method_20_code 23 = .ok (.bipush 6, 2) := by decide +kernel
theorem dd_Mo_train_25 : decode prog_13_method_20_code 25 = .ok (.if_icmp .ne 10, 3) := by decide +kernel
theorem dd_Mo_train_28 : decode prog_13_method_20_code 28 = .ok (.aload_n 0, 1) := by decide +kernel
theorem dd_Mo_train_29 : decode prog_13_method_20_code 29 = .ok (.bipush (-5), 2) := by decide +kernel
theorem dd_Mo_train_31 : decode prog_13_method_20_code 31 = .ok (.invokevirtual 116, 3) := by decide +kernel
theorem dd_Mo_train_34 : decode prog_13_method_20_code 34 = .ok (.ireturn, 1) := by decide +kernel
theorem dd_Mo_train_35 : decode prog_13_method_20_code 35 = .ok (.aload_n 0, 1) := by decide +kernel
theorem dd_Mo_train_36 : decode prog_13_method_20_code 36 = .ok (.iload_n 1, 1) := by decide +kernel
theorem dd_Mo_train_37 : decode prog_13_method_20_code 37 = .ok (.iload_n 2, 1) := by decide +kernel
theorem dd_Mo_train_38 : decode prog_13_method_20_code 38 = .ok (.iload_n 3, 1) := by decide +kernel
theorem dd_Mo_train_39 : decode prog_13_method_20_code 39 = .ok (.invokevirtual 128, 3) := by decide +kernel
theorem dd_Mo_train_42 : decode prog_13_method_20_code 42 = .ok (.aload_n 0, 1) := by decide +kernel
theorem dd_Mo_train_43 : decode prog_13_method_20_code 43 = .ok (.aload_n 0, 1) := by decide +kernel
theorem dd_Mo_train_44 : decode prog_13_method_20_code 44 = .ok (.getfield 32, 3) := by decide +kernel
theorem dd_Mo_train_47 : decode prog_13_method_20_code 47 = .ok (.sipush 227, 3) := by decide +kernel
theorem dd_Mo_train_50 : decode prog_13_method_20_code 50 = .ok (.iaload, 1) := by decide +kernel
theorem dd_Mo_train_51 : decode prog_13_method_20_code 51 = .ok (.iconst 1, 1) := by decide +kernel
theorem dd_Mo_train_52 : decode prog_13_method_20_code 52 = .ok (.isub, 1) := by decide +kernel
theorem dd_Mo_train_53 : decode prog_13_method_20_code 53 = .ok (.invokevirtual 14, 3) := by decide +kernel
theorem dd_Mo_train_56 : decode prog_13_method_20_code 56 = .ok (.ireturn, 1) := by decide +kernel
def jx_Mo_train (p0 : Option Nat) (p1 : Int32) (p2 : Int32) (p3 : Int32) : sf_M (Int32) :=
  sf_bnd (jx_Mo_canTrain p1 p2 p3) fun x1 =>
  if x1 = 0 then (
  sf_bnd (sf_rc 11 p0 (jx_Mo_refuses p0 (-1 : Int32))) fun x3 =>
  sf_ret x3
  ) else (
  sf_bnd (sf_gR 11 2 p0) fun x4 =>
  sf_bnd (sf_aI 0 x4 (227 : Int32)) fun x5 =>
  if x5 = (6 : Int32) then (
  sf_bnd (sf_rc 11 p0 (jx_Mo_refuses p0 (-5 : Int32))) fun x7 =>
  sf_ret x7
  ) else (
  sf_bnd (sf_rc 11 p0 (jx_Mo_adds p0 p1 p2 p3)) fun _ =>
  sf_bnd (sf_gR 11 2 p0) fun x9 =>
  sf_bnd (sf_aI 0 x9 (227 : Int32)) fun x10 =>
  sf_bnd (sf_rc 11 p0 (jx_Mo_good p0 (x10 - (1 : Int32)))) fun x11 =>
  sf_ret x11
  )
  )
set_option maxRecDepth 20000 in
set_option maxHeartbeats 4000000 in
theorem ok_Mo_train (p0 : Option Nat) (p1 : Int32) (p2 : Int32) (p3 : Int32) : sf_Ok ({ cls := "SplitFaresModel", name := "train", desc := "(III)I" } : Jvm.MethodName) prog_13_method_20_code 4 (some .int) 2 [sf_rv p0, .int p1, .int p2, .int p3] (jx_Mo_train p0 p1 p2 p3) (fun r => some (.int r)) := by
  refine sf_Ok.of (env := [some (sf_rv p0), some (.int p1), some (.int p2), some (.int p3)]) (plainFor_of_name (by decide)) [false, false, false, false] (fun G => ⟨pk_r, pk_i, pk_i, pk_i, trivial⟩) (Nat.le_of_ble_eq_true rfl) rfl (fun X => ?_)
  unfold jx_Mo_train
  refine fp_iload_n (i := 1) (x := p1) dd_Mo_train_0 rfl rfl (fr_pc (pc' := 1) rfl ?_)
  refine fp_iload_n (i := 2) (x := p2) dd_Mo_train_1 rfl rfl (fr_pc (pc' := 2) rfl ?_)
  refine fp_iload_n (i := 3) (x := p3) dd_Mo_train_2 rfl rfl (fr_pc (pc' := 3) rfl ?_)
  refine fr_callS (stk := []) (ok_Mo_canTrain p1 p2 p3) mt_Mo_canTrain rfl rfl sw_1260 sw_1261 (by decide) (Nat.le_of_ble_eq_true rfl) dd_Mo_train_3 (fun x1 => fr_to (pc' := 6) (env' := [some (sf_rv p0), some (.int p1), some (.int p2), some (.int p3)]) (stk' := [.int x1]) rfl rfl rfl ?_)
  refine fr_if_ne (tgt := 15) dd_Mo_train_6 rfl (fun _ => ?_) (fun _ => ?_)
  · refine fr_pc (pc' := 9) rfl ?_
    refine fp_aload_n (i := 0) (r := p0) dd_Mo_train_9 rfl rfl (fr_pc (pc' := 10) rfl ?_)
    refine fp_iconst (v := (-1 : Int32)) dd_Mo_train_10 (by decide) (fr_pc (pc' := 11) rfl ?_)
    refine fr_callV (stk := []) (As := [.int (-1 : Int32)]) cl_11 (ok_Mo_refuses p0 (-1 : Int32)) mt_Mo_refuses rfl rfl sw_1240 sw_1242 sp_27 (by decide) (Nat.le_of_ble_eq_true rfl) dd_Mo_train_11 (fun x3 => fr_to (pc' := 14) (env' := [some (sf_rv p0), some (.int p1), some (.int p2), some (.int p3)]) (stk' := [.int x3]) rfl rfl rfl ?_)
    exact fr_iret (v := x3) rfl rfl dd_Mo_train_14
  · refine fp_aload_n (i := 0) (r := p0) dd_Mo_train_15 rfl rfl (fr_pc (pc' := 16) rfl ?_)
    refine fr_gR cl_11 2 (by decide) rfl sw_1074 dd_Mo_train_16 (fun x4 => fr_pc (pc' := 19) rfl ?_)
    refine fp_sipush (v := (227 : Int32)) dd_Mo_train_19 (by decide) (fr_pc (pc' := 22) rfl ?_)
    refine fr_aI0 dd_Mo_train_22 (fun x5 => fr_pc (pc' := 23) rfl ?_)
    refine fp_bipush (v := (6 : Int32)) dd_Mo_train_23 (by decide) (fr_pc (pc' := 25) rfl ?_)
    refine fr_icmp_ne (tgt := 35) dd_Mo_train_25 rfl (fun _ => ?_) (fun _ => ?_)
    · refine fr_pc (pc' := 28) rfl ?_
      refine fp_aload_n (i := 0) (r := p0) dd_Mo_train_28 rfl rfl (fr_pc (pc' := 29) rfl ?_)
      refine fp_bipush (v := (-5 : Int32)) dd_Mo_train_29 (by decide) (fr_pc (pc' := 31) rfl ?_)
      refine fr_callV (stk := []) (As := [.int (-5 : Int32)]) cl_11 (ok_Mo_refuses p0 (-5 : Int32)) mt_Mo_refuses rfl rfl sw_1240 sw_1242 sp_27 (by decide) (Nat.le_of_ble_eq_true rfl) dd_Mo_train_31 (fun x7 => fr_to (pc' := 34) (env' := [some (sf_rv p0), some (.int p1), some (.int p2), some (.int p3)]) (stk' := [.int x7]) rfl rfl rfl ?_)
      exact fr_iret (v := x7) rfl rfl dd_Mo_train_34
    · refine fp_aload_n (i := 0) (r := p0) dd_Mo_train_35 rfl rfl (fr_pc (pc' := 36) rfl ?_)
      refine fp_iload_n (i := 1) (x := p1) dd_Mo_train_36 rfl rfl (fr_pc (pc' := 37) rfl ?_)
      refine fp_iload_n (i := 2) (x := p2) dd_Mo_train_37 rfl rfl (fr_pc (pc' := 38) rfl ?_)
      refine fp_iload_n (i := 3) (x := p3) dd_Mo_train_38 rfl rfl (fr_pc (pc' := 39) rfl ?_)
      refine fr_callV (stk := []) (As := [.int p1, .int p2, .int p3]) cl_11 (ok_Mo_adds p0 p1 p2 p3) mt_Mo_adds rfl rfl sw_1266 sw_1268 sp_30 (by decide) (Nat.le_of_ble_eq_true rfl) dd_Mo_train_39 (fun u8 => fr_to (pc' := 42) (env' := [some (sf_rv p0), some (.int p1), some (.int p2), some (.int p3)]) (stk' := []) rfl rfl rfl ?_)
      refine fp_aload_n (i := 0) (r := p0) dd_Mo_train_42 rfl rfl (fr_pc (pc' := 43) rfl ?_)
      refine fp_aload_n (i := 0) (r := p0) dd_Mo_train_43 rfl rfl (fr_pc (pc' := 44) rfl ?_)
      refine fr_gR cl_11 2 (by decide) rfl sw_1074 dd_Mo_train_44 (fun x9 => fr_pc (pc' := 47) rfl ?_)
      refine fp_sipush (v := (227 : Int32)) dd_Mo_train_47 (by decide) (fr_pc (pc' := 50) rfl ?_)
      refine fr_aI0 dd_Mo_train_50 (fun x10 => fr_pc (pc' := 51) rfl ?_)
      refine fp_iconst (v := (1 : Int32)) dd_Mo_train_51 (by decide) (fr_pc (pc' := 52) rfl ?_)
      refine fp_isub dd_Mo_train_52 (fr_pc (pc' := 53) rfl ?_)
      refine fr_callV (stk := []) (As := [.int (x10 - (1 : Int32))]) cl_11 (ok_Mo_good p0 (x10 - (1 : Int32))) mt_Mo_good rfl rfl sw_1244 sw_1246 sp_28 (by decide) (Nat.le_of_ble_eq_true rfl) dd_Mo_train_53 (fun x11 => fr_to (pc' := 56) (env' := [some (sf_rv p0), some (.int p1), some (.int p2), some (.int p3)]) (stk' := [.int x11]) rfl rfl rfl ?_)
      exact fr_iret (v := x11) rfl rfl dd_Mo_train_56
